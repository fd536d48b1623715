/-! one cell of now changes: visit, buy, pay, set -/
section CL
variable {T U EE : Nat → Nat → Int32} {P Q : Nat → Nat → Nat} {o : Nat} {s : gT} {u : uT} {N : Nat → Nat} {V W : Nat → Nat → Int32} {K : List kT} {B : List bT} {R : Nat → Nat → Int32}
theorem RW.up {f g : Nat → Int32} {n j : Nat} {v : Int32} (h : RW f g n) : RW (upA f j v) (upA g j v) n := by
  intro i hi
  unfold upA
  split
  · rfl
  · exact h i hi
theorem CS.set1 (h : CS o T P N V K B R) (h8 : K.length ≤ 8) {r j : Nat} {v : Int32} (hr : r = 1 ∨ r = 2 ∨ r = 4 ∨ r = 5 ∨ r = 6) : CS o (up1 T (o + r) j v) P N (up1 V r j v) K B R := by
  obtain ⟨⟨k0, k1, k2, k00⟩, ⟨k3, k4, k5, k6⟩, ⟨kP, kn, kc, kK⟩, kB, kL, k48, kJ⟩ := id h
  have hf : ∀ a, a ≠ o + r → up1 T (o + r) j v a = T a := fun a ha => upA_n _ _ ha
  have gf : ∀ a, a ≠ r → up1 V r j v a = V a := fun a ha => upA_n _ _ ha
  have key : ∀ x n, RW (T (o + x)) (V x) n → RW (up1 T (o + r) j v (o + x)) (up1 V r j v x) n := by
    intro x n hx
    by_cases e : x = r
    · subst e
      simp only [upA_s]
      exact hx.up
    · rw [hf _ (by omega), gf _ e]; exact hx
  refine ⟨⟨?_, key 1 _ k1, key 2 _ k2, ?_⟩, ⟨?_, key 4 _ k4, key 5 _ k5, key 6 _ k6⟩, ⟨kP, ?_, ?_, ?_⟩, kB.other (hf _ (by omega)) (hf _ (by omega)) (hf _ (by omega)) (hf _ (by omega)), ?_, ?_, kJ.same (hf _ (by omega)) (hf _ (by omega))⟩
  · rw [hf _ (by omega), gf _ (by omega)]; exact k0
  · rw [gf _ (by omega)]; exact k00
  · rw [hf _ (by omega)]; exact k3
  · rw [hf _ (by omega)]; exact kn
  · rw [hf _ (by omega)]; exact kc
  · intro i b hb
    have hi : i < K.length := (List.getElem?_eq_some_iff.mp hb).1
    have hr := kP.rg (show i < 8 by omega)
    exact (kK i b hb).same (fun x hx => hf _ (by omega))
  · rw [gf _ (by omega), gf _ (by omega)]
    exact kL.same (hf _ (by omega)) (hf _ (by omega)) (hf _ (by omega))
  · rw [hf _ (by omega), gf _ (by omega)]; exact k48
theorem CS.set0 (h : CS o T P N V K B R) (h8 : K.length ≤ 8) {j : Nat} {v : Int32} (hj : j ≠ 0) : CS o (up1 T o j v) P N (up1 V 0 j v) K B R := by
  obtain ⟨⟨k0, k1, k2, k00⟩, ⟨k3, k4, k5, k6⟩, ⟨kP, kn, kc, kK⟩, kB, kL, k48, kJ⟩ := id h
  have hf : ∀ a, a ≠ o → up1 T o j v a = T a := fun a ha => upA_n _ _ ha
  have gf : ∀ a, a ≠ 0 → up1 V 0 j v a = V a := fun a ha => upA_n _ _ ha
  refine ⟨⟨?_, ?_, ?_, ?_⟩, ⟨?_, ?_, ?_, ?_⟩, ⟨kP, ?_, ?_, ?_⟩, kB.other (hf _ (by omega)) (hf _ (by omega)) (hf _ (by omega)) (hf _ (by omega)), ?_, ?_, kJ.same (hf _ (by omega)) (hf _ (by omega))⟩
  · simp only [upA_s]; exact k0.up
  · rw [hf _ (by omega), gf _ (by omega)]; exact k1
  · rw [hf _ (by omega), gf _ (by omega)]; exact k2
  · simp only [upA_s]
    rw [upA_n _ _ (Ne.symm hj)]; exact k00
  · rw [hf _ (by omega)]; exact k3
  · rw [hf _ (by omega), gf _ (by omega)]; exact k4
  · rw [hf _ (by omega), gf _ (by omega)]; exact k5
  · rw [hf _ (by omega), gf _ (by omega)]; exact k6
  · rw [hf _ (by omega)]; exact kn
  · rw [hf _ (by omega)]; exact kc
  · intro i b hb
    have hi : i < K.length := (List.getElem?_eq_some_iff.mp hb).1
    have hr := kP.rg (show i < 8 by omega)
    exact (kK i b hb).same (fun x hx => hf _ (by omega))
  · rw [gf _ (by omega), gf _ (by omega)]
    exact kL.same (hf _ (by omega)) (hf _ (by omega)) (hf _ (by omega))
  · rw [hf _ (by omega), gf _ (by omega)]; exact k48
theorem WF.v (hw : WF N V K B) (h4 : W 4 = V 4) (h46 : W 46 = V 46) (h6 : W 6 = V 6) (h0 : W 0 1 - W 0 2 = V 0 1 - V 0 2) (h1 : (∃ d, d < 3 ∧ W 1 0 = nI d) ∧ (∃ g, 1 ≤ g ∧ g ≤ 60 ∧ W 1 2 = nI g) ∧ ∃ m, m ≤ 20 ∧ W 1 1 = nI m) : WF N W K B := by
  obtain ⟨w1, w2, w3, w4, w5, w6, w9, w10⟩ := hw
  refine ⟨w1, by rw [h4]; exact w2, h1, w4, w5, w6, by rw [h46]; exact w9, ?_⟩
  rw [h6]
  grind
/-- now with the rows W -/
abbrev uV (u : uT) (W : Nat → Nat → Int32) : uT := ((u.1.1, W, u.1.2.2), u.2)
abbrev sV (s : gT) (W : Nat → Nat → Int32) : gT := (uV s.1 W, s.2.1, psL s, s.2.2.2)
def gVis (d x : Int32) (s : gT) : Int32 × gT := if inI d 0 4 = 0 then (-1, s) else if inI x 0 127 = 0 then (-2, s) else if s.1.1.2.1 2 d.toNatClampNeg = x then (-5, s) else (s.1.1.2.1 2 d.toNatClampNeg, sV s (up1 s.1.1.2.1 2 d.toNatClampNeg x))
theorem g_vis (h1 : o = 1) (h : CG EE T P s) (d x : Int32) : ∃ T', X 91 0 [.ref 0, .int d, .int x, .long 0] [] (H T P) = some (some (.int (gVis d x s).1), H T' P) ∧ CG EE T' P (gVis d x s).2 := by
  have ho : isB o := by subst h1; exact isB_1
  unfold gVis
  by_cases c1 : inI d 0 4 = 0
  · rw [if_pos c1]
    refine ⟨T, ?_, h⟩
    simp +decide only [x91_0, x91_1, x91_2, x91_3, x91_6, x91_9, x91_10, x91_11, x91_12, x91_13, x91_15, x91_18, x91_21, x91_23, x91_24, x91_25, x91_28, x91_31, x91_32, x91_33, x91_34, x91_35, x91_36, x91_39, x91_41, x91_42, x91_43, x91_46, x91_47, x91_50, x91_53, x91_54, x91_57, x91_60, x91_61, x91_62, x91_63, x91_64, aft_some, aft_void, Option.bind_some, Option.toList_some, Option.toList_none, List.cons_append, List.nil_append, if_true, if_false, ↓reduceIte, eq_self, z0_o, ↓z0_0, ↓z0_1, ↓z0_2, ↓z0_3, ↓z0_4, ↓z0_5, ↓z0_5p0, ↓z0_5p1, ↓aft_of (c_within), c1]
  rw [if_neg c1]
  by_cases c2 : inI x 0 127 = 0
  · rw [if_pos c2]
    refine ⟨T, ?_, h⟩
    simp +decide only [x91_0, x91_1, x91_2, x91_3, x91_6, x91_9, x91_10, x91_11, x91_12, x91_13, x91_15, x91_18, x91_21, x91_23, x91_24, x91_25, x91_28, x91_31, x91_32, x91_33, x91_34, x91_35, x91_36, x91_39, x91_41, x91_42, x91_43, x91_46, x91_47, x91_50, x91_53, x91_54, x91_57, x91_60, x91_61, x91_62, x91_63, x91_64, aft_some, aft_void, Option.bind_some, Option.toList_some, Option.toList_none, List.cons_append, List.nil_append, if_true, if_false, ↓reduceIte, eq_self, z0_o, ↓z0_0, ↓z0_1, ↓z0_2, ↓z0_3, ↓z0_4, ↓z0_5, ↓z0_5p0, ↓z0_5p1, ↓aft_of (c_within), c1, c2]
  rw [if_neg c2]
  obtain ⟨k, hk, rfl⟩ := inI_ex (n := 4) (by decide) c1
  have cl := nI_clamp (show k < 2 ^ 31 by omega)
  have ok := okx_nI (show k < 5 by omega) (show (5 : Nat) < 2 ^ 31 by decide)
  rw [cl]
  have hc : CSu o T P s.1 := by subst h1; exact h.2.1.1
  have hv : T (o + 2) k = s.1.1.2.1 2 k := hc.1.2.2.1 k (by omega)
  by_cases c3 : s.1.1.2.1 2 k = x
  · rw [if_pos c3]
    refine ⟨T, ?_, h⟩
    simp +decide only [x91_0, x91_1, x91_2, x91_3, x91_6, x91_9, x91_10, x91_11, x91_12, x91_13, x91_15, x91_18, x91_21, x91_23, x91_24, x91_25, x91_28, x91_31, x91_32, x91_33, x91_34, x91_35, x91_36, x91_39, x91_41, x91_42, x91_43, x91_46, x91_47, x91_50, x91_53, x91_54, x91_57, x91_60, x91_61, x91_62, x91_63, x91_64, aft_some, aft_void, Option.bind_some, Option.toList_some, Option.toList_none, List.cons_append, List.nil_append, if_true, if_false, ↓reduceIte, eq_self, z0_o, ↓z0_0, ↓z0_1, ↓z0_2, ↓z0_3, ↓z0_4, ↓z0_5, ↓z0_5p0, ↓z0_5p1, ↓z0n h1, f0_o ho, ↓f0_0 ho, ↓f0_0p ho, ↓f0_1 ho, ↓f0_1p ho, ↓f0_2 ho, ↓f0_2p ho, ↓f0_3 ho, ↓f0_3p ho, ↓f0_4 ho, ↓f0_5 ho, ↓f0_6 ho, ↓f0_7 ho, ↓f0_8 ho, ↓f0_9 ho, ↓f0_10 ho, ↓f0_11 ho, ↓f1_g ho, ↓f1_s ho, ↓f2_g ho, ↓f2_s ho, ↓aft_of (c_within), c1, c2, ok, cl, hv, c3]
  rw [if_neg c3]
  obtain ⟨T1, e1, f1, g1⟩ := h.push h1
  refine ⟨up1 T1 (o + 2) k x, ?_, ?_⟩
  · simp +decide only [x91_0, x91_1, x91_2, x91_3, x91_6, x91_9, x91_10, x91_11, x91_12, x91_13, x91_15, x91_18, x91_21, x91_23, x91_24, x91_25, x91_28, x91_31, x91_32, x91_33, x91_34, x91_35, x91_36, x91_39, x91_41, x91_42, x91_43, x91_46, x91_47, x91_50, x91_53, x91_54, x91_57, x91_60, x91_61, x91_62, x91_63, x91_64, aft_some, aft_void, Option.bind_some, Option.toList_some, Option.toList_none, List.cons_append, List.nil_append, if_true, if_false, ↓reduceIte, eq_self, z0_o, ↓z0_0, ↓z0_1, ↓z0_2, ↓z0_3, ↓z0_4, ↓z0_5, ↓z0_5p0, ↓z0_5p1, ↓z0n h1, f0_o ho, ↓f0_0 ho, ↓f0_0p ho, ↓f0_1 ho, ↓f0_1p ho, ↓f0_2 ho, ↓f0_2p ho, ↓f0_3 ho, ↓f0_3p ho, ↓f0_4 ho, ↓f0_5 ho, ↓f0_6 ho, ↓f0_7 ho, ↓f0_8 ho, ↓f0_9 ho, ↓f0_10 ho, ↓f0_11 ho, ↓f1_g ho, ↓f1_s ho, ↓f2_g ho, ↓f2_s ho, z154_o, ↓z154_0, ↓z154_1, ↓z154_1p, ↓z154_2, ↓z154_2p, ↓z155_g, ↓aft_of (c_within), c1, c2, ok, cl, hv, c3, ↓aft_of (e1)]
  · subst h1
    have h8 := h.2.1.2.1.1.2.2.2.1
    refine g1.now (CS.set1 g1.2.1.1 h8 (Or.inr (Or.inl rfl))) ⟨h.2.1.2.1.v ?_ ?_ ?_ ?_ ?_, h.2.1.2.2⟩ (fun a ha => ?_) (fun _ _ => rfl)
    · simp +decide only [u_n]
    · simp +decide only [u_n]
    · simp +decide only [u_n]
    · simp +decide only [u_n]
    · simp +decide only [u_n]; exact h.2.1.2.1.2.2.1
    · exact upA_n _ _ (by omega)
def svI (u : uT) : Int32 := u.1.2.1 0 1 + smI (fun i => nhI (gK u.2 i 2)) u.2.length + nI (allL u.1.2.2.1)
def gBuy (n : Int32) (s : gT) : Int32 × gT := if inI n 1 99 = 0 then (-2, s) else if 999 < svI s.1 + n then (-3, s) else (s.1.1.2.1 0 1 + n, sV s (up1 (up1 s.1.1.2.1 0 1 (s.1.1.2.1 0 1 + n)) 0 2 (s.1.1.2.1 0 2 + n)))
theorem g_buy (h1 : o = 1) (h : CG EE T P s) (n : Int32) : ∃ T', X 98 0 [.ref 0, .int n] [] (H T P) = some (some (.int (gBuy n s).1), H T' P) ∧ CG EE T' P (gBuy n s).2 := by
  have ho : isB o := by subst h1; exact isB_1
  unfold gBuy
  by_cases c1 : inI n 1 99 = 0
  · rw [if_pos c1]
    refine ⟨T, ?_, h⟩
    simp +decide only [x98_0, x98_1, x98_2, x98_4, x98_7, x98_10, x98_12, x98_13, x98_14, x98_17, x98_20, x98_21, x98_22, x98_25, x98_28, x98_30, x98_31, x98_32, x98_35, x98_36, x98_39, x98_42, x98_43, x98_46, x98_47, x98_50, x98_51, x98_52, x98_55, x98_56, x98_59, x98_60, x98_63, x98_64, x98_65, x98_68, x98_69, x98_72, x98_75, aft_some, aft_void, Option.bind_some, Option.toList_some, Option.toList_none, List.cons_append, List.nil_append, if_true, if_false, ↓reduceIte, eq_self, z0_o, ↓z0_0, ↓z0_1, ↓z0_2, ↓z0_3, ↓z0_4, ↓z0_5, ↓z0_5p0, ↓z0_5p1, ↓aft_of (c_within), c1]
  rw [if_neg c1]
  have hc : CSu o T P s.1 := by subst h1; exact h.2.1.1
  have es := c_service ho hc h.2.1.2.1
  rw [show s.1.1.2.1 0 1 + smI (fun i => nhI (gK s.1.2 i 2)) s.1.2.length + nI (allL s.1.1.2.2.1) = svI s.1 from rfl] at es
  by_cases c2 : 999 < svI s.1 + n
  · rw [if_pos c2]
    refine ⟨T, ?_, h⟩
    simp +decide only [x98_0, x98_1, x98_2, x98_4, x98_7, x98_10, x98_12, x98_13, x98_14, x98_17, x98_20, x98_21, x98_22, x98_25, x98_28, x98_30, x98_31, x98_32, x98_35, x98_36, x98_39, x98_42, x98_43, x98_46, x98_47, x98_50, x98_51, x98_52, x98_55, x98_56, x98_59, x98_60, x98_63, x98_64, x98_65, x98_68, x98_69, x98_72, x98_75, aft_some, aft_void, Option.bind_some, Option.toList_some, Option.toList_none, List.cons_append, List.nil_append, if_true, if_false, ↓reduceIte, eq_self, z0_o, ↓z0_0, ↓z0_1, ↓z0_2, ↓z0_3, ↓z0_4, ↓z0_5, ↓z0_5p0, ↓z0_5p1, ↓z0n h1, f0_o ho, ↓f0_0 ho, ↓f0_0p ho, ↓f0_1 ho, ↓f0_1p ho, ↓f0_2 ho, ↓f0_2p ho, ↓f0_3 ho, ↓f0_3p ho, ↓f0_4 ho, ↓f0_5 ho, ↓f0_6 ho, ↓f0_7 ho, ↓f0_8 ho, ↓f0_9 ho, ↓f0_10 ho, ↓f0_11 ho, ↓f1_g ho, ↓f1_s ho, ↓f2_g ho, ↓f2_s ho, ↓aft_of (c_within), c1, ↓aft_of (es), c2]
  rw [if_neg c2]
  obtain ⟨T1, e1, f1, g1⟩ := h.push h1
  have hc1 : CSu o T1 P s.1 := by subst h1; exact g1.2.1.1
  have hv : T1 o 1 = s.1.1.2.1 0 1 := hc1.1.1 1 (by decide)
  have hv2 : T1 o 2 = s.1.1.2.1 0 2 := hc1.1.1 2 (by decide)
  refine ⟨up1 (up1 T1 o 1 (s.1.1.2.1 0 1 + n)) o 2 (s.1.1.2.1 0 2 + n), ?_, ?_⟩
  · simp +decide only [x98_0, x98_1, x98_2, x98_4, x98_7, x98_10, x98_12, x98_13, x98_14, x98_17, x98_20, x98_21, x98_22, x98_25, x98_28, x98_30, x98_31, x98_32, x98_35, x98_36, x98_39, x98_42, x98_43, x98_46, x98_47, x98_50, x98_51, x98_52, x98_55, x98_56, x98_59, x98_60, x98_63, x98_64, x98_65, x98_68, x98_69, x98_72, x98_75, aft_some, aft_void, Option.bind_some, Option.toList_some, Option.toList_none, List.cons_append, List.nil_append, if_true, if_false, ↓reduceIte, eq_self, z0_o, ↓z0_0, ↓z0_1, ↓z0_2, ↓z0_3, ↓z0_4, ↓z0_5, ↓z0_5p0, ↓z0_5p1, ↓z0n h1, f0_o ho, ↓f0_0 ho, ↓f0_0p ho, ↓f0_1 ho, ↓f0_1p ho, ↓f0_2 ho, ↓f0_2p ho, ↓f0_3 ho, ↓f0_3p ho, ↓f0_4 ho, ↓f0_5 ho, ↓f0_6 ho, ↓f0_7 ho, ↓f0_8 ho, ↓f0_9 ho, ↓f0_10 ho, ↓f0_11 ho, ↓f1_g ho, ↓f1_s ho, ↓f2_g ho, ↓f2_s ho, upA_s, u_oo, u_o0, u_0o, u_n, z154_o, ↓z154_0, ↓z154_1, ↓z154_1p, ↓z154_2, ↓z154_2p, ↓z155_g, ↓aft_of (c_within), c1, ↓aft_of (es), c2, hv, hv2, ↓aft_of (e1)]
  · have h8 := h.2.1.2.1.1.2.2.2.1
    have h0 : up1 (up1 s.1.1.2.1 0 1 (s.1.1.2.1 0 1 + n)) 0 2 (s.1.1.2.1 0 2 + n) = up1 (up1 s.1.1.2.1 0 1 (s.1.1.2.1 0 1 + n)) 0 2 (up1 s.1.1.2.1 0 1 (s.1.1.2.1 0 1 + n) 0 2 + n) := by simp +decide only [upA_s, u_n]
    subst h1
    have q1 := CS.set0 (j := 2) (v := s.1.1.2.1 0 2 + n) (CS.set0 (j := 1) (v := s.1.1.2.1 0 1 + n) g1.2.1.1 h8 (by decide)) h8 (by decide)
    refine g1.now q1 ⟨h.2.1.2.1.v ?_ ?_ ?_ ?_ ?_, h.2.1.2.2⟩ (fun a ha => ?_) (fun _ _ => rfl)
    · simp +decide only [u_n]
    · simp +decide only [u_n]
    · simp +decide only [u_n]
    · simp +decide only [upA_s, u_n]
      grind
    · simp +decide only [u_n]; exact h.2.1.2.1.2.2.1
    · simp only [upA_n _ _ (show a ≠ 1 by omega)]
def hsI (n : Nat) (c : Int32) : Prop := ¬ c < 0 ∧ c < nI n
noncomputable def gPay (c : Int32) (s : gT) : Int32 × gT := @ite _ (hsI (s.1.1.1 1) c) (Classical.propDecidable _) (if s.1.1.2.1 5 c.toNatClampNeg = 0 then (-5, s) else (s.1.1.2.1 5 c.toNatClampNeg, sV s (up1 (up1 s.1.1.2.1 5 c.toNatClampNeg 0) 0 3 (s.1.1.2.1 0 3 + s.1.1.2.1 5 c.toNatClampNeg)))) (-1, s)
theorem c_hasN (ho : isB o) {n : Nat} {c : Int32} (hn : T (o + 3) 0 = nI n) : X 33 0 [.ref (o + 3), .int c] [] (H T P) = some (some (.int (@ite _ (hsI n c) (Classical.propDecidable _) 1 0)), H T P) := by
  rw [c_has ho, hn]
  unfold hsI
  by_cases h1 : c < 0
  · rw [if_pos h1, if_neg (fun z => z.1 h1)]
  · rw [if_neg h1]
    by_cases h2 : c < nI n
    · rw [if_pos h2, if_pos ⟨h1, h2⟩]
    · rw [if_neg h2, if_neg (fun z => h2 z.2)]
theorem g_pay (h1 : o = 1) (h : CG EE T P s) (c : Int32) : ∃ T', X 99 0 [.ref 0, .int c, .long 0] [] (H T P) = some (some (.int (gPay c s).1), H T' P) ∧ CG EE T' P (gPay c s).2 := by
  have ho : isB o := by subst h1; exact isB_1
  have hc : CSu o T P s.1 := by subst h1; exact h.2.1.1
  have hN1 := h.2.1.2.1.1.2.1
  have eh := c_hasN (P := P) (c := c) ho hc.2.1.1
  unfold gPay
  by_cases c1 : hsI (s.1.1.1 1) c
  · rw [if_pos c1] at eh ⊢
    obtain ⟨k, hk, rfl⟩ := nI_ex c1.1 (by omega) c1.2
    have cl := nI_clamp (show k < 2 ^ 31 by omega)
    have ok := okx_nI (show k < 10 by omega) (show (10 : Nat) < 2 ^ 31 by decide)
    rw [cl]
    have hv : T (o + 5) k = s.1.1.2.1 5 k := hc.2.1.2.2.1 k hk
    by_cases c3 : s.1.1.2.1 5 k = 0
    · rw [if_pos c3]
      refine ⟨T, ?_, h⟩
      simp +decide only [x99_0, x99_1, x99_4, x99_7, x99_8, x99_11, x99_14, x99_15, x99_16, x99_17, x99_20, x99_23, x99_26, x99_27, x99_28, x99_29, x99_30, x99_33, x99_35, x99_36, x99_37, x99_40, x99_41, x99_44, x99_47, x99_48, x99_51, x99_54, x99_57, x99_58, x99_59, x99_60, x99_61, x99_64, x99_65, x99_68, x99_69, x99_70, x99_73, x99_74, aft_some, aft_void, Option.bind_some, Option.toList_some, Option.toList_none, List.cons_append, List.nil_append, if_true, if_false, ↓reduceIte, eq_self, z0_o, ↓z0_0, ↓z0_1, ↓z0_2, ↓z0_3, ↓z0_4, ↓z0_5, ↓z0_5p0, ↓z0_5p1, ↓z0n h1, f0_o ho, ↓f0_0 ho, ↓f0_0p ho, ↓f0_1 ho, ↓f0_1p ho, ↓f0_2 ho, ↓f0_2p ho, ↓f0_3 ho, ↓f0_3p ho, ↓f0_4 ho, ↓f0_5 ho, ↓f0_6 ho, ↓f0_7 ho, ↓f0_8 ho, ↓f0_9 ho, ↓f0_10 ho, ↓f0_11 ho, ↓f1_g ho, ↓f1_s ho, ↓f2_g ho, ↓f2_s ho, f3_o ho, ↓f3_0 ho, ↓f3_0p ho, ↓f3_1 ho, ↓f3_2 ho, ↓f3_3 ho, ↓f4_g ho, ↓f4_s ho, ↓f5_g ho, ↓f5_s ho, ↓f6_g ho, ↓f6_s ho, ↓aft_of (eh), ok, cl, hv, c3]
    rw [if_neg c3]
    obtain ⟨T1, e1, f1, g1⟩ := h.push h1
    have hc1 : CSu o T1 P s.1 := by subst h1; exact g1.2.1.1
    have hv3 : T1 o 3 = s.1.1.2.1 0 3 := hc1.1.1 3 (by decide)
    refine ⟨up1 (up1 T1 (o + 5) k 0) o 3 (s.1.1.2.1 0 3 + s.1.1.2.1 5 k), ?_, ?_⟩
    · simp +decide only [x99_0, x99_1, x99_4, x99_7, x99_8, x99_11, x99_14, x99_15, x99_16, x99_17, x99_20, x99_23, x99_26, x99_27, x99_28, x99_29, x99_30, x99_33, x99_35, x99_36, x99_37, x99_40, x99_41, x99_44, x99_47, x99_48, x99_51, x99_54, x99_57, x99_58, x99_59, x99_60, x99_61, x99_64, x99_65, x99_68, x99_69, x99_70, x99_73, x99_74, aft_some, aft_void, Option.bind_some, Option.toList_some, Option.toList_none, List.cons_append, List.nil_append, if_true, if_false, ↓reduceIte, eq_self, z0_o, ↓z0_0, ↓z0_1, ↓z0_2, ↓z0_3, ↓z0_4, ↓z0_5, ↓z0_5p0, ↓z0_5p1, ↓z0n h1, f0_o ho, ↓f0_0 ho, ↓f0_0p ho, ↓f0_1 ho, ↓f0_1p ho, ↓f0_2 ho, ↓f0_2p ho, ↓f0_3 ho, ↓f0_3p ho, ↓f0_4 ho, ↓f0_5 ho, ↓f0_6 ho, ↓f0_7 ho, ↓f0_8 ho, ↓f0_9 ho, ↓f0_10 ho, ↓f0_11 ho, ↓f1_g ho, ↓f1_s ho, ↓f2_g ho, ↓f2_s ho, f3_o ho, ↓f3_0 ho, ↓f3_0p ho, ↓f3_1 ho, ↓f3_2 ho, ↓f3_3 ho, ↓f4_g ho, ↓f4_s ho, ↓f5_g ho, ↓f5_s ho, ↓f6_g ho, ↓f6_s ho, upA_s, u_oo, u_o0, u_0o, u_n, z154_o, ↓z154_0, ↓z154_1, ↓z154_1p, ↓z154_2, ↓z154_2p, ↓z155_g, ↓aft_of (eh), ok, cl, hv, hv3, c3, ↓aft_of (e1)]
    · have h8 := h.2.1.2.1.1.2.2.2.1
      subst h1
      have q1 := CS.set0 (j := 3) (v := s.1.1.2.1 0 3 + s.1.1.2.1 5 k) (CS.set1 (j := k) (v := 0) g1.2.1.1 h8 (show 5 = 1 ∨ 5 = 2 ∨ 5 = 4 ∨ 5 = 5 ∨ 5 = 6 by decide)) h8 (by decide)
      refine g1.now q1 ⟨h.2.1.2.1.v ?_ ?_ ?_ ?_ ?_, h.2.1.2.2⟩ (fun a ha => ?_) (fun _ _ => rfl)
      · simp +decide only [u_n]
      · simp +decide only [u_n]
      · simp +decide only [u_n]
      · simp +decide only [upA_s, u_n]
      · simp +decide only [u_n]; exact h.2.1.2.1.2.2.1
      · simp only [upA_n _ _ (show a ≠ 1 by omega), upA_n _ _ (show a ≠ 1 + 5 by omega)]
  · rw [if_neg c1] at eh ⊢
    refine ⟨T, ?_, h⟩
    simp +decide only [x99_0, x99_1, x99_4, x99_7, x99_8, x99_11, x99_14, x99_15, x99_16, x99_17, x99_20, x99_23, x99_26, x99_27, x99_28, x99_29, x99_30, x99_33, x99_35, x99_36, x99_37, x99_40, x99_41, x99_44, x99_47, x99_48, x99_51, x99_54, x99_57, x99_58, x99_59, x99_60, x99_61, x99_64, x99_65, x99_68, x99_69, x99_70, x99_73, x99_74, aft_some, aft_void, Option.bind_some, Option.toList_some, Option.toList_none, List.cons_append, List.nil_append, if_true, if_false, ↓reduceIte, eq_self, z0_o, ↓z0_0, ↓z0_1, ↓z0_2, ↓z0_3, ↓z0_4, ↓z0_5, ↓z0_5p0, ↓z0_5p1, ↓z0n h1, f0_o ho, ↓f0_0 ho, ↓f0_0p ho, ↓f0_1 ho, ↓f0_1p ho, ↓f0_2 ho, ↓f0_2p ho, ↓f0_3 ho, ↓f0_3p ho, ↓f0_4 ho, ↓f0_5 ho, ↓f0_6 ho, ↓f0_7 ho, ↓f0_8 ho, ↓f0_9 ho, ↓f0_10 ho, ↓f0_11 ho, ↓f1_g ho, ↓f1_s ho, ↓f2_g ho, ↓f2_s ho, f3_o ho, ↓f3_0 ho, ↓f3_0p ho, ↓f3_1 ho, ↓f3_2 ho, ↓f3_3 ho, ↓f4_g ho, ↓f4_s ho, ↓f5_g ho, ↓f5_s ho, ↓f6_g ho, ↓f6_s ho, ↓aft_of (eh)]
end CL
