/-! basket, iron, pass -/
abbrev bkU (u : uT) (c g : Nat) (p st : Int32) : uT := ((rcN u.1.1, up1 u.1.2.1 0 1 (u.1.2.1 0 1 + nI g), dropE (tkL c g u.1.2.2.1), wrB u.1.2.2.2 0 (u.1.2.1 0 0) (nI (u.1.1 2)) (nI g)), rcK u.1.1 u.1.2.1 u.2 c p st)
abbrev rfU (u : uT) (c p st g : Int32) : Int32 := rfI (u.1.1 1) u.1.2.2.1 u.2.length (u.1.1 2) c p st g
def gBask (c p st g : Int32) (s : gT) : Int32 × gT := if rfU s.1 c p st g < 0 then (rfU s.1 c p st g, s) else (nI (s.1.1.1 2), bkU s.1 c.toNatClampNeg g.toNatClampNeg p st, s.2.1, psL s, s.2.2.2)
noncomputable abbrev irU (u : uT) (m : Int32) : uT := ((u.1.1, (irS u.1.1 288 u.1.2.1 u.2 m).2.1, u.1.2.2), (irS u.1.1 288 u.1.2.1 u.2 m).2.2)
noncomputable def gIron (m : Int32) (s : gT) : Int32 × gT := if inI m 1 600 = 0 then (-2, s) else (nI (irS s.1.1.1 288 s.1.1.2.1 s.1.2 m).1, irU s.1 m, s.2.1, psL s, s.2.2.2)
noncomputable def dyU (u : uT) : uT := (dyS u.1 u.2, dyK u.1 u.2)
noncomputable def psU : Nat → uT → uT
  | 0, u => u
  | n + 1, u => dyU (psU n u)
noncomputable def psT : Nat → uT → Int32
  | 0, _ => 0
  | n + 1, u => psT n u + nI ((psU n u).2.length - (dyU (psU n u)).2.length)
noncomputable def gPass (d : Int32) (s : gT) : Int32 × gT := if inI d 1 99 = 0 then (-2, s) else if 9999 < nI (s.1.1.1 0) + d then (-3, s) else (psT d.toNatClampNeg s.1, psU d.toNatClampNeg s.1, s.2.1, psL s, s.2.2.2)
theorem outL_le (c : Nat) : ∀ B : List bT, outL c B ≤ allL B
  | [] => Nat.le_refl _
  | q :: B => by
    have := outL_le c B
    simp only [outL, allL]
    split <;> omega
theorem allL_b {B : List bT} (h : OS B) : allL B ≤ 1000 * B.length := by
  induction B with
  | nil => exact Nat.le_refl _
  | cons q L ih =>
    have := ih (fun x hx => h x (List.mem_cons_of_mem _ hx))
    have h3 := (h q List.mem_cons_self).2.2
    simp only [allL, List.length_cons]
    omega
theorem rf_ok {u : uT} (hw : WFu u) {c p st g : Int32} (h : ¬ rfU u c p st g < 0) : rfU u c p st g = 0 ∧ ∃ k x y z, k < u.1.1 1 ∧ c = nI k ∧ x ≤ 9999 ∧ p = nI x ∧ y ≤ 3 ∧ st = nI y ∧ z ≤ 99 ∧ z ≤ outL k u.1.2.2.1 ∧ g = nI z ∧ u.2.length < 8 ∧ u.1.1 2 < 99 := by
  have hN1 := hw.1.1.2.1
  have hOS := OS.of_wf hw.1
  have hB : u.1.2.2.1.length ≤ 99 := by have := hw.1.2.2.2.2.2.1.2.2; have := hw.1.1.2.2.1; omega
  unfold rfU rfI at h ⊢
  by_cases c0 : c < 0
  · rw [if_pos c0] at h; exact absurd (by decide) h
  rw [if_neg c0] at h ⊢
  by_cases c1 : c < nI (u.1.1 1)
  · rw [if_pos c1] at h ⊢
    obtain ⟨k, hk, rfl⟩ := nI_ex c0 (by omega) c1
    rw [nI_clamp (by omega)] at h ⊢
    by_cases c2 : p < 1 ∨ 9999 < p ∨ st < 0 ∨ 3 < st ∨ g < 0 ∨ 99 < g
    · rw [if_pos c2] at h; exact absurd (by decide) h
    rw [if_neg c2] at h ⊢
    by_cases c3 : nI (outL k u.1.2.2.1) < g
    · rw [if_pos c3] at h; exact absurd (by decide) h
    rw [if_neg c3] at h ⊢
    by_cases c4 : u.2.length < 8 ∧ u.1.1 2 < 99
    · rw [if_pos c4] at h ⊢
      have f : ∀ (v : Int32) (m : Nat), m < 2 ^ 31 → ¬ v < 0 → ¬ nI m < v → ∃ x, x ≤ m ∧ v = nI x := by
        intro v m hm h0 h2
        obtain ⟨j, hj, rfl⟩ := nI_of h0
        rw [nI_ltp hm hj] at h2
        exact ⟨j, by omega, rfl⟩
      have p0 : ¬ p < 0 := fun z => c2 (Or.inl (by
        rw [Int32.lt_iff_toInt_lt] at z ⊢
        have e0 : (0 : Int32).toInt = 0 := by decide
        have e1 : (1 : Int32).toInt = 1 := by decide
        omega))
      obtain ⟨x, hx, ex⟩ := f p 9999 (by decide) p0 (fun z => c2 (Or.inr (Or.inl z)))
      obtain ⟨y, hy, ey⟩ := f st 3 (by decide) (fun z => c2 (Or.inr (Or.inr (Or.inl z)))) (fun z => c2 (Or.inr (Or.inr (Or.inr (Or.inl z)))))
      obtain ⟨z, hz, ez⟩ := f g 99 (by decide) (fun z => c2 (Or.inr (Or.inr (Or.inr (Or.inr (Or.inl z)))))) (fun z => c2 (Or.inr (Or.inr (Or.inr (Or.inr (Or.inr z))))))
      have ho := outL_le k u.1.2.2.1
      have ha := allL_b hOS
      rw [ez, nI_ltp (by omega) (by omega)] at c3
      exact ⟨rfl, k, x, y, z, hk, rfl, hx, ex, hy, ey, hz, by omega, ez, c4.1, c4.2⟩
    · rw [if_neg c4] at h; exact absurd (by decide) h
  · rw [if_neg c1] at h; exact absurd (by decide) h
section CL3
variable {T U EE : Nat → Nat → Int32} {P Q : Nat → Nat → Nat} {o q : Nat} {s : gT} {u : uT}
theorem g_bask (h1 : o = 1) (h : CG EE T P s) (c p st g : Int32) : ∃ T', X 92 0 [.ref 0, .int c, .int p, .int st, .int g, .long 0] [] (H T P) = some (some (.int (gBask c p st g s).1), H T' P) ∧ CG EE T' P (gBask c p st g s).2 := by
  have ho : isB o := by subst h1; exact isB_1
  have hc : CSu o T P s.1 := by subst h1; exact h.2.1.1
  have er := c_refusal (x := c) (y := p) (z := st) (w := g) ho hc h.2.1.2.1
  rw [show rfI (s.1.1.1 1) s.1.1.2.2.1 s.1.2.length (s.1.1.1 2) c p st g = rfU s.1 c p st g from rfl] at er
  unfold gBask
  by_cases c1 : rfU s.1 c p st g < 0
  · rw [if_pos c1]
    refine ⟨T, ?_, h⟩
    simp +decide only [x92_0, x92_1, x92_4, x92_5, x92_6, x92_7, x92_9, x92_12, x92_14, x92_16, x92_19, x92_21, x92_22, x92_23, x92_26, x92_27, x92_30, x92_33, x92_34, x92_37, x92_38, x92_39, x92_40, x92_42, x92_45, aft_some, aft_void, Option.bind_some, Option.toList_some, Option.toList_none, List.cons_append, List.nil_append, if_true, if_false, ↓reduceIte, eq_self, z0_o, ↓z0_0, ↓z0_1, ↓z0_2, ↓z0_3, ↓z0_4, ↓z0_5, ↓z0_5p0, ↓z0_5p1, ↓z0n h1, f0_o ho, ↓f0_0 ho, ↓f0_0p ho, ↓f0_1 ho, ↓f0_1p ho, ↓f0_2 ho, ↓f0_2p ho, ↓f0_3 ho, ↓f0_3p ho, ↓f0_4 ho, ↓f0_5 ho, ↓f0_6 ho, ↓f0_7 ho, ↓f0_8 ho, ↓f0_9 ho, ↓f0_10 ho, ↓f0_11 ho, ↓f1_g ho, ↓f1_s ho, ↓f2_g ho, ↓f2_s ho, ↓aft_of (er), c1]
  rw [if_neg c1]
  obtain ⟨e0, k, x, y, z, hk, rfl, hx, rfl, hy, rfl, hz, hzo, rfl, h8, h99⟩ := rf_ok h.2.1.2 c1
  obtain ⟨T1, e1, f1, g1⟩ := h.push h1
  have hc1 : CSu o T1 P s.1 := by subst h1; exact g1.2.1.1
  have hN1 := h.2.1.2.1.1.2.1
  obtain ⟨T2, e2, f2, c2⟩ := c_receive (p := nI x) (st := nI y) ho hc1 h.2.1.2.1 hk h8 hz
  rw [nI_clamp (by omega), nI_clamp (by omega)]
  refine ⟨T2, ?_, ?_⟩
  · simp +decide only [x92_0, x92_1, x92_4, x92_5, x92_6, x92_7, x92_9, x92_12, x92_14, x92_16, x92_19, x92_21, x92_22, x92_23, x92_26, x92_27, x92_30, x92_33, x92_34, x92_37, x92_38, x92_39, x92_40, x92_42, x92_45, aft_some, aft_void, Option.bind_some, Option.toList_some, Option.toList_none, List.cons_append, List.nil_append, if_true, if_false, ↓reduceIte, eq_self, z0_o, ↓z0_0, ↓z0_1, ↓z0_2, ↓z0_3, ↓z0_4, ↓z0_5, ↓z0_5p0, ↓z0_5p1, ↓z0n h1, f0_o ho, ↓f0_0 ho, ↓f0_0p ho, ↓f0_1 ho, ↓f0_1p ho, ↓f0_2 ho, ↓f0_2p ho, ↓f0_3 ho, ↓f0_3p ho, ↓f0_4 ho, ↓f0_5 ho, ↓f0_6 ho, ↓f0_7 ho, ↓f0_8 ho, ↓f0_9 ho, ↓f0_10 ho, ↓f0_11 ho, ↓f1_g ho, ↓f1_s ho, ↓f2_g ho, ↓f2_s ho, z154_o, ↓z154_0, ↓z154_1, ↓z154_1p, ↓z154_2, ↓z154_2p, ↓z155_g, ↓aft_of (er), c1, ↓aft_of (e1), ↓aft_of (e2)]
  · subst h1
    refine g1.now c2 ⟨WF_come h.2.1.2.1 hk h8 h99 hzo ⟨x, hx, rfl⟩ ⟨y, hy, rfl⟩, ?_⟩ (fun a ha => f2 a (by omega)) (fun _ _ => rfl)
    show rcN s.1.1.1 0 ≤ 9999
    simp +decide only [u_n]
    exact h.2.1.2.2
theorem g_iron (h1 : o = 1) (h : CG EE T P s) (m : Int32) : ∃ T', X 96 0 [.ref 0, .int m] [] (H T P) = some (some (.int (gIron m s).1), H T' P) ∧ CG EE T' P (gIron m s).2 := by
  have ho : isB o := by subst h1; exact isB_1
  unfold gIron
  by_cases c1 : inI m 1 600 = 0
  · rw [if_pos c1]
    refine ⟨T, ?_, h⟩
    simp +decide only [x96_0, x96_1, x96_2, x96_5, x96_8, x96_11, x96_13, x96_14, x96_15, x96_18, x96_19, x96_22, x96_25, x96_26, x96_29, x96_30, x96_33, aft_some, aft_void, Option.bind_some, Option.toList_some, Option.toList_none, List.cons_append, List.nil_append, if_true, if_false, ↓reduceIte, eq_self, z0_o, ↓z0_0, ↓z0_1, ↓z0_2, ↓z0_3, ↓z0_4, ↓z0_5, ↓z0_5p0, ↓z0_5p1, ↓aft_of (c_within), c1]
  rw [if_neg c1]
  obtain ⟨T1, e1, f1, g1⟩ := h.push h1
  have hc1 : CSu o T1 P s.1 := by subst h1; exact g1.2.1.1
  obtain ⟨T2, e2, f2, c2, w2⟩ := c_ironFor (m0 := m) ho hc1 h.2.1.2.1
  refine ⟨T2, ?_, ?_⟩
  · simp +decide only [x96_0, x96_1, x96_2, x96_5, x96_8, x96_11, x96_13, x96_14, x96_15, x96_18, x96_19, x96_22, x96_25, x96_26, x96_29, x96_30, x96_33, aft_some, aft_void, Option.bind_some, Option.toList_some, Option.toList_none, List.cons_append, List.nil_append, if_true, if_false, ↓reduceIte, eq_self, z0_o, ↓z0_0, ↓z0_1, ↓z0_2, ↓z0_3, ↓z0_4, ↓z0_5, ↓z0_5p0, ↓z0_5p1, ↓z0n h1, f0_o ho, ↓f0_0 ho, ↓f0_0p ho, ↓f0_1 ho, ↓f0_1p ho, ↓f0_2 ho, ↓f0_2p ho, ↓f0_3 ho, ↓f0_3p ho, ↓f0_4 ho, ↓f0_5 ho, ↓f0_6 ho, ↓f0_7 ho, ↓f0_8 ho, ↓f0_9 ho, ↓f0_10 ho, ↓f0_11 ho, ↓f1_g ho, ↓f1_s ho, ↓f2_g ho, ↓f2_s ho, z154_o, ↓z154_0, ↓z154_1, ↓z154_1p, ↓z154_2, ↓z154_2p, ↓z155_g, ↓aft_of (c_within), c1, ↓aft_of (e1), ↓aft_of (e2)]
  · subst h1
    exact g1.now c2 ⟨w2, h.2.1.2.2⟩ (fun a ha => f2 a (by omega)) (fun _ _ => rfl)
theorem dy_day (u : uT) : (dyU u).1.1 0 = u.1.1 0 + 1 := by
  obtain ⟨l0, -⟩ := lvE_keep (goK (dy1 u.1).1 (dy1 u.1).2.1) (dy1 u.1) u.2
  obtain ⟨n0, -⟩ := ch_keep (l0 := u.1.1 0 + 1 - dyG u.1.2.1) (s := dy0 u.1) (u.1.1 1)
  have a : (dyU u).1.1 0 = (dy1 u.1).1 0 := l0
  have b : (dy1 u.1).1 0 = (dy0 u.1).1 0 := n0
  rw [a, b]
  show upA u.1.1 0 (u.1.1 0 + 1) 0 = _
  exact upA_s _ _ _
theorem g_pass (h1 : o = 1) (h : CG EE T P s) (d : Int32) : ∃ T' P', X 97 0 [.ref 0, .int d, .long 0, .long 0] [] (H T P) = some (some (.int (gPass d s).1), H T' P') ∧ CG EE T' P' (gPass d s).2 := by
  have ho : isB o := by subst h1; exact isB_1
  have hc : CSu o T P s.1 := by subst h1; exact h.2.1.1
  have hd : T o 0 = nI (s.1.1.1 0) := by rw [hc.1.1 0 (by decide)]; exact hc.1.2.2.2
  unfold gPass
  by_cases c1 : inI d 1 99 = 0
  · rw [if_pos c1]
    refine ⟨T, P, ?_, h⟩
    simp +decide only [x97_0, x97_1, x97_2, x97_4, x97_7, x97_10, x97_12, x97_13, x97_14, x97_17, x97_20, x97_21, x97_22, x97_25, x97_28, x97_30, x97_31, x97_32, x97_35, x97_36, x97_39, x97_42, x97_43, x97_44, x97_45, x97_46, x97_47, x97_48, x97_51, x97_52, x97_53, x97_56, x97_59, x97_60, x97_61, x97_64, x97_67, x97_68, aft_some, aft_void, Option.bind_some, Option.toList_some, Option.toList_none, List.cons_append, List.nil_append, if_true, if_false, ↓reduceIte, eq_self, z0_o, ↓z0_0, ↓z0_1, ↓z0_2, ↓z0_3, ↓z0_4, ↓z0_5, ↓z0_5p0, ↓z0_5p1, ↓aft_of (c_within), c1]
  rw [if_neg c1]
  by_cases c2 : 9999 < nI (s.1.1.1 0) + d
  · rw [if_pos c2]
    refine ⟨T, P, ?_, h⟩
    simp +decide only [x97_0, x97_1, x97_2, x97_4, x97_7, x97_10, x97_12, x97_13, x97_14, x97_17, x97_20, x97_21, x97_22, x97_25, x97_28, x97_30, x97_31, x97_32, x97_35, x97_36, x97_39, x97_42, x97_43, x97_44, x97_45, x97_46, x97_47, x97_48, x97_51, x97_52, x97_53, x97_56, x97_59, x97_60, x97_61, x97_64, x97_67, x97_68, aft_some, aft_void, Option.bind_some, Option.toList_some, Option.toList_none, List.cons_append, List.nil_append, if_true, if_false, ↓reduceIte, eq_self, z0_o, ↓z0_0, ↓z0_1, ↓z0_2, ↓z0_3, ↓z0_4, ↓z0_5, ↓z0_5p0, ↓z0_5p1, ↓z0n h1, f0_o ho, ↓f0_0 ho, ↓f0_0p ho, ↓f0_1 ho, ↓f0_1p ho, ↓f0_2 ho, ↓f0_2p ho, ↓f0_3 ho, ↓f0_3p ho, ↓f0_4 ho, ↓f0_5 ho, ↓f0_6 ho, ↓f0_7 ho, ↓f0_8 ho, ↓f0_9 ho, ↓f0_10 ho, ↓f0_11 ho, ↓f1_g ho, ↓f1_s ho, ↓f2_g ho, ↓f2_s ho, ↓aft_of (c_within), c1, hd, c2]
  rw [if_neg c2]
  obtain ⟨n, hn1, hn, rfl⟩ := inI_ex2 (m := 1) (n := 99) (by decide) (by decide) c1
  have hw := h.2.1.2
  have h99 : s.1.1.1 0 + n ≤ 9999 := by
    have := hw.2
    rw [nI_add, show (9999 : Int32) = nI 9999 from rfl, nI_ltp (by decide) (by omega)] at c2
    omega
  rw [nI_clamp (show n < 2 ^ 31 by omega)]
  obtain ⟨T1, e1, f1, g1⟩ := h.push h1
  have hc1 : CSu o T1 P s.1 := by subst h1; exact g1.2.1.1
  obtain ⟨⟨T2, P2⟩, e2, i1, i2, i3, i4, i5⟩ := loop_ex (fun i (t : (Nat → Nat → Int32) × (Nat → Nat → Nat)) => X 97 46 [.ref 0, .int (nI n), .int (psT i s.1), .int (nI i)] [] (H t.1 t.2))
    (fun i t => (∀ a, (a < o ∨ o + 51 ≤ a) → t.1 a = T1 a) ∧ (∀ a, a ≠ o + 8 → t.2 a = P a) ∧ CSu o t.1 t.2 (psU i s.1) ∧ WF (psU i s.1).1.1 (psU i s.1).1.2.1 (psU i s.1).2 (psU i s.1).1.2.2.1 ∧ (psU i s.1).1.1 0 = s.1.1.1 0 + i) n (T1, P) ⟨fun _ _ => rfl, fun _ _ => rfl, hc1, hw.1, rfl⟩ (by
      intro i ⟨U, Q⟩ hi ⟨j1, j2, j3, j4, j5⟩
      have j1 : ∀ a, (a < o ∨ o + 51 ≤ a) → U a = T1 a := j1
      have j2 : ∀ a, a ≠ o + 8 → Q a = P a := j2
      have j3 : CSu o U Q (psU i s.1) := j3
      have j4 : WF (psU i s.1).1.1 (psU i s.1).1.2.1 (psU i s.1).2 (psU i s.1).1.2.2.1 := j4
      have j5 : (psU i s.1).1.1 0 = s.1.1.1 0 + i := j5
      obtain ⟨U2, Q2, e3, f3, q3, c3⟩ := c_nextDay ho j3 j4
      have e3 : X 85 0 [.ref o] [] (H U Q) = some (some (.int (nI ((psU i s.1).2.length - (dyU (psU i s.1)).2.length))), H U2 Q2) := e3
      refine ⟨(U2, Q2), ?_, fun a ha => (f3 a ha).trans (j1 a ha), fun a ha => (q3 a ha).trans (j2 a ha), c3, WF_day j4 (show (psU i s.1).1.1 0 < 10100 by omega), ?_⟩
      · show X 97 46 [.ref 0, .int (nI n), .int (psT i s.1), .int (nI i)] [] (H U Q) = _
        rw [x97_46]
        simp +decide only [x97_0, x97_1, x97_2, x97_4, x97_7, x97_10, x97_12, x97_13, x97_14, x97_17, x97_20, x97_21, x97_22, x97_25, x97_28, x97_30, x97_31, x97_32, x97_35, x97_36, x97_39, x97_42, x97_43, x97_44, x97_45, x97_47, x97_48, x97_51, x97_52, x97_53, x97_56, x97_59, x97_60, x97_61, x97_64, x97_67, x97_68, aft_some, aft_void, Option.bind_some, Option.toList_some, Option.toList_none, List.cons_append, List.nil_append, if_true, if_false, ↓reduceIte, eq_self, z0_o, ↓z0_0, ↓z0_1, ↓z0_2, ↓z0_3, ↓z0_4, ↓z0_5, ↓z0_5p0, ↓z0_5p1, ↓z0n h1, f0_o ho, ↓f0_0 ho, ↓f0_0p ho, ↓f0_1 ho, ↓f0_1p ho, ↓f0_2 ho, ↓f0_2p ho, ↓f0_3 ho, ↓f0_3p ho, ↓f0_4 ho, ↓f0_5 ho, ↓f0_6 ho, ↓f0_7 ho, ↓f0_8 ho, ↓f0_9 ho, ↓f0_10 ho, ↓f0_11 ho, ↓f1_g ho, ↓f1_s ho, ↓f2_g ho, ↓f2_s ho, nI_lt hi (show n < 2 ^ 31 by omega), ↓aft_of (e3), nI_1, psT]
      · show (dyU (psU i s.1)).1.1 0 = _
        rw [dy_day, j5]; omega)
  have i1 : ∀ a, (a < o ∨ o + 51 ≤ a) → T2 a = T1 a := i1
  have i2 : ∀ a, a ≠ o + 8 → P2 a = P a := i2
  have i3 : CSu o T2 P2 (psU n s.1) := i3
  refine ⟨T2, P2, ?_, ?_⟩
  · simp +decide only [x97_0, x97_1, x97_2, x97_4, x97_7, x97_10, x97_12, x97_13, x97_14, x97_17, x97_20, x97_21, x97_22, x97_25, x97_28, x97_30, x97_31, x97_32, x97_35, x97_36, x97_39, x97_42, x97_43, x97_44, x97_45, x97_47, x97_48, x97_51, x97_52, x97_53, x97_56, x97_59, x97_60, x97_61, x97_64, x97_67, x97_68, aft_some, aft_void, Option.bind_some, Option.toList_some, Option.toList_none, List.cons_append, List.nil_append, if_true, if_false, ↓reduceIte, eq_self, z0_o, ↓z0_0, ↓z0_1, ↓z0_2, ↓z0_3, ↓z0_4, ↓z0_5, ↓z0_5p0, ↓z0_5p1, ↓z0n h1, f0_o ho, ↓f0_0 ho, ↓f0_0p ho, ↓f0_1 ho, ↓f0_1p ho, ↓f0_2 ho, ↓f0_2p ho, ↓f0_3 ho, ↓f0_3p ho, ↓f0_4 ho, ↓f0_5 ho, ↓f0_6 ho, ↓f0_7 ho, ↓f0_8 ho, ↓f0_9 ho, ↓f0_10 ho, ↓f0_11 ho, ↓f1_g ho, ↓f1_s ho, ↓f2_g ho, ↓f2_s ho, z154_o, ↓z154_0, ↓z154_1, ↓z154_1p, ↓z154_2, ↓z154_2p, ↓z155_g, ↓aft_of (c_within), c1, hd, c2, ↓aft_of (e1)]
    rw [show X 97 46 [.ref 0, .int (nI n), .int 0, .int 0] [] (H T1 P) = _ from e2, x97_46]
    simp +decide only [x97_0, x97_1, x97_2, x97_4, x97_7, x97_10, x97_12, x97_13, x97_14, x97_17, x97_20, x97_21, x97_22, x97_25, x97_28, x97_30, x97_31, x97_32, x97_35, x97_36, x97_39, x97_42, x97_43, x97_44, x97_45, x97_47, x97_48, x97_51, x97_52, x97_53, x97_56, x97_59, x97_60, x97_61, x97_64, x97_67, x97_68, aft_some, aft_void, Option.bind_some, Option.toList_some, Option.toList_none, List.cons_append, List.nil_append, if_true, if_false, ↓reduceIte, eq_self, z0_o, ↓z0_0, ↓z0_1, ↓z0_2, ↓z0_3, ↓z0_4, ↓z0_5, ↓z0_5p0, ↓z0_5p1, nI_nlt (Nat.le_refl n) (show n < 2 ^ 31 by omega)]
  · subst h1
    exact g1.now i3 ⟨i4, by omega⟩ (fun a ha => i1 a (by omega)) (fun a ha => i2 a (by omega))
end CL3
