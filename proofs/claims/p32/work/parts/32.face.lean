/-! the whole object: now, what is kept, the history, the text -/
abbrev gT : Type := uT × Option uT × List uT × (Nat × (Nat → Int32))
def KP (T : Nat → Nat → Int32) (P : Nat → Nat → Nat) : Option uT → Prop
  | none => T 0 5 = 0
  | some v => T 0 5 = 1 ∧ CSu 52 T P v ∧ WFu v
/-- what lies behind the class's own cells -/
def FE (EE T : Nat → Nat → Int32) : Prop := ∀ a, 366 ≤ a → T a = EE a
def TX (EE T : Nat → Nat → Int32) (t : Nat × (Nat → Int32)) : Prop := t.1 ≤ 60 ∧ T 360 1 = nI t.1 ∧ (∀ i, i < t.1 → T 361 i = t.2 i) ∧ FE EE T
def CG (EE T : Nat → Nat → Int32) (P : Nat → Nat → Nat) (s : gT) : Prop := PB P ∧ (CSu 1 T P s.1 ∧ WFu s.1) ∧ KP T P s.2.1 ∧ HI T P s.2.2.1 ∧ TX EE T s.2.2.2
abbrev psL (s : gT) : List uT := (s.1 :: s.2.2.1).take 4
section FC
variable {T U EE : Nat → Nat → Int32} {P Q : Nat → Nat → Nat} {o : Nat} {s : gT} {u : uT} {k : Option uT} {L : List uT}
theorem z0n (h : o = 1) {F : Value → Option (Option Value × List hC)} : (getF (H T P)[0]? 10 0).bind F = F (.ref o) := by
  rw [h]; exact z0_0
theorem z0k (h : o = 52) {F : Value → Option (Option Value × List hC)} : (getF (H T P)[0]? 10 1).bind F = F (.ref o) := by
  rw [h]; exact z0_1
theorem z0t (h : o = 103) {F : Value → Option (Option Value × List hC)} : (getF (H T P)[0]? 10 2).bind F = F (.ref o) := by
  rw [h]; exact z0_2
theorem KP.same (h : KP T P k) (h0 : U 0 = T 0) (hT : ∀ a, 52 ≤ a → a < 103 → U a = T a) (hP : Q 60 = P 60) : KP U Q k := by
  cases k with
  | none => show U 0 5 = 0; rw [h0]; exact h
  | some v =>
    obtain ⟨h1, h2, h3⟩ := h
    exact ⟨by rw [h0]; exact h1, CS.same h2 h3.1.1.2.2.2.1 (fun a ha hb => hT a ha hb) hP, h3⟩
theorem TX.same {t : Nat × (Nat → Int32)} (h : TX EE T t) (h1 : ∀ a, 360 ≤ a → U a = T a) : TX EE U t := by
  unfold TX; rw [h1 360 (by decide), h1 361 (by decide)]; exact ⟨h.1, h.2.1, h.2.2.1, fun a ha => (h1 a (by omega)).trans (h.2.2.2 a ha)⟩
theorem PB.at (h : PB P) {o : Nat} (h1 : ∀ a, a ≠ o + 8 → Q a = P a) (hk : PK Q o) (ho : isB o) : PB Q := by
  refine ⟨fun q hq => ?_, fun i hi => ?_⟩
  · by_cases e : q = o
    · subst e; exact hk
    · have := h.1 q hq
      unfold PK at this ⊢
      rw [h1 (q + 8) (by omega)]; exact this
  · rw [h1 155 (by rcases ho with rfl | rfl | rfl | rfl | rfl | rfl | rfl <;> decide)]; exact h.2 i hi
/-- only now changes -/
theorem CG.now (h : CG EE T P s) (hu : CSu 1 U Q u) (hw : WFu u) (hT : ∀ a, (a < 1 ∨ 52 ≤ a) → U a = T a) (hP : ∀ a, a ≠ 9 → Q a = P a) : CG EE U Q (u, s.2) := by
  obtain ⟨h1, h2, h3, h4, h5⟩ := h
  exact ⟨h1.at (o := 1) hP hu.pk isB_1, ⟨hu, hw⟩, h3.same (hT 0 (by decide)) (fun a ha _ => hT a (by omega)) (hP 60 (by decide)), h4.same (fun a ha _ => hT a (by omega)) (fun a ha _ => hP a (by omega)), h5.same (fun a ha => hT a (by omega))⟩
/-- only the trial changes -/
theorem CG.tri (h : CG EE T P s) (hk : PK Q 103) (hT : ∀ a, (a < 103 ∨ 154 ≤ a) → U a = T a) (hP : ∀ a, a ≠ 111 → Q a = P a) : CG EE U Q s := by
  obtain ⟨h1, h2, h3, h4, h5⟩ := h
  exact ⟨h1.at (o := 103) hP hk isB_103, ⟨CS.same h2.1 h2.2.1.1.2.2.2.1 (fun a h1 h2 => hT a (by omega)) (hP 9 (by decide)), h2.2⟩, h3.same (hT 0 (by decide)) (fun a ha _ => hT a (by omega)) (hP 60 (by decide)), h4.same (fun a ha _ => hT a (by omega)) (fun a ha _ => hP a (by omega)), h5.same (fun a ha => hT a (by omega))⟩
theorem CG.push (h1 : o = 1) (h : CG EE T P s) : ∃ T', X 49 0 [.ref 154, .ref o] [] (H T P) = some (none, H T' P) ∧ (∀ a, (a < 154 ∨ 360 ≤ a) → T' a = T a) ∧ CG EE T' P (s.1, s.2.1, psL s, s.2.2.2) := by
  subst h1
  obtain ⟨h1, h2, h3, h4, h5⟩ := h
  obtain ⟨T', e, f, c⟩ := c_push h1 h4 h2.1 h2.2
  exact ⟨T', e, f, h1, ⟨CS.same h2.1 h2.2.1.1.2.2.2.1 (fun a h1 h2 => f a (by omega)) rfl, h2.2⟩, h3.same (f 0 (by decide)) (fun a _ _ => f a (by omega)) rfl, c, h5.same (fun a ha => f a (by omega))⟩
/-! a customer -/
abbrev cuN (N : Nat → Nat) : Nat → Nat := upA N 1 (N 1 + 1)
abbrev cuV (N : Nat → Nat) (V : Nat → Nat → Int32) (d : Int32) : Nat → Nat → Int32 := up1 (up1 (up1 V 4 (N 1) d) 5 (N 1) 0) 6 (N 1) 0
abbrev cuU (u : uT) (d : Int32) : uT := ((cuN u.1.1, cuV u.1.1 u.1.2.1 d, u.1.2.2), u.2)
def gCust (d : Int32) (s : gT) : Int32 × gT := if inI d 0 4 = 0 then (-1, s) else if s.1.1.1 1 < 10 then (nI (s.1.1.1 1), (cuU s.1 d, s.2.1, psL s, s.2.2.2)) else (-3, s)
theorem inI_ex {d : Int32} {n : Nat} (hn : n < 2 ^ 31) (h : ¬ inI d 0 (nI n) = 0) : ∃ k, k ≤ n ∧ d = nI k := by
  unfold inI at h
  by_cases h1 : d < 0
  · rw [if_pos h1] at h; exact absurd rfl h
  · rw [if_neg h1] at h
    by_cases h2 : nI n < d
    · rw [if_pos h2] at h; exact absurd rfl h
    · obtain ⟨j, hj, rfl⟩ := nI_of h1
      refine ⟨j, ?_, rfl⟩
      rw [nI_ltp hn hj] at h2
      omega
theorem WF_cust {u : uT} (hw : WFu u) (h10 : u.1.1 1 < 10) {d : Nat} (hd : d < 5) : WFu (cuU u (nI d)) := by
  obtain ⟨⟨N, V, B, R⟩, K⟩ := u
  obtain ⟨⟨⟨a0, a1, a2, a3, a4, a5⟩, w2, w3, w4, w5, ⟨w6, w7, w8⟩, w9, w10⟩, wd⟩ := hw
  have h10 : N 1 < 10 := h10
  have n1 : cuN N 1 = N 1 + 1 := upA_s _ _ _
  have nn : ∀ j, j ≠ 1 → cuN N j = N j := fun j hj => upA_n _ _ hj
  have v4 : cuV N V (nI d) 4 = upA (V 4) (N 1) (nI d) := by simp +decide only [upA_s, u_n]
  have v6 : cuV N V (nI d) 6 = upA (V 6) (N 1) 0 := by simp +decide only [upA_s, u_n]
  have vn : ∀ r, r ≠ 4 → r ≠ 5 → r ≠ 6 → cuV N V (nI d) r = V r := fun r q4 q5 q6 => by simp only [upA_n _ _ q4, upA_n _ _ q5, upA_n _ _ q6]
  refine ⟨⟨⟨?_, ?_, ?_, a3, ?_, ?_⟩, ?_, ?_, ?_, ?_, ⟨?_, w7, ?_⟩, ?_, ?_⟩, ?_⟩
  · show cuN N 0 ≤ _; rw [nn 0 (by decide)]; exact a0
  · show cuN N 1 ≤ _; rw [n1]; omega
  · show cuN N 2 ≤ _; rw [nn 2 (by decide)]; exact a2
  · show cuN N 3 ≤ _; rw [nn 3 (by decide)]; exact a4
  · show cuN N 4 ≤ _; rw [nn 4 (by decide)]; exact a5
  · intro c hc
    show ∃ x, x < 5 ∧ cuV N V (nI d) 4 c = nI x
    have hc : c < cuN N 1 := hc
    rw [n1] at hc
    rw [v4]
    unfold upA
    by_cases hcn : c = N 1
    · rw [if_pos hcn]; exact ⟨d, hd, rfl⟩
    · rw [if_neg hcn]; exact w2 c (show c < N 1 by omega)
  · show (∃ d', d' < 3 ∧ cuV N V (nI d) 1 0 = nI d') ∧ (∃ g, 1 ≤ g ∧ g ≤ 60 ∧ cuV N V (nI d) 1 2 = nI g) ∧ ∃ m, m ≤ 20 ∧ cuV N V (nI d) 1 1 = nI m
    rw [vn 1 (by decide) (by decide) (by decide)]; exact w3
  · intro i b hb
    obtain ⟨⟨c, hc, ec⟩, x2, x3, x4⟩ := w4 i b hb
    refine ⟨⟨c, ?_, ec⟩, x2, ?_, x4⟩
    · show c < cuN N 1; rw [n1]; exact Nat.lt_succ_of_lt hc
    · show ∃ x, x < cuN N 2 ∧ _; rw [nn 2 (by decide)]; exact x3
  · show ∀ (i j : Nat) (b c : kT), i < j → K[i]? = some b → K[j]? = some c → ∃ x y, x < y ∧ y < cuN N 2 ∧ b 0 0 = nI x ∧ c 0 0 = nI y
    rw [nn 2 (by decide)]; exact w5
  · intro q hq
    show q.1 < cuN N 1 ∧ q.2.1 ≤ cuN N 0 ∧ cuN N 0 ≤ q.2.1 + 60 ∧ _
    rw [n1, nn 0 (by decide)]
    have := w6 q hq
    exact ⟨Nat.lt_succ_of_lt this.1, this.2⟩
  · show B.length + K.length ≤ cuN N 2; rw [nn 2 (by decide)]; exact w8
  · show ∀ i, i < cuN N 3 → ∃ k, k < 4 ∧ cuV N V (nI d) 46 i = nI k
    rw [nn 3 (by decide), vn 46 (by decide) (by decide) (by decide)]; exact w9
  · show cuV N V (nI d) 0 1 + smI (fun i => nhI (gK K i 2)) K.length + nI (allL B) = 60 + cuV N V (nI d) 0 2 - smI (cuV N V (nI d) 6) (cuN N 1)
    rw [n1, vn 0 (by decide) (by decide) (by decide), v6]
    have e : smI (upA (V 6) (N 1) 0) (N 1 + 1) = smI (V 6) (N 1) := by
      simp only [smI, upA_s]
      rw [smI_congr (g := V 6) (fun i hi => upA_n _ _ (by omega))]
      exact Int32.add_zero _
    rw [e]; exact w10
  · show cuN N 0 ≤ 9999; rw [nn 0 (by decide)]; exact wd
theorem g_cust (h1 : o = 1) (h : CG EE T P s) (d : Int32) : ∃ T', X 90 0 [.ref 0, .int d] [] (H T P) = some (some (.int (gCust d s).1), H T' P) ∧ CG EE T' P (gCust d s).2 := by
  have ho : isB o := by subst h1; exact isB_1
  unfold gCust
  by_cases c1 : inI d 0 4 = 0
  · rw [if_pos c1]
    refine ⟨T, ?_, h⟩
    simp +decide only [x90_0, x90_1, x90_2, x90_3, x90_6, x90_9, x90_10, x90_11, x90_12, x90_15, x90_18, x90_21, x90_23, x90_26, x90_28, x90_29, x90_30, x90_33, x90_34, x90_37, x90_40, x90_41, x90_44, x90_47, x90_48, x90_51, aft_some, aft_void, Option.bind_some, Option.toList_some, Option.toList_none, List.cons_append, List.nil_append, if_true, if_false, ↓reduceIte, eq_self, z0_o, ↓z0_0, ↓z0_1, ↓z0_2, ↓z0_3, ↓z0_4, ↓z0_5, ↓z0_5p0, ↓z0_5p1, ↓aft_of (c_within), c1]
  · rw [if_neg c1]
    obtain ⟨k, hk, rfl⟩ := inI_ex (n := 4) (by decide) c1
    have hc : CSu o T P s.1 := by subst h1; exact h.2.1.1
    have hcn : T (o + 3) 0 = nI (s.1.1.1 1) := hc.2.1.1
    have hN1 := h.2.1.2.1.1.2.1
    have c10 : (nI (s.1.1.1 1) < 10) = (s.1.1.1 1 < 10) := nI_ltp (a := s.1.1.1 1) (b := 10) (by omega) (by decide)
    by_cases c2 : s.1.1.1 1 < 10
    · rw [if_pos c2]
      obtain ⟨T1, e1, f1, g1⟩ := h.push h1
      have hc1 : CSu o T1 P s.1 := by subst h1; exact g1.2.1.1
      have hcn1 : T1 (o + 3) 0 = nI (s.1.1.1 1) := hc1.2.1.1
      obtain ⟨T2, e2, f2, a2, b2, b3, b4, b5⟩ := c_enter (P := P) (x := nI k) ho hcn1 c2
      refine ⟨T2, ?_, ?_⟩
      · simp +decide only [x90_0, x90_1, x90_2, x90_3, x90_6, x90_9, x90_10, x90_11, x90_12, x90_15, x90_18, x90_21, x90_23, x90_26, x90_28, x90_29, x90_30, x90_33, x90_34, x90_37, x90_40, x90_41, x90_44, x90_47, x90_48, x90_51, aft_some, aft_void, Option.bind_some, Option.toList_some, Option.toList_none, List.cons_append, List.nil_append, if_true, if_false, ↓reduceIte, eq_self, z0_o, ↓z0_0, ↓z0_1, ↓z0_2, ↓z0_3, ↓z0_4, ↓z0_5, ↓z0_5p0, ↓z0_5p1, ↓z0n h1, f0_o ho, ↓f0_0 ho, ↓f0_0p ho, ↓f0_1 ho, ↓f0_1p ho, ↓f0_2 ho, ↓f0_2p ho, ↓f0_3 ho, ↓f0_3p ho, ↓f0_4 ho, ↓f0_5 ho, ↓f0_6 ho, ↓f0_7 ho, ↓f0_8 ho, ↓f0_9 ho, ↓f0_10 ho, ↓f0_11 ho, ↓f1_g ho, ↓f1_s ho, ↓f2_g ho, ↓f2_s ho, f3_o ho, ↓f3_0 ho, ↓f3_0p ho, ↓f3_1 ho, ↓f3_2 ho, ↓f3_3 ho, ↓f4_g ho, ↓f4_s ho, ↓f5_g ho, ↓f5_s ho, ↓f6_g ho, ↓f6_s ho, z154_o, ↓z154_0, ↓z154_1, ↓z154_1p, ↓z154_2, ↓z154_2p, ↓z155_g, ↓aft_of (c_within), c1, hcn, c10, c2, ↓aft_of (e1), ↓aft_of (e2)]
      · refine g1.now ?_ (WF_cust h.2.1.2 c2 (by omega)) (fun a ha => ?_) (fun _ _ => rfl)
        · subst h1
          obtain ⟨⟨⟨N, V, B, R⟩, K⟩, sr⟩ := s
          obtain ⟨⟨k0, k1, k2, k00⟩, ⟨k3, k4, k5, k6⟩, ⟨kP, kn, kc, kK⟩, kB, kL, k48, kJ⟩ := hc1
          have hK8 : K.length ≤ 8 := h.2.1.2.1.1.2.2.2.1
          have n1 : cuN N 1 = N 1 + 1 := upA_s _ _ _
          have nn : ∀ j, j ≠ 1 → cuN N j = N j := fun j hj => upA_n _ _ hj
          have v4 : cuV N V (nI k) 4 = upA (V 4) (N 1) (nI k) := by simp +decide only [upA_s, u_n]
          have v5 : cuV N V (nI k) 5 = upA (V 5) (N 1) 0 := by simp +decide only [upA_s, u_n]
          have v6 : cuV N V (nI k) 6 = upA (V 6) (N 1) 0 := by simp +decide only [upA_s, u_n]
          have vn : ∀ r, r ≠ 4 → r ≠ 5 → r ≠ 6 → cuV N V (nI k) r = V r := fun r q4 q5 q6 => by simp only [upA_n _ _ q4, upA_n _ _ q5, upA_n _ _ q6]
          have hf : ∀ a, (a < 4 ∨ 7 < a) → T2 a = T1 a := fun a ha => f2 a (by omega) (by omega) (by omega) (by omega)
          show CS 1 T2 P (cuN N) (cuV N V (nI k)) K B R
          refine ⟨⟨?_, ?_, ?_, ?_⟩, ⟨?_, ?_, ?_, ?_⟩, ⟨kP, ?_, ?_, ?_⟩, kB.other (hf _ (by decide)) (hf _ (by decide)) (hf _ (by decide)) (hf _ (by decide)), ?_, ?_, ?_⟩
          · rw [hf _ (by decide), vn 0 (by decide) (by decide) (by decide)]; exact k0
          · rw [hf _ (by decide), vn 1 (by decide) (by decide) (by decide)]; exact k1
          · rw [hf _ (by decide), vn 2 (by decide) (by decide) (by decide)]; exact k2
          · rw [nn 0 (by decide), vn 0 (by decide) (by decide) (by decide)]; exact k00
          · rw [n1]; exact a2
          · rw [n1, v4]
            intro i hi
            unfold upA
            by_cases e : i = N 1
            · rw [if_pos e, e]; exact b3
            · rw [if_neg e, (b2 i (by show i < N 1; omega)).1]; exact k4 i (by show i < N 1; omega)
          · rw [n1, v5]
            intro i hi
            unfold upA
            by_cases e : i = N 1
            · rw [if_pos e, e]; exact b4
            · rw [if_neg e, (b2 i (by show i < N 1; omega)).2.1]; exact k5 i (by show i < N 1; omega)
          · rw [n1, v6]
            intro i hi
            unfold upA
            by_cases e : i = N 1
            · rw [if_pos e, e]; exact b5
            · rw [if_neg e, (b2 i (by show i < N 1; omega)).2.2]; exact k6 i (by show i < N 1; omega)
          · rw [hf _ (by decide)]; exact kn
          · rw [hf _ (by decide), nn 2 (by decide)]; exact kc
          · intro i b hb
            have hi : i < K.length := (List.getElem?_eq_some_iff.mp hb).1
            have hr := kP.rg (show i < 8 by omega)
            exact (kK i b hb).same (fun x hx => hf _ (by omega))
          · rw [nn 3 (by decide), vn 46 (by decide) (by decide) (by decide), vn 47 (by decide) (by decide) (by decide)]
            exact kL.same (hf _ (by decide)) (hf _ (by decide)) (hf _ (by decide))
          · rw [hf _ (by decide), vn 48 (by decide) (by decide) (by decide)]; exact k48
          · rw [nn 4 (by decide)]
            exact kJ.same (hf _ (by decide)) (hf _ (by decide))
        · exact f2 a (by omega) (by omega) (by omega) (by omega)
    · rw [if_neg c2]
      refine ⟨T, ?_, h⟩
      simp +decide only [x90_0, x90_1, x90_2, x90_3, x90_6, x90_9, x90_10, x90_11, x90_12, x90_15, x90_18, x90_21, x90_23, x90_26, x90_28, x90_29, x90_30, x90_33, x90_34, x90_37, x90_40, x90_41, x90_44, x90_47, x90_48, x90_51, aft_some, aft_void, Option.bind_some, Option.toList_some, Option.toList_none, List.cons_append, List.nil_append, if_true, if_false, ↓reduceIte, eq_self, z0_o, ↓z0_0, ↓z0_1, ↓z0_2, ↓z0_3, ↓z0_4, ↓z0_5, ↓z0_5p0, ↓z0_5p1, ↓z0n h1, f0_o ho, ↓f0_0 ho, ↓f0_0p ho, ↓f0_1 ho, ↓f0_1p ho, ↓f0_2 ho, ↓f0_2p ho, ↓f0_3 ho, ↓f0_3p ho, ↓f0_4 ho, ↓f0_5 ho, ↓f0_6 ho, ↓f0_7 ho, ↓f0_8 ho, ↓f0_9 ho, ↓f0_10 ho, ↓f0_11 ho, ↓f1_g ho, ↓f1_s ho, ↓f2_g ho, ↓f2_s ho, f3_o ho, ↓f3_0 ho, ↓f3_0p ho, ↓f3_1 ho, ↓f3_2 ho, ↓f3_3 ho, ↓f4_g ho, ↓f4_s ho, ↓f5_g ho, ↓f5_s ho, ↓f6_g ho, ↓f6_s ho, ↓aft_of (c_within), c1, hcn, c10, c2]
end FC
