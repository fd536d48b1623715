/-! the history -/
abbrev uT : Type := sT × List kT
abbrev CSu (o : Nat) (T : Nat → Nat → Int32) (P : Nat → Nat → Nat) (u : uT) : Prop := CSs o T P u.1 u.2
abbrev WFu (u : uT) : Prop := WF u.1.1 u.1.2.1 u.2 u.1.2.2.1 ∧ u.1.1 0 ≤ 9999
def PB (P : Nat → Nat → Nat) : Prop := (∀ o, isB o → PK P o) ∧ ∀ i, i < 4 → P 155 i = 156 + 51 * i
def HI (T : Nat → Nat → Int32) (P : Nat → Nat → Nat) (L : List uT) : Prop := L.length ≤ 4 ∧ T 154 1 = nI L.length ∧ ∃ l, l < 4 ∧ T 154 2 = nI l ∧ ∀ (g : Nat) (u : uT), L[g]? = some u → CSu (156 + 51 * ((l + 4 - g) % 4)) T P u ∧ WFu u
theorem isB_h {i : Nat} (h : i < 4) : isB (156 + 51 * i) := by
  unfold isB
  omega
theorem isB_1 : isB 1 := Or.inl rfl
theorem isB_52 : isB 52 := Or.inr (Or.inl rfl)
theorem isB_103 : isB 103 := Or.inr (Or.inr (Or.inl rfl))
section HS
variable {T U : Nat → Nat → Int32} {P Q : Nat → Nat → Nat} {o : Nat} {N : Nat → Nat} {V : Nat → Nat → Int32} {K : List kT} {B : List bT} {R : Nat → Nat → Int32} {u : uT} {L : List uT}
/-- a state that isn't touched -/
theorem CS.same (h : CS o T P N V K B R) (h8 : K.length ≤ 8) (hT : ∀ a, o ≤ a → a < o + 51 → U a = T a) (hP : Q (o + 8) = P (o + 8)) : CS o U Q N V K B R := by
  obtain ⟨⟨k0, k1, k2, k00⟩, ⟨k3, k4, k5, k6⟩, ⟨kP, kn, kc, kK⟩, kB, kL, k48, kJ⟩ := id h
  have hf : ∀ a, a < 51 → U (o + a) = T (o + a) := fun a ha => hT _ (by omega) (by omega)
  refine ⟨⟨?_, ?_, ?_, k00⟩, ⟨?_, ?_, ?_, ?_⟩, ⟨?_, ?_, ?_, ?_⟩, kB.other (hf 41 (by decide)) (hf 42 (by decide)) (hf 43 (by decide)) (hf 44 (by decide)), kL.same (hf 45 (by decide)) (hf 46 (by decide)) (hf 47 (by decide)), ?_, kJ.same (hf 49 (by decide)) (hf 50 (by decide))⟩
  · rw [hT o (by omega) (by omega)]; exact k0
  · rw [hf 1 (by decide)]; exact k1
  · rw [hf 2 (by decide)]; exact k2
  · rw [hf 3 (by decide)]; exact k3
  · rw [hf 4 (by decide)]; exact k4
  · rw [hf 5 (by decide)]; exact k5
  · rw [hf 6 (by decide)]; exact k6
  · unfold PK; rw [hP]; exact kP
  · rw [hf 7 (by decide)]; exact kn
  · rw [hf 7 (by decide)]; exact kc
  · intro i b hb
    have hi : i < K.length := (List.getElem?_eq_some_iff.mp hb).1
    have hr := kP.rg (show i < 8 by omega)
    rw [hP]
    exact (kK i b hb).same (fun x hx => hT _ (by omega) (by omega))
  · rw [hf 48 (by decide)]; exact k48
theorem HI.same (h : HI T P L) (hT : ∀ a, 154 ≤ a → a < 360 → U a = T a) (hP : ∀ a, 154 ≤ a → a < 360 → Q a = P a) : HI U Q L := by
  obtain ⟨h1, h2, l, hl, h3, h4⟩ := h
  refine ⟨h1, by rw [hT 154 (by decide) (by decide)]; exact h2, l, hl, by rw [hT 154 (by decide) (by decide)]; exact h3, fun g u hg => ?_⟩
  obtain ⟨c, w⟩ := h4 g u hg
  have hm : (l + 4 - g) % 4 < 4 := Nat.mod_lt _ (by decide)
  exact ⟨CS.same c w.1.1.2.2.2.1 (fun a h1 h2 => hT a (by omega) (by omega)) (hP _ (by omega) (by omega)), w⟩
theorem c_push (hp : PB P) (hH : HI T P L) (h : CSu 1 T P u) (hw : WFu u) : ∃ T', X 49 0 [.ref 154, .ref 1] [] (H T P) = some (none, H T' P) ∧ (∀ a, (a < 154 ∨ 360 ≤ a) → T' a = T a) ∧ HI T' P ((u :: L).take 4) := by
  obtain ⟨h1, h2, l, hl, h3, h4⟩ := hH
  have e1 : nI (l + 1) - nI (l + 1) / 4 * 4 = nI ((l + 1) % 4) := nI_modp (by omega) (by decide) (by decide)
  have hm : (l + 1) % 4 < 4 := Nat.mod_lt _ (by decide)
  obtain ⟨m, hmd⟩ : ∃ m, m = (l + 1) % 4 := ⟨_, rfl⟩
  rw [← hmd] at e1 hm
  have m1 : (if 4 < nI (L.length + 1) then (4 : Int32) else nI (L.length + 1)) = nI (min (L.length + 1) 4) := min_nI (a := L.length + 1) (b := 4) (by omega) (by decide)
  obtain ⟨T1, hT1⟩ : ∃ T1, T1 = up1 (up1 T 154 2 (nI m)) 154 1 (nI (min (L.length + 1) 4)) := ⟨_, rfl⟩
  have f1 : ∀ a, a ≠ 154 → T1 a = T a := fun a ha => by rw [hT1]; simp only [upA_n _ _ ha]
  have c1 : CSu 1 T1 P u := CS.same h hw.1.1.2.2.2.1 (fun a h1 h2 => f1 a (by omega)) rfl
  obtain ⟨T2, e2, f2, c2⟩ := c_stCopy (o := 156 + 51 * m) (q := 1) (isB_h hm) isB_1 (by omega) (hp.1 _ (isB_h hm)) c1 hw.1.1.2.1 hw.1.1.2.2.2.1
  have q1 : T2 154 = T1 154 := f2 154 (by omega)
  refine ⟨T2, ?_, fun a ha => ?_, ?_, ?_, m, hm, ?_, fun g v hg => ?_⟩
  · rw [hT1] at e2
    simp +decide only [x49_0, x49_1, x49_2, x49_5, x49_6, x49_7, x49_8, x49_9, x49_12, x49_13, x49_14, x49_17, x49_18, x49_19, x49_20, x49_23, x49_26, x49_27, x49_30, x49_31, x49_34, x49_35, x49_35N, x49_36, x49_39, aft_some, aft_void, Option.bind_some, Option.toList_some, Option.toList_none, List.cons_append, List.nil_append, if_true, if_false, ↓reduceIte, eq_self, z154_o, ↓z154_0, ↓z154_1, ↓z154_1p, ↓z154_2, ↓z154_2p, ↓z155_g, upA_s, u_oo, u_o0, u_0o, u_n, h2, h3, nI_1, e1, m1, okx_nI hm (show (4 : Nat) < 2 ^ 31 by decide), nI_clamp (show m < 2 ^ 31 by omega), hp.2 m hm, f0_o (isB_h hm), ↓f0_0 (isB_h hm), ↓f0_0p (isB_h hm), ↓f0_1 (isB_h hm), ↓f0_1p (isB_h hm), ↓f0_2 (isB_h hm), ↓f0_2p (isB_h hm), ↓f0_3 (isB_h hm), ↓f0_3p (isB_h hm), ↓f0_4 (isB_h hm), ↓f0_5 (isB_h hm), ↓f0_6 (isB_h hm), ↓f0_7 (isB_h hm), ↓f0_8 (isB_h hm), ↓f0_9 (isB_h hm), ↓f0_10 (isB_h hm), ↓f0_11 (isB_h hm), ↓f1_g (isB_h hm), ↓f1_s (isB_h hm), ↓f2_g (isB_h hm), ↓f2_s (isB_h hm), ↓aft_of (e2)]
  · rw [f2 a (by omega), f1 a (by omega)]
  · rw [List.length_take]; exact Nat.min_le_left _ _
  · rw [q1, hT1, List.length_take, List.length_cons, Nat.min_comm]; simp only [upA_s]
  · rw [q1, hT1]; simp +decide only [upA_s, u_n]
  · have hg4 : g < 4 := by
      have := (List.getElem?_eq_some_iff.mp hg).1
      rw [List.length_take] at this; omega
    rw [List.getElem?_take_of_lt hg4] at hg
    cases g with
    | zero =>
      cases hg
      rw [show (m + 4 - 0) % 4 = m by omega]
      exact ⟨c2, hw⟩
    | succ g =>
      rw [List.getElem?_cons_succ] at hg
      obtain ⟨c, w⟩ := h4 g v hg
      have hr : (m + 4 - (g + 1)) % 4 = (l + 4 - g) % 4 := by omega
      rw [hr]
      have hne : (l + 4 - g) % 4 ≠ m := by omega
      have hlt : (l + 4 - g) % 4 < 4 := Nat.mod_lt _ (by decide)
      exact ⟨CS.same c w.1.1.2.2.2.1 (fun a h1 h2 => by rw [f2 a (by omega), f1 a (by omega)]) rfl, w⟩
theorem c_pop (hp : PB P) (hH : HI T P (u :: L)) : ∃ T', X 50 0 [.ref 154, .ref 1] [] (H T P) = some (none, H T' P) ∧ (∀ a, a < 1 ∨ (52 ≤ a ∧ a ≠ 154) → T' a = T a) ∧ CSu 1 T' P u ∧ WFu u ∧ HI T' P L := by
  obtain ⟨h1, h2, l, hl, h3, h4⟩ := hH
  rw [List.length_cons] at h1 h2
  obtain ⟨c, w⟩ := h4 0 u rfl
  rw [show (l + 4 - 0) % 4 = l by omega] at c
  obtain ⟨T2, e2, f2, c2⟩ := c_stCopy (o := 1) (q := 156 + 51 * l) isB_1 (isB_h hl) (by omega) (hp.1 _ isB_1) c w.1.1.2.1 w.1.1.2.2.2.1
  have q1 : T2 154 = T 154 := f2 154 (by omega)
  have h22 : T2 154 1 = nI (L.length + 1) := by rw [q1]; exact h2
  have h33 : T2 154 2 = nI l := by rw [q1]; exact h3
  have e0 : nI l + 4 = nI (l + 4) := nI_add _ 4
  have e00 : nI (l + 4) - 1 = nI (l + 3) := nI_sub (a := l + 4) (b := 1) (by omega)
  have e1 : nI (l + 3) - nI (l + 3) / 4 * 4 = nI ((l + 3) % 4) := nI_modp (by omega) (by decide) (by decide)
  have e5 : nI (L.length + 1) - 1 = nI L.length := nI_sub (a := L.length + 1) (b := 1) (by omega)
  have hm : (l + 3) % 4 < 4 := Nat.mod_lt _ (by decide)
  refine ⟨up1 (up1 T2 154 2 (nI ((l + 3) % 4))) 154 1 (nI L.length), ?_, fun a ha => ?_, ?_, w, ?_, ?_, (l + 3) % 4, hm, ?_, fun g v hg => ?_⟩
  · simp +decide only [x50_0, x50_0N, x50_1, x50_2, x50_5, x50_6, x50_9, x50_10, x50_13, x50_14, x50_15, x50_18, x50_19, x50_20, x50_21, x50_22, x50_23, x50_24, x50_27, x50_28, x50_29, x50_32, x50_33, x50_34, x50_37, aft_some, aft_void, Option.bind_some, Option.toList_some, Option.toList_none, List.cons_append, List.nil_append, if_true, if_false, ↓reduceIte, eq_self, z154_o, ↓z154_0, ↓z154_1, ↓z154_1p, ↓z154_2, ↓z154_2p, ↓z155_g, upA_s, u_oo, u_o0, u_0o, u_n, h2, h3, h22, h33, nI_1, e0, e00, e1, e5, okx_nI hl (show (4 : Nat) < 2 ^ 31 by decide), nI_clamp (show l < 2 ^ 31 by omega), hp.2 l hl, f0_o isB_1, ↓f0_0 isB_1, ↓f0_0p isB_1, ↓f0_1 isB_1, ↓f0_1p isB_1, ↓f0_2 isB_1, ↓f0_2p isB_1, ↓f0_3 isB_1, ↓f0_3p isB_1, ↓f0_4 isB_1, ↓f0_5 isB_1, ↓f0_6 isB_1, ↓f0_7 isB_1, ↓f0_8 isB_1, ↓f0_9 isB_1, ↓f0_10 isB_1, ↓f0_11 isB_1, ↓f1_g isB_1, ↓f1_s isB_1, ↓f2_g isB_1, ↓f2_s isB_1, ↓aft_of (e2)]
  · simp only [upA_n _ _ (show a ≠ 154 by omega)]
    exact f2 a (by omega)
  · exact CS.same c2 w.1.1.2.2.2.1 (fun a h1 h2 => by simp only [upA_n _ _ (show a ≠ 154 by omega)]) rfl
  · omega
  · simp only [upA_s]
  · simp +decide only [upA_s, u_n]
  · have hgl := (List.getElem?_eq_some_iff.mp hg).1
    obtain ⟨c, w⟩ := h4 (g + 1) v (by rw [List.getElem?_cons_succ]; exact hg)
    rw [show ((l + 3) % 4 + 4 - g) % 4 = (l + 4 - (g + 1)) % 4 by omega]
    have hlt : (l + 4 - (g + 1)) % 4 < 4 := Nat.mod_lt _ (by decide)
    exact ⟨CS.same c w.1.1.2.2.2.1 (fun a h1 h2 => by simp only [upA_n _ _ (show a ≠ 154 by omega)]; exact f2 a (by omega)) rfl, w⟩
end HS
