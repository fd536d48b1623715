section
/-! the history -/
abbrev uT : Type := sT × List kT
abbrev CSu (o : Nat) (T : Nat → Nat → Int32) (P : Nat → Nat → Nat) (u : uT) : Prop := CSs o T P u.1 u.2
abbrev WFu (u : uT) : Prop := WF u.1.1 u.1.2.1 u.2 u.1.2.2.1 ∧ u.1.1 0 ≤ 9999
def PB (P : Nat → Nat → Nat) : Prop := (∀ o, isB o → PK P o) ∧ ∀ i, i < 4 → P 155 i = 156 + 51 * i
def HI (T : Nat → Nat → Int32) (P : Nat → Nat → Nat) (L : List uT) : Prop := L.length ≤ 4 ∧ T 154 1 = nI L.length ∧ ∃ l, l < 4 ∧ T 154 2 = nI l ∧ ∀ (g : Nat) (u : uT), L[g]? = some u → CSu (156 + 51 * ((l + 4 - g) % 4)) T P u ∧ WFu u
theorem isB_h {i : Nat} (h : i < 4) : isB (156 + 51 * i) := by
  unfold isB
  omega
theorem isB_1 : isB 1 := Or.inl rfl
theorem isB_52 : isB 52 := Or.inr (Or.inl rfl)
theorem isB_103 : isB 103 := Or.inr (Or.inr (Or.inl rfl))
section HS
variable {T U : Nat → Nat → Int32} {P Q : Nat → Nat → Nat} {o : Nat} {N : Nat → Nat} {V : Nat → Nat → Int32} {K : List kT} {B : List bT} {R : Nat → Nat → Int32} {u : uT} {L : List uT}
/-- a state that isn't touched -/
theorem CS.same (h : CS o T P N V K B R) (h8 : K.length ≤ 8) (hT : ∀ a, o ≤ a → a < o + 51 → U a = T a) (hP : Q (o + 8) = P (o + 8)) : CS o U Q N V K B R := by
  obtain ⟨⟨k0, k1, k2, k00⟩, ⟨k3, k4, k5, k6⟩, ⟨kP, kn, kc, kK⟩, kB, kL, k48, kJ⟩ := id h
  have hf : ∀ a, a < 51 → U (o + a) = T (o + a) := fun a ha => hT _ (by omega) (by omega)
  refine ⟨⟨?_, ?_, ?_, k00⟩, ⟨?_, ?_, ?_, ?_⟩, ⟨?_, ?_, ?_, ?_⟩, kB.other (hf 41 (by decide)) (hf 42 (by decide)) (hf 43 (by decide)) (hf 44 (by decide)), kL.same (hf 45 (by decide)) (hf 46 (by decide)) (hf 47 (by decide)), ?_, kJ.same (hf 49 (by decide)) (hf 50 (by decide))⟩
  · rw [hT o (by omega) (by omega)]; exact k0
  · rw [hf 1 (by decide)]; exact k1
  · rw [hf 2 (by decide)]; exact k2
  · rw [hf 3 (by decide)]; exact k3
  · rw [hf 4 (by decide)]; exact k4
  · rw [hf 5 (by decide)]; exact k5
  · rw [hf 6 (by decide)]; exact k6
  · unfold PK; rw [hP]; exact kP
  · rw [hf 7 (by decide)]; exact kn
  · rw [hf 7 (by decide)]; exact kc
  · intro i b hb
    have hi : i < K.length := (List.getElem?_eq_some_iff.mp hb).1
    have hr := kP.rg (show i < 8 by omega)
    rw [hP]
    exact (kK i b hb).same (fun x hx => hT _ (by omega) (by omega))
  · rw [hf 48 (by decide)]; exact k48
theorem HI.same (h : HI T P L) (hT : ∀ a, 154 ≤ a → a < 360 → U a = T a) (hP : ∀ a, 154 ≤ a → a < 360 → Q a = P a) : HI U Q L := by
  obtain ⟨h1, h2, l, hl, h3, h4⟩ := h
  refine ⟨h1, by rw [hT 154 (by decide) (by decide)]; exact h2, l, hl, by rw [hT 154 (by decide) (by decide)]; exact h3, fun g u hg => ?_⟩
  obtain ⟨c, w⟩ := h4 g u hg
  have hm : (l + 4 - g) % 4 < 4 := Nat.mod_lt _ (by decide)
  exact ⟨CS.same c w.1.1.2.2.2.1 (fun a h1 h2 => hT a (by omega) (by omega)) (hP _ (by omega) (by omega)), w⟩
theorem c_push (hp : PB P) (hH : HI T P L) (h : CSu 1 T P u) (hw : WFu u) : ∃ T', X 49 0 [.ref 154, .ref 1] [] (H T P) = some (none, H T' P) ∧ (∀ a, (a < 154 ∨ 360 ≤ a) → T' a = T a) ∧ HI T' P ((u :: L).take 4) := by
  obtain ⟨h1, h2, l, hl, h3, h4⟩ := hH
  have e1 : nI (l + 1) - nI (l + 1) / 4 * 4 = nI ((l + 1) % 4) := nI_modp (by omega) (by decide) (by decide)
  have hm : (l + 1) % 4 < 4 := Nat.mod_lt _ (by decide)
  obtain ⟨m, hmd⟩ : ∃ m, m = (l + 1) % 4 := ⟨_, rfl⟩
  rw [← hmd] at e1 hm
  have m1 : (if 4 < nI (L.length + 1) then (4 : Int32) else nI (L.length + 1)) = nI (min (L.length + 1) 4) := min_nI (a := L.length + 1) (b := 4) (by omega) (by decide)
  obtain ⟨T1, hT1⟩ : ∃ T1, T1 = up1 (up1 T 154 2 (nI m)) 154 1 (nI (min (L.length + 1) 4)) := ⟨_, rfl⟩
  have f1 : ∀ a, a ≠ 154 → T1 a = T a := fun a ha => by rw [hT1]; simp only [upA_n _ _ ha]
  have c1 : CSu 1 T1 P u := CS.same h hw.1.1.2.2.2.1 (fun a h1 h2 => f1 a (by omega)) rfl
  obtain ⟨T2, e2, f2, c2⟩ := c_stCopy (o := 156 + 51 * m) (q := 1) (isB_h hm) isB_1 (by omega) (hp.1 _ (isB_h hm)) c1 hw.1.1.2.1 hw.1.1.2.2.2.1
  have q1 : T2 154 = T1 154 := f2 154 (by omega)
  refine ⟨T2, ?_, fun a ha => ?_, ?_, ?_, m, hm, ?_, fun g v hg => ?_⟩
  · rw [hT1] at e2
    simp +decide only [x49_0, x49_1, x49_2, x49_5, x49_6, x49_7, x49_8, x49_9, x49_12, x49_13, x49_14, x49_17, x49_18, x49_19, x49_20, x49_23, x49_26, x49_27, x49_30, x49_31, x49_34, x49_35, x49_35N, x49_36, x49_39, aft_some, aft_void, Option.bind_some, Option.toList_some, Option.toList_none, List.cons_append, List.nil_append, if_true, if_false, ↓reduceIte, eq_self, z154_o, ↓z154_0, ↓z154_1, ↓z154_1p, ↓z154_2, ↓z154_2p, ↓z155_g, upA_s, u_oo, u_o0, u_0o, u_n, h2, h3, nI_1, e1, m1, okx_nI hm (show (4 : Nat) < 2 ^ 31 by decide), nI_clamp (show m < 2 ^ 31 by omega), hp.2 m hm, f0_o (isB_h hm), ↓f0_0 (isB_h hm), ↓f0_0p (isB_h hm), ↓f0_1 (isB_h hm), ↓f0_1p (isB_h hm), ↓f0_2 (isB_h hm), ↓f0_2p (isB_h hm), ↓f0_3 (isB_h hm), ↓f0_3p (isB_h hm), ↓f0_4 (isB_h hm), ↓f0_5 (isB_h hm), ↓f0_6 (isB_h hm), ↓f0_7 (isB_h hm), ↓f0_8 (isB_h hm), ↓f0_9 (isB_h hm), ↓f0_10 (isB_h hm), ↓f0_11 (isB_h hm), ↓f1_g (isB_h hm), ↓f1_s (isB_h hm), ↓f2_g (isB_h hm), ↓f2_s (isB_h hm), ↓aft_of (e2)]
  · rw [f2 a (by omega), f1 a (by omega)]
  · rw [List.length_take]; exact Nat.min_le_left _ _
  · rw [q1, hT1, List.length_take, List.length_cons, Nat.min_comm]; simp only [upA_s]
  · rw [q1, hT1]; simp +decide only [upA_s, u_n]
  · have hg4 : g < 4 := by
      have := (List.getElem?_eq_some_iff.mp hg).1
      rw [List.length_take] at this; omega
    rw [List.getElem?_take_of_lt hg4] at hg
    cases g with
    | zero =>
      cases hg
      rw [show (m + 4 - 0) % 4 = m by omega]
      exact ⟨c2, hw⟩
    | succ g =>
      rw [List.getElem?_cons_succ] at hg
      obtain ⟨c, w⟩ := h4 g v hg
      have hr : (m + 4 - (g + 1)) % 4 = (l + 4 - g) % 4 := by omega
      rw [hr]
      have hne : (l + 4 - g) % 4 ≠ m := by omega
      have hlt : (l + 4 - g) % 4 < 4 := Nat.mod_lt _ (by decide)
      exact ⟨CS.same c w.1.1.2.2.2.1 (fun a h1 h2 => by rw [f2 a (by omega), f1 a (by omega)]) rfl, w⟩
theorem c_pop (hp : PB P) (hH : HI T P (u :: L)) : ∃ T', X 50 0 [.ref 154, .ref 1] [] (H T P) = some (none, H T' P) ∧ (∀ a, a < 1 ∨ (52 ≤ a ∧ a ≠ 154) → T' a = T a) ∧ CSu 1 T' P u ∧ WFu u ∧ HI T' P L := by
  obtain ⟨h1, h2, l, hl, h3, h4⟩ := hH
  rw [List.length_cons] at h1 h2
  obtain ⟨c, w⟩ := h4 0 u rfl
  rw [show (l + 4 - 0) % 4 = l by omega] at c
  obtain ⟨T2, e2, f2, c2⟩ := c_stCopy (o := 1) (q := 156 + 51 * l) isB_1 (isB_h hl) (by omega) (hp.1 _ isB_1) c w.1.1.2.1 w.1.1.2.2.2.1
  have q1 : T2 154 = T 154 := f2 154 (by omega)
  have h22 : T2 154 1 = nI (L.length + 1) := by rw [q1]; exact h2
  have h33 : T2 154 2 = nI l := by rw [q1]; exact h3
  have e0 : nI l + 4 = nI (l + 4) := nI_add _ 4
  have e00 : nI (l + 4) - 1 = nI (l + 3) := nI_sub (a := l + 4) (b := 1) (by omega)
  have e1 : nI (l + 3) - nI (l + 3) / 4 * 4 = nI ((l + 3) % 4) := nI_modp (by omega) (by decide) (by decide)
  have e5 : nI (L.length + 1) - 1 = nI L.length := nI_sub (a := L.length + 1) (b := 1) (by omega)
  have hm : (l + 3) % 4 < 4 := Nat.mod_lt _ (by decide)
  refine ⟨up1 (up1 T2 154 2 (nI ((l + 3) % 4))) 154 1 (nI L.length), ?_, fun a ha => ?_, ?_, w, ?_, ?_, (l + 3) % 4, hm, ?_, fun g v hg => ?_⟩
  · simp +decide only [x50_0, x50_0N, x50_1, x50_2, x50_5, x50_6, x50_9, x50_10, x50_13, x50_14, x50_15, x50_18, x50_19, x50_20, x50_21, x50_22, x50_23, x50_24, x50_27, x50_28, x50_29, x50_32, x50_33, x50_34, x50_37, aft_some, aft_void, Option.bind_some, Option.toList_some, Option.toList_none, List.cons_append, List.nil_append, if_true, if_false, ↓reduceIte, eq_self, z154_o, ↓z154_0, ↓z154_1, ↓z154_1p, ↓z154_2, ↓z154_2p, ↓z155_g, upA_s, u_oo, u_o0, u_0o, u_n, h2, h3, h22, h33, nI_1, e0, e00, e1, e5, okx_nI hl (show (4 : Nat) < 2 ^ 31 by decide), nI_clamp (show l < 2 ^ 31 by omega), hp.2 l hl, f0_o isB_1, ↓f0_0 isB_1, ↓f0_0p isB_1, ↓f0_1 isB_1, ↓f0_1p isB_1, ↓f0_2 isB_1, ↓f0_2p isB_1, ↓f0_3 isB_1, ↓f0_3p isB_1, ↓f0_4 isB_1, ↓f0_5 isB_1, ↓f0_6 isB_1, ↓f0_7 isB_1, ↓f0_8 isB_1, ↓f0_9 isB_1, ↓f0_10 isB_1, ↓f0_11 isB_1, ↓f1_g isB_1, ↓f1_s isB_1, ↓f2_g isB_1, ↓f2_s isB_1, ↓aft_of (e2)]
  · simp only [upA_n _ _ (show a ≠ 154 by omega)]
    exact f2 a (by omega)
  · exact CS.same c2 w.1.1.2.2.2.1 (fun a h1 h2 => by simp only [upA_n _ _ (show a ≠ 154 by omega)]) rfl
  · omega
  · simp only [upA_s]
  · simp +decide only [upA_s, u_n]
  · have hgl := (List.getElem?_eq_some_iff.mp hg).1
    obtain ⟨c, w⟩ := h4 (g + 1) v (by rw [List.getElem?_cons_succ]; exact hg)
    rw [show ((l + 3) % 4 + 4 - g) % 4 = (l + 4 - (g + 1)) % 4 by omega]
    have hlt : (l + 4 - (g + 1)) % 4 < 4 := Nat.mod_lt _ (by decide)
    exact ⟨CS.same c w.1.1.2.2.2.1 (fun a h1 h2 => by simp only [upA_n _ _ (show a ≠ 154 by omega)]; exact f2 a (by omega)) rfl, w⟩
end HS
end
section
/-! the whole object: now, what is kept, the history, the text -/
abbrev gT : Type := uT × Option uT × List uT × (Nat × (Nat → Int32))
def KP (T : Nat → Nat → Int32) (P : Nat → Nat → Nat) : Option uT → Prop
  | none => T 0 5 = 0
  | some v => T 0 5 = 1 ∧ CSu 52 T P v ∧ WFu v
/-- what lies behind the class's own cells -/
def FE (EE T : Nat → Nat → Int32) : Prop := ∀ a, 366 ≤ a → T a = EE a
def TX (EE T : Nat → Nat → Int32) (t : Nat × (Nat → Int32)) : Prop := t.1 ≤ 60 ∧ T 360 1 = nI t.1 ∧ (∀ i, i < t.1 → T 361 i = t.2 i) ∧ FE EE T
def CG (EE T : Nat → Nat → Int32) (P : Nat → Nat → Nat) (s : gT) : Prop := PB P ∧ (CSu 1 T P s.1 ∧ WFu s.1) ∧ KP T P s.2.1 ∧ HI T P s.2.2.1 ∧ TX EE T s.2.2.2
abbrev psL (s : gT) : List uT := (s.1 :: s.2.2.1).take 4
section FC
variable {T U EE : Nat → Nat → Int32} {P Q : Nat → Nat → Nat} {o : Nat} {s : gT} {u : uT} {k : Option uT} {L : List uT}
theorem z0n (h : o = 1) {F : Value → Option (Option Value × List hC)} : (getF (H T P)[0]? 10 0).bind F = F (.ref o) := by
  rw [h]; exact z0_0
theorem z0k (h : o = 52) {F : Value → Option (Option Value × List hC)} : (getF (H T P)[0]? 10 1).bind F = F (.ref o) := by
  rw [h]; exact z0_1
theorem z0t (h : o = 103) {F : Value → Option (Option Value × List hC)} : (getF (H T P)[0]? 10 2).bind F = F (.ref o) := by
  rw [h]; exact z0_2
theorem KP.same (h : KP T P k) (h0 : U 0 = T 0) (hT : ∀ a, 52 ≤ a → a < 103 → U a = T a) (hP : Q 60 = P 60) : KP U Q k := by
  cases k with
  | none => show U 0 5 = 0; rw [h0]; exact h
  | some v =>
    obtain ⟨h1, h2, h3⟩ := h
    exact ⟨by rw [h0]; exact h1, CS.same h2 h3.1.1.2.2.2.1 (fun a ha hb => hT a ha hb) hP, h3⟩
theorem TX.same {t : Nat × (Nat → Int32)} (h : TX EE T t) (h1 : ∀ a, 360 ≤ a → U a = T a) : TX EE U t := by
  unfold TX; rw [h1 360 (by decide), h1 361 (by decide)]; exact ⟨h.1, h.2.1, h.2.2.1, fun a ha => (h1 a (by omega)).trans (h.2.2.2 a ha)⟩
theorem PB.at (h : PB P) {o : Nat} (h1 : ∀ a, a ≠ o + 8 → Q a = P a) (hk : PK Q o) (ho : isB o) : PB Q := by
  refine ⟨fun q hq => ?_, fun i hi => ?_⟩
  · by_cases e : q = o
    · subst e; exact hk
    · have := h.1 q hq
      unfold PK at this ⊢
      rw [h1 (q + 8) (by omega)]; exact this
  · rw [h1 155 (by rcases ho with rfl | rfl | rfl | rfl | rfl | rfl | rfl <;> decide)]; exact h.2 i hi
/-- only now changes -/
theorem CG.now (h : CG EE T P s) (hu : CSu 1 U Q u) (hw : WFu u) (hT : ∀ a, (a < 1 ∨ 52 ≤ a) → U a = T a) (hP : ∀ a, a ≠ 9 → Q a = P a) : CG EE U Q (u, s.2) := by
  obtain ⟨h1, h2, h3, h4, h5⟩ := h
  exact ⟨h1.at (o := 1) hP hu.pk isB_1, ⟨hu, hw⟩, h3.same (hT 0 (by decide)) (fun a ha _ => hT a (by omega)) (hP 60 (by decide)), h4.same (fun a ha _ => hT a (by omega)) (fun a ha _ => hP a (by omega)), h5.same (fun a ha => hT a (by omega))⟩
/-- only the trial changes -/
theorem CG.tri (h : CG EE T P s) (hk : PK Q 103) (hT : ∀ a, (a < 103 ∨ 154 ≤ a) → U a = T a) (hP : ∀ a, a ≠ 111 → Q a = P a) : CG EE U Q s := by
  obtain ⟨h1, h2, h3, h4, h5⟩ := h
  exact ⟨h1.at (o := 103) hP hk isB_103, ⟨CS.same h2.1 h2.2.1.1.2.2.2.1 (fun a h1 h2 => hT a (by omega)) (hP 9 (by decide)), h2.2⟩, h3.same (hT 0 (by decide)) (fun a ha _ => hT a (by omega)) (hP 60 (by decide)), h4.same (fun a ha _ => hT a (by omega)) (fun a ha _ => hP a (by omega)), h5.same (fun a ha => hT a (by omega))⟩
theorem CG.push (h1 : o = 1) (h : CG EE T P s) : ∃ T', X 49 0 [.ref 154, .ref o] [] (H T P) = some (none, H T' P) ∧ (∀ a, (a < 154 ∨ 360 ≤ a) → T' a = T a) ∧ CG EE T' P (s.1, s.2.1, psL s, s.2.2.2) := by
  subst h1
  obtain ⟨h1, h2, h3, h4, h5⟩ := h
  obtain ⟨T', e, f, c⟩ := c_push h1 h4 h2.1 h2.2
  exact ⟨T', e, f, h1, ⟨CS.same h2.1 h2.2.1.1.2.2.2.1 (fun a h1 h2 => f a (by omega)) rfl, h2.2⟩, h3.same (f 0 (by decide)) (fun a _ _ => f a (by omega)) rfl, c, h5.same (fun a ha => f a (by omega))⟩
/-! a customer -/
abbrev cuN (N : Nat → Nat) : Nat → Nat := upA N 1 (N 1 + 1)
abbrev cuV (N : Nat → Nat) (V : Nat → Nat → Int32) (d : Int32) : Nat → Nat → Int32 := up1 (up1 (up1 V 4 (N 1) d) 5 (N 1) 0) 6 (N 1) 0
abbrev cuU (u : uT) (d : Int32) : uT := ((cuN u.1.1, cuV u.1.1 u.1.2.1 d, u.1.2.2), u.2)
def gCust (d : Int32) (s : gT) : Int32 × gT := if inI d 0 4 = 0 then (-1, s) else if s.1.1.1 1 < 10 then (nI (s.1.1.1 1), (cuU s.1 d, s.2.1, psL s, s.2.2.2)) else (-3, s)
theorem inI_ex {d : Int32} {n : Nat} (hn : n < 2 ^ 31) (h : ¬ inI d 0 (nI n) = 0) : ∃ k, k ≤ n ∧ d = nI k := by
  unfold inI at h
  by_cases h1 : d < 0
  · rw [if_pos h1] at h; exact absurd rfl h
  · rw [if_neg h1] at h
    by_cases h2 : nI n < d
    · rw [if_pos h2] at h; exact absurd rfl h
    · obtain ⟨j, hj, rfl⟩ := nI_of h1
      refine ⟨j, ?_, rfl⟩
      rw [nI_ltp hn hj] at h2
      omega
theorem WF_cust {u : uT} (hw : WFu u) (h10 : u.1.1 1 < 10) {d : Nat} (hd : d < 5) : WFu (cuU u (nI d)) := by
  obtain ⟨⟨N, V, B, R⟩, K⟩ := u
  obtain ⟨⟨⟨a0, a1, a2, a3, a4, a5⟩, w2, w3, w4, w5, ⟨w6, w7, w8⟩, w9, w10⟩, wd⟩ := hw
  have h10 : N 1 < 10 := h10
  have n1 : cuN N 1 = N 1 + 1 := upA_s _ _ _
  have nn : ∀ j, j ≠ 1 → cuN N j = N j := fun j hj => upA_n _ _ hj
  have v4 : cuV N V (nI d) 4 = upA (V 4) (N 1) (nI d) := by simp +decide only [upA_s, u_n]
  have v6 : cuV N V (nI d) 6 = upA (V 6) (N 1) 0 := by simp +decide only [upA_s, u_n]
  have vn : ∀ r, r ≠ 4 → r ≠ 5 → r ≠ 6 → cuV N V (nI d) r = V r := fun r q4 q5 q6 => by simp only [upA_n _ _ q4, upA_n _ _ q5, upA_n _ _ q6]
  refine ⟨⟨⟨?_, ?_, ?_, a3, ?_, ?_⟩, ?_, ?_, ?_, ?_, ⟨?_, w7, ?_⟩, ?_, ?_⟩, ?_⟩
  · show cuN N 0 ≤ _; rw [nn 0 (by decide)]; exact a0
  · show cuN N 1 ≤ _; rw [n1]; omega
  · show cuN N 2 ≤ _; rw [nn 2 (by decide)]; exact a2
  · show cuN N 3 ≤ _; rw [nn 3 (by decide)]; exact a4
  · show cuN N 4 ≤ _; rw [nn 4 (by decide)]; exact a5
  · intro c hc
    show ∃ x, x < 5 ∧ cuV N V (nI d) 4 c = nI x
    have hc : c < cuN N 1 := hc
    rw [n1] at hc
    rw [v4]
    unfold upA
    by_cases hcn : c = N 1
    · rw [if_pos hcn]; exact ⟨d, hd, rfl⟩
    · rw [if_neg hcn]; exact w2 c (show c < N 1 by omega)
  · show (∃ d', d' < 3 ∧ cuV N V (nI d) 1 0 = nI d') ∧ (∃ g, 1 ≤ g ∧ g ≤ 60 ∧ cuV N V (nI d) 1 2 = nI g) ∧ ∃ m, m ≤ 20 ∧ cuV N V (nI d) 1 1 = nI m
    rw [vn 1 (by decide) (by decide) (by decide)]; exact w3
  · intro i b hb
    obtain ⟨⟨c, hc, ec⟩, x2, x3, x4⟩ := w4 i b hb
    refine ⟨⟨c, ?_, ec⟩, x2, ?_, x4⟩
    · show c < cuN N 1; rw [n1]; exact Nat.lt_succ_of_lt hc
    · show ∃ x, x < cuN N 2 ∧ _; rw [nn 2 (by decide)]; exact x3
  · show ∀ (i j : Nat) (b c : kT), i < j → K[i]? = some b → K[j]? = some c → ∃ x y, x < y ∧ y < cuN N 2 ∧ b 0 0 = nI x ∧ c 0 0 = nI y
    rw [nn 2 (by decide)]; exact w5
  · intro q hq
    show q.1 < cuN N 1 ∧ q.2.1 ≤ cuN N 0 ∧ cuN N 0 ≤ q.2.1 + 60 ∧ _
    rw [n1, nn 0 (by decide)]
    have := w6 q hq
    exact ⟨Nat.lt_succ_of_lt this.1, this.2⟩
  · show B.length + K.length ≤ cuN N 2; rw [nn 2 (by decide)]; exact w8
  · show ∀ i, i < cuN N 3 → ∃ k, k < 4 ∧ cuV N V (nI d) 46 i = nI k
    rw [nn 3 (by decide), vn 46 (by decide) (by decide) (by decide)]; exact w9
  · show cuV N V (nI d) 0 1 + smI (fun i => nhI (gK K i 2)) K.length + nI (allL B) = 60 + cuV N V (nI d) 0 2 - smI (cuV N V (nI d) 6) (cuN N 1)
    rw [n1, vn 0 (by decide) (by decide) (by decide), v6]
    have e : smI (upA (V 6) (N 1) 0) (N 1 + 1) = smI (V 6) (N 1) := by
      simp only [smI, upA_s]
      rw [smI_congr (g := V 6) (fun i hi => upA_n _ _ (by omega))]
      exact Int32.add_zero _
    rw [e]; exact w10
  · show cuN N 0 ≤ 9999; rw [nn 0 (by decide)]; exact wd
theorem g_cust (h1 : o = 1) (h : CG EE T P s) (d : Int32) : ∃ T', X 90 0 [.ref 0, .int d] [] (H T P) = some (some (.int (gCust d s).1), H T' P) ∧ CG EE T' P (gCust d s).2 := by
  have ho : isB o := by subst h1; exact isB_1
  unfold gCust
  by_cases c1 : inI d 0 4 = 0
  · rw [if_pos c1]
    refine ⟨T, ?_, h⟩
    simp +decide only [x90_0, x90_1, x90_2, x90_3, x90_6, x90_9, x90_10, x90_11, x90_12, x90_15, x90_18, x90_21, x90_23, x90_26, x90_28, x90_29, x90_30, x90_33, x90_34, x90_37, x90_40, x90_41, x90_44, x90_47, x90_48, x90_51, aft_some, aft_void, Option.bind_some, Option.toList_some, Option.toList_none, List.cons_append, List.nil_append, if_true, if_false, ↓reduceIte, eq_self, z0_o, ↓z0_0, ↓z0_1, ↓z0_2, ↓z0_3, ↓z0_4, ↓z0_5, ↓z0_5p0, ↓z0_5p1, ↓aft_of (c_within), c1]
  · rw [if_neg c1]
    obtain ⟨k, hk, rfl⟩ := inI_ex (n := 4) (by decide) c1
    have hc : CSu o T P s.1 := by subst h1; exact h.2.1.1
    have hcn : T (o + 3) 0 = nI (s.1.1.1 1) := hc.2.1.1
    have hN1 := h.2.1.2.1.1.2.1
    have c10 : (nI (s.1.1.1 1) < 10) = (s.1.1.1 1 < 10) := nI_ltp (a := s.1.1.1 1) (b := 10) (by omega) (by decide)
    by_cases c2 : s.1.1.1 1 < 10
    · rw [if_pos c2]
      obtain ⟨T1, e1, f1, g1⟩ := h.push h1
      have hc1 : CSu o T1 P s.1 := by subst h1; exact g1.2.1.1
      have hcn1 : T1 (o + 3) 0 = nI (s.1.1.1 1) := hc1.2.1.1
      obtain ⟨T2, e2, f2, a2, b2, b3, b4, b5⟩ := c_enter (P := P) (x := nI k) ho hcn1 c2
      refine ⟨T2, ?_, ?_⟩
      · simp +decide only [x90_0, x90_1, x90_2, x90_3, x90_6, x90_9, x90_10, x90_11, x90_12, x90_15, x90_18, x90_21, x90_23, x90_26, x90_28, x90_29, x90_30, x90_33, x90_34, x90_37, x90_40, x90_41, x90_44, x90_47, x90_48, x90_51, aft_some, aft_void, Option.bind_some, Option.toList_some, Option.toList_none, List.cons_append, List.nil_append, if_true, if_false, ↓reduceIte, eq_self, z0_o, ↓z0_0, ↓z0_1, ↓z0_2, ↓z0_3, ↓z0_4, ↓z0_5, ↓z0_5p0, ↓z0_5p1, ↓z0n h1, f0_o ho, ↓f0_0 ho, ↓f0_0p ho, ↓f0_1 ho, ↓f0_1p ho, ↓f0_2 ho, ↓f0_2p ho, ↓f0_3 ho, ↓f0_3p ho, ↓f0_4 ho, ↓f0_5 ho, ↓f0_6 ho, ↓f0_7 ho, ↓f0_8 ho, ↓f0_9 ho, ↓f0_10 ho, ↓f0_11 ho, ↓f1_g ho, ↓f1_s ho, ↓f2_g ho, ↓f2_s ho, f3_o ho, ↓f3_0 ho, ↓f3_0p ho, ↓f3_1 ho, ↓f3_2 ho, ↓f3_3 ho, ↓f4_g ho, ↓f4_s ho, ↓f5_g ho, ↓f5_s ho, ↓f6_g ho, ↓f6_s ho, z154_o, ↓z154_0, ↓z154_1, ↓z154_1p, ↓z154_2, ↓z154_2p, ↓z155_g, ↓aft_of (c_within), c1, hcn, c10, c2, ↓aft_of (e1), ↓aft_of (e2)]
      · refine g1.now ?_ (WF_cust h.2.1.2 c2 (by omega)) (fun a ha => ?_) (fun _ _ => rfl)
        · subst h1
          obtain ⟨⟨⟨N, V, B, R⟩, K⟩, sr⟩ := s
          obtain ⟨⟨k0, k1, k2, k00⟩, ⟨k3, k4, k5, k6⟩, ⟨kP, kn, kc, kK⟩, kB, kL, k48, kJ⟩ := hc1
          have hK8 : K.length ≤ 8 := h.2.1.2.1.1.2.2.2.1
          have n1 : cuN N 1 = N 1 + 1 := upA_s _ _ _
          have nn : ∀ j, j ≠ 1 → cuN N j = N j := fun j hj => upA_n _ _ hj
          have v4 : cuV N V (nI k) 4 = upA (V 4) (N 1) (nI k) := by simp +decide only [upA_s, u_n]
          have v5 : cuV N V (nI k) 5 = upA (V 5) (N 1) 0 := by simp +decide only [upA_s, u_n]
          have v6 : cuV N V (nI k) 6 = upA (V 6) (N 1) 0 := by simp +decide only [upA_s, u_n]
          have vn : ∀ r, r ≠ 4 → r ≠ 5 → r ≠ 6 → cuV N V (nI k) r = V r := fun r q4 q5 q6 => by simp only [upA_n _ _ q4, upA_n _ _ q5, upA_n _ _ q6]
          have hf : ∀ a, (a < 4 ∨ 7 < a) → T2 a = T1 a := fun a ha => f2 a (by omega) (by omega) (by omega) (by omega)
          show CS 1 T2 P (cuN N) (cuV N V (nI k)) K B R
          refine ⟨⟨?_, ?_, ?_, ?_⟩, ⟨?_, ?_, ?_, ?_⟩, ⟨kP, ?_, ?_, ?_⟩, kB.other (hf _ (by decide)) (hf _ (by decide)) (hf _ (by decide)) (hf _ (by decide)), ?_, ?_, ?_⟩
          · rw [hf _ (by decide), vn 0 (by decide) (by decide) (by decide)]; exact k0
          · rw [hf _ (by decide), vn 1 (by decide) (by decide) (by decide)]; exact k1
          · rw [hf _ (by decide), vn 2 (by decide) (by decide) (by decide)]; exact k2
          · rw [nn 0 (by decide), vn 0 (by decide) (by decide) (by decide)]; exact k00
          · rw [n1]; exact a2
          · rw [n1, v4]
            intro i hi
            unfold upA
            by_cases e : i = N 1
            · rw [if_pos e, e]; exact b3
            · rw [if_neg e, (b2 i (by show i < N 1; omega)).1]; exact k4 i (by show i < N 1; omega)
          · rw [n1, v5]
            intro i hi
            unfold upA
            by_cases e : i = N 1
            · rw [if_pos e, e]; exact b4
            · rw [if_neg e, (b2 i (by show i < N 1; omega)).2.1]; exact k5 i (by show i < N 1; omega)
          · rw [n1, v6]
            intro i hi
            unfold upA
            by_cases e : i = N 1
            · rw [if_pos e, e]; exact b5
            · rw [if_neg e, (b2 i (by show i < N 1; omega)).2.2]; exact k6 i (by show i < N 1; omega)
          · rw [hf _ (by decide)]; exact kn
          · rw [hf _ (by decide), nn 2 (by decide)]; exact kc
          · intro i b hb
            have hi : i < K.length := (List.getElem?_eq_some_iff.mp hb).1
            have hr := kP.rg (show i < 8 by omega)
            exact (kK i b hb).same (fun x hx => hf _ (by omega))
          · rw [nn 3 (by decide), vn 46 (by decide) (by decide) (by decide), vn 47 (by decide) (by decide) (by decide)]
            exact kL.same (hf _ (by decide)) (hf _ (by decide)) (hf _ (by decide))
          · rw [hf _ (by decide), vn 48 (by decide) (by decide) (by decide)]; exact k48
          · rw [nn 4 (by decide)]
            exact kJ.same (hf _ (by decide)) (hf _ (by decide))
        · exact f2 a (by omega) (by omega) (by omega) (by omega)
    · rw [if_neg c2]
      refine ⟨T, ?_, h⟩
      simp +decide only [x90_0, x90_1, x90_2, x90_3, x90_6, x90_9, x90_10, x90_11, x90_12, x90_15, x90_18, x90_21, x90_23, x90_26, x90_28, x90_29, x90_30, x90_33, x90_34, x90_37, x90_40, x90_41, x90_44, x90_47, x90_48, x90_51, aft_some, aft_void, Option.bind_some, Option.toList_some, Option.toList_none, List.cons_append, List.nil_append, if_true, if_false, ↓reduceIte, eq_self, z0_o, ↓z0_0, ↓z0_1, ↓z0_2, ↓z0_3, ↓z0_4, ↓z0_5, ↓z0_5p0, ↓z0_5p1, ↓z0n h1, f0_o ho, ↓f0_0 ho, ↓f0_0p ho, ↓f0_1 ho, ↓f0_1p ho, ↓f0_2 ho, ↓f0_2p ho, ↓f0_3 ho, ↓f0_3p ho, ↓f0_4 ho, ↓f0_5 ho, ↓f0_6 ho, ↓f0_7 ho, ↓f0_8 ho, ↓f0_9 ho, ↓f0_10 ho, ↓f0_11 ho, ↓f1_g ho, ↓f1_s ho, ↓f2_g ho, ↓f2_s ho, f3_o ho, ↓f3_0 ho, ↓f3_0p ho, ↓f3_1 ho, ↓f3_2 ho, ↓f3_3 ho, ↓f4_g ho, ↓f4_s ho, ↓f5_g ho, ↓f5_s ho, ↓f6_g ho, ↓f6_s ho, ↓aft_of (c_within), c1, hcn, c10, c2]
end FC
end
section
/-! one cell of now changes: visit, buy, pay, set -/
section CL
variable {T U EE : Nat → Nat → Int32} {P Q : Nat → Nat → Nat} {o : Nat} {s : gT} {u : uT} {N : Nat → Nat} {V W : Nat → Nat → Int32} {K : List kT} {B : List bT} {R : Nat → Nat → Int32}
theorem RW.up {f g : Nat → Int32} {n j : Nat} {v : Int32} (h : RW f g n) : RW (upA f j v) (upA g j v) n := by
  intro i hi
  unfold upA
  split
  · rfl
  · exact h i hi
theorem CS.set1 (h : CS o T P N V K B R) (h8 : K.length ≤ 8) {r j : Nat} {v : Int32} (hr : r = 1 ∨ r = 2 ∨ r = 4 ∨ r = 5 ∨ r = 6) : CS o (up1 T (o + r) j v) P N (up1 V r j v) K B R := by
  obtain ⟨⟨k0, k1, k2, k00⟩, ⟨k3, k4, k5, k6⟩, ⟨kP, kn, kc, kK⟩, kB, kL, k48, kJ⟩ := id h
  have hf : ∀ a, a ≠ o + r → up1 T (o + r) j v a = T a := fun a ha => upA_n _ _ ha
  have gf : ∀ a, a ≠ r → up1 V r j v a = V a := fun a ha => upA_n _ _ ha
  have key : ∀ x n, RW (T (o + x)) (V x) n → RW (up1 T (o + r) j v (o + x)) (up1 V r j v x) n := by
    intro x n hx
    by_cases e : x = r
    · subst e
      simp only [upA_s]
      exact hx.up
    · rw [hf _ (by omega), gf _ e]; exact hx
  refine ⟨⟨?_, key 1 _ k1, key 2 _ k2, ?_⟩, ⟨?_, key 4 _ k4, key 5 _ k5, key 6 _ k6⟩, ⟨kP, ?_, ?_, ?_⟩, kB.other (hf _ (by omega)) (hf _ (by omega)) (hf _ (by omega)) (hf _ (by omega)), ?_, ?_, kJ.same (hf _ (by omega)) (hf _ (by omega))⟩
  · rw [hf _ (by omega), gf _ (by omega)]; exact k0
  · rw [gf _ (by omega)]; exact k00
  · rw [hf _ (by omega)]; exact k3
  · rw [hf _ (by omega)]; exact kn
  · rw [hf _ (by omega)]; exact kc
  · intro i b hb
    have hi : i < K.length := (List.getElem?_eq_some_iff.mp hb).1
    have hr := kP.rg (show i < 8 by omega)
    exact (kK i b hb).same (fun x hx => hf _ (by omega))
  · rw [gf _ (by omega), gf _ (by omega)]
    exact kL.same (hf _ (by omega)) (hf _ (by omega)) (hf _ (by omega))
  · rw [hf _ (by omega), gf _ (by omega)]; exact k48
theorem CS.set0 (h : CS o T P N V K B R) (h8 : K.length ≤ 8) {j : Nat} {v : Int32} (hj : j ≠ 0) : CS o (up1 T o j v) P N (up1 V 0 j v) K B R := by
  obtain ⟨⟨k0, k1, k2, k00⟩, ⟨k3, k4, k5, k6⟩, ⟨kP, kn, kc, kK⟩, kB, kL, k48, kJ⟩ := id h
  have hf : ∀ a, a ≠ o → up1 T o j v a = T a := fun a ha => upA_n _ _ ha
  have gf : ∀ a, a ≠ 0 → up1 V 0 j v a = V a := fun a ha => upA_n _ _ ha
  refine ⟨⟨?_, ?_, ?_, ?_⟩, ⟨?_, ?_, ?_, ?_⟩, ⟨kP, ?_, ?_, ?_⟩, kB.other (hf _ (by omega)) (hf _ (by omega)) (hf _ (by omega)) (hf _ (by omega)), ?_, ?_, kJ.same (hf _ (by omega)) (hf _ (by omega))⟩
  · simp only [upA_s]; exact k0.up
  · rw [hf _ (by omega), gf _ (by omega)]; exact k1
  · rw [hf _ (by omega), gf _ (by omega)]; exact k2
  · simp only [upA_s]
    rw [upA_n _ _ (Ne.symm hj)]; exact k00
  · rw [hf _ (by omega)]; exact k3
  · rw [hf _ (by omega), gf _ (by omega)]; exact k4
  · rw [hf _ (by omega), gf _ (by omega)]; exact k5
  · rw [hf _ (by omega), gf _ (by omega)]; exact k6
  · rw [hf _ (by omega)]; exact kn
  · rw [hf _ (by omega)]; exact kc
  · intro i b hb
    have hi : i < K.length := (List.getElem?_eq_some_iff.mp hb).1
    have hr := kP.rg (show i < 8 by omega)
    exact (kK i b hb).same (fun x hx => hf _ (by omega))
  · rw [gf _ (by omega), gf _ (by omega)]
    exact kL.same (hf _ (by omega)) (hf _ (by omega)) (hf _ (by omega))
  · rw [hf _ (by omega), gf _ (by omega)]; exact k48
theorem WF.v (hw : WF N V K B) (h4 : W 4 = V 4) (h46 : W 46 = V 46) (h6 : W 6 = V 6) (h0 : W 0 1 - W 0 2 = V 0 1 - V 0 2) (h1 : (∃ d, d < 3 ∧ W 1 0 = nI d) ∧ (∃ g, 1 ≤ g ∧ g ≤ 60 ∧ W 1 2 = nI g) ∧ ∃ m, m ≤ 20 ∧ W 1 1 = nI m) : WF N W K B := by
  obtain ⟨w1, w2, w3, w4, w5, w6, w9, w10⟩ := hw
  refine ⟨w1, by rw [h4]; exact w2, h1, w4, w5, w6, by rw [h46]; exact w9, ?_⟩
  rw [h6]
  grind
/-- now with the rows W -/
abbrev uV (u : uT) (W : Nat → Nat → Int32) : uT := ((u.1.1, W, u.1.2.2), u.2)
abbrev sV (s : gT) (W : Nat → Nat → Int32) : gT := (uV s.1 W, s.2.1, psL s, s.2.2.2)
def gVis (d x : Int32) (s : gT) : Int32 × gT := if inI d 0 4 = 0 then (-1, s) else if inI x 0 127 = 0 then (-2, s) else if s.1.1.2.1 2 d.toNatClampNeg = x then (-5, s) else (s.1.1.2.1 2 d.toNatClampNeg, sV s (up1 s.1.1.2.1 2 d.toNatClampNeg x))
theorem g_vis (h1 : o = 1) (h : CG EE T P s) (d x : Int32) : ∃ T', X 91 0 [.ref 0, .int d, .int x, .long 0] [] (H T P) = some (some (.int (gVis d x s).1), H T' P) ∧ CG EE T' P (gVis d x s).2 := by
  have ho : isB o := by subst h1; exact isB_1
  unfold gVis
  by_cases c1 : inI d 0 4 = 0
  · rw [if_pos c1]
    refine ⟨T, ?_, h⟩
    simp +decide only [x91_0, x91_1, x91_2, x91_3, x91_6, x91_9, x91_10, x91_11, x91_12, x91_13, x91_15, x91_18, x91_21, x91_23, x91_24, x91_25, x91_28, x91_31, x91_32, x91_33, x91_34, x91_35, x91_36, x91_39, x91_41, x91_42, x91_43, x91_46, x91_47, x91_50, x91_53, x91_54, x91_57, x91_60, x91_61, x91_62, x91_63, x91_64, aft_some, aft_void, Option.bind_some, Option.toList_some, Option.toList_none, List.cons_append, List.nil_append, if_true, if_false, ↓reduceIte, eq_self, z0_o, ↓z0_0, ↓z0_1, ↓z0_2, ↓z0_3, ↓z0_4, ↓z0_5, ↓z0_5p0, ↓z0_5p1, ↓aft_of (c_within), c1]
  rw [if_neg c1]
  by_cases c2 : inI x 0 127 = 0
  · rw [if_pos c2]
    refine ⟨T, ?_, h⟩
    simp +decide only [x91_0, x91_1, x91_2, x91_3, x91_6, x91_9, x91_10, x91_11, x91_12, x91_13, x91_15, x91_18, x91_21, x91_23, x91_24, x91_25, x91_28, x91_31, x91_32, x91_33, x91_34, x91_35, x91_36, x91_39, x91_41, x91_42, x91_43, x91_46, x91_47, x91_50, x91_53, x91_54, x91_57, x91_60, x91_61, x91_62, x91_63, x91_64, aft_some, aft_void, Option.bind_some, Option.toList_some, Option.toList_none, List.cons_append, List.nil_append, if_true, if_false, ↓reduceIte, eq_self, z0_o, ↓z0_0, ↓z0_1, ↓z0_2, ↓z0_3, ↓z0_4, ↓z0_5, ↓z0_5p0, ↓z0_5p1, ↓aft_of (c_within), c1, c2]
  rw [if_neg c2]
  obtain ⟨k, hk, rfl⟩ := inI_ex (n := 4) (by decide) c1
  have cl := nI_clamp (show k < 2 ^ 31 by omega)
  have ok := okx_nI (show k < 5 by omega) (show (5 : Nat) < 2 ^ 31 by decide)
  rw [cl]
  have hc : CSu o T P s.1 := by subst h1; exact h.2.1.1
  have hv : T (o + 2) k = s.1.1.2.1 2 k := hc.1.2.2.1 k (by omega)
  by_cases c3 : s.1.1.2.1 2 k = x
  · rw [if_pos c3]
    refine ⟨T, ?_, h⟩
    simp +decide only [x91_0, x91_1, x91_2, x91_3, x91_6, x91_9, x91_10, x91_11, x91_12, x91_13, x91_15, x91_18, x91_21, x91_23, x91_24, x91_25, x91_28, x91_31, x91_32, x91_33, x91_34, x91_35, x91_36, x91_39, x91_41, x91_42, x91_43, x91_46, x91_47, x91_50, x91_53, x91_54, x91_57, x91_60, x91_61, x91_62, x91_63, x91_64, aft_some, aft_void, Option.bind_some, Option.toList_some, Option.toList_none, List.cons_append, List.nil_append, if_true, if_false, ↓reduceIte, eq_self, z0_o, ↓z0_0, ↓z0_1, ↓z0_2, ↓z0_3, ↓z0_4, ↓z0_5, ↓z0_5p0, ↓z0_5p1, ↓z0n h1, f0_o ho, ↓f0_0 ho, ↓f0_0p ho, ↓f0_1 ho, ↓f0_1p ho, ↓f0_2 ho, ↓f0_2p ho, ↓f0_3 ho, ↓f0_3p ho, ↓f0_4 ho, ↓f0_5 ho, ↓f0_6 ho, ↓f0_7 ho, ↓f0_8 ho, ↓f0_9 ho, ↓f0_10 ho, ↓f0_11 ho, ↓f1_g ho, ↓f1_s ho, ↓f2_g ho, ↓f2_s ho, ↓aft_of (c_within), c1, c2, ok, cl, hv, c3]
  rw [if_neg c3]
  obtain ⟨T1, e1, f1, g1⟩ := h.push h1
  refine ⟨up1 T1 (o + 2) k x, ?_, ?_⟩
  · simp +decide only [x91_0, x91_1, x91_2, x91_3, x91_6, x91_9, x91_10, x91_11, x91_12, x91_13, x91_15, x91_18, x91_21, x91_23, x91_24, x91_25, x91_28, x91_31, x91_32, x91_33, x91_34, x91_35, x91_36, x91_39, x91_41, x91_42, x91_43, x91_46, x91_47, x91_50, x91_53, x91_54, x91_57, x91_60, x91_61, x91_62, x91_63, x91_64, aft_some, aft_void, Option.bind_some, Option.toList_some, Option.toList_none, List.cons_append, List.nil_append, if_true, if_false, ↓reduceIte, eq_self, z0_o, ↓z0_0, ↓z0_1, ↓z0_2, ↓z0_3, ↓z0_4, ↓z0_5, ↓z0_5p0, ↓z0_5p1, ↓z0n h1, f0_o ho, ↓f0_0 ho, ↓f0_0p ho, ↓f0_1 ho, ↓f0_1p ho, ↓f0_2 ho, ↓f0_2p ho, ↓f0_3 ho, ↓f0_3p ho, ↓f0_4 ho, ↓f0_5 ho, ↓f0_6 ho, ↓f0_7 ho, ↓f0_8 ho, ↓f0_9 ho, ↓f0_10 ho, ↓f0_11 ho, ↓f1_g ho, ↓f1_s ho, ↓f2_g ho, ↓f2_s ho, z154_o, ↓z154_0, ↓z154_1, ↓z154_1p, ↓z154_2, ↓z154_2p, ↓z155_g, ↓aft_of (c_within), c1, c2, ok, cl, hv, c3, ↓aft_of (e1)]
  · subst h1
    have h8 := h.2.1.2.1.1.2.2.2.1
    refine g1.now (CS.set1 g1.2.1.1 h8 (Or.inr (Or.inl rfl))) ⟨h.2.1.2.1.v ?_ ?_ ?_ ?_ ?_, h.2.1.2.2⟩ (fun a ha => ?_) (fun _ _ => rfl)
    · simp +decide only [u_n]
    · simp +decide only [u_n]
    · simp +decide only [u_n]
    · simp +decide only [u_n]
    · simp +decide only [u_n]; exact h.2.1.2.1.2.2.1
    · exact upA_n _ _ (by omega)
def svI (u : uT) : Int32 := u.1.2.1 0 1 + smI (fun i => nhI (gK u.2 i 2)) u.2.length + nI (allL u.1.2.2.1)
def gBuy (n : Int32) (s : gT) : Int32 × gT := if inI n 1 99 = 0 then (-2, s) else if 999 < svI s.1 + n then (-3, s) else (s.1.1.2.1 0 1 + n, sV s (up1 (up1 s.1.1.2.1 0 1 (s.1.1.2.1 0 1 + n)) 0 2 (s.1.1.2.1 0 2 + n)))
theorem g_buy (h1 : o = 1) (h : CG EE T P s) (n : Int32) : ∃ T', X 98 0 [.ref 0, .int n] [] (H T P) = some (some (.int (gBuy n s).1), H T' P) ∧ CG EE T' P (gBuy n s).2 := by
  have ho : isB o := by subst h1; exact isB_1
  unfold gBuy
  by_cases c1 : inI n 1 99 = 0
  · rw [if_pos c1]
    refine ⟨T, ?_, h⟩
    simp +decide only [x98_0, x98_1, x98_2, x98_4, x98_7, x98_10, x98_12, x98_13, x98_14, x98_17, x98_20, x98_21, x98_22, x98_25, x98_28, x98_30, x98_31, x98_32, x98_35, x98_36, x98_39, x98_42, x98_43, x98_46, x98_47, x98_50, x98_51, x98_52, x98_55, x98_56, x98_59, x98_60, x98_63, x98_64, x98_65, x98_68, x98_69, x98_72, x98_75, aft_some, aft_void, Option.bind_some, Option.toList_some, Option.toList_none, List.cons_append, List.nil_append, if_true, if_false, ↓reduceIte, eq_self, z0_o, ↓z0_0, ↓z0_1, ↓z0_2, ↓z0_3, ↓z0_4, ↓z0_5, ↓z0_5p0, ↓z0_5p1, ↓aft_of (c_within), c1]
  rw [if_neg c1]
  have hc : CSu o T P s.1 := by subst h1; exact h.2.1.1
  have es := c_service ho hc h.2.1.2.1
  rw [show s.1.1.2.1 0 1 + smI (fun i => nhI (gK s.1.2 i 2)) s.1.2.length + nI (allL s.1.1.2.2.1) = svI s.1 from rfl] at es
  by_cases c2 : 999 < svI s.1 + n
  · rw [if_pos c2]
    refine ⟨T, ?_, h⟩
    simp +decide only [x98_0, x98_1, x98_2, x98_4, x98_7, x98_10, x98_12, x98_13, x98_14, x98_17, x98_20, x98_21, x98_22, x98_25, x98_28, x98_30, x98_31, x98_32, x98_35, x98_36, x98_39, x98_42, x98_43, x98_46, x98_47, x98_50, x98_51, x98_52, x98_55, x98_56, x98_59, x98_60, x98_63, x98_64, x98_65, x98_68, x98_69, x98_72, x98_75, aft_some, aft_void, Option.bind_some, Option.toList_some, Option.toList_none, List.cons_append, List.nil_append, if_true, if_false, ↓reduceIte, eq_self, z0_o, ↓z0_0, ↓z0_1, ↓z0_2, ↓z0_3, ↓z0_4, ↓z0_5, ↓z0_5p0, ↓z0_5p1, ↓z0n h1, f0_o ho, ↓f0_0 ho, ↓f0_0p ho, ↓f0_1 ho, ↓f0_1p ho, ↓f0_2 ho, ↓f0_2p ho, ↓f0_3 ho, ↓f0_3p ho, ↓f0_4 ho, ↓f0_5 ho, ↓f0_6 ho, ↓f0_7 ho, ↓f0_8 ho, ↓f0_9 ho, ↓f0_10 ho, ↓f0_11 ho, ↓f1_g ho, ↓f1_s ho, ↓f2_g ho, ↓f2_s ho, ↓aft_of (c_within), c1, ↓aft_of (es), c2]
  rw [if_neg c2]
  obtain ⟨T1, e1, f1, g1⟩ := h.push h1
  have hc1 : CSu o T1 P s.1 := by subst h1; exact g1.2.1.1
  have hv : T1 o 1 = s.1.1.2.1 0 1 := hc1.1.1 1 (by decide)
  have hv2 : T1 o 2 = s.1.1.2.1 0 2 := hc1.1.1 2 (by decide)
  refine ⟨up1 (up1 T1 o 1 (s.1.1.2.1 0 1 + n)) o 2 (s.1.1.2.1 0 2 + n), ?_, ?_⟩
  · simp +decide only [x98_0, x98_1, x98_2, x98_4, x98_7, x98_10, x98_12, x98_13, x98_14, x98_17, x98_20, x98_21, x98_22, x98_25, x98_28, x98_30, x98_31, x98_32, x98_35, x98_36, x98_39, x98_42, x98_43, x98_46, x98_47, x98_50, x98_51, x98_52, x98_55, x98_56, x98_59, x98_60, x98_63, x98_64, x98_65, x98_68, x98_69, x98_72, x98_75, aft_some, aft_void, Option.bind_some, Option.toList_some, Option.toList_none, List.cons_append, List.nil_append, if_true, if_false, ↓reduceIte, eq_self, z0_o, ↓z0_0, ↓z0_1, ↓z0_2, ↓z0_3, ↓z0_4, ↓z0_5, ↓z0_5p0, ↓z0_5p1, ↓z0n h1, f0_o ho, ↓f0_0 ho, ↓f0_0p ho, ↓f0_1 ho, ↓f0_1p ho, ↓f0_2 ho, ↓f0_2p ho, ↓f0_3 ho, ↓f0_3p ho, ↓f0_4 ho, ↓f0_5 ho, ↓f0_6 ho, ↓f0_7 ho, ↓f0_8 ho, ↓f0_9 ho, ↓f0_10 ho, ↓f0_11 ho, ↓f1_g ho, ↓f1_s ho, ↓f2_g ho, ↓f2_s ho, upA_s, u_oo, u_o0, u_0o, u_n, z154_o, ↓z154_0, ↓z154_1, ↓z154_1p, ↓z154_2, ↓z154_2p, ↓z155_g, ↓aft_of (c_within), c1, ↓aft_of (es), c2, hv, hv2, ↓aft_of (e1)]
  · have h8 := h.2.1.2.1.1.2.2.2.1
    have h0 : up1 (up1 s.1.1.2.1 0 1 (s.1.1.2.1 0 1 + n)) 0 2 (s.1.1.2.1 0 2 + n) = up1 (up1 s.1.1.2.1 0 1 (s.1.1.2.1 0 1 + n)) 0 2 (up1 s.1.1.2.1 0 1 (s.1.1.2.1 0 1 + n) 0 2 + n) := by simp +decide only [upA_s, u_n]
    subst h1
    have q1 := CS.set0 (j := 2) (v := s.1.1.2.1 0 2 + n) (CS.set0 (j := 1) (v := s.1.1.2.1 0 1 + n) g1.2.1.1 h8 (by decide)) h8 (by decide)
    refine g1.now q1 ⟨h.2.1.2.1.v ?_ ?_ ?_ ?_ ?_, h.2.1.2.2⟩ (fun a ha => ?_) (fun _ _ => rfl)
    · simp +decide only [u_n]
    · simp +decide only [u_n]
    · simp +decide only [u_n]
    · simp +decide only [upA_s, u_n]
      grind
    · simp +decide only [u_n]; exact h.2.1.2.1.2.2.1
    · simp only [upA_n _ _ (show a ≠ 1 by omega)]
def hsI (n : Nat) (c : Int32) : Prop := ¬ c < 0 ∧ c < nI n
noncomputable def gPay (c : Int32) (s : gT) : Int32 × gT := @ite _ (hsI (s.1.1.1 1) c) (Classical.propDecidable _) (if s.1.1.2.1 5 c.toNatClampNeg = 0 then (-5, s) else (s.1.1.2.1 5 c.toNatClampNeg, sV s (up1 (up1 s.1.1.2.1 5 c.toNatClampNeg 0) 0 3 (s.1.1.2.1 0 3 + s.1.1.2.1 5 c.toNatClampNeg)))) (-1, s)
theorem c_hasN (ho : isB o) {n : Nat} {c : Int32} (hn : T (o + 3) 0 = nI n) : X 33 0 [.ref (o + 3), .int c] [] (H T P) = some (some (.int (@ite _ (hsI n c) (Classical.propDecidable _) 1 0)), H T P) := by
  rw [c_has ho, hn]
  unfold hsI
  by_cases h1 : c < 0
  · rw [if_pos h1, if_neg (fun z => z.1 h1)]
  · rw [if_neg h1]
    by_cases h2 : c < nI n
    · rw [if_pos h2, if_pos ⟨h1, h2⟩]
    · rw [if_neg h2, if_neg (fun z => h2 z.2)]
theorem g_pay (h1 : o = 1) (h : CG EE T P s) (c : Int32) : ∃ T', X 99 0 [.ref 0, .int c, .long 0] [] (H T P) = some (some (.int (gPay c s).1), H T' P) ∧ CG EE T' P (gPay c s).2 := by
  have ho : isB o := by subst h1; exact isB_1
  have hc : CSu o T P s.1 := by subst h1; exact h.2.1.1
  have hN1 := h.2.1.2.1.1.2.1
  have eh := c_hasN (P := P) (c := c) ho hc.2.1.1
  unfold gPay
  by_cases c1 : hsI (s.1.1.1 1) c
  · rw [if_pos c1] at eh ⊢
    obtain ⟨k, hk, rfl⟩ := nI_ex c1.1 (by omega) c1.2
    have cl := nI_clamp (show k < 2 ^ 31 by omega)
    have ok := okx_nI (show k < 10 by omega) (show (10 : Nat) < 2 ^ 31 by decide)
    rw [cl]
    have hv : T (o + 5) k = s.1.1.2.1 5 k := hc.2.1.2.2.1 k hk
    by_cases c3 : s.1.1.2.1 5 k = 0
    · rw [if_pos c3]
      refine ⟨T, ?_, h⟩
      simp +decide only [x99_0, x99_1, x99_4, x99_7, x99_8, x99_11, x99_14, x99_15, x99_16, x99_17, x99_20, x99_23, x99_26, x99_27, x99_28, x99_29, x99_30, x99_33, x99_35, x99_36, x99_37, x99_40, x99_41, x99_44, x99_47, x99_48, x99_51, x99_54, x99_57, x99_58, x99_59, x99_60, x99_61, x99_64, x99_65, x99_68, x99_69, x99_70, x99_73, x99_74, aft_some, aft_void, Option.bind_some, Option.toList_some, Option.toList_none, List.cons_append, List.nil_append, if_true, if_false, ↓reduceIte, eq_self, z0_o, ↓z0_0, ↓z0_1, ↓z0_2, ↓z0_3, ↓z0_4, ↓z0_5, ↓z0_5p0, ↓z0_5p1, ↓z0n h1, f0_o ho, ↓f0_0 ho, ↓f0_0p ho, ↓f0_1 ho, ↓f0_1p ho, ↓f0_2 ho, ↓f0_2p ho, ↓f0_3 ho, ↓f0_3p ho, ↓f0_4 ho, ↓f0_5 ho, ↓f0_6 ho, ↓f0_7 ho, ↓f0_8 ho, ↓f0_9 ho, ↓f0_10 ho, ↓f0_11 ho, ↓f1_g ho, ↓f1_s ho, ↓f2_g ho, ↓f2_s ho, f3_o ho, ↓f3_0 ho, ↓f3_0p ho, ↓f3_1 ho, ↓f3_2 ho, ↓f3_3 ho, ↓f4_g ho, ↓f4_s ho, ↓f5_g ho, ↓f5_s ho, ↓f6_g ho, ↓f6_s ho, ↓aft_of (eh), ok, cl, hv, c3]
    rw [if_neg c3]
    obtain ⟨T1, e1, f1, g1⟩ := h.push h1
    have hc1 : CSu o T1 P s.1 := by subst h1; exact g1.2.1.1
    have hv3 : T1 o 3 = s.1.1.2.1 0 3 := hc1.1.1 3 (by decide)
    refine ⟨up1 (up1 T1 (o + 5) k 0) o 3 (s.1.1.2.1 0 3 + s.1.1.2.1 5 k), ?_, ?_⟩
    · simp +decide only [x99_0, x99_1, x99_4, x99_7, x99_8, x99_11, x99_14, x99_15, x99_16, x99_17, x99_20, x99_23, x99_26, x99_27, x99_28, x99_29, x99_30, x99_33, x99_35, x99_36, x99_37, x99_40, x99_41, x99_44, x99_47, x99_48, x99_51, x99_54, x99_57, x99_58, x99_59, x99_60, x99_61, x99_64, x99_65, x99_68, x99_69, x99_70, x99_73, x99_74, aft_some, aft_void, Option.bind_some, Option.toList_some, Option.toList_none, List.cons_append, List.nil_append, if_true, if_false, ↓reduceIte, eq_self, z0_o, ↓z0_0, ↓z0_1, ↓z0_2, ↓z0_3, ↓z0_4, ↓z0_5, ↓z0_5p0, ↓z0_5p1, ↓z0n h1, f0_o ho, ↓f0_0 ho, ↓f0_0p ho, ↓f0_1 ho, ↓f0_1p ho, ↓f0_2 ho, ↓f0_2p ho, ↓f0_3 ho, ↓f0_3p ho, ↓f0_4 ho, ↓f0_5 ho, ↓f0_6 ho, ↓f0_7 ho, ↓f0_8 ho, ↓f0_9 ho, ↓f0_10 ho, ↓f0_11 ho, ↓f1_g ho, ↓f1_s ho, ↓f2_g ho, ↓f2_s ho, f3_o ho, ↓f3_0 ho, ↓f3_0p ho, ↓f3_1 ho, ↓f3_2 ho, ↓f3_3 ho, ↓f4_g ho, ↓f4_s ho, ↓f5_g ho, ↓f5_s ho, ↓f6_g ho, ↓f6_s ho, upA_s, u_oo, u_o0, u_0o, u_n, z154_o, ↓z154_0, ↓z154_1, ↓z154_1p, ↓z154_2, ↓z154_2p, ↓z155_g, ↓aft_of (eh), ok, cl, hv, hv3, c3, ↓aft_of (e1)]
    · have h8 := h.2.1.2.1.1.2.2.2.1
      subst h1
      have q1 := CS.set0 (j := 3) (v := s.1.1.2.1 0 3 + s.1.1.2.1 5 k) (CS.set1 (j := k) (v := 0) g1.2.1.1 h8 (show 5 = 1 ∨ 5 = 2 ∨ 5 = 4 ∨ 5 = 5 ∨ 5 = 6 by decide)) h8 (by decide)
      refine g1.now q1 ⟨h.2.1.2.1.v ?_ ?_ ?_ ?_ ?_, h.2.1.2.2⟩ (fun a ha => ?_) (fun _ _ => rfl)
      · simp +decide only [u_n]
      · simp +decide only [u_n]
      · simp +decide only [u_n]
      · simp +decide only [upA_s, u_n]
      · simp +decide only [u_n]; exact h.2.1.2.1.2.2.1
      · simp only [upA_n _ _ (show a ≠ 1 by omega), upA_n _ _ (show a ≠ 1 + 5 by omega)]
  · rw [if_neg c1] at eh ⊢
    refine ⟨T, ?_, h⟩
    simp +decide only [x99_0, x99_1, x99_4, x99_7, x99_8, x99_11, x99_14, x99_15, x99_16, x99_17, x99_20, x99_23, x99_26, x99_27, x99_28, x99_29, x99_30, x99_33, x99_35, x99_36, x99_37, x99_40, x99_41, x99_44, x99_47, x99_48, x99_51, x99_54, x99_57, x99_58, x99_59, x99_60, x99_61, x99_64, x99_65, x99_68, x99_69, x99_70, x99_73, x99_74, aft_some, aft_void, Option.bind_some, Option.toList_some, Option.toList_none, List.cons_append, List.nil_append, if_true, if_false, ↓reduceIte, eq_self, z0_o, ↓z0_0, ↓z0_1, ↓z0_2, ↓z0_3, ↓z0_4, ↓z0_5, ↓z0_5p0, ↓z0_5p1, ↓z0n h1, f0_o ho, ↓f0_0 ho, ↓f0_0p ho, ↓f0_1 ho, ↓f0_1p ho, ↓f0_2 ho, ↓f0_2p ho, ↓f0_3 ho, ↓f0_3p ho, ↓f0_4 ho, ↓f0_5 ho, ↓f0_6 ho, ↓f0_7 ho, ↓f0_8 ho, ↓f0_9 ho, ↓f0_10 ho, ↓f0_11 ho, ↓f1_g ho, ↓f1_s ho, ↓f2_g ho, ↓f2_s ho, f3_o ho, ↓f3_0 ho, ↓f3_0p ho, ↓f3_1 ho, ↓f3_2 ho, ↓f3_3 ho, ↓f4_g ho, ↓f4_s ho, ↓f5_g ho, ↓f5_s ho, ↓f6_g ho, ↓f6_s ho, ↓aft_of (eh)]
end CL
end
section
/-! set, the text's letters, undo, keep, restore -/
def loI (w : Int32) : Int32 := if w = 2 then 1 else 0
def hiI (w : Int32) : Int32 := if w = 0 then 2 else if w = 1 then 20 else if w = 2 then 60 else 99
def gSet (w v : Int32) (s : gT) : Int32 × gT := if inI w 0 3 = 0 then (-2, s) else if inI v (loI w) (hiI w) = 0 then (-2, s) else if s.1.1.2.1 1 w.toNatClampNeg = v then (-5, s) else (s.1.1.2.1 1 w.toNatClampNeg, sV s (up1 s.1.1.2.1 1 w.toNatClampNeg v))
def gType (c : Int32) (s : gT) : Int32 × gT := if s.2.2.2.1 < 60 then (nI (s.2.2.2.1 + 1), s.1, s.2.1, s.2.2.1, s.2.2.2.1 + 1, upA s.2.2.2.2 s.2.2.2.1 c) else (-3, s)
def gClear (s : gT) : Int32 × gT := (nI s.2.2.2.1, s.1, s.2.1, s.2.2.1, 0, s.2.2.2.2)
def gUndo : gT → Int32 × gT
  | (u, k, [], t) => (-5, u, k, [], t)
  | (_, k, v :: L, t) => (nI L.length, v, k, L, t)
def gKeep (s : gT) : Int32 × gT := (nI (s.1.1.1 0), s.1, some s.1, s.2.2)
def gRest : gT → Int32 × gT
  | (u, none, r) => (-5, u, none, r)
  | (u, some v, L, t) => (nI (v.1.1 0), v, some v, (u :: L).take 4, t)
section CL2
variable {T U EE : Nat → Nat → Int32} {P Q : Nat → Nat → Nat} {o q : Nat} {s : gT} {u : uT} {N : Nat → Nat} {V W : Nat → Nat → Int32} {K : List kT} {B : List bT} {R : Nat → Nat → Int32}
theorem c_lo {w : Int32} {h0 : List hC} : X 121 0 [.int w] [] h0 = some (some (.int (loI w)), h0) := by
  unfold loI
  by_cases c : w = 2
  · simp +decide only [x121_0, x121_1, x121_2, x121_5, x121_6, x121_9, x121_10, aft_some, aft_void, Option.bind_some, Option.toList_some, Option.toList_none, List.cons_append, List.nil_append, if_true, if_false, ↓reduceIte, eq_self, c]
  · simp +decide only [x121_0, x121_1, x121_2, x121_5, x121_6, x121_9, x121_10, aft_some, aft_void, Option.bind_some, Option.toList_some, Option.toList_none, List.cons_append, List.nil_append, if_true, if_false, ↓reduceIte, eq_self, c]
theorem c_hi {w : Int32} {h0 : List hC} : X 122 0 [.int w] [] h0 = some (some (.int (hiI w)), h0) := by
  unfold hiI
  by_cases c0 : w = 0
  · simp +decide only [x122_0, x122_1, x122_28, x122_29, x122_30, x122_32, x122_33, x122_35, x122_36, x122_38, aft_some, aft_void, Option.bind_some, Option.toList_some, Option.toList_none, List.cons_append, List.nil_append, if_true, if_false, ↓reduceIte, eq_self, c0]
  by_cases c1 : w = 1
  · simp +decide only [x122_0, x122_1, x122_28, x122_29, x122_30, x122_32, x122_33, x122_35, x122_36, x122_38, aft_some, aft_void, Option.bind_some, Option.toList_some, Option.toList_none, List.cons_append, List.nil_append, if_true, if_false, ↓reduceIte, eq_self, c0, c1]
  by_cases c2 : w = 2
  · simp +decide only [x122_0, x122_1, x122_28, x122_29, x122_30, x122_32, x122_33, x122_35, x122_36, x122_38, aft_some, aft_void, Option.bind_some, Option.toList_some, Option.toList_none, List.cons_append, List.nil_append, if_true, if_false, ↓reduceIte, eq_self, c0, c1, c2]
  simp +decide only [x122_0, x122_1, x122_28, x122_29, x122_30, x122_32, x122_33, x122_35, x122_36, x122_38, aft_some, aft_void, Option.bind_some, Option.toList_some, Option.toList_none, List.cons_append, List.nil_append, if_true, if_false, ↓reduceIte, eq_self, c0, c1, c2]
theorem inI_ex2 {d : Int32} {m n : Nat} (hm : m < 2 ^ 31) (hn : n < 2 ^ 31) (h : ¬ inI d (nI m) (nI n) = 0) : ∃ k, m ≤ k ∧ k ≤ n ∧ d = nI k := by
  unfold inI at h
  by_cases h1 : d < nI m
  · rw [if_pos h1] at h; exact absurd rfl h
  · rw [if_neg h1] at h
    by_cases h2 : nI n < d
    · rw [if_pos h2] at h; exact absurd rfl h
    · have h0 : ¬ d < 0 := by
        intro z
        apply h1
        rw [Int32.lt_iff_toInt_lt] at z ⊢
        rw [nI_toInt hm]
        have : (0 : Int32).toInt = 0 := rfl
        omega
      obtain ⟨j, hj, rfl⟩ := nI_of h0
      rw [nI_ltp hj hm] at h1
      rw [nI_ltp hn hj] at h2
      exact ⟨j, by omega, by omega, rfl⟩
theorem g_set (h1 : o = 1) (h : CG EE T P s) (w v : Int32) : ∃ T', X 100 0 [.ref 0, .int w, .int v, .long 0] [] (H T P) = some (some (.int (gSet w v s).1), H T' P) ∧ CG EE T' P (gSet w v s).2 := by
  have ho : isB o := by subst h1; exact isB_1
  unfold gSet
  by_cases c1 : inI w 0 3 = 0
  · rw [if_pos c1]
    refine ⟨T, ?_, h⟩
    simp +decide only [x100_0, x100_1, x100_2, x100_3, x100_6, x100_9, x100_10, x100_11, x100_14, x100_15, x100_18, x100_21, x100_24, x100_26, x100_27, x100_28, x100_31, x100_34, x100_35, x100_36, x100_37, x100_38, x100_39, x100_42, x100_44, x100_45, x100_46, x100_49, x100_50, x100_53, x100_56, x100_57, x100_60, x100_63, x100_64, x100_65, x100_66, x100_67, aft_some, aft_void, Option.bind_some, Option.toList_some, Option.toList_none, List.cons_append, List.nil_append, if_true, if_false, ↓reduceIte, eq_self, z0_o, ↓z0_0, ↓z0_1, ↓z0_2, ↓z0_3, ↓z0_4, ↓z0_5, ↓z0_5p0, ↓z0_5p1, ↓aft_of (c_within), c1]
  rw [if_neg c1]
  by_cases c2 : inI v (loI w) (hiI w) = 0
  · rw [if_pos c2]
    refine ⟨T, ?_, h⟩
    simp +decide only [x100_0, x100_1, x100_2, x100_3, x100_6, x100_9, x100_10, x100_11, x100_14, x100_15, x100_18, x100_21, x100_24, x100_26, x100_27, x100_28, x100_31, x100_34, x100_35, x100_36, x100_37, x100_38, x100_39, x100_42, x100_44, x100_45, x100_46, x100_49, x100_50, x100_53, x100_56, x100_57, x100_60, x100_63, x100_64, x100_65, x100_66, x100_67, aft_some, aft_void, Option.bind_some, Option.toList_some, Option.toList_none, List.cons_append, List.nil_append, if_true, if_false, ↓reduceIte, eq_self, z0_o, ↓z0_0, ↓z0_1, ↓z0_2, ↓z0_3, ↓z0_4, ↓z0_5, ↓z0_5p0, ↓z0_5p1, ↓aft_of (c_within), ↓aft_of (c_lo), ↓aft_of (c_hi), c1, c2]
  rw [if_neg c2]
  obtain ⟨k, hk, rfl⟩ := inI_ex (n := 3) (by decide) c1
  have cl := nI_clamp (show k < 2 ^ 31 by omega)
  have ok := okx_nI (show k < 4 by omega) (show (4 : Nat) < 2 ^ 31 by decide)
  rw [cl]
  have hc : CSu o T P s.1 := by subst h1; exact h.2.1.1
  have hv : T (o + 1) k = s.1.1.2.1 1 k := hc.1.2.1 k (by omega)
  by_cases c3 : s.1.1.2.1 1 k = v
  · rw [if_pos c3]
    refine ⟨T, ?_, h⟩
    simp +decide only [x100_0, x100_1, x100_2, x100_3, x100_6, x100_9, x100_10, x100_11, x100_14, x100_15, x100_18, x100_21, x100_24, x100_26, x100_27, x100_28, x100_31, x100_34, x100_35, x100_36, x100_37, x100_38, x100_39, x100_42, x100_44, x100_45, x100_46, x100_49, x100_50, x100_53, x100_56, x100_57, x100_60, x100_63, x100_64, x100_65, x100_66, x100_67, aft_some, aft_void, Option.bind_some, Option.toList_some, Option.toList_none, List.cons_append, List.nil_append, if_true, if_false, ↓reduceIte, eq_self, z0_o, ↓z0_0, ↓z0_1, ↓z0_2, ↓z0_3, ↓z0_4, ↓z0_5, ↓z0_5p0, ↓z0_5p1, ↓z0n h1, f0_o ho, ↓f0_0 ho, ↓f0_0p ho, ↓f0_1 ho, ↓f0_1p ho, ↓f0_2 ho, ↓f0_2p ho, ↓f0_3 ho, ↓f0_3p ho, ↓f0_4 ho, ↓f0_5 ho, ↓f0_6 ho, ↓f0_7 ho, ↓f0_8 ho, ↓f0_9 ho, ↓f0_10 ho, ↓f0_11 ho, ↓f1_g ho, ↓f1_s ho, ↓f2_g ho, ↓f2_s ho, ↓aft_of (c_within), ↓aft_of (c_lo), ↓aft_of (c_hi), c1, c2, ok, cl, hv, c3]
  rw [if_neg c3]
  obtain ⟨T1, e1, f1, g1⟩ := h.push h1
  refine ⟨up1 T1 (o + 1) k v, ?_, ?_⟩
  · simp +decide only [x100_0, x100_1, x100_2, x100_3, x100_6, x100_9, x100_10, x100_11, x100_14, x100_15, x100_18, x100_21, x100_24, x100_26, x100_27, x100_28, x100_31, x100_34, x100_35, x100_36, x100_37, x100_38, x100_39, x100_42, x100_44, x100_45, x100_46, x100_49, x100_50, x100_53, x100_56, x100_57, x100_60, x100_63, x100_64, x100_65, x100_66, x100_67, aft_some, aft_void, Option.bind_some, Option.toList_some, Option.toList_none, List.cons_append, List.nil_append, if_true, if_false, ↓reduceIte, eq_self, z0_o, ↓z0_0, ↓z0_1, ↓z0_2, ↓z0_3, ↓z0_4, ↓z0_5, ↓z0_5p0, ↓z0_5p1, ↓z0n h1, f0_o ho, ↓f0_0 ho, ↓f0_0p ho, ↓f0_1 ho, ↓f0_1p ho, ↓f0_2 ho, ↓f0_2p ho, ↓f0_3 ho, ↓f0_3p ho, ↓f0_4 ho, ↓f0_5 ho, ↓f0_6 ho, ↓f0_7 ho, ↓f0_8 ho, ↓f0_9 ho, ↓f0_10 ho, ↓f0_11 ho, ↓f1_g ho, ↓f1_s ho, ↓f2_g ho, ↓f2_s ho, z154_o, ↓z154_0, ↓z154_1, ↓z154_1p, ↓z154_2, ↓z154_2p, ↓z155_g, ↓aft_of (c_within), ↓aft_of (c_lo), ↓aft_of (c_hi), c1, c2, ok, cl, hv, c3, ↓aft_of (e1)]
  · subst h1
    have h8 := h.2.1.2.1.1.2.2.2.1
    obtain ⟨⟨d0, hd0, ed0⟩, ⟨g0, hg0, hg1, eg0⟩, m0, hm0, em0⟩ := h.2.1.2.1.2.2.1
    refine g1.now (CS.set1 g1.2.1.1 h8 (Or.inl rfl)) ⟨h.2.1.2.1.v ?_ ?_ ?_ ?_ ?_, h.2.1.2.2⟩ (fun a ha => ?_) (fun _ _ => rfl)
    · simp +decide only [u_n]
    · simp +decide only [u_n]
    · simp +decide only [u_n]
    · simp +decide only [u_n]
    · simp only [upA_s]
      match k, hk with
      | 0, _ =>
        obtain ⟨x, -, hx, rfl⟩ := inI_ex2 (m := 0) (n := 2) (by decide) (by decide) c2
        exact ⟨⟨x, by omega, by simp +decide only [upA_s]⟩, ⟨g0, hg0, hg1, by simp +decide only [u_n]; exact eg0⟩, m0, hm0, by simp +decide only [u_n]; exact em0⟩
      | 1, _ =>
        obtain ⟨x, -, hx, rfl⟩ := inI_ex2 (m := 0) (n := 20) (by decide) (by decide) c2
        exact ⟨⟨d0, hd0, by simp +decide only [u_n]; exact ed0⟩, ⟨g0, hg0, hg1, by simp +decide only [u_n]; exact eg0⟩, x, by omega, by simp +decide only [upA_s]⟩
      | 2, _ =>
        obtain ⟨x, hx0, hx, rfl⟩ := inI_ex2 (m := 1) (n := 60) (by decide) (by decide) c2
        exact ⟨⟨d0, hd0, by simp +decide only [u_n]; exact ed0⟩, ⟨x, hx0, hx, by simp +decide only [upA_s]⟩, m0, hm0, by simp +decide only [u_n]; exact em0⟩
      | 3, _ =>
        exact ⟨⟨d0, hd0, by simp +decide only [u_n]; exact ed0⟩, ⟨g0, hg0, hg1, by simp +decide only [u_n]; exact eg0⟩, m0, hm0, by simp +decide only [u_n]; exact em0⟩
    · exact upA_n _ _ (by omega)
theorem g_type (h : CG EE T P s) {c : Int32} (hcc : vp_nar .char c = c) : ∃ T', X 101 0 [.ref 0, .int c] [] (H T P) = some (some (.int (gType c s).1), H T' P) ∧ CG EE T' P (gType c s).2 := by
  obtain ⟨h1, h2, h3, h4, t1, t2, t3, t4⟩ := id h
  obtain ⟨u, k, L, n, f⟩ := s
  have t1 : n ≤ 60 := t1
  have t2 : T 360 1 = nI n := t2
  have t3 : ∀ i, i < n → T 361 i = f i := t3
  have c60 : (nI n < 60) = (n < 60) := nI_ltp (a := n) (b := 60) (by omega) (by decide)
  by_cases c1 : n < 60
  · have e : gType c (u, k, L, n, f) = (nI (n + 1), u, k, L, n + 1, upA f n c) := by
      unfold gType
      exact if_pos c1
    rw [e]
    have ok := okx_nI c1 (show (60 : Nat) < 2 ^ 31 by decide)
    have cl := nI_clamp (show n < 2 ^ 31 by omega)
    refine ⟨up1 (up1 T 361 n c) 360 1 (nI (n + 1)), ?_, ?_⟩
    · simp +decide only [x101_0, x101_1, x101_4, x101_7, x101_9, x101_12, x101_14, x101_15, x101_16, x101_19, x101_20, x101_23, x101_24, x101_27, x101_30, x16_0, x16_1, x16_4, x16_5, x16_8, x16_9, x16_10, x16_11, x16_12, x16_15, x16_16, x16_17, x16_20, aft_some, aft_void, Option.bind_some, Option.toList_some, Option.toList_none, List.cons_append, List.nil_append, if_true, if_false, ↓reduceIte, eq_self, z0_o, ↓z0_0, ↓z0_1, ↓z0_2, ↓z0_3, ↓z0_4, ↓z0_5, ↓z0_5p0, ↓z0_5p1, z360_o, ↓z360_0, ↓z360_1, ↓z360_1p, ↓z360_2, ↓z360_2p, ↓z360_3, ↓z360_4, ↓z360_5, ↓z360_6, ↓z360_7, ↓z360_7p, ↓z360_8, ↓z360_8p, ↓z361_g, ↓z361_s, ↓z362_g, ↓z362_s, ↓z363_g, ↓z363_s, ↓z364_g, ↓z364_s, ↓z365_g, ↓z365_s, upA_s, u_oo, u_o0, u_0o, u_n, t2, c60, c1, ok, cl, hcc, nI_1]
    · have hf : ∀ a, a < 360 → up1 (up1 T 361 n c) 360 1 (nI (n + 1)) a = T a := fun a ha => by
        simp only [upA_n _ _ (show a ≠ 360 by omega), upA_n _ _ (show a ≠ 361 by omega)]
      refine ⟨h1, ⟨CS.same h2.1 h2.2.1.1.2.2.2.1 (fun a h1 h2 => hf a (by omega)) rfl, h2.2⟩, h3.same (hf 0 (by decide)) (fun a _ _ => hf a (by omega)) rfl, h4.same (fun a _ _ => hf a (by omega)) (fun _ _ _ => rfl), show n + 1 ≤ 60 by omega, ?_, fun i hi => ?_, fun a ha => ?_⟩
      · simp only [upA_s]
      · have hi : i < n + 1 := hi
        show up1 (up1 T 361 n c) 360 1 (nI (n + 1)) 361 i = upA f n c i
        simp +decide only [upA_s, u_n]
        unfold upA
        by_cases e : i = n
        · rw [if_pos e, if_pos e]
        · rw [if_neg e, if_neg e]; exact t3 i (by omega)
      · simp only [upA_n _ _ (show a ≠ 360 by omega), upA_n _ _ (show a ≠ 361 by omega)]; exact t4 a ha
  · have e : gType c (u, k, L, n, f) = (-3, u, k, L, n, f) := by
      unfold gType
      exact if_neg c1
    rw [e]
    refine ⟨T, ?_, h⟩
    simp +decide only [x101_0, x101_1, x101_4, x101_7, x101_9, x101_12, x101_14, x101_15, x101_16, x101_19, x101_20, x101_23, x101_24, x101_27, x101_30, aft_some, aft_void, Option.bind_some, Option.toList_some, Option.toList_none, List.cons_append, List.nil_append, if_true, if_false, ↓reduceIte, eq_self, z0_o, ↓z0_0, ↓z0_1, ↓z0_2, ↓z0_3, ↓z0_4, ↓z0_5, ↓z0_5p0, ↓z0_5p1, z360_o, ↓z360_0, ↓z360_1, ↓z360_1p, ↓z360_2, ↓z360_2p, ↓z360_3, ↓z360_4, ↓z360_5, ↓z360_6, ↓z360_7, ↓z360_7p, ↓z360_8, ↓z360_8p, ↓z361_g, ↓z361_s, ↓z362_g, ↓z362_s, ↓z363_g, ↓z363_s, ↓z364_g, ↓z364_s, ↓z365_g, ↓z365_s, t2, c60, c1]
theorem g_clear (h : CG EE T P s) : ∃ T', X 102 0 [.ref 0, .long 0] [] (H T P) = some (some (.int (gClear s).1), H T' P) ∧ CG EE T' P (gClear s).2 := by
  obtain ⟨h1, h2, h3, h4, t1, t2, t3, t4⟩ := id h
  have hf : ∀ a, a < 360 → up1 T 360 1 0 a = T a := fun a ha => by
    simp only [upA_n _ _ (show a ≠ 360 by omega)]
  refine ⟨up1 T 360 1 0, ?_, h1, ⟨CS.same h2.1 h2.2.1.1.2.2.2.1 (fun a h1 h2 => hf a (by omega)) rfl, h2.2⟩, h3.same (hf 0 (by decide)) (fun a _ _ => hf a (by omega)) rfl, h4.same (fun a _ _ => hf a (by omega)) (fun _ _ _ => rfl), show 0 ≤ 60 by decide, ?_, fun i hi => absurd hi (Nat.not_lt_zero i), fun a ha => by simp only [upA_n _ _ (show a ≠ 360 by omega)]; exact t4 a ha⟩
  · unfold gClear
    simp +decide only [x102_0, x102_1, x102_4, x102_7, x102_8, x102_9, x102_12, x102_13, x102_16, x102_17, aft_some, aft_void, Option.bind_some, Option.toList_some, Option.toList_none, List.cons_append, List.nil_append, if_true, if_false, ↓reduceIte, eq_self, z0_o, ↓z0_0, ↓z0_1, ↓z0_2, ↓z0_3, ↓z0_4, ↓z0_5, ↓z0_5p0, ↓z0_5p1, z360_o, ↓z360_0, ↓z360_1, ↓z360_1p, ↓z360_2, ↓z360_2p, ↓z360_3, ↓z360_4, ↓z360_5, ↓z360_6, ↓z360_7, ↓z360_7p, ↓z360_8, ↓z360_8p, ↓z361_g, ↓z361_s, ↓z362_g, ↓z362_s, ↓z363_g, ↓z363_s, ↓z364_g, ↓z364_s, ↓z365_g, ↓z365_s, t2]
  · simp only [upA_s]; rfl
theorem g_undo (h1 : o = 1) (h : CG EE T P s) : ∃ T', X 104 0 [.ref 0] [] (H T P) = some (some (.int (gUndo s).1), H T' P) ∧ CG EE T' P (gUndo s).2 := by
  have ho : isB o := by subst h1; exact isB_1
  obtain ⟨h01, h2, h3, h4, h5⟩ := id h
  obtain ⟨u, k, L, t⟩ := s
  cases L with
  | nil =>
    have hn : T 154 1 = 0 := h4.2.1
    refine ⟨T, ?_, h⟩
    unfold gUndo
    simp +decide only [x104_0, x104_1, x104_4, x104_7, x104_10, x104_12, x104_13, x104_14, x104_17, x104_18, x104_21, x104_24, x104_25, x104_28, x104_31, aft_some, aft_void, Option.bind_some, Option.toList_some, Option.toList_none, List.cons_append, List.nil_append, if_true, if_false, ↓reduceIte, eq_self, z0_o, ↓z0_0, ↓z0_1, ↓z0_2, ↓z0_3, ↓z0_4, ↓z0_5, ↓z0_5p0, ↓z0_5p1, z154_o, ↓z154_0, ↓z154_1, ↓z154_1p, ↓z154_2, ↓z154_2p, ↓z155_g, hn]
  | cons v L =>
    have hn : T 154 1 = nI (L.length + 1) := h4.2.1
    have hL : L.length + 1 ≤ 4 := h4.1
    have hne : (nI (L.length + 1) = 0) = False := by
      have := nI_inj (a := L.length + 1) (b := 0) (by omega) (by decide)
      rw [show nI 0 = 0 from rfl] at this
      rw [this]; simp
    obtain ⟨T1, e1, f1, c1, w1, i1⟩ := c_pop h01 h4
    have hn1 : T1 154 1 = nI L.length := i1.2.1
    refine ⟨T1, ?_, h01, ⟨c1, w1⟩, ?_, i1, ?_⟩
    · unfold gUndo
      rw [← h1] at e1
      simp +decide only [x104_0, x104_1, x104_4, x104_7, x104_10, x104_12, x104_13, x104_14, x104_17, x104_18, x104_21, x104_24, x104_25, x104_28, x104_31, aft_some, aft_void, Option.bind_some, Option.toList_some, Option.toList_none, List.cons_append, List.nil_append, if_true, if_false, ↓reduceIte, eq_self, z0_o, ↓z0_0, ↓z0_1, ↓z0_2, ↓z0_3, ↓z0_4, ↓z0_5, ↓z0_5p0, ↓z0_5p1, ↓z0n h1, f0_o ho, ↓f0_0 ho, ↓f0_0p ho, ↓f0_1 ho, ↓f0_1p ho, ↓f0_2 ho, ↓f0_2p ho, ↓f0_3 ho, ↓f0_3p ho, ↓f0_4 ho, ↓f0_5 ho, ↓f0_6 ho, ↓f0_7 ho, ↓f0_8 ho, ↓f0_9 ho, ↓f0_10 ho, ↓f0_11 ho, ↓f1_g ho, ↓f1_s ho, ↓f2_g ho, ↓f2_s ho, z154_o, ↓z154_0, ↓z154_1, ↓z154_1p, ↓z154_2, ↓z154_2p, ↓z155_g, hn, hne, hn1, ↓aft_of (e1)]
    · exact KP.same h3 (f1 0 (by decide)) (fun a ha hb => f1 a (by omega)) rfl
    · exact TX.same h5 (fun a ha => f1 a (by omega))
theorem g_keep (h1 : o = 1) (hq1 : q = 52) (h : CG EE T P s) : ∃ T', X 105 0 [.ref 0] [] (H T P) = some (some (.int (gKeep s).1), H T' P) ∧ CG EE T' P (gKeep s).2 := by
  have ho : isB o := by subst h1; exact isB_1
  have hq : isB q := by subst hq1; exact isB_52
  obtain ⟨h01, h2, h3, h4, h5⟩ := id h
  have hc : CSu o T P s.1 := by subst h1; exact h2.1
  have h8 := h2.2.1.1.2.2.2.1
  obtain ⟨T1, e1, f1, c1⟩ := c_stCopy (o := q) (q := o) hq ho (by omega) (h01.1 _ hq) hc h2.2.1.1.2.1 h8
  have hd : T1 o 0 = nI (s.1.1.1 0) := by
    rw [f1 o (by omega), hc.1.1 0 (by decide)]; exact hc.1.2.2.2
  have hd1 : up1 T1 0 5 1 o 0 = nI (s.1.1.1 0) := by rw [← hd]; simp only [upA_n _ _ (show o ≠ 0 by omega)]
  have hf : ∀ a, a ≠ 0 → up1 T1 0 5 1 a = T1 a := fun a ha => upA_n _ _ ha
  refine ⟨up1 T1 0 5 1, ?_, h01, ⟨?_, h2.2⟩, ⟨?_, ?_, h2.2⟩, ?_, ?_⟩
  · unfold gKeep
    simp +decide only [x105_0, x105_1, x105_4, x105_5, x105_8, x105_11, x105_12, x105_13, x105_16, x105_17, x105_20, x105_23, aft_some, aft_void, Option.bind_some, Option.toList_some, Option.toList_none, List.cons_append, List.nil_append, if_true, if_false, ↓reduceIte, eq_self, z0_o, ↓z0_0, ↓z0_1, ↓z0_2, ↓z0_3, ↓z0_4, ↓z0_5, ↓z0_5p0, ↓z0_5p1, ↓z0n h1, ↓z0k hq1, f0_o ho, ↓f0_0 ho, ↓f0_0p ho, ↓f0_1 ho, ↓f0_1p ho, ↓f0_2 ho, ↓f0_2p ho, ↓f0_3 ho, ↓f0_3p ho, ↓f0_4 ho, ↓f0_5 ho, ↓f0_6 ho, ↓f0_7 ho, ↓f0_8 ho, ↓f0_9 ho, ↓f0_10 ho, ↓f0_11 ho, ↓f1_g ho, ↓f1_s ho, ↓f2_g ho, ↓f2_s ho, f0_o hq, ↓f0_0 hq, ↓f0_0p hq, ↓f0_1 hq, ↓f0_1p hq, ↓f0_2 hq, ↓f0_2p hq, ↓f0_3 hq, ↓f0_3p hq, ↓f0_4 hq, ↓f0_5 hq, ↓f0_6 hq, ↓f0_7 hq, ↓f0_8 hq, ↓f0_9 hq, ↓f0_10 hq, ↓f0_11 hq, ↓f1_g hq, ↓f1_s hq, ↓f2_g hq, ↓f2_s hq, hd1, ↓aft_of (e1)]
  · subst h1; subst hq1
    exact CS.same h2.1 h8 (fun a ha hb => by rw [hf a (by omega), f1 a (by omega)]) rfl
  · simp only [upA_s]
  · subst hq1
    exact CS.same c1 h8 (fun a ha hb => hf a (by omega)) rfl
  · exact h4.same (fun a ha hb => by rw [hf a (by omega), f1 a (by omega)]) (fun _ _ _ => rfl)
  · exact h5.same (fun a ha => by rw [hf a (by omega), f1 a (by omega)])
theorem g_rest (h1 : o = 1) (hq1 : q = 52) (h : CG EE T P s) : ∃ T', X 106 0 [.ref 0] [] (H T P) = some (some (.int (gRest s).1), H T' P) ∧ CG EE T' P (gRest s).2 := by
  have ho : isB o := by subst h1; exact isB_1
  have hq : isB q := by subst hq1; exact isB_52
  obtain ⟨u, k, L, t⟩ := s
  cases k with
  | none =>
    have hn : T 0 5 = 0 := h.2.2.1
    refine ⟨T, ?_, h⟩
    unfold gRest
    simp +decide only [x106_0, x106_1, x106_4, x106_7, x106_9, x106_10, x106_11, x106_14, x106_15, x106_18, x106_21, x106_22, x106_25, x106_26, x106_29, x106_32, x106_33, x106_36, x106_39, aft_some, aft_void, Option.bind_some, Option.toList_some, Option.toList_none, List.cons_append, List.nil_append, if_true, if_false, ↓reduceIte, eq_self, z0_o, ↓z0_0, ↓z0_1, ↓z0_2, ↓z0_3, ↓z0_4, ↓z0_5, ↓z0_5p0, ↓z0_5p1, hn]
  | some v =>
    have hn : T 0 5 = 1 := h.2.2.1.1
    obtain ⟨T1, e1, f1, g1⟩ := h.push h1
    obtain ⟨-, hv, wv⟩ := g1.2.2.1
    have hv : CSu q T1 P v := by subst hq1; exact hv
    obtain ⟨T2, e2, f2, c2⟩ := c_stCopy (o := o) (q := q) ho hq (by omega) (h.1.1 _ ho) hv wv.1.1.2.1 wv.1.1.2.2.2.1
    have hd : T2 o 0 = nI (v.1.1 0) := by rw [c2.1.1 0 (by decide)]; exact c2.1.2.2.2
    refine ⟨T2, ?_, ?_⟩
    · unfold gRest
      simp +decide only [x106_0, x106_1, x106_4, x106_7, x106_9, x106_10, x106_11, x106_14, x106_15, x106_18, x106_21, x106_22, x106_25, x106_26, x106_29, x106_32, x106_33, x106_36, x106_39, aft_some, aft_void, Option.bind_some, Option.toList_some, Option.toList_none, List.cons_append, List.nil_append, if_true, if_false, ↓reduceIte, eq_self, z0_o, ↓z0_0, ↓z0_1, ↓z0_2, ↓z0_3, ↓z0_4, ↓z0_5, ↓z0_5p0, ↓z0_5p1, ↓z0n h1, ↓z0k hq1, f0_o ho, ↓f0_0 ho, ↓f0_0p ho, ↓f0_1 ho, ↓f0_1p ho, ↓f0_2 ho, ↓f0_2p ho, ↓f0_3 ho, ↓f0_3p ho, ↓f0_4 ho, ↓f0_5 ho, ↓f0_6 ho, ↓f0_7 ho, ↓f0_8 ho, ↓f0_9 ho, ↓f0_10 ho, ↓f0_11 ho, ↓f1_g ho, ↓f1_s ho, ↓f2_g ho, ↓f2_s ho, f0_o hq, ↓f0_0 hq, ↓f0_0p hq, ↓f0_1 hq, ↓f0_1p hq, ↓f0_2 hq, ↓f0_2p hq, ↓f0_3 hq, ↓f0_3p hq, ↓f0_4 hq, ↓f0_5 hq, ↓f0_6 hq, ↓f0_7 hq, ↓f0_8 hq, ↓f0_9 hq, ↓f0_10 hq, ↓f0_11 hq, ↓f1_g hq, ↓f1_s hq, ↓f2_g hq, ↓f2_s hq, z154_o, ↓z154_0, ↓z154_1, ↓z154_1p, ↓z154_2, ↓z154_2p, ↓z155_g, hn, hd, ↓aft_of (e1), ↓aft_of (e2)]
    · subst h1
      exact g1.now c2 wv (fun a ha => f2 a (by omega)) (fun _ _ => rfl)
end CL2
end
section
/-! basket, iron, pass -/
abbrev bkU (u : uT) (c g : Nat) (p st : Int32) : uT := ((rcN u.1.1, up1 u.1.2.1 0 1 (u.1.2.1 0 1 + nI g), dropE (tkL c g u.1.2.2.1), wrB u.1.2.2.2 0 (u.1.2.1 0 0) (nI (u.1.1 2)) (nI g)), rcK u.1.1 u.1.2.1 u.2 c p st)
abbrev rfU (u : uT) (c p st g : Int32) : Int32 := rfI (u.1.1 1) u.1.2.2.1 u.2.length (u.1.1 2) c p st g
def gBask (c p st g : Int32) (s : gT) : Int32 × gT := if rfU s.1 c p st g < 0 then (rfU s.1 c p st g, s) else (nI (s.1.1.1 2), bkU s.1 c.toNatClampNeg g.toNatClampNeg p st, s.2.1, psL s, s.2.2.2)
noncomputable abbrev irU (u : uT) (m : Int32) : uT := ((u.1.1, (irS u.1.1 288 u.1.2.1 u.2 m).2.1, u.1.2.2), (irS u.1.1 288 u.1.2.1 u.2 m).2.2)
noncomputable def gIron (m : Int32) (s : gT) : Int32 × gT := if inI m 1 600 = 0 then (-2, s) else (nI (irS s.1.1.1 288 s.1.1.2.1 s.1.2 m).1, irU s.1 m, s.2.1, psL s, s.2.2.2)
noncomputable def dyU (u : uT) : uT := (dyS u.1 u.2, dyK u.1 u.2)
noncomputable def psU : Nat → uT → uT
  | 0, u => u
  | n + 1, u => dyU (psU n u)
noncomputable def psT : Nat → uT → Int32
  | 0, _ => 0
  | n + 1, u => psT n u + nI ((psU n u).2.length - (dyU (psU n u)).2.length)
noncomputable def gPass (d : Int32) (s : gT) : Int32 × gT := if inI d 1 99 = 0 then (-2, s) else if 9999 < nI (s.1.1.1 0) + d then (-3, s) else (psT d.toNatClampNeg s.1, psU d.toNatClampNeg s.1, s.2.1, psL s, s.2.2.2)
theorem outL_le (c : Nat) : ∀ B : List bT, outL c B ≤ allL B
  | [] => Nat.le_refl _
  | q :: B => by
    have := outL_le c B
    simp only [outL, allL]
    split <;> omega
theorem allL_b {B : List bT} (h : OS B) : allL B ≤ 1000 * B.length := by
  induction B with
  | nil => exact Nat.le_refl _
  | cons q L ih =>
    have := ih (fun x hx => h x (List.mem_cons_of_mem _ hx))
    have h3 := (h q List.mem_cons_self).2.2
    simp only [allL, List.length_cons]
    omega
theorem rf_ok {u : uT} (hw : WFu u) {c p st g : Int32} (h : ¬ rfU u c p st g < 0) : rfU u c p st g = 0 ∧ ∃ k x y z, k < u.1.1 1 ∧ c = nI k ∧ x ≤ 9999 ∧ p = nI x ∧ y ≤ 3 ∧ st = nI y ∧ z ≤ 99 ∧ z ≤ outL k u.1.2.2.1 ∧ g = nI z ∧ u.2.length < 8 ∧ u.1.1 2 < 99 := by
  have hN1 := hw.1.1.2.1
  have hOS := OS.of_wf hw.1
  have hB : u.1.2.2.1.length ≤ 99 := by have := hw.1.2.2.2.2.2.1.2.2; have := hw.1.1.2.2.1; omega
  unfold rfU rfI at h ⊢
  by_cases c0 : c < 0
  · rw [if_pos c0] at h; exact absurd (by decide) h
  rw [if_neg c0] at h ⊢
  by_cases c1 : c < nI (u.1.1 1)
  · rw [if_pos c1] at h ⊢
    obtain ⟨k, hk, rfl⟩ := nI_ex c0 (by omega) c1
    rw [nI_clamp (by omega)] at h ⊢
    by_cases c2 : p < 1 ∨ 9999 < p ∨ st < 0 ∨ 3 < st ∨ g < 0 ∨ 99 < g
    · rw [if_pos c2] at h; exact absurd (by decide) h
    rw [if_neg c2] at h ⊢
    by_cases c3 : nI (outL k u.1.2.2.1) < g
    · rw [if_pos c3] at h; exact absurd (by decide) h
    rw [if_neg c3] at h ⊢
    by_cases c4 : u.2.length < 8 ∧ u.1.1 2 < 99
    · rw [if_pos c4] at h ⊢
      have f : ∀ (v : Int32) (m : Nat), m < 2 ^ 31 → ¬ v < 0 → ¬ nI m < v → ∃ x, x ≤ m ∧ v = nI x := by
        intro v m hm h0 h2
        obtain ⟨j, hj, rfl⟩ := nI_of h0
        rw [nI_ltp hm hj] at h2
        exact ⟨j, by omega, rfl⟩
      have p0 : ¬ p < 0 := fun z => c2 (Or.inl (by
        rw [Int32.lt_iff_toInt_lt] at z ⊢
        have e0 : (0 : Int32).toInt = 0 := by decide
        have e1 : (1 : Int32).toInt = 1 := by decide
        omega))
      obtain ⟨x, hx, ex⟩ := f p 9999 (by decide) p0 (fun z => c2 (Or.inr (Or.inl z)))
      obtain ⟨y, hy, ey⟩ := f st 3 (by decide) (fun z => c2 (Or.inr (Or.inr (Or.inl z)))) (fun z => c2 (Or.inr (Or.inr (Or.inr (Or.inl z)))))
      obtain ⟨z, hz, ez⟩ := f g 99 (by decide) (fun z => c2 (Or.inr (Or.inr (Or.inr (Or.inr (Or.inl z)))))) (fun z => c2 (Or.inr (Or.inr (Or.inr (Or.inr (Or.inr z))))))
      have ho := outL_le k u.1.2.2.1
      have ha := allL_b hOS
      rw [ez, nI_ltp (by omega) (by omega)] at c3
      exact ⟨rfl, k, x, y, z, hk, rfl, hx, ex, hy, ey, hz, by omega, ez, c4.1, c4.2⟩
    · rw [if_neg c4] at h; exact absurd (by decide) h
  · rw [if_neg c1] at h; exact absurd (by decide) h
section CL3
variable {T U EE : Nat → Nat → Int32} {P Q : Nat → Nat → Nat} {o q : Nat} {s : gT} {u : uT}
theorem g_bask (h1 : o = 1) (h : CG EE T P s) (c p st g : Int32) : ∃ T', X 92 0 [.ref 0, .int c, .int p, .int st, .int g, .long 0] [] (H T P) = some (some (.int (gBask c p st g s).1), H T' P) ∧ CG EE T' P (gBask c p st g s).2 := by
  have ho : isB o := by subst h1; exact isB_1
  have hc : CSu o T P s.1 := by subst h1; exact h.2.1.1
  have er := c_refusal (x := c) (y := p) (z := st) (w := g) ho hc h.2.1.2.1
  rw [show rfI (s.1.1.1 1) s.1.1.2.2.1 s.1.2.length (s.1.1.1 2) c p st g = rfU s.1 c p st g from rfl] at er
  unfold gBask
  by_cases c1 : rfU s.1 c p st g < 0
  · rw [if_pos c1]
    refine ⟨T, ?_, h⟩
    simp +decide only [x92_0, x92_1, x92_4, x92_5, x92_6, x92_7, x92_9, x92_12, x92_14, x92_16, x92_19, x92_21, x92_22, x92_23, x92_26, x92_27, x92_30, x92_33, x92_34, x92_37, x92_38, x92_39, x92_40, x92_42, x92_45, aft_some, aft_void, Option.bind_some, Option.toList_some, Option.toList_none, List.cons_append, List.nil_append, if_true, if_false, ↓reduceIte, eq_self, z0_o, ↓z0_0, ↓z0_1, ↓z0_2, ↓z0_3, ↓z0_4, ↓z0_5, ↓z0_5p0, ↓z0_5p1, ↓z0n h1, f0_o ho, ↓f0_0 ho, ↓f0_0p ho, ↓f0_1 ho, ↓f0_1p ho, ↓f0_2 ho, ↓f0_2p ho, ↓f0_3 ho, ↓f0_3p ho, ↓f0_4 ho, ↓f0_5 ho, ↓f0_6 ho, ↓f0_7 ho, ↓f0_8 ho, ↓f0_9 ho, ↓f0_10 ho, ↓f0_11 ho, ↓f1_g ho, ↓f1_s ho, ↓f2_g ho, ↓f2_s ho, ↓aft_of (er), c1]
  rw [if_neg c1]
  obtain ⟨e0, k, x, y, z, hk, rfl, hx, rfl, hy, rfl, hz, hzo, rfl, h8, h99⟩ := rf_ok h.2.1.2 c1
  obtain ⟨T1, e1, f1, g1⟩ := h.push h1
  have hc1 : CSu o T1 P s.1 := by subst h1; exact g1.2.1.1
  have hN1 := h.2.1.2.1.1.2.1
  obtain ⟨T2, e2, f2, c2⟩ := c_receive (p := nI x) (st := nI y) ho hc1 h.2.1.2.1 hk h8 hz
  rw [nI_clamp (by omega), nI_clamp (by omega)]
  refine ⟨T2, ?_, ?_⟩
  · simp +decide only [x92_0, x92_1, x92_4, x92_5, x92_6, x92_7, x92_9, x92_12, x92_14, x92_16, x92_19, x92_21, x92_22, x92_23, x92_26, x92_27, x92_30, x92_33, x92_34, x92_37, x92_38, x92_39, x92_40, x92_42, x92_45, aft_some, aft_void, Option.bind_some, Option.toList_some, Option.toList_none, List.cons_append, List.nil_append, if_true, if_false, ↓reduceIte, eq_self, z0_o, ↓z0_0, ↓z0_1, ↓z0_2, ↓z0_3, ↓z0_4, ↓z0_5, ↓z0_5p0, ↓z0_5p1, ↓z0n h1, f0_o ho, ↓f0_0 ho, ↓f0_0p ho, ↓f0_1 ho, ↓f0_1p ho, ↓f0_2 ho, ↓f0_2p ho, ↓f0_3 ho, ↓f0_3p ho, ↓f0_4 ho, ↓f0_5 ho, ↓f0_6 ho, ↓f0_7 ho, ↓f0_8 ho, ↓f0_9 ho, ↓f0_10 ho, ↓f0_11 ho, ↓f1_g ho, ↓f1_s ho, ↓f2_g ho, ↓f2_s ho, z154_o, ↓z154_0, ↓z154_1, ↓z154_1p, ↓z154_2, ↓z154_2p, ↓z155_g, ↓aft_of (er), c1, ↓aft_of (e1), ↓aft_of (e2)]
  · subst h1
    refine g1.now c2 ⟨WF_come h.2.1.2.1 hk h8 h99 hzo ⟨x, hx, rfl⟩ ⟨y, hy, rfl⟩, ?_⟩ (fun a ha => f2 a (by omega)) (fun _ _ => rfl)
    show rcN s.1.1.1 0 ≤ 9999
    simp +decide only [u_n]
    exact h.2.1.2.2
theorem g_iron (h1 : o = 1) (h : CG EE T P s) (m : Int32) : ∃ T', X 96 0 [.ref 0, .int m] [] (H T P) = some (some (.int (gIron m s).1), H T' P) ∧ CG EE T' P (gIron m s).2 := by
  have ho : isB o := by subst h1; exact isB_1
  unfold gIron
  by_cases c1 : inI m 1 600 = 0
  · rw [if_pos c1]
    refine ⟨T, ?_, h⟩
    simp +decide only [x96_0, x96_1, x96_2, x96_5, x96_8, x96_11, x96_13, x96_14, x96_15, x96_18, x96_19, x96_22, x96_25, x96_26, x96_29, x96_30, x96_33, aft_some, aft_void, Option.bind_some, Option.toList_some, Option.toList_none, List.cons_append, List.nil_append, if_true, if_false, ↓reduceIte, eq_self, z0_o, ↓z0_0, ↓z0_1, ↓z0_2, ↓z0_3, ↓z0_4, ↓z0_5, ↓z0_5p0, ↓z0_5p1, ↓aft_of (c_within), c1]
  rw [if_neg c1]
  obtain ⟨T1, e1, f1, g1⟩ := h.push h1
  have hc1 : CSu o T1 P s.1 := by subst h1; exact g1.2.1.1
  obtain ⟨T2, e2, f2, c2, w2⟩ := c_ironFor (m0 := m) ho hc1 h.2.1.2.1
  refine ⟨T2, ?_, ?_⟩
  · simp +decide only [x96_0, x96_1, x96_2, x96_5, x96_8, x96_11, x96_13, x96_14, x96_15, x96_18, x96_19, x96_22, x96_25, x96_26, x96_29, x96_30, x96_33, aft_some, aft_void, Option.bind_some, Option.toList_some, Option.toList_none, List.cons_append, List.nil_append, if_true, if_false, ↓reduceIte, eq_self, z0_o, ↓z0_0, ↓z0_1, ↓z0_2, ↓z0_3, ↓z0_4, ↓z0_5, ↓z0_5p0, ↓z0_5p1, ↓z0n h1, f0_o ho, ↓f0_0 ho, ↓f0_0p ho, ↓f0_1 ho, ↓f0_1p ho, ↓f0_2 ho, ↓f0_2p ho, ↓f0_3 ho, ↓f0_3p ho, ↓f0_4 ho, ↓f0_5 ho, ↓f0_6 ho, ↓f0_7 ho, ↓f0_8 ho, ↓f0_9 ho, ↓f0_10 ho, ↓f0_11 ho, ↓f1_g ho, ↓f1_s ho, ↓f2_g ho, ↓f2_s ho, z154_o, ↓z154_0, ↓z154_1, ↓z154_1p, ↓z154_2, ↓z154_2p, ↓z155_g, ↓aft_of (c_within), c1, ↓aft_of (e1), ↓aft_of (e2)]
  · subst h1
    exact g1.now c2 ⟨w2, h.2.1.2.2⟩ (fun a ha => f2 a (by omega)) (fun _ _ => rfl)
theorem dy_day (u : uT) : (dyU u).1.1 0 = u.1.1 0 + 1 := by
  obtain ⟨l0, -⟩ := lvE_keep (goK (dy1 u.1).1 (dy1 u.1).2.1) (dy1 u.1) u.2
  obtain ⟨n0, -⟩ := ch_keep (l0 := u.1.1 0 + 1 - dyG u.1.2.1) (s := dy0 u.1) (u.1.1 1)
  have a : (dyU u).1.1 0 = (dy1 u.1).1 0 := l0
  have b : (dy1 u.1).1 0 = (dy0 u.1).1 0 := n0
  rw [a, b]
  show upA u.1.1 0 (u.1.1 0 + 1) 0 = _
  exact upA_s _ _ _
theorem g_pass (h1 : o = 1) (h : CG EE T P s) (d : Int32) : ∃ T' P', X 97 0 [.ref 0, .int d, .long 0, .long 0] [] (H T P) = some (some (.int (gPass d s).1), H T' P') ∧ CG EE T' P' (gPass d s).2 := by
  have ho : isB o := by subst h1; exact isB_1
  have hc : CSu o T P s.1 := by subst h1; exact h.2.1.1
  have hd : T o 0 = nI (s.1.1.1 0) := by rw [hc.1.1 0 (by decide)]; exact hc.1.2.2.2
  unfold gPass
  by_cases c1 : inI d 1 99 = 0
  · rw [if_pos c1]
    refine ⟨T, P, ?_, h⟩
    simp +decide only [x97_0, x97_1, x97_2, x97_4, x97_7, x97_10, x97_12, x97_13, x97_14, x97_17, x97_20, x97_21, x97_22, x97_25, x97_28, x97_30, x97_31, x97_32, x97_35, x97_36, x97_39, x97_42, x97_43, x97_44, x97_45, x97_46, x97_47, x97_48, x97_51, x97_52, x97_53, x97_56, x97_59, x97_60, x97_61, x97_64, x97_67, x97_68, aft_some, aft_void, Option.bind_some, Option.toList_some, Option.toList_none, List.cons_append, List.nil_append, if_true, if_false, ↓reduceIte, eq_self, z0_o, ↓z0_0, ↓z0_1, ↓z0_2, ↓z0_3, ↓z0_4, ↓z0_5, ↓z0_5p0, ↓z0_5p1, ↓aft_of (c_within), c1]
  rw [if_neg c1]
  by_cases c2 : 9999 < nI (s.1.1.1 0) + d
  · rw [if_pos c2]
    refine ⟨T, P, ?_, h⟩
    simp +decide only [x97_0, x97_1, x97_2, x97_4, x97_7, x97_10, x97_12, x97_13, x97_14, x97_17, x97_20, x97_21, x97_22, x97_25, x97_28, x97_30, x97_31, x97_32, x97_35, x97_36, x97_39, x97_42, x97_43, x97_44, x97_45, x97_46, x97_47, x97_48, x97_51, x97_52, x97_53, x97_56, x97_59, x97_60, x97_61, x97_64, x97_67, x97_68, aft_some, aft_void, Option.bind_some, Option.toList_some, Option.toList_none, List.cons_append, List.nil_append, if_true, if_false, ↓reduceIte, eq_self, z0_o, ↓z0_0, ↓z0_1, ↓z0_2, ↓z0_3, ↓z0_4, ↓z0_5, ↓z0_5p0, ↓z0_5p1, ↓z0n h1, f0_o ho, ↓f0_0 ho, ↓f0_0p ho, ↓f0_1 ho, ↓f0_1p ho, ↓f0_2 ho, ↓f0_2p ho, ↓f0_3 ho, ↓f0_3p ho, ↓f0_4 ho, ↓f0_5 ho, ↓f0_6 ho, ↓f0_7 ho, ↓f0_8 ho, ↓f0_9 ho, ↓f0_10 ho, ↓f0_11 ho, ↓f1_g ho, ↓f1_s ho, ↓f2_g ho, ↓f2_s ho, ↓aft_of (c_within), c1, hd, c2]
  rw [if_neg c2]
  obtain ⟨n, hn1, hn, rfl⟩ := inI_ex2 (m := 1) (n := 99) (by decide) (by decide) c1
  have hw := h.2.1.2
  have h99 : s.1.1.1 0 + n ≤ 9999 := by
    have := hw.2
    rw [nI_add, show (9999 : Int32) = nI 9999 from rfl, nI_ltp (by decide) (by omega)] at c2
    omega
  rw [nI_clamp (show n < 2 ^ 31 by omega)]
  obtain ⟨T1, e1, f1, g1⟩ := h.push h1
  have hc1 : CSu o T1 P s.1 := by subst h1; exact g1.2.1.1
  obtain ⟨⟨T2, P2⟩, e2, i1, i2, i3, i4, i5⟩ := loop_ex (fun i (t : (Nat → Nat → Int32) × (Nat → Nat → Nat)) => X 97 46 [.ref 0, .int (nI n), .int (psT i s.1), .int (nI i)] [] (H t.1 t.2))
    (fun i t => (∀ a, (a < o ∨ o + 51 ≤ a) → t.1 a = T1 a) ∧ (∀ a, a ≠ o + 8 → t.2 a = P a) ∧ CSu o t.1 t.2 (psU i s.1) ∧ WF (psU i s.1).1.1 (psU i s.1).1.2.1 (psU i s.1).2 (psU i s.1).1.2.2.1 ∧ (psU i s.1).1.1 0 = s.1.1.1 0 + i) n (T1, P) ⟨fun _ _ => rfl, fun _ _ => rfl, hc1, hw.1, rfl⟩ (by
      intro i ⟨U, Q⟩ hi ⟨j1, j2, j3, j4, j5⟩
      have j1 : ∀ a, (a < o ∨ o + 51 ≤ a) → U a = T1 a := j1
      have j2 : ∀ a, a ≠ o + 8 → Q a = P a := j2
      have j3 : CSu o U Q (psU i s.1) := j3
      have j4 : WF (psU i s.1).1.1 (psU i s.1).1.2.1 (psU i s.1).2 (psU i s.1).1.2.2.1 := j4
      have j5 : (psU i s.1).1.1 0 = s.1.1.1 0 + i := j5
      obtain ⟨U2, Q2, e3, f3, q3, c3⟩ := c_nextDay ho j3 j4
      have e3 : X 85 0 [.ref o] [] (H U Q) = some (some (.int (nI ((psU i s.1).2.length - (dyU (psU i s.1)).2.length))), H U2 Q2) := e3
      refine ⟨(U2, Q2), ?_, fun a ha => (f3 a ha).trans (j1 a ha), fun a ha => (q3 a ha).trans (j2 a ha), c3, WF_day j4 (show (psU i s.1).1.1 0 < 10100 by omega), ?_⟩
      · show X 97 46 [.ref 0, .int (nI n), .int (psT i s.1), .int (nI i)] [] (H U Q) = _
        rw [x97_46]
        simp +decide only [x97_0, x97_1, x97_2, x97_4, x97_7, x97_10, x97_12, x97_13, x97_14, x97_17, x97_20, x97_21, x97_22, x97_25, x97_28, x97_30, x97_31, x97_32, x97_35, x97_36, x97_39, x97_42, x97_43, x97_44, x97_45, x97_47, x97_48, x97_51, x97_52, x97_53, x97_56, x97_59, x97_60, x97_61, x97_64, x97_67, x97_68, aft_some, aft_void, Option.bind_some, Option.toList_some, Option.toList_none, List.cons_append, List.nil_append, if_true, if_false, ↓reduceIte, eq_self, z0_o, ↓z0_0, ↓z0_1, ↓z0_2, ↓z0_3, ↓z0_4, ↓z0_5, ↓z0_5p0, ↓z0_5p1, ↓z0n h1, f0_o ho, ↓f0_0 ho, ↓f0_0p ho, ↓f0_1 ho, ↓f0_1p ho, ↓f0_2 ho, ↓f0_2p ho, ↓f0_3 ho, ↓f0_3p ho, ↓f0_4 ho, ↓f0_5 ho, ↓f0_6 ho, ↓f0_7 ho, ↓f0_8 ho, ↓f0_9 ho, ↓f0_10 ho, ↓f0_11 ho, ↓f1_g ho, ↓f1_s ho, ↓f2_g ho, ↓f2_s ho, nI_lt hi (show n < 2 ^ 31 by omega), ↓aft_of (e3), nI_1, psT]
      · show (dyU (psU i s.1)).1.1 0 = _
        rw [dy_day, j5]; omega)
  have i1 : ∀ a, (a < o ∨ o + 51 ≤ a) → T2 a = T1 a := i1
  have i2 : ∀ a, a ≠ o + 8 → P2 a = P a := i2
  have i3 : CSu o T2 P2 (psU n s.1) := i3
  refine ⟨T2, P2, ?_, ?_⟩
  · simp +decide only [x97_0, x97_1, x97_2, x97_4, x97_7, x97_10, x97_12, x97_13, x97_14, x97_17, x97_20, x97_21, x97_22, x97_25, x97_28, x97_30, x97_31, x97_32, x97_35, x97_36, x97_39, x97_42, x97_43, x97_44, x97_45, x97_47, x97_48, x97_51, x97_52, x97_53, x97_56, x97_59, x97_60, x97_61, x97_64, x97_67, x97_68, aft_some, aft_void, Option.bind_some, Option.toList_some, Option.toList_none, List.cons_append, List.nil_append, if_true, if_false, ↓reduceIte, eq_self, z0_o, ↓z0_0, ↓z0_1, ↓z0_2, ↓z0_3, ↓z0_4, ↓z0_5, ↓z0_5p0, ↓z0_5p1, ↓z0n h1, f0_o ho, ↓f0_0 ho, ↓f0_0p ho, ↓f0_1 ho, ↓f0_1p ho, ↓f0_2 ho, ↓f0_2p ho, ↓f0_3 ho, ↓f0_3p ho, ↓f0_4 ho, ↓f0_5 ho, ↓f0_6 ho, ↓f0_7 ho, ↓f0_8 ho, ↓f0_9 ho, ↓f0_10 ho, ↓f0_11 ho, ↓f1_g ho, ↓f1_s ho, ↓f2_g ho, ↓f2_s ho, z154_o, ↓z154_0, ↓z154_1, ↓z154_1p, ↓z154_2, ↓z154_2p, ↓z155_g, ↓aft_of (c_within), c1, hd, c2, ↓aft_of (e1)]
    rw [show X 97 46 [.ref 0, .int (nI n), .int 0, .int 0] [] (H T1 P) = _ from e2, x97_46]
    simp +decide only [x97_0, x97_1, x97_2, x97_4, x97_7, x97_10, x97_12, x97_13, x97_14, x97_17, x97_20, x97_21, x97_22, x97_25, x97_28, x97_30, x97_31, x97_32, x97_35, x97_36, x97_39, x97_42, x97_43, x97_44, x97_45, x97_47, x97_48, x97_51, x97_52, x97_53, x97_56, x97_59, x97_60, x97_61, x97_64, x97_67, x97_68, aft_some, aft_void, Option.bind_some, Option.toList_some, Option.toList_none, List.cons_append, List.nil_append, if_true, if_false, ↓reduceIte, eq_self, z0_o, ↓z0_0, ↓z0_1, ↓z0_2, ↓z0_3, ↓z0_4, ↓z0_5, ↓z0_5p0, ↓z0_5p1, nI_nlt (Nat.le_refl n) (show n < 2 ^ 31 by omega)]
  · subst h1
    exact g1.now i3 ⟨i4, by omega⟩ (fun a ha => i1 a (by omega)) (fun a ha => i2 a (by omega))
end CL3
end
section
/-! what is told of now: count, wanting, book, ordered -/
noncomputable def gCount (w : Int32) (s : gT) : Int32 := if w = 0 then s.1.1.2.1 0 0 else if w = 1 then nI (s.1.1.1 1) else if w = 2 then nI s.1.2.length else if w = 3 then smI (fun i => rdK (gK s.1.2 i)) s.1.2.length else if w = 4 then nI (s.1.1.1 2) else if w = 5 then s.1.1.2.1 0 1 else if w = 6 then smI (fun i => nhI (gK s.1.2 i 2)) s.1.2.length else if w = 7 then nI (allL s.1.1.2.2.1) else if w = 8 then smI (s.1.1.2.1 6) (s.1.1.1 1) else if w = 9 then s.1.1.2.1 0 2 else if w = 10 then nI (s.1.1.1 3) else if w = 11 then s.1.1.2.1 48 0 else if w = 12 then s.1.1.2.1 48 1 else if w = 13 then s.1.1.2.1 48 2 else if w = 14 then s.1.1.2.1 48 3 else if w = 15 then smI (s.1.1.2.1 5) (s.1.1.1 1) else if w = 16 then s.1.1.2.1 0 3 else if w = 17 then nI s.2.2.1.length else if w = 18 then nI s.2.2.2.1 else if w = 19 then s.1.1.2.1 1 0 else if w = 20 then s.1.1.2.1 1 1 else if w = 21 then s.1.1.2.1 1 2 else if w = 22 then s.1.1.2.1 1 3 else -2
section TL
variable {T U EE : Nat → Nat → Int32} {P Q : Nat → Nat → Nat} {o q : Nat} {s : gT} {u : uT} {N : Nat → Nat} {V W : Nat → Nat → Int32} {K : List kT} {B : List bT} {R : Nat → Nat → Int32} {x : Int32}
theorem s_ready (ho : isB o) (h : CS o T P N V K B R) (h8 : K.length ≤ 8) : X 67 0 [.ref (o + 7), .long 0, .long 0] [] (H T P) = some (some (.int (smI (fun i => rdK (gK K i)) K.length)), H T P) := by
  rw [c_numberReady ho h.pk h.n h8]
  rw [smI_congr (fun i hi => (h.at hi).rd)]
theorem s_onP (ho : isB o) (h : CS o T P N V K B R) (h8 : K.length ≤ 8) : X 70 0 [.ref (o + 7), .long 0, .long 0] [] (H T P) = some (some (.int (smI (fun i => nhI (gK K i 2)) K.length)), H T P) := by
  rw [c_onPieces ho h.pk h.n h8]
  rw [smI_congr (fun i hi => (h.at hi).nh2)]
theorem s_toCome (ho : isB o) (h : CS o T P N V K B R) (h8 : K.length ≤ 8) : X 71 0 [.ref (o + 7), .long 0, .long 0] [] (H T P) = some (some (.int (smI (fun i => nhI (gK K i 1) - nhI (gK K i 2)) K.length)), H T P) := by
  rw [c_toCome ho h.pk h.n h8]
  rw [smI_congr (fun i hi => by rw [(h.at hi).nh1, (h.at hi).nh2])]
theorem s_paid (ho : isB o) (h : CS o T P N V K B R) (h10 : N 1 ≤ 10) : X 36 0 [.ref (o + 3)] [] (H T P) = some (some (.int (smI (V 6) (N 1))), H T P) := by
  rw [c_paidAll ho h.2.1.1 h10]
  rw [smI_congr (fun i hi => h.2.1.2.2.2 i hi)]
theorem s_owed (ho : isB o) (h : CS o T P N V K B R) (h10 : N 1 ≤ 10) : X 35 0 [.ref (o + 3)] [] (H T P) = some (some (.int (smI (V 5) (N 1))), H T P) := by
  rw [c_owed ho h.2.1.1 h10]
  rw [smI_congr (fun i hi => h.2.1.2.2.1 i hi)]
theorem g_count (h1 : o = 1) (h : CG EE T P s) (w : Int32) : X 112 0 [.ref 0, .int w] [] (H T P) = some (some (.int (gCount w s)), H T P) := by
  have ho : isB o := by subst h1; exact isB_1
  have hc : CSu o T P s.1 := by subst h1; exact h.2.1.1
  have h8 := h.2.1.2.1.1.2.2.2.1
  have h10 := h.2.1.2.1.1.2.1
  have e1 := s_ready ho hc h8
  have e2 := s_onP ho hc h8
  have e3 := s_paid ho hc h10
  have e4 := s_owed ho hc h10
  have e5 := c_outAll (P := P) ho hc.2.2.2.1
  have r0 := hc.1.1 0 (by decide)
  have r1 := hc.1.1 1 (by decide)
  have r2 := hc.1.1 2 (by decide)
  have r3 := hc.1.1 3 (by decide)
  have t0 := hc.1.2.1 0 (by decide)
  have t1 := hc.1.2.1 1 (by decide)
  have t2 := hc.1.2.1 2 (by decide)
  have t3 := hc.1.2.1 3 (by decide)
  have b0 := hc.2.2.2.2.2.1 0 (by decide)
  have b1 := hc.2.2.2.2.2.1 1 (by decide)
  have b2 := hc.2.2.2.2.2.1 2 (by decide)
  have b3 := hc.2.2.2.2.2.1 3 (by decide)
  have n1 := hc.2.1.1
  have n2 := hc.n
  have n3 := hc.2.2.1.2.2.1
  have n4 := hc.2.2.2.2.1.1
  have n5 := h.2.2.2.1.2.1
  have n6 := h.2.2.2.2.2.1
  have k1 : (1 : Int32).toNatClampNeg = 1 := rfl
  unfold gCount
  by_cases c0 : w = 0
  · subst c0
    simp +decide only [x112_0, x112_1, x112_108, x112_109, x112_112, x112_115, x112_116, x112_117, x112_120, x112_123, x112_126, x112_127, x112_128, x112_131, x112_134, x112_137, x112_138, x112_139, x112_142, x112_145, x112_148, x112_149, x112_150, x112_153, x112_156, x112_159, x112_160, x112_161, x112_164, x112_167, x112_168, x112_169, x112_172, x112_175, x112_178, x112_179, x112_180, x112_183, x112_186, x112_189, x112_190, x112_191, x112_194, x112_197, x112_200, x112_201, x112_202, x112_205, x112_208, x112_209, x112_210, x112_213, x112_216, x112_219, x112_220, x112_221, x112_224, x112_227, x112_230, x112_231, x112_232, x112_235, x112_238, x112_241, x112_242, x112_243, x112_246, x112_249, x112_252, x112_253, x112_254, x112_257, x112_260, x112_263, x112_264, x112_265, x112_268, x112_271, x112_274, x112_275, x112_276, x112_279, x112_282, x112_283, x112_284, x112_287, x112_290, x112_291, x112_292, x112_295, x112_298, x112_299, x112_300, x112_303, x112_306, x112_307, x112_308, x112_309, x112_310, x112_313, x112_316, x112_317, x112_318, x112_319, x112_320, x112_323, x112_326, x112_327, x112_328, x112_329, x112_330, x112_333, x112_336, x112_337, x112_338, x112_339, x112_341, aft_some, aft_void, Option.bind_some, Option.toList_some, Option.toList_none, List.cons_append, List.nil_append, if_true, if_false, ↓reduceIte, eq_self, z0_o, ↓z0_0, ↓z0_1, ↓z0_2, ↓z0_3, ↓z0_4, ↓z0_5, ↓z0_5p0, ↓z0_5p1, z154_o, ↓z154_0, ↓z154_1, ↓z154_1p, ↓z154_2, ↓z154_2p, ↓z155_g, z360_o, ↓z360_0, ↓z360_1, ↓z360_1p, ↓z360_2, ↓z360_2p, ↓z360_3, ↓z360_4, ↓z360_5, ↓z360_6, ↓z360_7, ↓z360_7p, ↓z360_8, ↓z360_8p, ↓z361_g, ↓z361_s, ↓z362_g, ↓z362_s, ↓z363_g, ↓z363_s, ↓z364_g, ↓z364_s, ↓z365_g, ↓z365_s, ↓z0n h1, f0_o ho, ↓f0_0 ho, ↓f0_0p ho, ↓f0_1 ho, ↓f0_1p ho, ↓f0_2 ho, ↓f0_2p ho, ↓f0_3 ho, ↓f0_3p ho, ↓f0_4 ho, ↓f0_5 ho, ↓f0_6 ho, ↓f0_7 ho, ↓f0_8 ho, ↓f0_9 ho, ↓f0_10 ho, ↓f0_11 ho, ↓f1_g ho, ↓f1_s ho, ↓f2_g ho, ↓f2_s ho, f3_o ho, ↓f3_0 ho, ↓f3_0p ho, ↓f3_1 ho, ↓f3_2 ho, ↓f3_3 ho, ↓f4_g ho, ↓f4_s ho, ↓f5_g ho, ↓f5_s ho, ↓f6_g ho, ↓f6_s ho, f7_o ho, ↓f7_0 ho, ↓f7_1 ho, ↓f7_1p ho, ↓f7_2 ho, ↓f7_2p ho, ↓f8_g ho, f41_o ho, ↓f41_0 ho, ↓f41_1 ho, ↓f41_2 ho, ↓f41_3 ho, ↓f41_3p ho, ↓f42_g ho, ↓f42_s ho, ↓f43_g ho, ↓f43_s ho, ↓f44_g ho, ↓f44_s ho, f45_o ho, ↓f45_0 ho, ↓f45_1 ho, ↓f45_2 ho, ↓f45_2p ho, ↓f46_g ho, ↓f46_s ho, ↓f47_g ho, ↓f47_s ho, f48_o ho, ↓f48_0 ho, ↓f48_0p ho, ↓f48_1 ho, ↓f48_1p ho, ↓f48_2 ho, ↓f48_2p ho, ↓f48_3 ho, ↓f48_3p ho, cl0, cl2, cl3, k1, r0, r1, r2, r3, t0, t1, t2, t3, b0, b1, b2, b3, n1, n2, n3, n4, n5, n6, ↓aft_of (e1), ↓aft_of (e2), ↓aft_of (e3), ↓aft_of (e4), ↓aft_of (e5)]
  by_cases c1 : w = 1
  · subst c1
    simp +decide only [x112_0, x112_1, x112_108, x112_109, x112_112, x112_115, x112_116, x112_117, x112_120, x112_123, x112_126, x112_127, x112_128, x112_131, x112_134, x112_137, x112_138, x112_139, x112_142, x112_145, x112_148, x112_149, x112_150, x112_153, x112_156, x112_159, x112_160, x112_161, x112_164, x112_167, x112_168, x112_169, x112_172, x112_175, x112_178, x112_179, x112_180, x112_183, x112_186, x112_189, x112_190, x112_191, x112_194, x112_197, x112_200, x112_201, x112_202, x112_205, x112_208, x112_209, x112_210, x112_213, x112_216, x112_219, x112_220, x112_221, x112_224, x112_227, x112_230, x112_231, x112_232, x112_235, x112_238, x112_241, x112_242, x112_243, x112_246, x112_249, x112_252, x112_253, x112_254, x112_257, x112_260, x112_263, x112_264, x112_265, x112_268, x112_271, x112_274, x112_275, x112_276, x112_279, x112_282, x112_283, x112_284, x112_287, x112_290, x112_291, x112_292, x112_295, x112_298, x112_299, x112_300, x112_303, x112_306, x112_307, x112_308, x112_309, x112_310, x112_313, x112_316, x112_317, x112_318, x112_319, x112_320, x112_323, x112_326, x112_327, x112_328, x112_329, x112_330, x112_333, x112_336, x112_337, x112_338, x112_339, x112_341, aft_some, aft_void, Option.bind_some, Option.toList_some, Option.toList_none, List.cons_append, List.nil_append, if_true, if_false, ↓reduceIte, eq_self, z0_o, ↓z0_0, ↓z0_1, ↓z0_2, ↓z0_3, ↓z0_4, ↓z0_5, ↓z0_5p0, ↓z0_5p1, z154_o, ↓z154_0, ↓z154_1, ↓z154_1p, ↓z154_2, ↓z154_2p, ↓z155_g, z360_o, ↓z360_0, ↓z360_1, ↓z360_1p, ↓z360_2, ↓z360_2p, ↓z360_3, ↓z360_4, ↓z360_5, ↓z360_6, ↓z360_7, ↓z360_7p, ↓z360_8, ↓z360_8p, ↓z361_g, ↓z361_s, ↓z362_g, ↓z362_s, ↓z363_g, ↓z363_s, ↓z364_g, ↓z364_s, ↓z365_g, ↓z365_s, ↓z0n h1, f0_o ho, ↓f0_0 ho, ↓f0_0p ho, ↓f0_1 ho, ↓f0_1p ho, ↓f0_2 ho, ↓f0_2p ho, ↓f0_3 ho, ↓f0_3p ho, ↓f0_4 ho, ↓f0_5 ho, ↓f0_6 ho, ↓f0_7 ho, ↓f0_8 ho, ↓f0_9 ho, ↓f0_10 ho, ↓f0_11 ho, ↓f1_g ho, ↓f1_s ho, ↓f2_g ho, ↓f2_s ho, f3_o ho, ↓f3_0 ho, ↓f3_0p ho, ↓f3_1 ho, ↓f3_2 ho, ↓f3_3 ho, ↓f4_g ho, ↓f4_s ho, ↓f5_g ho, ↓f5_s ho, ↓f6_g ho, ↓f6_s ho, f7_o ho, ↓f7_0 ho, ↓f7_1 ho, ↓f7_1p ho, ↓f7_2 ho, ↓f7_2p ho, ↓f8_g ho, f41_o ho, ↓f41_0 ho, ↓f41_1 ho, ↓f41_2 ho, ↓f41_3 ho, ↓f41_3p ho, ↓f42_g ho, ↓f42_s ho, ↓f43_g ho, ↓f43_s ho, ↓f44_g ho, ↓f44_s ho, f45_o ho, ↓f45_0 ho, ↓f45_1 ho, ↓f45_2 ho, ↓f45_2p ho, ↓f46_g ho, ↓f46_s ho, ↓f47_g ho, ↓f47_s ho, f48_o ho, ↓f48_0 ho, ↓f48_0p ho, ↓f48_1 ho, ↓f48_1p ho, ↓f48_2 ho, ↓f48_2p ho, ↓f48_3 ho, ↓f48_3p ho, cl0, cl2, cl3, k1, r0, r1, r2, r3, t0, t1, t2, t3, b0, b1, b2, b3, n1, n2, n3, n4, n5, n6, ↓aft_of (e1), ↓aft_of (e2), ↓aft_of (e3), ↓aft_of (e4), ↓aft_of (e5)]
  by_cases c2 : w = 2
  · subst c2
    simp +decide only [x112_0, x112_1, x112_108, x112_109, x112_112, x112_115, x112_116, x112_117, x112_120, x112_123, x112_126, x112_127, x112_128, x112_131, x112_134, x112_137, x112_138, x112_139, x112_142, x112_145, x112_148, x112_149, x112_150, x112_153, x112_156, x112_159, x112_160, x112_161, x112_164, x112_167, x112_168, x112_169, x112_172, x112_175, x112_178, x112_179, x112_180, x112_183, x112_186, x112_189, x112_190, x112_191, x112_194, x112_197, x112_200, x112_201, x112_202, x112_205, x112_208, x112_209, x112_210, x112_213, x112_216, x112_219, x112_220, x112_221, x112_224, x112_227, x112_230, x112_231, x112_232, x112_235, x112_238, x112_241, x112_242, x112_243, x112_246, x112_249, x112_252, x112_253, x112_254, x112_257, x112_260, x112_263, x112_264, x112_265, x112_268, x112_271, x112_274, x112_275, x112_276, x112_279, x112_282, x112_283, x112_284, x112_287, x112_290, x112_291, x112_292, x112_295, x112_298, x112_299, x112_300, x112_303, x112_306, x112_307, x112_308, x112_309, x112_310, x112_313, x112_316, x112_317, x112_318, x112_319, x112_320, x112_323, x112_326, x112_327, x112_328, x112_329, x112_330, x112_333, x112_336, x112_337, x112_338, x112_339, x112_341, aft_some, aft_void, Option.bind_some, Option.toList_some, Option.toList_none, List.cons_append, List.nil_append, if_true, if_false, ↓reduceIte, eq_self, z0_o, ↓z0_0, ↓z0_1, ↓z0_2, ↓z0_3, ↓z0_4, ↓z0_5, ↓z0_5p0, ↓z0_5p1, z154_o, ↓z154_0, ↓z154_1, ↓z154_1p, ↓z154_2, ↓z154_2p, ↓z155_g, z360_o, ↓z360_0, ↓z360_1, ↓z360_1p, ↓z360_2, ↓z360_2p, ↓z360_3, ↓z360_4, ↓z360_5, ↓z360_6, ↓z360_7, ↓z360_7p, ↓z360_8, ↓z360_8p, ↓z361_g, ↓z361_s, ↓z362_g, ↓z362_s, ↓z363_g, ↓z363_s, ↓z364_g, ↓z364_s, ↓z365_g, ↓z365_s, ↓z0n h1, f0_o ho, ↓f0_0 ho, ↓f0_0p ho, ↓f0_1 ho, ↓f0_1p ho, ↓f0_2 ho, ↓f0_2p ho, ↓f0_3 ho, ↓f0_3p ho, ↓f0_4 ho, ↓f0_5 ho, ↓f0_6 ho, ↓f0_7 ho, ↓f0_8 ho, ↓f0_9 ho, ↓f0_10 ho, ↓f0_11 ho, ↓f1_g ho, ↓f1_s ho, ↓f2_g ho, ↓f2_s ho, f3_o ho, ↓f3_0 ho, ↓f3_0p ho, ↓f3_1 ho, ↓f3_2 ho, ↓f3_3 ho, ↓f4_g ho, ↓f4_s ho, ↓f5_g ho, ↓f5_s ho, ↓f6_g ho, ↓f6_s ho, f7_o ho, ↓f7_0 ho, ↓f7_1 ho, ↓f7_1p ho, ↓f7_2 ho, ↓f7_2p ho, ↓f8_g ho, f41_o ho, ↓f41_0 ho, ↓f41_1 ho, ↓f41_2 ho, ↓f41_3 ho, ↓f41_3p ho, ↓f42_g ho, ↓f42_s ho, ↓f43_g ho, ↓f43_s ho, ↓f44_g ho, ↓f44_s ho, f45_o ho, ↓f45_0 ho, ↓f45_1 ho, ↓f45_2 ho, ↓f45_2p ho, ↓f46_g ho, ↓f46_s ho, ↓f47_g ho, ↓f47_s ho, f48_o ho, ↓f48_0 ho, ↓f48_0p ho, ↓f48_1 ho, ↓f48_1p ho, ↓f48_2 ho, ↓f48_2p ho, ↓f48_3 ho, ↓f48_3p ho, cl0, cl2, cl3, k1, r0, r1, r2, r3, t0, t1, t2, t3, b0, b1, b2, b3, n1, n2, n3, n4, n5, n6, ↓aft_of (e1), ↓aft_of (e2), ↓aft_of (e3), ↓aft_of (e4), ↓aft_of (e5)]
  by_cases c3 : w = 3
  · subst c3
    simp +decide only [x112_0, x112_1, x112_108, x112_109, x112_112, x112_115, x112_116, x112_117, x112_120, x112_123, x112_126, x112_127, x112_128, x112_131, x112_134, x112_137, x112_138, x112_139, x112_142, x112_145, x112_148, x112_149, x112_150, x112_153, x112_156, x112_159, x112_160, x112_161, x112_164, x112_167, x112_168, x112_169, x112_172, x112_175, x112_178, x112_179, x112_180, x112_183, x112_186, x112_189, x112_190, x112_191, x112_194, x112_197, x112_200, x112_201, x112_202, x112_205, x112_208, x112_209, x112_210, x112_213, x112_216, x112_219, x112_220, x112_221, x112_224, x112_227, x112_230, x112_231, x112_232, x112_235, x112_238, x112_241, x112_242, x112_243, x112_246, x112_249, x112_252, x112_253, x112_254, x112_257, x112_260, x112_263, x112_264, x112_265, x112_268, x112_271, x112_274, x112_275, x112_276, x112_279, x112_282, x112_283, x112_284, x112_287, x112_290, x112_291, x112_292, x112_295, x112_298, x112_299, x112_300, x112_303, x112_306, x112_307, x112_308, x112_309, x112_310, x112_313, x112_316, x112_317, x112_318, x112_319, x112_320, x112_323, x112_326, x112_327, x112_328, x112_329, x112_330, x112_333, x112_336, x112_337, x112_338, x112_339, x112_341, aft_some, aft_void, Option.bind_some, Option.toList_some, Option.toList_none, List.cons_append, List.nil_append, if_true, if_false, ↓reduceIte, eq_self, z0_o, ↓z0_0, ↓z0_1, ↓z0_2, ↓z0_3, ↓z0_4, ↓z0_5, ↓z0_5p0, ↓z0_5p1, z154_o, ↓z154_0, ↓z154_1, ↓z154_1p, ↓z154_2, ↓z154_2p, ↓z155_g, z360_o, ↓z360_0, ↓z360_1, ↓z360_1p, ↓z360_2, ↓z360_2p, ↓z360_3, ↓z360_4, ↓z360_5, ↓z360_6, ↓z360_7, ↓z360_7p, ↓z360_8, ↓z360_8p, ↓z361_g, ↓z361_s, ↓z362_g, ↓z362_s, ↓z363_g, ↓z363_s, ↓z364_g, ↓z364_s, ↓z365_g, ↓z365_s, ↓z0n h1, f0_o ho, ↓f0_0 ho, ↓f0_0p ho, ↓f0_1 ho, ↓f0_1p ho, ↓f0_2 ho, ↓f0_2p ho, ↓f0_3 ho, ↓f0_3p ho, ↓f0_4 ho, ↓f0_5 ho, ↓f0_6 ho, ↓f0_7 ho, ↓f0_8 ho, ↓f0_9 ho, ↓f0_10 ho, ↓f0_11 ho, ↓f1_g ho, ↓f1_s ho, ↓f2_g ho, ↓f2_s ho, f3_o ho, ↓f3_0 ho, ↓f3_0p ho, ↓f3_1 ho, ↓f3_2 ho, ↓f3_3 ho, ↓f4_g ho, ↓f4_s ho, ↓f5_g ho, ↓f5_s ho, ↓f6_g ho, ↓f6_s ho, f7_o ho, ↓f7_0 ho, ↓f7_1 ho, ↓f7_1p ho, ↓f7_2 ho, ↓f7_2p ho, ↓f8_g ho, f41_o ho, ↓f41_0 ho, ↓f41_1 ho, ↓f41_2 ho, ↓f41_3 ho, ↓f41_3p ho, ↓f42_g ho, ↓f42_s ho, ↓f43_g ho, ↓f43_s ho, ↓f44_g ho, ↓f44_s ho, f45_o ho, ↓f45_0 ho, ↓f45_1 ho, ↓f45_2 ho, ↓f45_2p ho, ↓f46_g ho, ↓f46_s ho, ↓f47_g ho, ↓f47_s ho, f48_o ho, ↓f48_0 ho, ↓f48_0p ho, ↓f48_1 ho, ↓f48_1p ho, ↓f48_2 ho, ↓f48_2p ho, ↓f48_3 ho, ↓f48_3p ho, cl0, cl2, cl3, k1, r0, r1, r2, r3, t0, t1, t2, t3, b0, b1, b2, b3, n1, n2, n3, n4, n5, n6, ↓aft_of (e1), ↓aft_of (e2), ↓aft_of (e3), ↓aft_of (e4), ↓aft_of (e5)]
  by_cases c4 : w = 4
  · subst c4
    simp +decide only [x112_0, x112_1, x112_108, x112_109, x112_112, x112_115, x112_116, x112_117, x112_120, x112_123, x112_126, x112_127, x112_128, x112_131, x112_134, x112_137, x112_138, x112_139, x112_142, x112_145, x112_148, x112_149, x112_150, x112_153, x112_156, x112_159, x112_160, x112_161, x112_164, x112_167, x112_168, x112_169, x112_172, x112_175, x112_178, x112_179, x112_180, x112_183, x112_186, x112_189, x112_190, x112_191, x112_194, x112_197, x112_200, x112_201, x112_202, x112_205, x112_208, x112_209, x112_210, x112_213, x112_216, x112_219, x112_220, x112_221, x112_224, x112_227, x112_230, x112_231, x112_232, x112_235, x112_238, x112_241, x112_242, x112_243, x112_246, x112_249, x112_252, x112_253, x112_254, x112_257, x112_260, x112_263, x112_264, x112_265, x112_268, x112_271, x112_274, x112_275, x112_276, x112_279, x112_282, x112_283, x112_284, x112_287, x112_290, x112_291, x112_292, x112_295, x112_298, x112_299, x112_300, x112_303, x112_306, x112_307, x112_308, x112_309, x112_310, x112_313, x112_316, x112_317, x112_318, x112_319, x112_320, x112_323, x112_326, x112_327, x112_328, x112_329, x112_330, x112_333, x112_336, x112_337, x112_338, x112_339, x112_341, aft_some, aft_void, Option.bind_some, Option.toList_some, Option.toList_none, List.cons_append, List.nil_append, if_true, if_false, ↓reduceIte, eq_self, z0_o, ↓z0_0, ↓z0_1, ↓z0_2, ↓z0_3, ↓z0_4, ↓z0_5, ↓z0_5p0, ↓z0_5p1, z154_o, ↓z154_0, ↓z154_1, ↓z154_1p, ↓z154_2, ↓z154_2p, ↓z155_g, z360_o, ↓z360_0, ↓z360_1, ↓z360_1p, ↓z360_2, ↓z360_2p, ↓z360_3, ↓z360_4, ↓z360_5, ↓z360_6, ↓z360_7, ↓z360_7p, ↓z360_8, ↓z360_8p, ↓z361_g, ↓z361_s, ↓z362_g, ↓z362_s, ↓z363_g, ↓z363_s, ↓z364_g, ↓z364_s, ↓z365_g, ↓z365_s, ↓z0n h1, f0_o ho, ↓f0_0 ho, ↓f0_0p ho, ↓f0_1 ho, ↓f0_1p ho, ↓f0_2 ho, ↓f0_2p ho, ↓f0_3 ho, ↓f0_3p ho, ↓f0_4 ho, ↓f0_5 ho, ↓f0_6 ho, ↓f0_7 ho, ↓f0_8 ho, ↓f0_9 ho, ↓f0_10 ho, ↓f0_11 ho, ↓f1_g ho, ↓f1_s ho, ↓f2_g ho, ↓f2_s ho, f3_o ho, ↓f3_0 ho, ↓f3_0p ho, ↓f3_1 ho, ↓f3_2 ho, ↓f3_3 ho, ↓f4_g ho, ↓f4_s ho, ↓f5_g ho, ↓f5_s ho, ↓f6_g ho, ↓f6_s ho, f7_o ho, ↓f7_0 ho, ↓f7_1 ho, ↓f7_1p ho, ↓f7_2 ho, ↓f7_2p ho, ↓f8_g ho, f41_o ho, ↓f41_0 ho, ↓f41_1 ho, ↓f41_2 ho, ↓f41_3 ho, ↓f41_3p ho, ↓f42_g ho, ↓f42_s ho, ↓f43_g ho, ↓f43_s ho, ↓f44_g ho, ↓f44_s ho, f45_o ho, ↓f45_0 ho, ↓f45_1 ho, ↓f45_2 ho, ↓f45_2p ho, ↓f46_g ho, ↓f46_s ho, ↓f47_g ho, ↓f47_s ho, f48_o ho, ↓f48_0 ho, ↓f48_0p ho, ↓f48_1 ho, ↓f48_1p ho, ↓f48_2 ho, ↓f48_2p ho, ↓f48_3 ho, ↓f48_3p ho, cl0, cl2, cl3, k1, r0, r1, r2, r3, t0, t1, t2, t3, b0, b1, b2, b3, n1, n2, n3, n4, n5, n6, ↓aft_of (e1), ↓aft_of (e2), ↓aft_of (e3), ↓aft_of (e4), ↓aft_of (e5)]
  by_cases c5 : w = 5
  · subst c5
    simp +decide only [x112_0, x112_1, x112_108, x112_109, x112_112, x112_115, x112_116, x112_117, x112_120, x112_123, x112_126, x112_127, x112_128, x112_131, x112_134, x112_137, x112_138, x112_139, x112_142, x112_145, x112_148, x112_149, x112_150, x112_153, x112_156, x112_159, x112_160, x112_161, x112_164, x112_167, x112_168, x112_169, x112_172, x112_175, x112_178, x112_179, x112_180, x112_183, x112_186, x112_189, x112_190, x112_191, x112_194, x112_197, x112_200, x112_201, x112_202, x112_205, x112_208, x112_209, x112_210, x112_213, x112_216, x112_219, x112_220, x112_221, x112_224, x112_227, x112_230, x112_231, x112_232, x112_235, x112_238, x112_241, x112_242, x112_243, x112_246, x112_249, x112_252, x112_253, x112_254, x112_257, x112_260, x112_263, x112_264, x112_265, x112_268, x112_271, x112_274, x112_275, x112_276, x112_279, x112_282, x112_283, x112_284, x112_287, x112_290, x112_291, x112_292, x112_295, x112_298, x112_299, x112_300, x112_303, x112_306, x112_307, x112_308, x112_309, x112_310, x112_313, x112_316, x112_317, x112_318, x112_319, x112_320, x112_323, x112_326, x112_327, x112_328, x112_329, x112_330, x112_333, x112_336, x112_337, x112_338, x112_339, x112_341, aft_some, aft_void, Option.bind_some, Option.toList_some, Option.toList_none, List.cons_append, List.nil_append, if_true, if_false, ↓reduceIte, eq_self, z0_o, ↓z0_0, ↓z0_1, ↓z0_2, ↓z0_3, ↓z0_4, ↓z0_5, ↓z0_5p0, ↓z0_5p1, z154_o, ↓z154_0, ↓z154_1, ↓z154_1p, ↓z154_2, ↓z154_2p, ↓z155_g, z360_o, ↓z360_0, ↓z360_1, ↓z360_1p, ↓z360_2, ↓z360_2p, ↓z360_3, ↓z360_4, ↓z360_5, ↓z360_6, ↓z360_7, ↓z360_7p, ↓z360_8, ↓z360_8p, ↓z361_g, ↓z361_s, ↓z362_g, ↓z362_s, ↓z363_g, ↓z363_s, ↓z364_g, ↓z364_s, ↓z365_g, ↓z365_s, ↓z0n h1, f0_o ho, ↓f0_0 ho, ↓f0_0p ho, ↓f0_1 ho, ↓f0_1p ho, ↓f0_2 ho, ↓f0_2p ho, ↓f0_3 ho, ↓f0_3p ho, ↓f0_4 ho, ↓f0_5 ho, ↓f0_6 ho, ↓f0_7 ho, ↓f0_8 ho, ↓f0_9 ho, ↓f0_10 ho, ↓f0_11 ho, ↓f1_g ho, ↓f1_s ho, ↓f2_g ho, ↓f2_s ho, f3_o ho, ↓f3_0 ho, ↓f3_0p ho, ↓f3_1 ho, ↓f3_2 ho, ↓f3_3 ho, ↓f4_g ho, ↓f4_s ho, ↓f5_g ho, ↓f5_s ho, ↓f6_g ho, ↓f6_s ho, f7_o ho, ↓f7_0 ho, ↓f7_1 ho, ↓f7_1p ho, ↓f7_2 ho, ↓f7_2p ho, ↓f8_g ho, f41_o ho, ↓f41_0 ho, ↓f41_1 ho, ↓f41_2 ho, ↓f41_3 ho, ↓f41_3p ho, ↓f42_g ho, ↓f42_s ho, ↓f43_g ho, ↓f43_s ho, ↓f44_g ho, ↓f44_s ho, f45_o ho, ↓f45_0 ho, ↓f45_1 ho, ↓f45_2 ho, ↓f45_2p ho, ↓f46_g ho, ↓f46_s ho, ↓f47_g ho, ↓f47_s ho, f48_o ho, ↓f48_0 ho, ↓f48_0p ho, ↓f48_1 ho, ↓f48_1p ho, ↓f48_2 ho, ↓f48_2p ho, ↓f48_3 ho, ↓f48_3p ho, cl0, cl2, cl3, k1, r0, r1, r2, r3, t0, t1, t2, t3, b0, b1, b2, b3, n1, n2, n3, n4, n5, n6, ↓aft_of (e1), ↓aft_of (e2), ↓aft_of (e3), ↓aft_of (e4), ↓aft_of (e5)]
  by_cases c6 : w = 6
  · subst c6
    simp +decide only [x112_0, x112_1, x112_108, x112_109, x112_112, x112_115, x112_116, x112_117, x112_120, x112_123, x112_126, x112_127, x112_128, x112_131, x112_134, x112_137, x112_138, x112_139, x112_142, x112_145, x112_148, x112_149, x112_150, x112_153, x112_156, x112_159, x112_160, x112_161, x112_164, x112_167, x112_168, x112_169, x112_172, x112_175, x112_178, x112_179, x112_180, x112_183, x112_186, x112_189, x112_190, x112_191, x112_194, x112_197, x112_200, x112_201, x112_202, x112_205, x112_208, x112_209, x112_210, x112_213, x112_216, x112_219, x112_220, x112_221, x112_224, x112_227, x112_230, x112_231, x112_232, x112_235, x112_238, x112_241, x112_242, x112_243, x112_246, x112_249, x112_252, x112_253, x112_254, x112_257, x112_260, x112_263, x112_264, x112_265, x112_268, x112_271, x112_274, x112_275, x112_276, x112_279, x112_282, x112_283, x112_284, x112_287, x112_290, x112_291, x112_292, x112_295, x112_298, x112_299, x112_300, x112_303, x112_306, x112_307, x112_308, x112_309, x112_310, x112_313, x112_316, x112_317, x112_318, x112_319, x112_320, x112_323, x112_326, x112_327, x112_328, x112_329, x112_330, x112_333, x112_336, x112_337, x112_338, x112_339, x112_341, aft_some, aft_void, Option.bind_some, Option.toList_some, Option.toList_none, List.cons_append, List.nil_append, if_true, if_false, ↓reduceIte, eq_self, z0_o, ↓z0_0, ↓z0_1, ↓z0_2, ↓z0_3, ↓z0_4, ↓z0_5, ↓z0_5p0, ↓z0_5p1, z154_o, ↓z154_0, ↓z154_1, ↓z154_1p, ↓z154_2, ↓z154_2p, ↓z155_g, z360_o, ↓z360_0, ↓z360_1, ↓z360_1p, ↓z360_2, ↓z360_2p, ↓z360_3, ↓z360_4, ↓z360_5, ↓z360_6, ↓z360_7, ↓z360_7p, ↓z360_8, ↓z360_8p, ↓z361_g, ↓z361_s, ↓z362_g, ↓z362_s, ↓z363_g, ↓z363_s, ↓z364_g, ↓z364_s, ↓z365_g, ↓z365_s, ↓z0n h1, f0_o ho, ↓f0_0 ho, ↓f0_0p ho, ↓f0_1 ho, ↓f0_1p ho, ↓f0_2 ho, ↓f0_2p ho, ↓f0_3 ho, ↓f0_3p ho, ↓f0_4 ho, ↓f0_5 ho, ↓f0_6 ho, ↓f0_7 ho, ↓f0_8 ho, ↓f0_9 ho, ↓f0_10 ho, ↓f0_11 ho, ↓f1_g ho, ↓f1_s ho, ↓f2_g ho, ↓f2_s ho, f3_o ho, ↓f3_0 ho, ↓f3_0p ho, ↓f3_1 ho, ↓f3_2 ho, ↓f3_3 ho, ↓f4_g ho, ↓f4_s ho, ↓f5_g ho, ↓f5_s ho, ↓f6_g ho, ↓f6_s ho, f7_o ho, ↓f7_0 ho, ↓f7_1 ho, ↓f7_1p ho, ↓f7_2 ho, ↓f7_2p ho, ↓f8_g ho, f41_o ho, ↓f41_0 ho, ↓f41_1 ho, ↓f41_2 ho, ↓f41_3 ho, ↓f41_3p ho, ↓f42_g ho, ↓f42_s ho, ↓f43_g ho, ↓f43_s ho, ↓f44_g ho, ↓f44_s ho, f45_o ho, ↓f45_0 ho, ↓f45_1 ho, ↓f45_2 ho, ↓f45_2p ho, ↓f46_g ho, ↓f46_s ho, ↓f47_g ho, ↓f47_s ho, f48_o ho, ↓f48_0 ho, ↓f48_0p ho, ↓f48_1 ho, ↓f48_1p ho, ↓f48_2 ho, ↓f48_2p ho, ↓f48_3 ho, ↓f48_3p ho, cl0, cl2, cl3, k1, r0, r1, r2, r3, t0, t1, t2, t3, b0, b1, b2, b3, n1, n2, n3, n4, n5, n6, ↓aft_of (e1), ↓aft_of (e2), ↓aft_of (e3), ↓aft_of (e4), ↓aft_of (e5)]
  by_cases c7 : w = 7
  · subst c7
    simp +decide only [x112_0, x112_1, x112_108, x112_109, x112_112, x112_115, x112_116, x112_117, x112_120, x112_123, x112_126, x112_127, x112_128, x112_131, x112_134, x112_137, x112_138, x112_139, x112_142, x112_145, x112_148, x112_149, x112_150, x112_153, x112_156, x112_159, x112_160, x112_161, x112_164, x112_167, x112_168, x112_169, x112_172, x112_175, x112_178, x112_179, x112_180, x112_183, x112_186, x112_189, x112_190, x112_191, x112_194, x112_197, x112_200, x112_201, x112_202, x112_205, x112_208, x112_209, x112_210, x112_213, x112_216, x112_219, x112_220, x112_221, x112_224, x112_227, x112_230, x112_231, x112_232, x112_235, x112_238, x112_241, x112_242, x112_243, x112_246, x112_249, x112_252, x112_253, x112_254, x112_257, x112_260, x112_263, x112_264, x112_265, x112_268, x112_271, x112_274, x112_275, x112_276, x112_279, x112_282, x112_283, x112_284, x112_287, x112_290, x112_291, x112_292, x112_295, x112_298, x112_299, x112_300, x112_303, x112_306, x112_307, x112_308, x112_309, x112_310, x112_313, x112_316, x112_317, x112_318, x112_319, x112_320, x112_323, x112_326, x112_327, x112_328, x112_329, x112_330, x112_333, x112_336, x112_337, x112_338, x112_339, x112_341, aft_some, aft_void, Option.bind_some, Option.toList_some, Option.toList_none, List.cons_append, List.nil_append, if_true, if_false, ↓reduceIte, eq_self, z0_o, ↓z0_0, ↓z0_1, ↓z0_2, ↓z0_3, ↓z0_4, ↓z0_5, ↓z0_5p0, ↓z0_5p1, z154_o, ↓z154_0, ↓z154_1, ↓z154_1p, ↓z154_2, ↓z154_2p, ↓z155_g, z360_o, ↓z360_0, ↓z360_1, ↓z360_1p, ↓z360_2, ↓z360_2p, ↓z360_3, ↓z360_4, ↓z360_5, ↓z360_6, ↓z360_7, ↓z360_7p, ↓z360_8, ↓z360_8p, ↓z361_g, ↓z361_s, ↓z362_g, ↓z362_s, ↓z363_g, ↓z363_s, ↓z364_g, ↓z364_s, ↓z365_g, ↓z365_s, ↓z0n h1, f0_o ho, ↓f0_0 ho, ↓f0_0p ho, ↓f0_1 ho, ↓f0_1p ho, ↓f0_2 ho, ↓f0_2p ho, ↓f0_3 ho, ↓f0_3p ho, ↓f0_4 ho, ↓f0_5 ho, ↓f0_6 ho, ↓f0_7 ho, ↓f0_8 ho, ↓f0_9 ho, ↓f0_10 ho, ↓f0_11 ho, ↓f1_g ho, ↓f1_s ho, ↓f2_g ho, ↓f2_s ho, f3_o ho, ↓f3_0 ho, ↓f3_0p ho, ↓f3_1 ho, ↓f3_2 ho, ↓f3_3 ho, ↓f4_g ho, ↓f4_s ho, ↓f5_g ho, ↓f5_s ho, ↓f6_g ho, ↓f6_s ho, f7_o ho, ↓f7_0 ho, ↓f7_1 ho, ↓f7_1p ho, ↓f7_2 ho, ↓f7_2p ho, ↓f8_g ho, f41_o ho, ↓f41_0 ho, ↓f41_1 ho, ↓f41_2 ho, ↓f41_3 ho, ↓f41_3p ho, ↓f42_g ho, ↓f42_s ho, ↓f43_g ho, ↓f43_s ho, ↓f44_g ho, ↓f44_s ho, f45_o ho, ↓f45_0 ho, ↓f45_1 ho, ↓f45_2 ho, ↓f45_2p ho, ↓f46_g ho, ↓f46_s ho, ↓f47_g ho, ↓f47_s ho, f48_o ho, ↓f48_0 ho, ↓f48_0p ho, ↓f48_1 ho, ↓f48_1p ho, ↓f48_2 ho, ↓f48_2p ho, ↓f48_3 ho, ↓f48_3p ho, cl0, cl2, cl3, k1, r0, r1, r2, r3, t0, t1, t2, t3, b0, b1, b2, b3, n1, n2, n3, n4, n5, n6, ↓aft_of (e1), ↓aft_of (e2), ↓aft_of (e3), ↓aft_of (e4), ↓aft_of (e5)]
  by_cases c8 : w = 8
  · subst c8
    simp +decide only [x112_0, x112_1, x112_108, x112_109, x112_112, x112_115, x112_116, x112_117, x112_120, x112_123, x112_126, x112_127, x112_128, x112_131, x112_134, x112_137, x112_138, x112_139, x112_142, x112_145, x112_148, x112_149, x112_150, x112_153, x112_156, x112_159, x112_160, x112_161, x112_164, x112_167, x112_168, x112_169, x112_172, x112_175, x112_178, x112_179, x112_180, x112_183, x112_186, x112_189, x112_190, x112_191, x112_194, x112_197, x112_200, x112_201, x112_202, x112_205, x112_208, x112_209, x112_210, x112_213, x112_216, x112_219, x112_220, x112_221, x112_224, x112_227, x112_230, x112_231, x112_232, x112_235, x112_238, x112_241, x112_242, x112_243, x112_246, x112_249, x112_252, x112_253, x112_254, x112_257, x112_260, x112_263, x112_264, x112_265, x112_268, x112_271, x112_274, x112_275, x112_276, x112_279, x112_282, x112_283, x112_284, x112_287, x112_290, x112_291, x112_292, x112_295, x112_298, x112_299, x112_300, x112_303, x112_306, x112_307, x112_308, x112_309, x112_310, x112_313, x112_316, x112_317, x112_318, x112_319, x112_320, x112_323, x112_326, x112_327, x112_328, x112_329, x112_330, x112_333, x112_336, x112_337, x112_338, x112_339, x112_341, aft_some, aft_void, Option.bind_some, Option.toList_some, Option.toList_none, List.cons_append, List.nil_append, if_true, if_false, ↓reduceIte, eq_self, z0_o, ↓z0_0, ↓z0_1, ↓z0_2, ↓z0_3, ↓z0_4, ↓z0_5, ↓z0_5p0, ↓z0_5p1, z154_o, ↓z154_0, ↓z154_1, ↓z154_1p, ↓z154_2, ↓z154_2p, ↓z155_g, z360_o, ↓z360_0, ↓z360_1, ↓z360_1p, ↓z360_2, ↓z360_2p, ↓z360_3, ↓z360_4, ↓z360_5, ↓z360_6, ↓z360_7, ↓z360_7p, ↓z360_8, ↓z360_8p, ↓z361_g, ↓z361_s, ↓z362_g, ↓z362_s, ↓z363_g, ↓z363_s, ↓z364_g, ↓z364_s, ↓z365_g, ↓z365_s, ↓z0n h1, f0_o ho, ↓f0_0 ho, ↓f0_0p ho, ↓f0_1 ho, ↓f0_1p ho, ↓f0_2 ho, ↓f0_2p ho, ↓f0_3 ho, ↓f0_3p ho, ↓f0_4 ho, ↓f0_5 ho, ↓f0_6 ho, ↓f0_7 ho, ↓f0_8 ho, ↓f0_9 ho, ↓f0_10 ho, ↓f0_11 ho, ↓f1_g ho, ↓f1_s ho, ↓f2_g ho, ↓f2_s ho, f3_o ho, ↓f3_0 ho, ↓f3_0p ho, ↓f3_1 ho, ↓f3_2 ho, ↓f3_3 ho, ↓f4_g ho, ↓f4_s ho, ↓f5_g ho, ↓f5_s ho, ↓f6_g ho, ↓f6_s ho, f7_o ho, ↓f7_0 ho, ↓f7_1 ho, ↓f7_1p ho, ↓f7_2 ho, ↓f7_2p ho, ↓f8_g ho, f41_o ho, ↓f41_0 ho, ↓f41_1 ho, ↓f41_2 ho, ↓f41_3 ho, ↓f41_3p ho, ↓f42_g ho, ↓f42_s ho, ↓f43_g ho, ↓f43_s ho, ↓f44_g ho, ↓f44_s ho, f45_o ho, ↓f45_0 ho, ↓f45_1 ho, ↓f45_2 ho, ↓f45_2p ho, ↓f46_g ho, ↓f46_s ho, ↓f47_g ho, ↓f47_s ho, f48_o ho, ↓f48_0 ho, ↓f48_0p ho, ↓f48_1 ho, ↓f48_1p ho, ↓f48_2 ho, ↓f48_2p ho, ↓f48_3 ho, ↓f48_3p ho, cl0, cl2, cl3, k1, r0, r1, r2, r3, t0, t1, t2, t3, b0, b1, b2, b3, n1, n2, n3, n4, n5, n6, ↓aft_of (e1), ↓aft_of (e2), ↓aft_of (e3), ↓aft_of (e4), ↓aft_of (e5)]
  by_cases c9 : w = 9
  · subst c9
    simp +decide only [x112_0, x112_1, x112_108, x112_109, x112_112, x112_115, x112_116, x112_117, x112_120, x112_123, x112_126, x112_127, x112_128, x112_131, x112_134, x112_137, x112_138, x112_139, x112_142, x112_145, x112_148, x112_149, x112_150, x112_153, x112_156, x112_159, x112_160, x112_161, x112_164, x112_167, x112_168, x112_169, x112_172, x112_175, x112_178, x112_179, x112_180, x112_183, x112_186, x112_189, x112_190, x112_191, x112_194, x112_197, x112_200, x112_201, x112_202, x112_205, x112_208, x112_209, x112_210, x112_213, x112_216, x112_219, x112_220, x112_221, x112_224, x112_227, x112_230, x112_231, x112_232, x112_235, x112_238, x112_241, x112_242, x112_243, x112_246, x112_249, x112_252, x112_253, x112_254, x112_257, x112_260, x112_263, x112_264, x112_265, x112_268, x112_271, x112_274, x112_275, x112_276, x112_279, x112_282, x112_283, x112_284, x112_287, x112_290, x112_291, x112_292, x112_295, x112_298, x112_299, x112_300, x112_303, x112_306, x112_307, x112_308, x112_309, x112_310, x112_313, x112_316, x112_317, x112_318, x112_319, x112_320, x112_323, x112_326, x112_327, x112_328, x112_329, x112_330, x112_333, x112_336, x112_337, x112_338, x112_339, x112_341, aft_some, aft_void, Option.bind_some, Option.toList_some, Option.toList_none, List.cons_append, List.nil_append, if_true, if_false, ↓reduceIte, eq_self, z0_o, ↓z0_0, ↓z0_1, ↓z0_2, ↓z0_3, ↓z0_4, ↓z0_5, ↓z0_5p0, ↓z0_5p1, z154_o, ↓z154_0, ↓z154_1, ↓z154_1p, ↓z154_2, ↓z154_2p, ↓z155_g, z360_o, ↓z360_0, ↓z360_1, ↓z360_1p, ↓z360_2, ↓z360_2p, ↓z360_3, ↓z360_4, ↓z360_5, ↓z360_6, ↓z360_7, ↓z360_7p, ↓z360_8, ↓z360_8p, ↓z361_g, ↓z361_s, ↓z362_g, ↓z362_s, ↓z363_g, ↓z363_s, ↓z364_g, ↓z364_s, ↓z365_g, ↓z365_s, ↓z0n h1, f0_o ho, ↓f0_0 ho, ↓f0_0p ho, ↓f0_1 ho, ↓f0_1p ho, ↓f0_2 ho, ↓f0_2p ho, ↓f0_3 ho, ↓f0_3p ho, ↓f0_4 ho, ↓f0_5 ho, ↓f0_6 ho, ↓f0_7 ho, ↓f0_8 ho, ↓f0_9 ho, ↓f0_10 ho, ↓f0_11 ho, ↓f1_g ho, ↓f1_s ho, ↓f2_g ho, ↓f2_s ho, f3_o ho, ↓f3_0 ho, ↓f3_0p ho, ↓f3_1 ho, ↓f3_2 ho, ↓f3_3 ho, ↓f4_g ho, ↓f4_s ho, ↓f5_g ho, ↓f5_s ho, ↓f6_g ho, ↓f6_s ho, f7_o ho, ↓f7_0 ho, ↓f7_1 ho, ↓f7_1p ho, ↓f7_2 ho, ↓f7_2p ho, ↓f8_g ho, f41_o ho, ↓f41_0 ho, ↓f41_1 ho, ↓f41_2 ho, ↓f41_3 ho, ↓f41_3p ho, ↓f42_g ho, ↓f42_s ho, ↓f43_g ho, ↓f43_s ho, ↓f44_g ho, ↓f44_s ho, f45_o ho, ↓f45_0 ho, ↓f45_1 ho, ↓f45_2 ho, ↓f45_2p ho, ↓f46_g ho, ↓f46_s ho, ↓f47_g ho, ↓f47_s ho, f48_o ho, ↓f48_0 ho, ↓f48_0p ho, ↓f48_1 ho, ↓f48_1p ho, ↓f48_2 ho, ↓f48_2p ho, ↓f48_3 ho, ↓f48_3p ho, cl0, cl2, cl3, k1, r0, r1, r2, r3, t0, t1, t2, t3, b0, b1, b2, b3, n1, n2, n3, n4, n5, n6, ↓aft_of (e1), ↓aft_of (e2), ↓aft_of (e3), ↓aft_of (e4), ↓aft_of (e5)]
  by_cases c10 : w = 10
  · subst c10
    simp +decide only [x112_0, x112_1, x112_108, x112_109, x112_112, x112_115, x112_116, x112_117, x112_120, x112_123, x112_126, x112_127, x112_128, x112_131, x112_134, x112_137, x112_138, x112_139, x112_142, x112_145, x112_148, x112_149, x112_150, x112_153, x112_156, x112_159, x112_160, x112_161, x112_164, x112_167, x112_168, x112_169, x112_172, x112_175, x112_178, x112_179, x112_180, x112_183, x112_186, x112_189, x112_190, x112_191, x112_194, x112_197, x112_200, x112_201, x112_202, x112_205, x112_208, x112_209, x112_210, x112_213, x112_216, x112_219, x112_220, x112_221, x112_224, x112_227, x112_230, x112_231, x112_232, x112_235, x112_238, x112_241, x112_242, x112_243, x112_246, x112_249, x112_252, x112_253, x112_254, x112_257, x112_260, x112_263, x112_264, x112_265, x112_268, x112_271, x112_274, x112_275, x112_276, x112_279, x112_282, x112_283, x112_284, x112_287, x112_290, x112_291, x112_292, x112_295, x112_298, x112_299, x112_300, x112_303, x112_306, x112_307, x112_308, x112_309, x112_310, x112_313, x112_316, x112_317, x112_318, x112_319, x112_320, x112_323, x112_326, x112_327, x112_328, x112_329, x112_330, x112_333, x112_336, x112_337, x112_338, x112_339, x112_341, aft_some, aft_void, Option.bind_some, Option.toList_some, Option.toList_none, List.cons_append, List.nil_append, if_true, if_false, ↓reduceIte, eq_self, z0_o, ↓z0_0, ↓z0_1, ↓z0_2, ↓z0_3, ↓z0_4, ↓z0_5, ↓z0_5p0, ↓z0_5p1, z154_o, ↓z154_0, ↓z154_1, ↓z154_1p, ↓z154_2, ↓z154_2p, ↓z155_g, z360_o, ↓z360_0, ↓z360_1, ↓z360_1p, ↓z360_2, ↓z360_2p, ↓z360_3, ↓z360_4, ↓z360_5, ↓z360_6, ↓z360_7, ↓z360_7p, ↓z360_8, ↓z360_8p, ↓z361_g, ↓z361_s, ↓z362_g, ↓z362_s, ↓z363_g, ↓z363_s, ↓z364_g, ↓z364_s, ↓z365_g, ↓z365_s, ↓z0n h1, f0_o ho, ↓f0_0 ho, ↓f0_0p ho, ↓f0_1 ho, ↓f0_1p ho, ↓f0_2 ho, ↓f0_2p ho, ↓f0_3 ho, ↓f0_3p ho, ↓f0_4 ho, ↓f0_5 ho, ↓f0_6 ho, ↓f0_7 ho, ↓f0_8 ho, ↓f0_9 ho, ↓f0_10 ho, ↓f0_11 ho, ↓f1_g ho, ↓f1_s ho, ↓f2_g ho, ↓f2_s ho, f3_o ho, ↓f3_0 ho, ↓f3_0p ho, ↓f3_1 ho, ↓f3_2 ho, ↓f3_3 ho, ↓f4_g ho, ↓f4_s ho, ↓f5_g ho, ↓f5_s ho, ↓f6_g ho, ↓f6_s ho, f7_o ho, ↓f7_0 ho, ↓f7_1 ho, ↓f7_1p ho, ↓f7_2 ho, ↓f7_2p ho, ↓f8_g ho, f41_o ho, ↓f41_0 ho, ↓f41_1 ho, ↓f41_2 ho, ↓f41_3 ho, ↓f41_3p ho, ↓f42_g ho, ↓f42_s ho, ↓f43_g ho, ↓f43_s ho, ↓f44_g ho, ↓f44_s ho, f45_o ho, ↓f45_0 ho, ↓f45_1 ho, ↓f45_2 ho, ↓f45_2p ho, ↓f46_g ho, ↓f46_s ho, ↓f47_g ho, ↓f47_s ho, f48_o ho, ↓f48_0 ho, ↓f48_0p ho, ↓f48_1 ho, ↓f48_1p ho, ↓f48_2 ho, ↓f48_2p ho, ↓f48_3 ho, ↓f48_3p ho, cl0, cl2, cl3, k1, r0, r1, r2, r3, t0, t1, t2, t3, b0, b1, b2, b3, n1, n2, n3, n4, n5, n6, ↓aft_of (e1), ↓aft_of (e2), ↓aft_of (e3), ↓aft_of (e4), ↓aft_of (e5)]
  by_cases c11 : w = 11
  · subst c11
    simp +decide only [x112_0, x112_1, x112_108, x112_109, x112_112, x112_115, x112_116, x112_117, x112_120, x112_123, x112_126, x112_127, x112_128, x112_131, x112_134, x112_137, x112_138, x112_139, x112_142, x112_145, x112_148, x112_149, x112_150, x112_153, x112_156, x112_159, x112_160, x112_161, x112_164, x112_167, x112_168, x112_169, x112_172, x112_175, x112_178, x112_179, x112_180, x112_183, x112_186, x112_189, x112_190, x112_191, x112_194, x112_197, x112_200, x112_201, x112_202, x112_205, x112_208, x112_209, x112_210, x112_213, x112_216, x112_219, x112_220, x112_221, x112_224, x112_227, x112_230, x112_231, x112_232, x112_235, x112_238, x112_241, x112_242, x112_243, x112_246, x112_249, x112_252, x112_253, x112_254, x112_257, x112_260, x112_263, x112_264, x112_265, x112_268, x112_271, x112_274, x112_275, x112_276, x112_279, x112_282, x112_283, x112_284, x112_287, x112_290, x112_291, x112_292, x112_295, x112_298, x112_299, x112_300, x112_303, x112_306, x112_307, x112_308, x112_309, x112_310, x112_313, x112_316, x112_317, x112_318, x112_319, x112_320, x112_323, x112_326, x112_327, x112_328, x112_329, x112_330, x112_333, x112_336, x112_337, x112_338, x112_339, x112_341, aft_some, aft_void, Option.bind_some, Option.toList_some, Option.toList_none, List.cons_append, List.nil_append, if_true, if_false, ↓reduceIte, eq_self, z0_o, ↓z0_0, ↓z0_1, ↓z0_2, ↓z0_3, ↓z0_4, ↓z0_5, ↓z0_5p0, ↓z0_5p1, z154_o, ↓z154_0, ↓z154_1, ↓z154_1p, ↓z154_2, ↓z154_2p, ↓z155_g, z360_o, ↓z360_0, ↓z360_1, ↓z360_1p, ↓z360_2, ↓z360_2p, ↓z360_3, ↓z360_4, ↓z360_5, ↓z360_6, ↓z360_7, ↓z360_7p, ↓z360_8, ↓z360_8p, ↓z361_g, ↓z361_s, ↓z362_g, ↓z362_s, ↓z363_g, ↓z363_s, ↓z364_g, ↓z364_s, ↓z365_g, ↓z365_s, ↓z0n h1, f0_o ho, ↓f0_0 ho, ↓f0_0p ho, ↓f0_1 ho, ↓f0_1p ho, ↓f0_2 ho, ↓f0_2p ho, ↓f0_3 ho, ↓f0_3p ho, ↓f0_4 ho, ↓f0_5 ho, ↓f0_6 ho, ↓f0_7 ho, ↓f0_8 ho, ↓f0_9 ho, ↓f0_10 ho, ↓f0_11 ho, ↓f1_g ho, ↓f1_s ho, ↓f2_g ho, ↓f2_s ho, f3_o ho, ↓f3_0 ho, ↓f3_0p ho, ↓f3_1 ho, ↓f3_2 ho, ↓f3_3 ho, ↓f4_g ho, ↓f4_s ho, ↓f5_g ho, ↓f5_s ho, ↓f6_g ho, ↓f6_s ho, f7_o ho, ↓f7_0 ho, ↓f7_1 ho, ↓f7_1p ho, ↓f7_2 ho, ↓f7_2p ho, ↓f8_g ho, f41_o ho, ↓f41_0 ho, ↓f41_1 ho, ↓f41_2 ho, ↓f41_3 ho, ↓f41_3p ho, ↓f42_g ho, ↓f42_s ho, ↓f43_g ho, ↓f43_s ho, ↓f44_g ho, ↓f44_s ho, f45_o ho, ↓f45_0 ho, ↓f45_1 ho, ↓f45_2 ho, ↓f45_2p ho, ↓f46_g ho, ↓f46_s ho, ↓f47_g ho, ↓f47_s ho, f48_o ho, ↓f48_0 ho, ↓f48_0p ho, ↓f48_1 ho, ↓f48_1p ho, ↓f48_2 ho, ↓f48_2p ho, ↓f48_3 ho, ↓f48_3p ho, cl0, cl2, cl3, k1, r0, r1, r2, r3, t0, t1, t2, t3, b0, b1, b2, b3, n1, n2, n3, n4, n5, n6, ↓aft_of (e1), ↓aft_of (e2), ↓aft_of (e3), ↓aft_of (e4), ↓aft_of (e5)]
  by_cases c12 : w = 12
  · subst c12
    simp +decide only [x112_0, x112_1, x112_108, x112_109, x112_112, x112_115, x112_116, x112_117, x112_120, x112_123, x112_126, x112_127, x112_128, x112_131, x112_134, x112_137, x112_138, x112_139, x112_142, x112_145, x112_148, x112_149, x112_150, x112_153, x112_156, x112_159, x112_160, x112_161, x112_164, x112_167, x112_168, x112_169, x112_172, x112_175, x112_178, x112_179, x112_180, x112_183, x112_186, x112_189, x112_190, x112_191, x112_194, x112_197, x112_200, x112_201, x112_202, x112_205, x112_208, x112_209, x112_210, x112_213, x112_216, x112_219, x112_220, x112_221, x112_224, x112_227, x112_230, x112_231, x112_232, x112_235, x112_238, x112_241, x112_242, x112_243, x112_246, x112_249, x112_252, x112_253, x112_254, x112_257, x112_260, x112_263, x112_264, x112_265, x112_268, x112_271, x112_274, x112_275, x112_276, x112_279, x112_282, x112_283, x112_284, x112_287, x112_290, x112_291, x112_292, x112_295, x112_298, x112_299, x112_300, x112_303, x112_306, x112_307, x112_308, x112_309, x112_310, x112_313, x112_316, x112_317, x112_318, x112_319, x112_320, x112_323, x112_326, x112_327, x112_328, x112_329, x112_330, x112_333, x112_336, x112_337, x112_338, x112_339, x112_341, aft_some, aft_void, Option.bind_some, Option.toList_some, Option.toList_none, List.cons_append, List.nil_append, if_true, if_false, ↓reduceIte, eq_self, z0_o, ↓z0_0, ↓z0_1, ↓z0_2, ↓z0_3, ↓z0_4, ↓z0_5, ↓z0_5p0, ↓z0_5p1, z154_o, ↓z154_0, ↓z154_1, ↓z154_1p, ↓z154_2, ↓z154_2p, ↓z155_g, z360_o, ↓z360_0, ↓z360_1, ↓z360_1p, ↓z360_2, ↓z360_2p, ↓z360_3, ↓z360_4, ↓z360_5, ↓z360_6, ↓z360_7, ↓z360_7p, ↓z360_8, ↓z360_8p, ↓z361_g, ↓z361_s, ↓z362_g, ↓z362_s, ↓z363_g, ↓z363_s, ↓z364_g, ↓z364_s, ↓z365_g, ↓z365_s, ↓z0n h1, f0_o ho, ↓f0_0 ho, ↓f0_0p ho, ↓f0_1 ho, ↓f0_1p ho, ↓f0_2 ho, ↓f0_2p ho, ↓f0_3 ho, ↓f0_3p ho, ↓f0_4 ho, ↓f0_5 ho, ↓f0_6 ho, ↓f0_7 ho, ↓f0_8 ho, ↓f0_9 ho, ↓f0_10 ho, ↓f0_11 ho, ↓f1_g ho, ↓f1_s ho, ↓f2_g ho, ↓f2_s ho, f3_o ho, ↓f3_0 ho, ↓f3_0p ho, ↓f3_1 ho, ↓f3_2 ho, ↓f3_3 ho, ↓f4_g ho, ↓f4_s ho, ↓f5_g ho, ↓f5_s ho, ↓f6_g ho, ↓f6_s ho, f7_o ho, ↓f7_0 ho, ↓f7_1 ho, ↓f7_1p ho, ↓f7_2 ho, ↓f7_2p ho, ↓f8_g ho, f41_o ho, ↓f41_0 ho, ↓f41_1 ho, ↓f41_2 ho, ↓f41_3 ho, ↓f41_3p ho, ↓f42_g ho, ↓f42_s ho, ↓f43_g ho, ↓f43_s ho, ↓f44_g ho, ↓f44_s ho, f45_o ho, ↓f45_0 ho, ↓f45_1 ho, ↓f45_2 ho, ↓f45_2p ho, ↓f46_g ho, ↓f46_s ho, ↓f47_g ho, ↓f47_s ho, f48_o ho, ↓f48_0 ho, ↓f48_0p ho, ↓f48_1 ho, ↓f48_1p ho, ↓f48_2 ho, ↓f48_2p ho, ↓f48_3 ho, ↓f48_3p ho, cl0, cl2, cl3, k1, r0, r1, r2, r3, t0, t1, t2, t3, b0, b1, b2, b3, n1, n2, n3, n4, n5, n6, ↓aft_of (e1), ↓aft_of (e2), ↓aft_of (e3), ↓aft_of (e4), ↓aft_of (e5)]
  by_cases c13 : w = 13
  · subst c13
    simp +decide only [x112_0, x112_1, x112_108, x112_109, x112_112, x112_115, x112_116, x112_117, x112_120, x112_123, x112_126, x112_127, x112_128, x112_131, x112_134, x112_137, x112_138, x112_139, x112_142, x112_145, x112_148, x112_149, x112_150, x112_153, x112_156, x112_159, x112_160, x112_161, x112_164, x112_167, x112_168, x112_169, x112_172, x112_175, x112_178, x112_179, x112_180, x112_183, x112_186, x112_189, x112_190, x112_191, x112_194, x112_197, x112_200, x112_201, x112_202, x112_205, x112_208, x112_209, x112_210, x112_213, x112_216, x112_219, x112_220, x112_221, x112_224, x112_227, x112_230, x112_231, x112_232, x112_235, x112_238, x112_241, x112_242, x112_243, x112_246, x112_249, x112_252, x112_253, x112_254, x112_257, x112_260, x112_263, x112_264, x112_265, x112_268, x112_271, x112_274, x112_275, x112_276, x112_279, x112_282, x112_283, x112_284, x112_287, x112_290, x112_291, x112_292, x112_295, x112_298, x112_299, x112_300, x112_303, x112_306, x112_307, x112_308, x112_309, x112_310, x112_313, x112_316, x112_317, x112_318, x112_319, x112_320, x112_323, x112_326, x112_327, x112_328, x112_329, x112_330, x112_333, x112_336, x112_337, x112_338, x112_339, x112_341, aft_some, aft_void, Option.bind_some, Option.toList_some, Option.toList_none, List.cons_append, List.nil_append, if_true, if_false, ↓reduceIte, eq_self, z0_o, ↓z0_0, ↓z0_1, ↓z0_2, ↓z0_3, ↓z0_4, ↓z0_5, ↓z0_5p0, ↓z0_5p1, z154_o, ↓z154_0, ↓z154_1, ↓z154_1p, ↓z154_2, ↓z154_2p, ↓z155_g, z360_o, ↓z360_0, ↓z360_1, ↓z360_1p, ↓z360_2, ↓z360_2p, ↓z360_3, ↓z360_4, ↓z360_5, ↓z360_6, ↓z360_7, ↓z360_7p, ↓z360_8, ↓z360_8p, ↓z361_g, ↓z361_s, ↓z362_g, ↓z362_s, ↓z363_g, ↓z363_s, ↓z364_g, ↓z364_s, ↓z365_g, ↓z365_s, ↓z0n h1, f0_o ho, ↓f0_0 ho, ↓f0_0p ho, ↓f0_1 ho, ↓f0_1p ho, ↓f0_2 ho, ↓f0_2p ho, ↓f0_3 ho, ↓f0_3p ho, ↓f0_4 ho, ↓f0_5 ho, ↓f0_6 ho, ↓f0_7 ho, ↓f0_8 ho, ↓f0_9 ho, ↓f0_10 ho, ↓f0_11 ho, ↓f1_g ho, ↓f1_s ho, ↓f2_g ho, ↓f2_s ho, f3_o ho, ↓f3_0 ho, ↓f3_0p ho, ↓f3_1 ho, ↓f3_2 ho, ↓f3_3 ho, ↓f4_g ho, ↓f4_s ho, ↓f5_g ho, ↓f5_s ho, ↓f6_g ho, ↓f6_s ho, f7_o ho, ↓f7_0 ho, ↓f7_1 ho, ↓f7_1p ho, ↓f7_2 ho, ↓f7_2p ho, ↓f8_g ho, f41_o ho, ↓f41_0 ho, ↓f41_1 ho, ↓f41_2 ho, ↓f41_3 ho, ↓f41_3p ho, ↓f42_g ho, ↓f42_s ho, ↓f43_g ho, ↓f43_s ho, ↓f44_g ho, ↓f44_s ho, f45_o ho, ↓f45_0 ho, ↓f45_1 ho, ↓f45_2 ho, ↓f45_2p ho, ↓f46_g ho, ↓f46_s ho, ↓f47_g ho, ↓f47_s ho, f48_o ho, ↓f48_0 ho, ↓f48_0p ho, ↓f48_1 ho, ↓f48_1p ho, ↓f48_2 ho, ↓f48_2p ho, ↓f48_3 ho, ↓f48_3p ho, cl0, cl2, cl3, k1, r0, r1, r2, r3, t0, t1, t2, t3, b0, b1, b2, b3, n1, n2, n3, n4, n5, n6, ↓aft_of (e1), ↓aft_of (e2), ↓aft_of (e3), ↓aft_of (e4), ↓aft_of (e5)]
  by_cases c14 : w = 14
  · subst c14
    simp +decide only [x112_0, x112_1, x112_108, x112_109, x112_112, x112_115, x112_116, x112_117, x112_120, x112_123, x112_126, x112_127, x112_128, x112_131, x112_134, x112_137, x112_138, x112_139, x112_142, x112_145, x112_148, x112_149, x112_150, x112_153, x112_156, x112_159, x112_160, x112_161, x112_164, x112_167, x112_168, x112_169, x112_172, x112_175, x112_178, x112_179, x112_180, x112_183, x112_186, x112_189, x112_190, x112_191, x112_194, x112_197, x112_200, x112_201, x112_202, x112_205, x112_208, x112_209, x112_210, x112_213, x112_216, x112_219, x112_220, x112_221, x112_224, x112_227, x112_230, x112_231, x112_232, x112_235, x112_238, x112_241, x112_242, x112_243, x112_246, x112_249, x112_252, x112_253, x112_254, x112_257, x112_260, x112_263, x112_264, x112_265, x112_268, x112_271, x112_274, x112_275, x112_276, x112_279, x112_282, x112_283, x112_284, x112_287, x112_290, x112_291, x112_292, x112_295, x112_298, x112_299, x112_300, x112_303, x112_306, x112_307, x112_308, x112_309, x112_310, x112_313, x112_316, x112_317, x112_318, x112_319, x112_320, x112_323, x112_326, x112_327, x112_328, x112_329, x112_330, x112_333, x112_336, x112_337, x112_338, x112_339, x112_341, aft_some, aft_void, Option.bind_some, Option.toList_some, Option.toList_none, List.cons_append, List.nil_append, if_true, if_false, ↓reduceIte, eq_self, z0_o, ↓z0_0, ↓z0_1, ↓z0_2, ↓z0_3, ↓z0_4, ↓z0_5, ↓z0_5p0, ↓z0_5p1, z154_o, ↓z154_0, ↓z154_1, ↓z154_1p, ↓z154_2, ↓z154_2p, ↓z155_g, z360_o, ↓z360_0, ↓z360_1, ↓z360_1p, ↓z360_2, ↓z360_2p, ↓z360_3, ↓z360_4, ↓z360_5, ↓z360_6, ↓z360_7, ↓z360_7p, ↓z360_8, ↓z360_8p, ↓z361_g, ↓z361_s, ↓z362_g, ↓z362_s, ↓z363_g, ↓z363_s, ↓z364_g, ↓z364_s, ↓z365_g, ↓z365_s, ↓z0n h1, f0_o ho, ↓f0_0 ho, ↓f0_0p ho, ↓f0_1 ho, ↓f0_1p ho, ↓f0_2 ho, ↓f0_2p ho, ↓f0_3 ho, ↓f0_3p ho, ↓f0_4 ho, ↓f0_5 ho, ↓f0_6 ho, ↓f0_7 ho, ↓f0_8 ho, ↓f0_9 ho, ↓f0_10 ho, ↓f0_11 ho, ↓f1_g ho, ↓f1_s ho, ↓f2_g ho, ↓f2_s ho, f3_o ho, ↓f3_0 ho, ↓f3_0p ho, ↓f3_1 ho, ↓f3_2 ho, ↓f3_3 ho, ↓f4_g ho, ↓f4_s ho, ↓f5_g ho, ↓f5_s ho, ↓f6_g ho, ↓f6_s ho, f7_o ho, ↓f7_0 ho, ↓f7_1 ho, ↓f7_1p ho, ↓f7_2 ho, ↓f7_2p ho, ↓f8_g ho, f41_o ho, ↓f41_0 ho, ↓f41_1 ho, ↓f41_2 ho, ↓f41_3 ho, ↓f41_3p ho, ↓f42_g ho, ↓f42_s ho, ↓f43_g ho, ↓f43_s ho, ↓f44_g ho, ↓f44_s ho, f45_o ho, ↓f45_0 ho, ↓f45_1 ho, ↓f45_2 ho, ↓f45_2p ho, ↓f46_g ho, ↓f46_s ho, ↓f47_g ho, ↓f47_s ho, f48_o ho, ↓f48_0 ho, ↓f48_0p ho, ↓f48_1 ho, ↓f48_1p ho, ↓f48_2 ho, ↓f48_2p ho, ↓f48_3 ho, ↓f48_3p ho, cl0, cl2, cl3, k1, r0, r1, r2, r3, t0, t1, t2, t3, b0, b1, b2, b3, n1, n2, n3, n4, n5, n6, ↓aft_of (e1), ↓aft_of (e2), ↓aft_of (e3), ↓aft_of (e4), ↓aft_of (e5)]
  by_cases c15 : w = 15
  · subst c15
    simp +decide only [x112_0, x112_1, x112_108, x112_109, x112_112, x112_115, x112_116, x112_117, x112_120, x112_123, x112_126, x112_127, x112_128, x112_131, x112_134, x112_137, x112_138, x112_139, x112_142, x112_145, x112_148, x112_149, x112_150, x112_153, x112_156, x112_159, x112_160, x112_161, x112_164, x112_167, x112_168, x112_169, x112_172, x112_175, x112_178, x112_179, x112_180, x112_183, x112_186, x112_189, x112_190, x112_191, x112_194, x112_197, x112_200, x112_201, x112_202, x112_205, x112_208, x112_209, x112_210, x112_213, x112_216, x112_219, x112_220, x112_221, x112_224, x112_227, x112_230, x112_231, x112_232, x112_235, x112_238, x112_241, x112_242, x112_243, x112_246, x112_249, x112_252, x112_253, x112_254, x112_257, x112_260, x112_263, x112_264, x112_265, x112_268, x112_271, x112_274, x112_275, x112_276, x112_279, x112_282, x112_283, x112_284, x112_287, x112_290, x112_291, x112_292, x112_295, x112_298, x112_299, x112_300, x112_303, x112_306, x112_307, x112_308, x112_309, x112_310, x112_313, x112_316, x112_317, x112_318, x112_319, x112_320, x112_323, x112_326, x112_327, x112_328, x112_329, x112_330, x112_333, x112_336, x112_337, x112_338, x112_339, x112_341, aft_some, aft_void, Option.bind_some, Option.toList_some, Option.toList_none, List.cons_append, List.nil_append, if_true, if_false, ↓reduceIte, eq_self, z0_o, ↓z0_0, ↓z0_1, ↓z0_2, ↓z0_3, ↓z0_4, ↓z0_5, ↓z0_5p0, ↓z0_5p1, z154_o, ↓z154_0, ↓z154_1, ↓z154_1p, ↓z154_2, ↓z154_2p, ↓z155_g, z360_o, ↓z360_0, ↓z360_1, ↓z360_1p, ↓z360_2, ↓z360_2p, ↓z360_3, ↓z360_4, ↓z360_5, ↓z360_6, ↓z360_7, ↓z360_7p, ↓z360_8, ↓z360_8p, ↓z361_g, ↓z361_s, ↓z362_g, ↓z362_s, ↓z363_g, ↓z363_s, ↓z364_g, ↓z364_s, ↓z365_g, ↓z365_s, ↓z0n h1, f0_o ho, ↓f0_0 ho, ↓f0_0p ho, ↓f0_1 ho, ↓f0_1p ho, ↓f0_2 ho, ↓f0_2p ho, ↓f0_3 ho, ↓f0_3p ho, ↓f0_4 ho, ↓f0_5 ho, ↓f0_6 ho, ↓f0_7 ho, ↓f0_8 ho, ↓f0_9 ho, ↓f0_10 ho, ↓f0_11 ho, ↓f1_g ho, ↓f1_s ho, ↓f2_g ho, ↓f2_s ho, f3_o ho, ↓f3_0 ho, ↓f3_0p ho, ↓f3_1 ho, ↓f3_2 ho, ↓f3_3 ho, ↓f4_g ho, ↓f4_s ho, ↓f5_g ho, ↓f5_s ho, ↓f6_g ho, ↓f6_s ho, f7_o ho, ↓f7_0 ho, ↓f7_1 ho, ↓f7_1p ho, ↓f7_2 ho, ↓f7_2p ho, ↓f8_g ho, f41_o ho, ↓f41_0 ho, ↓f41_1 ho, ↓f41_2 ho, ↓f41_3 ho, ↓f41_3p ho, ↓f42_g ho, ↓f42_s ho, ↓f43_g ho, ↓f43_s ho, ↓f44_g ho, ↓f44_s ho, f45_o ho, ↓f45_0 ho, ↓f45_1 ho, ↓f45_2 ho, ↓f45_2p ho, ↓f46_g ho, ↓f46_s ho, ↓f47_g ho, ↓f47_s ho, f48_o ho, ↓f48_0 ho, ↓f48_0p ho, ↓f48_1 ho, ↓f48_1p ho, ↓f48_2 ho, ↓f48_2p ho, ↓f48_3 ho, ↓f48_3p ho, cl0, cl2, cl3, k1, r0, r1, r2, r3, t0, t1, t2, t3, b0, b1, b2, b3, n1, n2, n3, n4, n5, n6, ↓aft_of (e1), ↓aft_of (e2), ↓aft_of (e3), ↓aft_of (e4), ↓aft_of (e5)]
  by_cases c16 : w = 16
  · subst c16
    simp +decide only [x112_0, x112_1, x112_108, x112_109, x112_112, x112_115, x112_116, x112_117, x112_120, x112_123, x112_126, x112_127, x112_128, x112_131, x112_134, x112_137, x112_138, x112_139, x112_142, x112_145, x112_148, x112_149, x112_150, x112_153, x112_156, x112_159, x112_160, x112_161, x112_164, x112_167, x112_168, x112_169, x112_172, x112_175, x112_178, x112_179, x112_180, x112_183, x112_186, x112_189, x112_190, x112_191, x112_194, x112_197, x112_200, x112_201, x112_202, x112_205, x112_208, x112_209, x112_210, x112_213, x112_216, x112_219, x112_220, x112_221, x112_224, x112_227, x112_230, x112_231, x112_232, x112_235, x112_238, x112_241, x112_242, x112_243, x112_246, x112_249, x112_252, x112_253, x112_254, x112_257, x112_260, x112_263, x112_264, x112_265, x112_268, x112_271, x112_274, x112_275, x112_276, x112_279, x112_282, x112_283, x112_284, x112_287, x112_290, x112_291, x112_292, x112_295, x112_298, x112_299, x112_300, x112_303, x112_306, x112_307, x112_308, x112_309, x112_310, x112_313, x112_316, x112_317, x112_318, x112_319, x112_320, x112_323, x112_326, x112_327, x112_328, x112_329, x112_330, x112_333, x112_336, x112_337, x112_338, x112_339, x112_341, aft_some, aft_void, Option.bind_some, Option.toList_some, Option.toList_none, List.cons_append, List.nil_append, if_true, if_false, ↓reduceIte, eq_self, z0_o, ↓z0_0, ↓z0_1, ↓z0_2, ↓z0_3, ↓z0_4, ↓z0_5, ↓z0_5p0, ↓z0_5p1, z154_o, ↓z154_0, ↓z154_1, ↓z154_1p, ↓z154_2, ↓z154_2p, ↓z155_g, z360_o, ↓z360_0, ↓z360_1, ↓z360_1p, ↓z360_2, ↓z360_2p, ↓z360_3, ↓z360_4, ↓z360_5, ↓z360_6, ↓z360_7, ↓z360_7p, ↓z360_8, ↓z360_8p, ↓z361_g, ↓z361_s, ↓z362_g, ↓z362_s, ↓z363_g, ↓z363_s, ↓z364_g, ↓z364_s, ↓z365_g, ↓z365_s, ↓z0n h1, f0_o ho, ↓f0_0 ho, ↓f0_0p ho, ↓f0_1 ho, ↓f0_1p ho, ↓f0_2 ho, ↓f0_2p ho, ↓f0_3 ho, ↓f0_3p ho, ↓f0_4 ho, ↓f0_5 ho, ↓f0_6 ho, ↓f0_7 ho, ↓f0_8 ho, ↓f0_9 ho, ↓f0_10 ho, ↓f0_11 ho, ↓f1_g ho, ↓f1_s ho, ↓f2_g ho, ↓f2_s ho, f3_o ho, ↓f3_0 ho, ↓f3_0p ho, ↓f3_1 ho, ↓f3_2 ho, ↓f3_3 ho, ↓f4_g ho, ↓f4_s ho, ↓f5_g ho, ↓f5_s ho, ↓f6_g ho, ↓f6_s ho, f7_o ho, ↓f7_0 ho, ↓f7_1 ho, ↓f7_1p ho, ↓f7_2 ho, ↓f7_2p ho, ↓f8_g ho, f41_o ho, ↓f41_0 ho, ↓f41_1 ho, ↓f41_2 ho, ↓f41_3 ho, ↓f41_3p ho, ↓f42_g ho, ↓f42_s ho, ↓f43_g ho, ↓f43_s ho, ↓f44_g ho, ↓f44_s ho, f45_o ho, ↓f45_0 ho, ↓f45_1 ho, ↓f45_2 ho, ↓f45_2p ho, ↓f46_g ho, ↓f46_s ho, ↓f47_g ho, ↓f47_s ho, f48_o ho, ↓f48_0 ho, ↓f48_0p ho, ↓f48_1 ho, ↓f48_1p ho, ↓f48_2 ho, ↓f48_2p ho, ↓f48_3 ho, ↓f48_3p ho, cl0, cl2, cl3, k1, r0, r1, r2, r3, t0, t1, t2, t3, b0, b1, b2, b3, n1, n2, n3, n4, n5, n6, ↓aft_of (e1), ↓aft_of (e2), ↓aft_of (e3), ↓aft_of (e4), ↓aft_of (e5)]
  by_cases c17 : w = 17
  · subst c17
    simp +decide only [x112_0, x112_1, x112_108, x112_109, x112_112, x112_115, x112_116, x112_117, x112_120, x112_123, x112_126, x112_127, x112_128, x112_131, x112_134, x112_137, x112_138, x112_139, x112_142, x112_145, x112_148, x112_149, x112_150, x112_153, x112_156, x112_159, x112_160, x112_161, x112_164, x112_167, x112_168, x112_169, x112_172, x112_175, x112_178, x112_179, x112_180, x112_183, x112_186, x112_189, x112_190, x112_191, x112_194, x112_197, x112_200, x112_201, x112_202, x112_205, x112_208, x112_209, x112_210, x112_213, x112_216, x112_219, x112_220, x112_221, x112_224, x112_227, x112_230, x112_231, x112_232, x112_235, x112_238, x112_241, x112_242, x112_243, x112_246, x112_249, x112_252, x112_253, x112_254, x112_257, x112_260, x112_263, x112_264, x112_265, x112_268, x112_271, x112_274, x112_275, x112_276, x112_279, x112_282, x112_283, x112_284, x112_287, x112_290, x112_291, x112_292, x112_295, x112_298, x112_299, x112_300, x112_303, x112_306, x112_307, x112_308, x112_309, x112_310, x112_313, x112_316, x112_317, x112_318, x112_319, x112_320, x112_323, x112_326, x112_327, x112_328, x112_329, x112_330, x112_333, x112_336, x112_337, x112_338, x112_339, x112_341, aft_some, aft_void, Option.bind_some, Option.toList_some, Option.toList_none, List.cons_append, List.nil_append, if_true, if_false, ↓reduceIte, eq_self, z0_o, ↓z0_0, ↓z0_1, ↓z0_2, ↓z0_3, ↓z0_4, ↓z0_5, ↓z0_5p0, ↓z0_5p1, z154_o, ↓z154_0, ↓z154_1, ↓z154_1p, ↓z154_2, ↓z154_2p, ↓z155_g, z360_o, ↓z360_0, ↓z360_1, ↓z360_1p, ↓z360_2, ↓z360_2p, ↓z360_3, ↓z360_4, ↓z360_5, ↓z360_6, ↓z360_7, ↓z360_7p, ↓z360_8, ↓z360_8p, ↓z361_g, ↓z361_s, ↓z362_g, ↓z362_s, ↓z363_g, ↓z363_s, ↓z364_g, ↓z364_s, ↓z365_g, ↓z365_s, ↓z0n h1, f0_o ho, ↓f0_0 ho, ↓f0_0p ho, ↓f0_1 ho, ↓f0_1p ho, ↓f0_2 ho, ↓f0_2p ho, ↓f0_3 ho, ↓f0_3p ho, ↓f0_4 ho, ↓f0_5 ho, ↓f0_6 ho, ↓f0_7 ho, ↓f0_8 ho, ↓f0_9 ho, ↓f0_10 ho, ↓f0_11 ho, ↓f1_g ho, ↓f1_s ho, ↓f2_g ho, ↓f2_s ho, f3_o ho, ↓f3_0 ho, ↓f3_0p ho, ↓f3_1 ho, ↓f3_2 ho, ↓f3_3 ho, ↓f4_g ho, ↓f4_s ho, ↓f5_g ho, ↓f5_s ho, ↓f6_g ho, ↓f6_s ho, f7_o ho, ↓f7_0 ho, ↓f7_1 ho, ↓f7_1p ho, ↓f7_2 ho, ↓f7_2p ho, ↓f8_g ho, f41_o ho, ↓f41_0 ho, ↓f41_1 ho, ↓f41_2 ho, ↓f41_3 ho, ↓f41_3p ho, ↓f42_g ho, ↓f42_s ho, ↓f43_g ho, ↓f43_s ho, ↓f44_g ho, ↓f44_s ho, f45_o ho, ↓f45_0 ho, ↓f45_1 ho, ↓f45_2 ho, ↓f45_2p ho, ↓f46_g ho, ↓f46_s ho, ↓f47_g ho, ↓f47_s ho, f48_o ho, ↓f48_0 ho, ↓f48_0p ho, ↓f48_1 ho, ↓f48_1p ho, ↓f48_2 ho, ↓f48_2p ho, ↓f48_3 ho, ↓f48_3p ho, cl0, cl2, cl3, k1, r0, r1, r2, r3, t0, t1, t2, t3, b0, b1, b2, b3, n1, n2, n3, n4, n5, n6, ↓aft_of (e1), ↓aft_of (e2), ↓aft_of (e3), ↓aft_of (e4), ↓aft_of (e5)]
  by_cases c18 : w = 18
  · subst c18
    simp +decide only [x112_0, x112_1, x112_108, x112_109, x112_112, x112_115, x112_116, x112_117, x112_120, x112_123, x112_126, x112_127, x112_128, x112_131, x112_134, x112_137, x112_138, x112_139, x112_142, x112_145, x112_148, x112_149, x112_150, x112_153, x112_156, x112_159, x112_160, x112_161, x112_164, x112_167, x112_168, x112_169, x112_172, x112_175, x112_178, x112_179, x112_180, x112_183, x112_186, x112_189, x112_190, x112_191, x112_194, x112_197, x112_200, x112_201, x112_202, x112_205, x112_208, x112_209, x112_210, x112_213, x112_216, x112_219, x112_220, x112_221, x112_224, x112_227, x112_230, x112_231, x112_232, x112_235, x112_238, x112_241, x112_242, x112_243, x112_246, x112_249, x112_252, x112_253, x112_254, x112_257, x112_260, x112_263, x112_264, x112_265, x112_268, x112_271, x112_274, x112_275, x112_276, x112_279, x112_282, x112_283, x112_284, x112_287, x112_290, x112_291, x112_292, x112_295, x112_298, x112_299, x112_300, x112_303, x112_306, x112_307, x112_308, x112_309, x112_310, x112_313, x112_316, x112_317, x112_318, x112_319, x112_320, x112_323, x112_326, x112_327, x112_328, x112_329, x112_330, x112_333, x112_336, x112_337, x112_338, x112_339, x112_341, aft_some, aft_void, Option.bind_some, Option.toList_some, Option.toList_none, List.cons_append, List.nil_append, if_true, if_false, ↓reduceIte, eq_self, z0_o, ↓z0_0, ↓z0_1, ↓z0_2, ↓z0_3, ↓z0_4, ↓z0_5, ↓z0_5p0, ↓z0_5p1, z154_o, ↓z154_0, ↓z154_1, ↓z154_1p, ↓z154_2, ↓z154_2p, ↓z155_g, z360_o, ↓z360_0, ↓z360_1, ↓z360_1p, ↓z360_2, ↓z360_2p, ↓z360_3, ↓z360_4, ↓z360_5, ↓z360_6, ↓z360_7, ↓z360_7p, ↓z360_8, ↓z360_8p, ↓z361_g, ↓z361_s, ↓z362_g, ↓z362_s, ↓z363_g, ↓z363_s, ↓z364_g, ↓z364_s, ↓z365_g, ↓z365_s, ↓z0n h1, f0_o ho, ↓f0_0 ho, ↓f0_0p ho, ↓f0_1 ho, ↓f0_1p ho, ↓f0_2 ho, ↓f0_2p ho, ↓f0_3 ho, ↓f0_3p ho, ↓f0_4 ho, ↓f0_5 ho, ↓f0_6 ho, ↓f0_7 ho, ↓f0_8 ho, ↓f0_9 ho, ↓f0_10 ho, ↓f0_11 ho, ↓f1_g ho, ↓f1_s ho, ↓f2_g ho, ↓f2_s ho, f3_o ho, ↓f3_0 ho, ↓f3_0p ho, ↓f3_1 ho, ↓f3_2 ho, ↓f3_3 ho, ↓f4_g ho, ↓f4_s ho, ↓f5_g ho, ↓f5_s ho, ↓f6_g ho, ↓f6_s ho, f7_o ho, ↓f7_0 ho, ↓f7_1 ho, ↓f7_1p ho, ↓f7_2 ho, ↓f7_2p ho, ↓f8_g ho, f41_o ho, ↓f41_0 ho, ↓f41_1 ho, ↓f41_2 ho, ↓f41_3 ho, ↓f41_3p ho, ↓f42_g ho, ↓f42_s ho, ↓f43_g ho, ↓f43_s ho, ↓f44_g ho, ↓f44_s ho, f45_o ho, ↓f45_0 ho, ↓f45_1 ho, ↓f45_2 ho, ↓f45_2p ho, ↓f46_g ho, ↓f46_s ho, ↓f47_g ho, ↓f47_s ho, f48_o ho, ↓f48_0 ho, ↓f48_0p ho, ↓f48_1 ho, ↓f48_1p ho, ↓f48_2 ho, ↓f48_2p ho, ↓f48_3 ho, ↓f48_3p ho, cl0, cl2, cl3, k1, r0, r1, r2, r3, t0, t1, t2, t3, b0, b1, b2, b3, n1, n2, n3, n4, n5, n6, ↓aft_of (e1), ↓aft_of (e2), ↓aft_of (e3), ↓aft_of (e4), ↓aft_of (e5)]
  by_cases c19 : w = 19
  · subst c19
    simp +decide only [x112_0, x112_1, x112_108, x112_109, x112_112, x112_115, x112_116, x112_117, x112_120, x112_123, x112_126, x112_127, x112_128, x112_131, x112_134, x112_137, x112_138, x112_139, x112_142, x112_145, x112_148, x112_149, x112_150, x112_153, x112_156, x112_159, x112_160, x112_161, x112_164, x112_167, x112_168, x112_169, x112_172, x112_175, x112_178, x112_179, x112_180, x112_183, x112_186, x112_189, x112_190, x112_191, x112_194, x112_197, x112_200, x112_201, x112_202, x112_205, x112_208, x112_209, x112_210, x112_213, x112_216, x112_219, x112_220, x112_221, x112_224, x112_227, x112_230, x112_231, x112_232, x112_235, x112_238, x112_241, x112_242, x112_243, x112_246, x112_249, x112_252, x112_253, x112_254, x112_257, x112_260, x112_263, x112_264, x112_265, x112_268, x112_271, x112_274, x112_275, x112_276, x112_279, x112_282, x112_283, x112_284, x112_287, x112_290, x112_291, x112_292, x112_295, x112_298, x112_299, x112_300, x112_303, x112_306, x112_307, x112_308, x112_309, x112_310, x112_313, x112_316, x112_317, x112_318, x112_319, x112_320, x112_323, x112_326, x112_327, x112_328, x112_329, x112_330, x112_333, x112_336, x112_337, x112_338, x112_339, x112_341, aft_some, aft_void, Option.bind_some, Option.toList_some, Option.toList_none, List.cons_append, List.nil_append, if_true, if_false, ↓reduceIte, eq_self, z0_o, ↓z0_0, ↓z0_1, ↓z0_2, ↓z0_3, ↓z0_4, ↓z0_5, ↓z0_5p0, ↓z0_5p1, z154_o, ↓z154_0, ↓z154_1, ↓z154_1p, ↓z154_2, ↓z154_2p, ↓z155_g, z360_o, ↓z360_0, ↓z360_1, ↓z360_1p, ↓z360_2, ↓z360_2p, ↓z360_3, ↓z360_4, ↓z360_5, ↓z360_6, ↓z360_7, ↓z360_7p, ↓z360_8, ↓z360_8p, ↓z361_g, ↓z361_s, ↓z362_g, ↓z362_s, ↓z363_g, ↓z363_s, ↓z364_g, ↓z364_s, ↓z365_g, ↓z365_s, ↓z0n h1, f0_o ho, ↓f0_0 ho, ↓f0_0p ho, ↓f0_1 ho, ↓f0_1p ho, ↓f0_2 ho, ↓f0_2p ho, ↓f0_3 ho, ↓f0_3p ho, ↓f0_4 ho, ↓f0_5 ho, ↓f0_6 ho, ↓f0_7 ho, ↓f0_8 ho, ↓f0_9 ho, ↓f0_10 ho, ↓f0_11 ho, ↓f1_g ho, ↓f1_s ho, ↓f2_g ho, ↓f2_s ho, f3_o ho, ↓f3_0 ho, ↓f3_0p ho, ↓f3_1 ho, ↓f3_2 ho, ↓f3_3 ho, ↓f4_g ho, ↓f4_s ho, ↓f5_g ho, ↓f5_s ho, ↓f6_g ho, ↓f6_s ho, f7_o ho, ↓f7_0 ho, ↓f7_1 ho, ↓f7_1p ho, ↓f7_2 ho, ↓f7_2p ho, ↓f8_g ho, f41_o ho, ↓f41_0 ho, ↓f41_1 ho, ↓f41_2 ho, ↓f41_3 ho, ↓f41_3p ho, ↓f42_g ho, ↓f42_s ho, ↓f43_g ho, ↓f43_s ho, ↓f44_g ho, ↓f44_s ho, f45_o ho, ↓f45_0 ho, ↓f45_1 ho, ↓f45_2 ho, ↓f45_2p ho, ↓f46_g ho, ↓f46_s ho, ↓f47_g ho, ↓f47_s ho, f48_o ho, ↓f48_0 ho, ↓f48_0p ho, ↓f48_1 ho, ↓f48_1p ho, ↓f48_2 ho, ↓f48_2p ho, ↓f48_3 ho, ↓f48_3p ho, cl0, cl2, cl3, k1, r0, r1, r2, r3, t0, t1, t2, t3, b0, b1, b2, b3, n1, n2, n3, n4, n5, n6, ↓aft_of (e1), ↓aft_of (e2), ↓aft_of (e3), ↓aft_of (e4), ↓aft_of (e5)]
  by_cases c20 : w = 20
  · subst c20
    simp +decide only [x112_0, x112_1, x112_108, x112_109, x112_112, x112_115, x112_116, x112_117, x112_120, x112_123, x112_126, x112_127, x112_128, x112_131, x112_134, x112_137, x112_138, x112_139, x112_142, x112_145, x112_148, x112_149, x112_150, x112_153, x112_156, x112_159, x112_160, x112_161, x112_164, x112_167, x112_168, x112_169, x112_172, x112_175, x112_178, x112_179, x112_180, x112_183, x112_186, x112_189, x112_190, x112_191, x112_194, x112_197, x112_200, x112_201, x112_202, x112_205, x112_208, x112_209, x112_210, x112_213, x112_216, x112_219, x112_220, x112_221, x112_224, x112_227, x112_230, x112_231, x112_232, x112_235, x112_238, x112_241, x112_242, x112_243, x112_246, x112_249, x112_252, x112_253, x112_254, x112_257, x112_260, x112_263, x112_264, x112_265, x112_268, x112_271, x112_274, x112_275, x112_276, x112_279, x112_282, x112_283, x112_284, x112_287, x112_290, x112_291, x112_292, x112_295, x112_298, x112_299, x112_300, x112_303, x112_306, x112_307, x112_308, x112_309, x112_310, x112_313, x112_316, x112_317, x112_318, x112_319, x112_320, x112_323, x112_326, x112_327, x112_328, x112_329, x112_330, x112_333, x112_336, x112_337, x112_338, x112_339, x112_341, aft_some, aft_void, Option.bind_some, Option.toList_some, Option.toList_none, List.cons_append, List.nil_append, if_true, if_false, ↓reduceIte, eq_self, z0_o, ↓z0_0, ↓z0_1, ↓z0_2, ↓z0_3, ↓z0_4, ↓z0_5, ↓z0_5p0, ↓z0_5p1, z154_o, ↓z154_0, ↓z154_1, ↓z154_1p, ↓z154_2, ↓z154_2p, ↓z155_g, z360_o, ↓z360_0, ↓z360_1, ↓z360_1p, ↓z360_2, ↓z360_2p, ↓z360_3, ↓z360_4, ↓z360_5, ↓z360_6, ↓z360_7, ↓z360_7p, ↓z360_8, ↓z360_8p, ↓z361_g, ↓z361_s, ↓z362_g, ↓z362_s, ↓z363_g, ↓z363_s, ↓z364_g, ↓z364_s, ↓z365_g, ↓z365_s, ↓z0n h1, f0_o ho, ↓f0_0 ho, ↓f0_0p ho, ↓f0_1 ho, ↓f0_1p ho, ↓f0_2 ho, ↓f0_2p ho, ↓f0_3 ho, ↓f0_3p ho, ↓f0_4 ho, ↓f0_5 ho, ↓f0_6 ho, ↓f0_7 ho, ↓f0_8 ho, ↓f0_9 ho, ↓f0_10 ho, ↓f0_11 ho, ↓f1_g ho, ↓f1_s ho, ↓f2_g ho, ↓f2_s ho, f3_o ho, ↓f3_0 ho, ↓f3_0p ho, ↓f3_1 ho, ↓f3_2 ho, ↓f3_3 ho, ↓f4_g ho, ↓f4_s ho, ↓f5_g ho, ↓f5_s ho, ↓f6_g ho, ↓f6_s ho, f7_o ho, ↓f7_0 ho, ↓f7_1 ho, ↓f7_1p ho, ↓f7_2 ho, ↓f7_2p ho, ↓f8_g ho, f41_o ho, ↓f41_0 ho, ↓f41_1 ho, ↓f41_2 ho, ↓f41_3 ho, ↓f41_3p ho, ↓f42_g ho, ↓f42_s ho, ↓f43_g ho, ↓f43_s ho, ↓f44_g ho, ↓f44_s ho, f45_o ho, ↓f45_0 ho, ↓f45_1 ho, ↓f45_2 ho, ↓f45_2p ho, ↓f46_g ho, ↓f46_s ho, ↓f47_g ho, ↓f47_s ho, f48_o ho, ↓f48_0 ho, ↓f48_0p ho, ↓f48_1 ho, ↓f48_1p ho, ↓f48_2 ho, ↓f48_2p ho, ↓f48_3 ho, ↓f48_3p ho, cl0, cl2, cl3, k1, r0, r1, r2, r3, t0, t1, t2, t3, b0, b1, b2, b3, n1, n2, n3, n4, n5, n6, ↓aft_of (e1), ↓aft_of (e2), ↓aft_of (e3), ↓aft_of (e4), ↓aft_of (e5)]
  by_cases c21 : w = 21
  · subst c21
    simp +decide only [x112_0, x112_1, x112_108, x112_109, x112_112, x112_115, x112_116, x112_117, x112_120, x112_123, x112_126, x112_127, x112_128, x112_131, x112_134, x112_137, x112_138, x112_139, x112_142, x112_145, x112_148, x112_149, x112_150, x112_153, x112_156, x112_159, x112_160, x112_161, x112_164, x112_167, x112_168, x112_169, x112_172, x112_175, x112_178, x112_179, x112_180, x112_183, x112_186, x112_189, x112_190, x112_191, x112_194, x112_197, x112_200, x112_201, x112_202, x112_205, x112_208, x112_209, x112_210, x112_213, x112_216, x112_219, x112_220, x112_221, x112_224, x112_227, x112_230, x112_231, x112_232, x112_235, x112_238, x112_241, x112_242, x112_243, x112_246, x112_249, x112_252, x112_253, x112_254, x112_257, x112_260, x112_263, x112_264, x112_265, x112_268, x112_271, x112_274, x112_275, x112_276, x112_279, x112_282, x112_283, x112_284, x112_287, x112_290, x112_291, x112_292, x112_295, x112_298, x112_299, x112_300, x112_303, x112_306, x112_307, x112_308, x112_309, x112_310, x112_313, x112_316, x112_317, x112_318, x112_319, x112_320, x112_323, x112_326, x112_327, x112_328, x112_329, x112_330, x112_333, x112_336, x112_337, x112_338, x112_339, x112_341, aft_some, aft_void, Option.bind_some, Option.toList_some, Option.toList_none, List.cons_append, List.nil_append, if_true, if_false, ↓reduceIte, eq_self, z0_o, ↓z0_0, ↓z0_1, ↓z0_2, ↓z0_3, ↓z0_4, ↓z0_5, ↓z0_5p0, ↓z0_5p1, z154_o, ↓z154_0, ↓z154_1, ↓z154_1p, ↓z154_2, ↓z154_2p, ↓z155_g, z360_o, ↓z360_0, ↓z360_1, ↓z360_1p, ↓z360_2, ↓z360_2p, ↓z360_3, ↓z360_4, ↓z360_5, ↓z360_6, ↓z360_7, ↓z360_7p, ↓z360_8, ↓z360_8p, ↓z361_g, ↓z361_s, ↓z362_g, ↓z362_s, ↓z363_g, ↓z363_s, ↓z364_g, ↓z364_s, ↓z365_g, ↓z365_s, ↓z0n h1, f0_o ho, ↓f0_0 ho, ↓f0_0p ho, ↓f0_1 ho, ↓f0_1p ho, ↓f0_2 ho, ↓f0_2p ho, ↓f0_3 ho, ↓f0_3p ho, ↓f0_4 ho, ↓f0_5 ho, ↓f0_6 ho, ↓f0_7 ho, ↓f0_8 ho, ↓f0_9 ho, ↓f0_10 ho, ↓f0_11 ho, ↓f1_g ho, ↓f1_s ho, ↓f2_g ho, ↓f2_s ho, f3_o ho, ↓f3_0 ho, ↓f3_0p ho, ↓f3_1 ho, ↓f3_2 ho, ↓f3_3 ho, ↓f4_g ho, ↓f4_s ho, ↓f5_g ho, ↓f5_s ho, ↓f6_g ho, ↓f6_s ho, f7_o ho, ↓f7_0 ho, ↓f7_1 ho, ↓f7_1p ho, ↓f7_2 ho, ↓f7_2p ho, ↓f8_g ho, f41_o ho, ↓f41_0 ho, ↓f41_1 ho, ↓f41_2 ho, ↓f41_3 ho, ↓f41_3p ho, ↓f42_g ho, ↓f42_s ho, ↓f43_g ho, ↓f43_s ho, ↓f44_g ho, ↓f44_s ho, f45_o ho, ↓f45_0 ho, ↓f45_1 ho, ↓f45_2 ho, ↓f45_2p ho, ↓f46_g ho, ↓f46_s ho, ↓f47_g ho, ↓f47_s ho, f48_o ho, ↓f48_0 ho, ↓f48_0p ho, ↓f48_1 ho, ↓f48_1p ho, ↓f48_2 ho, ↓f48_2p ho, ↓f48_3 ho, ↓f48_3p ho, cl0, cl2, cl3, k1, r0, r1, r2, r3, t0, t1, t2, t3, b0, b1, b2, b3, n1, n2, n3, n4, n5, n6, ↓aft_of (e1), ↓aft_of (e2), ↓aft_of (e3), ↓aft_of (e4), ↓aft_of (e5)]
  by_cases c22 : w = 22
  · subst c22
    simp +decide only [x112_0, x112_1, x112_108, x112_109, x112_112, x112_115, x112_116, x112_117, x112_120, x112_123, x112_126, x112_127, x112_128, x112_131, x112_134, x112_137, x112_138, x112_139, x112_142, x112_145, x112_148, x112_149, x112_150, x112_153, x112_156, x112_159, x112_160, x112_161, x112_164, x112_167, x112_168, x112_169, x112_172, x112_175, x112_178, x112_179, x112_180, x112_183, x112_186, x112_189, x112_190, x112_191, x112_194, x112_197, x112_200, x112_201, x112_202, x112_205, x112_208, x112_209, x112_210, x112_213, x112_216, x112_219, x112_220, x112_221, x112_224, x112_227, x112_230, x112_231, x112_232, x112_235, x112_238, x112_241, x112_242, x112_243, x112_246, x112_249, x112_252, x112_253, x112_254, x112_257, x112_260, x112_263, x112_264, x112_265, x112_268, x112_271, x112_274, x112_275, x112_276, x112_279, x112_282, x112_283, x112_284, x112_287, x112_290, x112_291, x112_292, x112_295, x112_298, x112_299, x112_300, x112_303, x112_306, x112_307, x112_308, x112_309, x112_310, x112_313, x112_316, x112_317, x112_318, x112_319, x112_320, x112_323, x112_326, x112_327, x112_328, x112_329, x112_330, x112_333, x112_336, x112_337, x112_338, x112_339, x112_341, aft_some, aft_void, Option.bind_some, Option.toList_some, Option.toList_none, List.cons_append, List.nil_append, if_true, if_false, ↓reduceIte, eq_self, z0_o, ↓z0_0, ↓z0_1, ↓z0_2, ↓z0_3, ↓z0_4, ↓z0_5, ↓z0_5p0, ↓z0_5p1, z154_o, ↓z154_0, ↓z154_1, ↓z154_1p, ↓z154_2, ↓z154_2p, ↓z155_g, z360_o, ↓z360_0, ↓z360_1, ↓z360_1p, ↓z360_2, ↓z360_2p, ↓z360_3, ↓z360_4, ↓z360_5, ↓z360_6, ↓z360_7, ↓z360_7p, ↓z360_8, ↓z360_8p, ↓z361_g, ↓z361_s, ↓z362_g, ↓z362_s, ↓z363_g, ↓z363_s, ↓z364_g, ↓z364_s, ↓z365_g, ↓z365_s, ↓z0n h1, f0_o ho, ↓f0_0 ho, ↓f0_0p ho, ↓f0_1 ho, ↓f0_1p ho, ↓f0_2 ho, ↓f0_2p ho, ↓f0_3 ho, ↓f0_3p ho, ↓f0_4 ho, ↓f0_5 ho, ↓f0_6 ho, ↓f0_7 ho, ↓f0_8 ho, ↓f0_9 ho, ↓f0_10 ho, ↓f0_11 ho, ↓f1_g ho, ↓f1_s ho, ↓f2_g ho, ↓f2_s ho, f3_o ho, ↓f3_0 ho, ↓f3_0p ho, ↓f3_1 ho, ↓f3_2 ho, ↓f3_3 ho, ↓f4_g ho, ↓f4_s ho, ↓f5_g ho, ↓f5_s ho, ↓f6_g ho, ↓f6_s ho, f7_o ho, ↓f7_0 ho, ↓f7_1 ho, ↓f7_1p ho, ↓f7_2 ho, ↓f7_2p ho, ↓f8_g ho, f41_o ho, ↓f41_0 ho, ↓f41_1 ho, ↓f41_2 ho, ↓f41_3 ho, ↓f41_3p ho, ↓f42_g ho, ↓f42_s ho, ↓f43_g ho, ↓f43_s ho, ↓f44_g ho, ↓f44_s ho, f45_o ho, ↓f45_0 ho, ↓f45_1 ho, ↓f45_2 ho, ↓f45_2p ho, ↓f46_g ho, ↓f46_s ho, ↓f47_g ho, ↓f47_s ho, f48_o ho, ↓f48_0 ho, ↓f48_0p ho, ↓f48_1 ho, ↓f48_1p ho, ↓f48_2 ho, ↓f48_2p ho, ↓f48_3 ho, ↓f48_3p ho, cl0, cl2, cl3, k1, r0, r1, r2, r3, t0, t1, t2, t3, b0, b1, b2, b3, n1, n2, n3, n4, n5, n6, ↓aft_of (e1), ↓aft_of (e2), ↓aft_of (e3), ↓aft_of (e4), ↓aft_of (e5)]
  simp +decide only [x112_0, x112_1, x112_108, x112_109, x112_112, x112_115, x112_116, x112_117, x112_120, x112_123, x112_126, x112_127, x112_128, x112_131, x112_134, x112_137, x112_138, x112_139, x112_142, x112_145, x112_148, x112_149, x112_150, x112_153, x112_156, x112_159, x112_160, x112_161, x112_164, x112_167, x112_168, x112_169, x112_172, x112_175, x112_178, x112_179, x112_180, x112_183, x112_186, x112_189, x112_190, x112_191, x112_194, x112_197, x112_200, x112_201, x112_202, x112_205, x112_208, x112_209, x112_210, x112_213, x112_216, x112_219, x112_220, x112_221, x112_224, x112_227, x112_230, x112_231, x112_232, x112_235, x112_238, x112_241, x112_242, x112_243, x112_246, x112_249, x112_252, x112_253, x112_254, x112_257, x112_260, x112_263, x112_264, x112_265, x112_268, x112_271, x112_274, x112_275, x112_276, x112_279, x112_282, x112_283, x112_284, x112_287, x112_290, x112_291, x112_292, x112_295, x112_298, x112_299, x112_300, x112_303, x112_306, x112_307, x112_308, x112_309, x112_310, x112_313, x112_316, x112_317, x112_318, x112_319, x112_320, x112_323, x112_326, x112_327, x112_328, x112_329, x112_330, x112_333, x112_336, x112_337, x112_338, x112_339, x112_341, aft_some, aft_void, Option.bind_some, Option.toList_some, Option.toList_none, List.cons_append, List.nil_append, if_true, if_false, ↓reduceIte, eq_self, c0, c1, c2, c3, c4, c5, c6, c7, c8, c9, c10, c11, c12, c13, c14, c15, c16, c17, c18, c19, c20, c21, c22]
def gWant (s : gT) : Int32 := if 0 < smI (fun i => nhI (gK s.1.2 i 1) - nhI (gK s.1.2 i 2)) s.1.2.length - s.1.1.2.1 0 1 then smI (fun i => nhI (gK s.1.2 i 1) - nhI (gK s.1.2 i 2)) s.1.2.length - s.1.1.2.1 0 1 else 0
theorem g_want (h1 : o = 1) (h : CG EE T P s) : X 117 0 [.ref 0] [] (H T P) = some (some (.int (gWant s)), H T P) := by
  have ho : isB o := by subst h1; exact isB_1
  have hc : CSu o T P s.1 := by subst h1; exact h.2.1.1
  have h8 := h.2.1.2.1.1.2.2.2.1
  have e1 := s_toCome ho hc h8
  have r1 := hc.1.1 1 (by decide)
  unfold gWant
  simp +decide only [x117_0, x117_1, x117_2, x117_5, x117_8, x117_11, x117_12, x117_15, x117_18, x117_19, x117_22, aft_some, aft_void, Option.bind_some, Option.toList_some, Option.toList_none, List.cons_append, List.nil_append, if_true, if_false, ↓reduceIte, eq_self, z0_o, ↓z0_0, ↓z0_1, ↓z0_2, ↓z0_3, ↓z0_4, ↓z0_5, ↓z0_5p0, ↓z0_5p1, ↓z0n h1, f0_o ho, ↓f0_0 ho, ↓f0_0p ho, ↓f0_1 ho, ↓f0_1p ho, ↓f0_2 ho, ↓f0_2p ho, ↓f0_3 ho, ↓f0_3p ho, ↓f0_4 ho, ↓f0_5 ho, ↓f0_6 ho, ↓f0_7 ho, ↓f0_8 ho, ↓f0_9 ho, ↓f0_10 ho, ↓f0_11 ho, ↓f1_g ho, ↓f1_s ho, ↓f2_g ho, ↓f2_s ho, f7_o ho, ↓f7_0 ho, ↓f7_1 ho, ↓f7_1p ho, ↓f7_2 ho, ↓f7_2p ho, ↓f8_g ho, r1, ↓aft_of (e1)]
def gBook (a w : Int32) (s : gT) : Int32 := if inI a 0 9 = 0 then -2 else if inI w 0 3 = 0 then -2 else if a.toNatClampNeg < s.1.1.1 4 then s.1.1.2.2.2 a.toNatClampNeg w.toNatClampNeg else -5
theorem g_book (h1 : o = 1) (h : CG EE T P s) (a w : Int32) : X 111 0 [.ref 0, .int a, .int w] [] (H T P) = some (some (.int (gBook a w s)), H T P) := by
  have ho : isB o := by subst h1; exact isB_1
  have hc : CSu o T P s.1 := by subst h1; exact h.2.1.1
  unfold gBook
  by_cases c1 : inI a 0 9 = 0
  · rw [if_pos c1]
    simp +decide only [x111_0, x111_1, x111_2, x111_4, x111_7, x111_10, x111_11, x111_12, x111_13, x111_16, x111_19, x111_21, x111_22, x111_23, x111_26, x111_29, x111_30, x111_31, x111_34, aft_some, aft_void, Option.bind_some, Option.toList_some, Option.toList_none, List.cons_append, List.nil_append, if_true, if_false, ↓reduceIte, eq_self, z0_o, ↓z0_0, ↓z0_1, ↓z0_2, ↓z0_3, ↓z0_4, ↓z0_5, ↓z0_5p0, ↓z0_5p1, ↓aft_of (c_within), c1]
  rw [if_neg c1]
  by_cases c2 : inI w 0 3 = 0
  · rw [if_pos c2]
    simp +decide only [x111_0, x111_1, x111_2, x111_4, x111_7, x111_10, x111_11, x111_12, x111_13, x111_16, x111_19, x111_21, x111_22, x111_23, x111_26, x111_29, x111_30, x111_31, x111_34, aft_some, aft_void, Option.bind_some, Option.toList_some, Option.toList_none, List.cons_append, List.nil_append, if_true, if_false, ↓reduceIte, eq_self, z0_o, ↓z0_0, ↓z0_1, ↓z0_2, ↓z0_3, ↓z0_4, ↓z0_5, ↓z0_5p0, ↓z0_5p1, ↓aft_of (c_within), c1, c2]
  rw [if_neg c2]
  obtain ⟨k, hk, rfl⟩ := inI_ex (n := 9) (by decide) c1
  obtain ⟨j, hj, rfl⟩ := inI_ex (n := 3) (by decide) c2
  have e := c_tell (P := P) (g := k) (k := j) ho hc.2.2.2.2.2.2 (by omega) (by omega)
  rw [nI_clamp (by omega), nI_clamp (by omega)]
  simp +decide only [x111_0, x111_1, x111_2, x111_4, x111_7, x111_10, x111_11, x111_12, x111_13, x111_16, x111_19, x111_21, x111_22, x111_23, x111_26, x111_29, x111_30, x111_31, x111_34, aft_some, aft_void, Option.bind_some, Option.toList_some, Option.toList_none, List.cons_append, List.nil_append, if_true, if_false, ↓reduceIte, eq_self, z0_o, ↓z0_0, ↓z0_1, ↓z0_2, ↓z0_3, ↓z0_4, ↓z0_5, ↓z0_5p0, ↓z0_5p1, ↓z0n h1, f0_o ho, ↓f0_0 ho, ↓f0_0p ho, ↓f0_1 ho, ↓f0_1p ho, ↓f0_2 ho, ↓f0_2p ho, ↓f0_3 ho, ↓f0_3p ho, ↓f0_4 ho, ↓f0_5 ho, ↓f0_6 ho, ↓f0_7 ho, ↓f0_8 ho, ↓f0_9 ho, ↓f0_10 ho, ↓f0_11 ho, ↓f1_g ho, ↓f1_s ho, ↓f2_g ho, ↓f2_s ho, f49_o ho, ↓f49_0 ho, ↓f49_1 ho, ↓f49_1p ho, ↓f49_2 ho, ↓f49_2p ho, ↓f50_g ho, ↓f50_s ho, ↓aft_of (c_within), c1, c2, ↓aft_of (e)]
noncomputable def gOrd (r : Int32) (s : gT) : Int32 := if r < 0 then -2 else match fstN (fun i => rkI (fun i => tnK s.1.1.1 s.1.1.2.1 (gK s.1.2 i)) s.1.2.length i = r) 0 s.1.2.length with
  | some i => gK s.1.2 i 0 0
  | none => -5
end TL
end
section
/-! told of a customer, a basket, the order -/
theorem fstN_congr {p q : Nat → Prop} : ∀ {n a : Nat}, (∀ i, a ≤ i → i < a + n → (p i ↔ q i)) → fstN p a n = fstN q a n
  | 0, _, _ => rfl
  | n + 1, a, h => by
    show @ite _ (p a) (Classical.propDecidable _) (some a) (fstN p (a + 1) n) = @ite _ (q a) (Classical.propDecidable _) (some a) (fstN q (a + 1) n)
    have h0 := h a (Nat.le_refl a) (by omega)
    rw [fstN_congr (p := p) (q := q) (n := n) (a := a + 1) (fun i h1 h2 => h i (by omega) (by omega))]
    by_cases c : p a
    · rw [if_pos c, if_pos (h0.mp c)]
    · rw [if_neg c, if_neg (fun z => c (h0.mpr z))]
theorem fstN_some {p : Nat → Prop} : ∀ {n a i : Nat}, fstN p a n = some i → a ≤ i ∧ i < a + n ∧ p i
  | 0, a, i, h => by cases h
  | n + 1, a, i, h => by
    have h : @ite _ (p a) (Classical.propDecidable _) (some a) (fstN p (a + 1) n) = some i := h
    by_cases c : p a
    · rw [if_pos c] at h
      cases h
      exact ⟨Nat.le_refl _, by omega, c⟩
    · rw [if_neg c] at h
      obtain ⟨h1, h2, h3⟩ := fstN_some h
      exact ⟨by omega, by omega, h3⟩
noncomputable def wnK (x : Int32) (K : List kT) : Option Nat := fstN (fun i => gK K i 0 0 = x) 0 K.length
noncomputable def gOrd' (r : Int32) (u : uT) : Int32 := match fstN (fun i => rkI (fun i => tnK u.1.1 u.1.2.1 (gK u.2 i)) u.2.length i = r) 0 u.2.length with
  | some i => gK u.2 i 0 0
  | none => -5
noncomputable def gCus (c w : Int32) (s : gT) : Int32 := @ite _ (hsI (s.1.1.1 1) c) (Classical.propDecidable _) (if w = 0 then s.1.1.2.1 4 c.toNatClampNeg else if w = 1 then nI (outL c.toNatClampNeg s.1.1.2.2.1) else if w = 2 then s.1.1.2.1 5 c.toNatClampNeg else if w = 3 then s.1.1.2.1 6 c.toNatClampNeg else if w = 4 then smI (fun i => if gK s.1.2 i 0 1 = c then 1 else 0) s.1.2.length else if w = 5 then firstL c.toNatClampNeg s.1.1.2.2.1 else if w = 6 then nvI (-5) (s.1.1.2.1 2 (s.1.1.2.1 4 c.toNatClampNeg).toNatClampNeg) (s.1.1.1 0) else -2) (-1)
noncomputable def tbK (b : kT) (w : Int32) : Int32 := if w = 0 then b 0 1 else if w = 1 then b 0 2 else if w = 2 then b 0 3 else if w = 3 then dgt (b 1) else if w = 4 then dgt (b 2) else if w = 5 then dgt (b 3) else if w = 6 then rdK b else if w = 7 then prK b else if w = 8 then omK b else if w = 9 then b 0 4 else -2
noncomputable def gBasOf (x w : Int32) (s : gT) : Int32 := match wnK x s.1.2 with
  | some i => tbK (gK s.1.2 i) w
  | none => -1
section TM
variable {T U EE : Nat → Nat → Int32} {P Q : Nat → Nat → Nat} {o q : Nat} {s : gT} {u : uT} {N : Nat → Nat} {V W : Nat → Nat → Int32} {K : List kT} {B : List bT} {R : Nat → Nat → Int32} {x : Int32}
theorem s_wn (ho : isB o) (h : CS o T P N V K B R) (h8 : K.length ≤ 8) : (∃ i, wnK x K = some i ∧ i < K.length ∧ gK K i 0 0 = x ∧ X 65 0 [.ref (o + 7), .int x, .long 0] [] (H T P) = some (some (.ref (P (o + 8) i)), H T P)) ∨ (wnK x K = none ∧ X 65 0 [.ref (o + 7), .int x, .long 0] [] (H T P) = some (some .null, H T P)) := by
  have e := c_withNumber (x := x) ho h.pk h.n h8
  have e2 : fstN (fun i => T (P (o + 8) i) 0 = x) 0 K.length = wnK x K := fstN_congr (fun i _ hi => by rw [(h.at (by omega)).1 0 (by decide)])
  rw [e2] at e
  cases hw : wnK x K with
  | none =>
    rw [hw] at e
    exact Or.inr ⟨rfl, e⟩
  | some i =>
    rw [hw] at e
    have := fstN_some hw
    exact Or.inl ⟨i, rfl, by omega, this.2.2, e⟩
theorem s_from (ho : isB o) (h : CS o T P N V K B R) (h8 : K.length ≤ 8) : X 66 0 [.ref (o + 7), .int x, .long 0, .long 0] [] (H T P) = some (some (.int (smI (fun i => if gK K i 0 1 = x then 1 else 0) K.length)), H T P) := by
  rw [c_numberFrom ho h.pk h.n h8]
  rw [smI_congr (fun i hi => by rw [(h.at hi).1 1 (by decide)])]
theorem g_ord (h1 : o = 1) (h : CG EE T P s) (r : Int32) : X 110 0 [.ref 0, .int r] [] (H T P) = some (some (.int (if r < 0 then -2 else gOrd' r s.1)), H T P) := by
  have ho : isB o := by subst h1; exact isB_1
  have hc : CSu o T P s.1 := by subst h1; exact h.2.1.1
  have e : X 80 0 [.ref o, .int r, .long 0] [] (H T P) = some (some (.int (gOrd' r s.1)), H T P) := c_atRank (x := r) ho hc h.2.1.2.1
  by_cases c1 : r < 0
  · simp +decide only [x110_0, x110_1, x110_4, x110_6, x110_7, x110_8, x110_11, x110_12, x110_15, aft_some, aft_void, Option.bind_some, Option.toList_some, Option.toList_none, List.cons_append, List.nil_append, if_true, if_false, ↓reduceIte, eq_self, c1]
  · simp +decide only [x110_0, x110_1, x110_4, x110_6, x110_7, x110_8, x110_11, x110_12, x110_15, aft_some, aft_void, Option.bind_some, Option.toList_some, Option.toList_none, List.cons_append, List.nil_append, if_true, if_false, ↓reduceIte, eq_self, z0_o, ↓z0_0, ↓z0_1, ↓z0_2, ↓z0_3, ↓z0_4, ↓z0_5, ↓z0_5p0, ↓z0_5p1, ↓z0n h1, f0_o ho, ↓f0_0 ho, ↓f0_0p ho, ↓f0_1 ho, ↓f0_1p ho, ↓f0_2 ho, ↓f0_2p ho, ↓f0_3 ho, ↓f0_3p ho, ↓f0_4 ho, ↓f0_5 ho, ↓f0_6 ho, ↓f0_7 ho, ↓f0_8 ho, ↓f0_9 ho, ↓f0_10 ho, ↓f0_11 ho, ↓f1_g ho, ↓f1_s ho, ↓f2_g ho, ↓f2_s ho, c1, ↓aft_of (e)]
theorem g_cus (h1 : o = 1) (h : CG EE T P s) (c w : Int32) : X 107 0 [.ref 0, .int c, .int w] [] (H T P) = some (some (.int (gCus c w s)), H T P) := by
  have ho : isB o := by subst h1; exact isB_1
  have hc : CSu o T P s.1 := by subst h1; exact h.2.1.1
  have hw := h.2.1.2.1
  have hN1 := hw.1.2.1
  have h8 := hw.1.2.2.2.1
  have eh := c_hasN (P := P) (c := c) ho hc.2.1.1
  unfold gCus
  by_cases ch : hsI (s.1.1.1 1) c
  · rw [if_pos ch] at eh ⊢
    obtain ⟨k, hk, rfl⟩ := nI_ex ch.1 (by omega) ch.2
    have cl := nI_clamp (show k < 2 ^ 31 by omega)
    have ok := okx_nI (show k < 10 by omega) (show (10 : Nat) < 2 ^ 31 by decide)
    obtain ⟨d, hd, ed⟩ := hw.2.1 k hk
    have v4 : T (o + 4) k = s.1.1.2.1 4 k := hc.2.1.2.1 k hk
    have v5 : T (o + 5) k = s.1.1.2.1 5 k := hc.2.1.2.2.1 k hk
    have v6 : T (o + 6) k = s.1.1.2.1 6 k := hc.2.1.2.2.2 k hk
    have f1 := c_outTo (P := P) ho hc.2.2.2.1 (OS.of_wf hw) (show k < 10 by omega)
    have f2 := c_firstDay (P := P) ho hc.2.2.2.1 (OS.of_wf hw) (show k < 10 by omega)
    have f3 := s_from (x := nI k) ho hc h8
    have f4 := c_nextVisit ho hc hw.1.1 hd
    rw [cl]
    by_cases c0 : w = 0
    · subst c0
      simp +decide only [x107_0, x107_1, x107_4, x107_7, x107_8, x107_11, x107_14, x107_15, x107_16, x107_17, x107_60, x107_61, x107_64, x107_67, x107_70, x107_71, x107_72, x107_73, x107_74, x107_77, x107_80, x107_81, x107_84, x107_85, x107_86, x107_89, x107_92, x107_95, x107_96, x107_97, x107_98, x107_99, x107_102, x107_105, x107_108, x107_109, x107_110, x107_111, x107_112, x107_115, x107_118, x107_119, x107_122, x107_123, x107_124, x107_127, x107_130, x107_131, x107_134, x107_135, x107_136, x107_139, x107_140, x107_143, x107_146, x107_149, x107_150, x107_151, x107_154, x107_155, x107_157, aft_some, aft_void, Option.bind_some, Option.toList_some, Option.toList_none, List.cons_append, List.nil_append, if_true, if_false, ↓reduceIte, eq_self, z0_o, ↓z0_0, ↓z0_1, ↓z0_2, ↓z0_3, ↓z0_4, ↓z0_5, ↓z0_5p0, ↓z0_5p1, ↓z0n h1, f0_o ho, ↓f0_0 ho, ↓f0_0p ho, ↓f0_1 ho, ↓f0_1p ho, ↓f0_2 ho, ↓f0_2p ho, ↓f0_3 ho, ↓f0_3p ho, ↓f0_4 ho, ↓f0_5 ho, ↓f0_6 ho, ↓f0_7 ho, ↓f0_8 ho, ↓f0_9 ho, ↓f0_10 ho, ↓f0_11 ho, ↓f1_g ho, ↓f1_s ho, ↓f2_g ho, ↓f2_s ho, f3_o ho, ↓f3_0 ho, ↓f3_0p ho, ↓f3_1 ho, ↓f3_2 ho, ↓f3_3 ho, ↓f4_g ho, ↓f4_s ho, ↓f5_g ho, ↓f5_s ho, ↓f6_g ho, ↓f6_s ho, f7_o ho, ↓f7_0 ho, ↓f7_1 ho, ↓f7_1p ho, ↓f7_2 ho, ↓f7_2p ho, ↓f8_g ho, f41_o ho, ↓f41_0 ho, ↓f41_1 ho, ↓f41_2 ho, ↓f41_3 ho, ↓f41_3p ho, ↓f42_g ho, ↓f42_s ho, ↓f43_g ho, ↓f43_s ho, ↓f44_g ho, ↓f44_s ho, ↓aft_of (eh), ok, cl, v4, v5, v6, ↓aft_of (f1), ↓aft_of (f2), ↓aft_of (f3), ↓aft_of (f4)]
    by_cases c1 : w = 1
    · subst c1
      simp +decide only [x107_0, x107_1, x107_4, x107_7, x107_8, x107_11, x107_14, x107_15, x107_16, x107_17, x107_60, x107_61, x107_64, x107_67, x107_70, x107_71, x107_72, x107_73, x107_74, x107_77, x107_80, x107_81, x107_84, x107_85, x107_86, x107_89, x107_92, x107_95, x107_96, x107_97, x107_98, x107_99, x107_102, x107_105, x107_108, x107_109, x107_110, x107_111, x107_112, x107_115, x107_118, x107_119, x107_122, x107_123, x107_124, x107_127, x107_130, x107_131, x107_134, x107_135, x107_136, x107_139, x107_140, x107_143, x107_146, x107_149, x107_150, x107_151, x107_154, x107_155, x107_157, aft_some, aft_void, Option.bind_some, Option.toList_some, Option.toList_none, List.cons_append, List.nil_append, if_true, if_false, ↓reduceIte, eq_self, z0_o, ↓z0_0, ↓z0_1, ↓z0_2, ↓z0_3, ↓z0_4, ↓z0_5, ↓z0_5p0, ↓z0_5p1, ↓z0n h1, f0_o ho, ↓f0_0 ho, ↓f0_0p ho, ↓f0_1 ho, ↓f0_1p ho, ↓f0_2 ho, ↓f0_2p ho, ↓f0_3 ho, ↓f0_3p ho, ↓f0_4 ho, ↓f0_5 ho, ↓f0_6 ho, ↓f0_7 ho, ↓f0_8 ho, ↓f0_9 ho, ↓f0_10 ho, ↓f0_11 ho, ↓f1_g ho, ↓f1_s ho, ↓f2_g ho, ↓f2_s ho, f3_o ho, ↓f3_0 ho, ↓f3_0p ho, ↓f3_1 ho, ↓f3_2 ho, ↓f3_3 ho, ↓f4_g ho, ↓f4_s ho, ↓f5_g ho, ↓f5_s ho, ↓f6_g ho, ↓f6_s ho, f7_o ho, ↓f7_0 ho, ↓f7_1 ho, ↓f7_1p ho, ↓f7_2 ho, ↓f7_2p ho, ↓f8_g ho, f41_o ho, ↓f41_0 ho, ↓f41_1 ho, ↓f41_2 ho, ↓f41_3 ho, ↓f41_3p ho, ↓f42_g ho, ↓f42_s ho, ↓f43_g ho, ↓f43_s ho, ↓f44_g ho, ↓f44_s ho, ↓aft_of (eh), ok, cl, v4, v5, v6, ↓aft_of (f1), ↓aft_of (f2), ↓aft_of (f3), ↓aft_of (f4)]
    by_cases c2 : w = 2
    · subst c2
      simp +decide only [x107_0, x107_1, x107_4, x107_7, x107_8, x107_11, x107_14, x107_15, x107_16, x107_17, x107_60, x107_61, x107_64, x107_67, x107_70, x107_71, x107_72, x107_73, x107_74, x107_77, x107_80, x107_81, x107_84, x107_85, x107_86, x107_89, x107_92, x107_95, x107_96, x107_97, x107_98, x107_99, x107_102, x107_105, x107_108, x107_109, x107_110, x107_111, x107_112, x107_115, x107_118, x107_119, x107_122, x107_123, x107_124, x107_127, x107_130, x107_131, x107_134, x107_135, x107_136, x107_139, x107_140, x107_143, x107_146, x107_149, x107_150, x107_151, x107_154, x107_155, x107_157, aft_some, aft_void, Option.bind_some, Option.toList_some, Option.toList_none, List.cons_append, List.nil_append, if_true, if_false, ↓reduceIte, eq_self, z0_o, ↓z0_0, ↓z0_1, ↓z0_2, ↓z0_3, ↓z0_4, ↓z0_5, ↓z0_5p0, ↓z0_5p1, ↓z0n h1, f0_o ho, ↓f0_0 ho, ↓f0_0p ho, ↓f0_1 ho, ↓f0_1p ho, ↓f0_2 ho, ↓f0_2p ho, ↓f0_3 ho, ↓f0_3p ho, ↓f0_4 ho, ↓f0_5 ho, ↓f0_6 ho, ↓f0_7 ho, ↓f0_8 ho, ↓f0_9 ho, ↓f0_10 ho, ↓f0_11 ho, ↓f1_g ho, ↓f1_s ho, ↓f2_g ho, ↓f2_s ho, f3_o ho, ↓f3_0 ho, ↓f3_0p ho, ↓f3_1 ho, ↓f3_2 ho, ↓f3_3 ho, ↓f4_g ho, ↓f4_s ho, ↓f5_g ho, ↓f5_s ho, ↓f6_g ho, ↓f6_s ho, f7_o ho, ↓f7_0 ho, ↓f7_1 ho, ↓f7_1p ho, ↓f7_2 ho, ↓f7_2p ho, ↓f8_g ho, f41_o ho, ↓f41_0 ho, ↓f41_1 ho, ↓f41_2 ho, ↓f41_3 ho, ↓f41_3p ho, ↓f42_g ho, ↓f42_s ho, ↓f43_g ho, ↓f43_s ho, ↓f44_g ho, ↓f44_s ho, ↓aft_of (eh), ok, cl, v4, v5, v6, ↓aft_of (f1), ↓aft_of (f2), ↓aft_of (f3), ↓aft_of (f4)]
    by_cases c3 : w = 3
    · subst c3
      simp +decide only [x107_0, x107_1, x107_4, x107_7, x107_8, x107_11, x107_14, x107_15, x107_16, x107_17, x107_60, x107_61, x107_64, x107_67, x107_70, x107_71, x107_72, x107_73, x107_74, x107_77, x107_80, x107_81, x107_84, x107_85, x107_86, x107_89, x107_92, x107_95, x107_96, x107_97, x107_98, x107_99, x107_102, x107_105, x107_108, x107_109, x107_110, x107_111, x107_112, x107_115, x107_118, x107_119, x107_122, x107_123, x107_124, x107_127, x107_130, x107_131, x107_134, x107_135, x107_136, x107_139, x107_140, x107_143, x107_146, x107_149, x107_150, x107_151, x107_154, x107_155, x107_157, aft_some, aft_void, Option.bind_some, Option.toList_some, Option.toList_none, List.cons_append, List.nil_append, if_true, if_false, ↓reduceIte, eq_self, z0_o, ↓z0_0, ↓z0_1, ↓z0_2, ↓z0_3, ↓z0_4, ↓z0_5, ↓z0_5p0, ↓z0_5p1, ↓z0n h1, f0_o ho, ↓f0_0 ho, ↓f0_0p ho, ↓f0_1 ho, ↓f0_1p ho, ↓f0_2 ho, ↓f0_2p ho, ↓f0_3 ho, ↓f0_3p ho, ↓f0_4 ho, ↓f0_5 ho, ↓f0_6 ho, ↓f0_7 ho, ↓f0_8 ho, ↓f0_9 ho, ↓f0_10 ho, ↓f0_11 ho, ↓f1_g ho, ↓f1_s ho, ↓f2_g ho, ↓f2_s ho, f3_o ho, ↓f3_0 ho, ↓f3_0p ho, ↓f3_1 ho, ↓f3_2 ho, ↓f3_3 ho, ↓f4_g ho, ↓f4_s ho, ↓f5_g ho, ↓f5_s ho, ↓f6_g ho, ↓f6_s ho, f7_o ho, ↓f7_0 ho, ↓f7_1 ho, ↓f7_1p ho, ↓f7_2 ho, ↓f7_2p ho, ↓f8_g ho, f41_o ho, ↓f41_0 ho, ↓f41_1 ho, ↓f41_2 ho, ↓f41_3 ho, ↓f41_3p ho, ↓f42_g ho, ↓f42_s ho, ↓f43_g ho, ↓f43_s ho, ↓f44_g ho, ↓f44_s ho, ↓aft_of (eh), ok, cl, v4, v5, v6, ↓aft_of (f1), ↓aft_of (f2), ↓aft_of (f3), ↓aft_of (f4)]
    by_cases c4 : w = 4
    · subst c4
      simp +decide only [x107_0, x107_1, x107_4, x107_7, x107_8, x107_11, x107_14, x107_15, x107_16, x107_17, x107_60, x107_61, x107_64, x107_67, x107_70, x107_71, x107_72, x107_73, x107_74, x107_77, x107_80, x107_81, x107_84, x107_85, x107_86, x107_89, x107_92, x107_95, x107_96, x107_97, x107_98, x107_99, x107_102, x107_105, x107_108, x107_109, x107_110, x107_111, x107_112, x107_115, x107_118, x107_119, x107_122, x107_123, x107_124, x107_127, x107_130, x107_131, x107_134, x107_135, x107_136, x107_139, x107_140, x107_143, x107_146, x107_149, x107_150, x107_151, x107_154, x107_155, x107_157, aft_some, aft_void, Option.bind_some, Option.toList_some, Option.toList_none, List.cons_append, List.nil_append, if_true, if_false, ↓reduceIte, eq_self, z0_o, ↓z0_0, ↓z0_1, ↓z0_2, ↓z0_3, ↓z0_4, ↓z0_5, ↓z0_5p0, ↓z0_5p1, ↓z0n h1, f0_o ho, ↓f0_0 ho, ↓f0_0p ho, ↓f0_1 ho, ↓f0_1p ho, ↓f0_2 ho, ↓f0_2p ho, ↓f0_3 ho, ↓f0_3p ho, ↓f0_4 ho, ↓f0_5 ho, ↓f0_6 ho, ↓f0_7 ho, ↓f0_8 ho, ↓f0_9 ho, ↓f0_10 ho, ↓f0_11 ho, ↓f1_g ho, ↓f1_s ho, ↓f2_g ho, ↓f2_s ho, f3_o ho, ↓f3_0 ho, ↓f3_0p ho, ↓f3_1 ho, ↓f3_2 ho, ↓f3_3 ho, ↓f4_g ho, ↓f4_s ho, ↓f5_g ho, ↓f5_s ho, ↓f6_g ho, ↓f6_s ho, f7_o ho, ↓f7_0 ho, ↓f7_1 ho, ↓f7_1p ho, ↓f7_2 ho, ↓f7_2p ho, ↓f8_g ho, f41_o ho, ↓f41_0 ho, ↓f41_1 ho, ↓f41_2 ho, ↓f41_3 ho, ↓f41_3p ho, ↓f42_g ho, ↓f42_s ho, ↓f43_g ho, ↓f43_s ho, ↓f44_g ho, ↓f44_s ho, ↓aft_of (eh), ok, cl, v4, v5, v6, ↓aft_of (f1), ↓aft_of (f2), ↓aft_of (f3), ↓aft_of (f4)]
    by_cases c5 : w = 5
    · subst c5
      simp +decide only [x107_0, x107_1, x107_4, x107_7, x107_8, x107_11, x107_14, x107_15, x107_16, x107_17, x107_60, x107_61, x107_64, x107_67, x107_70, x107_71, x107_72, x107_73, x107_74, x107_77, x107_80, x107_81, x107_84, x107_85, x107_86, x107_89, x107_92, x107_95, x107_96, x107_97, x107_98, x107_99, x107_102, x107_105, x107_108, x107_109, x107_110, x107_111, x107_112, x107_115, x107_118, x107_119, x107_122, x107_123, x107_124, x107_127, x107_130, x107_131, x107_134, x107_135, x107_136, x107_139, x107_140, x107_143, x107_146, x107_149, x107_150, x107_151, x107_154, x107_155, x107_157, aft_some, aft_void, Option.bind_some, Option.toList_some, Option.toList_none, List.cons_append, List.nil_append, if_true, if_false, ↓reduceIte, eq_self, z0_o, ↓z0_0, ↓z0_1, ↓z0_2, ↓z0_3, ↓z0_4, ↓z0_5, ↓z0_5p0, ↓z0_5p1, ↓z0n h1, f0_o ho, ↓f0_0 ho, ↓f0_0p ho, ↓f0_1 ho, ↓f0_1p ho, ↓f0_2 ho, ↓f0_2p ho, ↓f0_3 ho, ↓f0_3p ho, ↓f0_4 ho, ↓f0_5 ho, ↓f0_6 ho, ↓f0_7 ho, ↓f0_8 ho, ↓f0_9 ho, ↓f0_10 ho, ↓f0_11 ho, ↓f1_g ho, ↓f1_s ho, ↓f2_g ho, ↓f2_s ho, f3_o ho, ↓f3_0 ho, ↓f3_0p ho, ↓f3_1 ho, ↓f3_2 ho, ↓f3_3 ho, ↓f4_g ho, ↓f4_s ho, ↓f5_g ho, ↓f5_s ho, ↓f6_g ho, ↓f6_s ho, f7_o ho, ↓f7_0 ho, ↓f7_1 ho, ↓f7_1p ho, ↓f7_2 ho, ↓f7_2p ho, ↓f8_g ho, f41_o ho, ↓f41_0 ho, ↓f41_1 ho, ↓f41_2 ho, ↓f41_3 ho, ↓f41_3p ho, ↓f42_g ho, ↓f42_s ho, ↓f43_g ho, ↓f43_s ho, ↓f44_g ho, ↓f44_s ho, ↓aft_of (eh), ok, cl, v4, v5, v6, ↓aft_of (f1), ↓aft_of (f2), ↓aft_of (f3), ↓aft_of (f4)]
    by_cases c6 : w = 6
    · subst c6
      simp +decide only [x107_0, x107_1, x107_4, x107_7, x107_8, x107_11, x107_14, x107_15, x107_16, x107_17, x107_60, x107_61, x107_64, x107_67, x107_70, x107_71, x107_72, x107_73, x107_74, x107_77, x107_80, x107_81, x107_84, x107_85, x107_86, x107_89, x107_92, x107_95, x107_96, x107_97, x107_98, x107_99, x107_102, x107_105, x107_108, x107_109, x107_110, x107_111, x107_112, x107_115, x107_118, x107_119, x107_122, x107_123, x107_124, x107_127, x107_130, x107_131, x107_134, x107_135, x107_136, x107_139, x107_140, x107_143, x107_146, x107_149, x107_150, x107_151, x107_154, x107_155, x107_157, aft_some, aft_void, Option.bind_some, Option.toList_some, Option.toList_none, List.cons_append, List.nil_append, if_true, if_false, ↓reduceIte, eq_self, z0_o, ↓z0_0, ↓z0_1, ↓z0_2, ↓z0_3, ↓z0_4, ↓z0_5, ↓z0_5p0, ↓z0_5p1, ↓z0n h1, f0_o ho, ↓f0_0 ho, ↓f0_0p ho, ↓f0_1 ho, ↓f0_1p ho, ↓f0_2 ho, ↓f0_2p ho, ↓f0_3 ho, ↓f0_3p ho, ↓f0_4 ho, ↓f0_5 ho, ↓f0_6 ho, ↓f0_7 ho, ↓f0_8 ho, ↓f0_9 ho, ↓f0_10 ho, ↓f0_11 ho, ↓f1_g ho, ↓f1_s ho, ↓f2_g ho, ↓f2_s ho, f3_o ho, ↓f3_0 ho, ↓f3_0p ho, ↓f3_1 ho, ↓f3_2 ho, ↓f3_3 ho, ↓f4_g ho, ↓f4_s ho, ↓f5_g ho, ↓f5_s ho, ↓f6_g ho, ↓f6_s ho, f7_o ho, ↓f7_0 ho, ↓f7_1 ho, ↓f7_1p ho, ↓f7_2 ho, ↓f7_2p ho, ↓f8_g ho, f41_o ho, ↓f41_0 ho, ↓f41_1 ho, ↓f41_2 ho, ↓f41_3 ho, ↓f41_3p ho, ↓f42_g ho, ↓f42_s ho, ↓f43_g ho, ↓f43_s ho, ↓f44_g ho, ↓f44_s ho, ↓aft_of (eh), ok, cl, v4, v5, v6, ↓aft_of (f1), ↓aft_of (f2), ↓aft_of (f3), ↓aft_of (f4), ed, nI_clamp (show d < 2 ^ 31 by omega)]
    simp +decide only [x107_0, x107_1, x107_4, x107_7, x107_8, x107_11, x107_14, x107_15, x107_16, x107_17, x107_60, x107_61, x107_64, x107_67, x107_70, x107_71, x107_72, x107_73, x107_74, x107_77, x107_80, x107_81, x107_84, x107_85, x107_86, x107_89, x107_92, x107_95, x107_96, x107_97, x107_98, x107_99, x107_102, x107_105, x107_108, x107_109, x107_110, x107_111, x107_112, x107_115, x107_118, x107_119, x107_122, x107_123, x107_124, x107_127, x107_130, x107_131, x107_134, x107_135, x107_136, x107_139, x107_140, x107_143, x107_146, x107_149, x107_150, x107_151, x107_154, x107_155, x107_157, aft_some, aft_void, Option.bind_some, Option.toList_some, Option.toList_none, List.cons_append, List.nil_append, if_true, if_false, ↓reduceIte, eq_self, z0_o, ↓z0_0, ↓z0_1, ↓z0_2, ↓z0_3, ↓z0_4, ↓z0_5, ↓z0_5p0, ↓z0_5p1, ↓z0n h1, f0_o ho, ↓f0_0 ho, ↓f0_0p ho, ↓f0_1 ho, ↓f0_1p ho, ↓f0_2 ho, ↓f0_2p ho, ↓f0_3 ho, ↓f0_3p ho, ↓f0_4 ho, ↓f0_5 ho, ↓f0_6 ho, ↓f0_7 ho, ↓f0_8 ho, ↓f0_9 ho, ↓f0_10 ho, ↓f0_11 ho, ↓f1_g ho, ↓f1_s ho, ↓f2_g ho, ↓f2_s ho, f3_o ho, ↓f3_0 ho, ↓f3_0p ho, ↓f3_1 ho, ↓f3_2 ho, ↓f3_3 ho, ↓f4_g ho, ↓f4_s ho, ↓f5_g ho, ↓f5_s ho, ↓f6_g ho, ↓f6_s ho, ↓aft_of (eh), c0, c1, c2, c3, c4, c5, c6]
  · rw [if_neg ch] at eh ⊢
    simp +decide only [x107_0, x107_1, x107_4, x107_7, x107_8, x107_11, x107_14, x107_15, x107_16, x107_17, x107_60, x107_61, x107_64, x107_67, x107_70, x107_71, x107_72, x107_73, x107_74, x107_77, x107_80, x107_81, x107_84, x107_85, x107_86, x107_89, x107_92, x107_95, x107_96, x107_97, x107_98, x107_99, x107_102, x107_105, x107_108, x107_109, x107_110, x107_111, x107_112, x107_115, x107_118, x107_119, x107_122, x107_123, x107_124, x107_127, x107_130, x107_131, x107_134, x107_135, x107_136, x107_139, x107_140, x107_143, x107_146, x107_149, x107_150, x107_151, x107_154, x107_155, x107_157, aft_some, aft_void, Option.bind_some, Option.toList_some, Option.toList_none, List.cons_append, List.nil_append, if_true, if_false, ↓reduceIte, eq_self, z0_o, ↓z0_0, ↓z0_1, ↓z0_2, ↓z0_3, ↓z0_4, ↓z0_5, ↓z0_5p0, ↓z0_5p1, ↓z0n h1, f0_o ho, ↓f0_0 ho, ↓f0_0p ho, ↓f0_1 ho, ↓f0_1p ho, ↓f0_2 ho, ↓f0_2p ho, ↓f0_3 ho, ↓f0_3p ho, ↓f0_4 ho, ↓f0_5 ho, ↓f0_6 ho, ↓f0_7 ho, ↓f0_8 ho, ↓f0_9 ho, ↓f0_10 ho, ↓f0_11 ho, ↓f1_g ho, ↓f1_s ho, ↓f2_g ho, ↓f2_s ho, f3_o ho, ↓f3_0 ho, ↓f3_0p ho, ↓f3_1 ho, ↓f3_2 ho, ↓f3_3 ho, ↓f4_g ho, ↓f4_s ho, ↓f5_g ho, ↓f5_s ho, ↓f6_g ho, ↓f6_s ho, ↓aft_of (eh)]
theorem rdK_01 (b : kT) : (if rdK b = 0 then (0 : Int32) else 1) = rdK b := by
  unfold rdK
  repeat' split
  all_goals first | rfl | contradiction
theorem g_basOf (h1 : o = 1) (h : CG EE T P s) (x w : Int32) : X 108 0 [.ref 0, .int x, .int w, .long 0] [] (H T P) = some (some (.int (gBasOf x w s)), H T P) := by
  have ho : isB o := by subst h1; exact isB_1
  have hc : CSu o T P s.1 := by subst h1; exact h.2.1.1
  have hw := h.2.1.2.1
  have h8 := hw.1.2.2.2.1
  unfold gBasOf
  rcases s_wn (x := x) ho hc h8 with ⟨i, e, hi, ei, ew⟩ | ⟨e, ew⟩
  · rw [e]
    have hk := hc.pk.k ho (show i < 8 by omega)
    have hb := hc.at hi
    have d1 := c_asDigits (T := T) (P := P) (sh_k hk).2.1
    have d2 := c_asDigits (T := T) (P := P) (sh_k hk).2.2.1
    have d3 := c_asDigits (T := T) (P := P) (sh_k hk).2.2.2
    have d4 := c_isReady (T := T) (P := P) hk
    have d5 := c_price (T := T) (P := P) hk
    have d6 := c_openMinutes (T := T) (P := P) hk
    rw [hb.dg3.2.2] at d1
    rw [hb.dg3.2.1] at d2
    rw [hb.dg3.1] at d3
    rw [hb.rd] at d4
    rw [hb.pr] at d5
    rw [hb.om] at d6
    have r1 := hb.1 1 (by decide)
    have r2 := hb.1 2 (by decide)
    have r3 := hb.1 3 (by decide)
    have r4 := hb.1 4 (by decide)
    have rd := rdK_01 (gK s.1.2 i)
    show X 108 0 [.ref 0, .int x, .int w, .long 0] [] (H T P) = some (some (.int (tbK (gK s.1.2 i) w)), H T P)
    unfold tbK
    by_cases c0 : w = 0
    · subst c0
      simp +decide only [x108_0, x108_1, x108_4, x108_7, x108_8, x108_11, x108_11N, x108_12, x108_12N, x108_13, x108_13N, x108_16, x108_17, x108_18, x108_19, x108_72, x108_72N, x108_73, x108_76, x108_77, x108_77N, x108_78, x108_81, x108_82, x108_82N, x108_83, x108_86, x108_87, x108_87N, x108_88, x108_91, x108_94, x108_95, x108_95N, x108_96, x108_99, x108_102, x108_103, x108_103N, x108_104, x108_107, x108_110, x108_111, x108_111N, x108_112, x108_115, x108_118, x108_119, x108_122, x108_123, x108_124, x108_124N, x108_125, x108_128, x108_129, x108_129N, x108_130, x108_133, x108_134, x108_134N, x108_135, x108_138, x108_139, x108_141, aft_some, aft_void, Option.bind_some, Option.toList_some, Option.toList_none, List.cons_append, List.nil_append, if_true, if_false, ↓reduceIte, eq_self, z0_o, ↓z0_0, ↓z0_1, ↓z0_2, ↓z0_3, ↓z0_4, ↓z0_5, ↓z0_5p0, ↓z0_5p1, ↓z0n h1, f0_o ho, ↓f0_0 ho, ↓f0_0p ho, ↓f0_1 ho, ↓f0_1p ho, ↓f0_2 ho, ↓f0_2p ho, ↓f0_3 ho, ↓f0_3p ho, ↓f0_4 ho, ↓f0_5 ho, ↓f0_6 ho, ↓f0_7 ho, ↓f0_8 ho, ↓f0_9 ho, ↓f0_10 ho, ↓f0_11 ho, ↓f1_g ho, ↓f1_s ho, ↓f2_g ho, ↓f2_s ho, f7_o ho, ↓f7_0 ho, ↓f7_1 ho, ↓f7_1p ho, ↓f7_2 ho, ↓f7_2p ho, ↓f8_g ho, fK_o hk, ↓fK_0 hk, ↓fK_0p hk, ↓fK_1 hk, ↓fK_1p hk, ↓fK_2 hk, ↓fK_2p hk, ↓fK_3 hk, ↓fK_3p hk, ↓fK_4 hk, ↓fK_4p hk, ↓fK_5 hk, ↓fK_6 hk, ↓fK_7 hk, ↓fK1_g hk, ↓fK1_s hk, ↓fK2_g hk, ↓fK2_s hk, ↓fK3_g hk, ↓fK3_s hk, fK_o hk, ↓aft_of (ew), ↓aft_of (d1), ↓aft_of (d2), ↓aft_of (d3), ↓aft_of (d5), ↓aft_of (d6), r1, r2, r3, r4]
    by_cases c1 : w = 1
    · subst c1
      simp +decide only [x108_0, x108_1, x108_4, x108_7, x108_8, x108_11, x108_11N, x108_12, x108_12N, x108_13, x108_13N, x108_16, x108_17, x108_18, x108_19, x108_72, x108_72N, x108_73, x108_76, x108_77, x108_77N, x108_78, x108_81, x108_82, x108_82N, x108_83, x108_86, x108_87, x108_87N, x108_88, x108_91, x108_94, x108_95, x108_95N, x108_96, x108_99, x108_102, x108_103, x108_103N, x108_104, x108_107, x108_110, x108_111, x108_111N, x108_112, x108_115, x108_118, x108_119, x108_122, x108_123, x108_124, x108_124N, x108_125, x108_128, x108_129, x108_129N, x108_130, x108_133, x108_134, x108_134N, x108_135, x108_138, x108_139, x108_141, aft_some, aft_void, Option.bind_some, Option.toList_some, Option.toList_none, List.cons_append, List.nil_append, if_true, if_false, ↓reduceIte, eq_self, z0_o, ↓z0_0, ↓z0_1, ↓z0_2, ↓z0_3, ↓z0_4, ↓z0_5, ↓z0_5p0, ↓z0_5p1, ↓z0n h1, f0_o ho, ↓f0_0 ho, ↓f0_0p ho, ↓f0_1 ho, ↓f0_1p ho, ↓f0_2 ho, ↓f0_2p ho, ↓f0_3 ho, ↓f0_3p ho, ↓f0_4 ho, ↓f0_5 ho, ↓f0_6 ho, ↓f0_7 ho, ↓f0_8 ho, ↓f0_9 ho, ↓f0_10 ho, ↓f0_11 ho, ↓f1_g ho, ↓f1_s ho, ↓f2_g ho, ↓f2_s ho, f7_o ho, ↓f7_0 ho, ↓f7_1 ho, ↓f7_1p ho, ↓f7_2 ho, ↓f7_2p ho, ↓f8_g ho, fK_o hk, ↓fK_0 hk, ↓fK_0p hk, ↓fK_1 hk, ↓fK_1p hk, ↓fK_2 hk, ↓fK_2p hk, ↓fK_3 hk, ↓fK_3p hk, ↓fK_4 hk, ↓fK_4p hk, ↓fK_5 hk, ↓fK_6 hk, ↓fK_7 hk, ↓fK1_g hk, ↓fK1_s hk, ↓fK2_g hk, ↓fK2_s hk, ↓fK3_g hk, ↓fK3_s hk, fK_o hk, ↓aft_of (ew), ↓aft_of (d1), ↓aft_of (d2), ↓aft_of (d3), ↓aft_of (d5), ↓aft_of (d6), r1, r2, r3, r4]
    by_cases c2 : w = 2
    · subst c2
      simp +decide only [x108_0, x108_1, x108_4, x108_7, x108_8, x108_11, x108_11N, x108_12, x108_12N, x108_13, x108_13N, x108_16, x108_17, x108_18, x108_19, x108_72, x108_72N, x108_73, x108_76, x108_77, x108_77N, x108_78, x108_81, x108_82, x108_82N, x108_83, x108_86, x108_87, x108_87N, x108_88, x108_91, x108_94, x108_95, x108_95N, x108_96, x108_99, x108_102, x108_103, x108_103N, x108_104, x108_107, x108_110, x108_111, x108_111N, x108_112, x108_115, x108_118, x108_119, x108_122, x108_123, x108_124, x108_124N, x108_125, x108_128, x108_129, x108_129N, x108_130, x108_133, x108_134, x108_134N, x108_135, x108_138, x108_139, x108_141, aft_some, aft_void, Option.bind_some, Option.toList_some, Option.toList_none, List.cons_append, List.nil_append, if_true, if_false, ↓reduceIte, eq_self, z0_o, ↓z0_0, ↓z0_1, ↓z0_2, ↓z0_3, ↓z0_4, ↓z0_5, ↓z0_5p0, ↓z0_5p1, ↓z0n h1, f0_o ho, ↓f0_0 ho, ↓f0_0p ho, ↓f0_1 ho, ↓f0_1p ho, ↓f0_2 ho, ↓f0_2p ho, ↓f0_3 ho, ↓f0_3p ho, ↓f0_4 ho, ↓f0_5 ho, ↓f0_6 ho, ↓f0_7 ho, ↓f0_8 ho, ↓f0_9 ho, ↓f0_10 ho, ↓f0_11 ho, ↓f1_g ho, ↓f1_s ho, ↓f2_g ho, ↓f2_s ho, f7_o ho, ↓f7_0 ho, ↓f7_1 ho, ↓f7_1p ho, ↓f7_2 ho, ↓f7_2p ho, ↓f8_g ho, fK_o hk, ↓fK_0 hk, ↓fK_0p hk, ↓fK_1 hk, ↓fK_1p hk, ↓fK_2 hk, ↓fK_2p hk, ↓fK_3 hk, ↓fK_3p hk, ↓fK_4 hk, ↓fK_4p hk, ↓fK_5 hk, ↓fK_6 hk, ↓fK_7 hk, ↓fK1_g hk, ↓fK1_s hk, ↓fK2_g hk, ↓fK2_s hk, ↓fK3_g hk, ↓fK3_s hk, fK_o hk, ↓aft_of (ew), ↓aft_of (d1), ↓aft_of (d2), ↓aft_of (d3), ↓aft_of (d5), ↓aft_of (d6), r1, r2, r3, r4]
    by_cases c3 : w = 3
    · subst c3
      simp +decide only [x108_0, x108_1, x108_4, x108_7, x108_8, x108_11, x108_11N, x108_12, x108_12N, x108_13, x108_13N, x108_16, x108_17, x108_18, x108_19, x108_72, x108_72N, x108_73, x108_76, x108_77, x108_77N, x108_78, x108_81, x108_82, x108_82N, x108_83, x108_86, x108_87, x108_87N, x108_88, x108_91, x108_94, x108_95, x108_95N, x108_96, x108_99, x108_102, x108_103, x108_103N, x108_104, x108_107, x108_110, x108_111, x108_111N, x108_112, x108_115, x108_118, x108_119, x108_122, x108_123, x108_124, x108_124N, x108_125, x108_128, x108_129, x108_129N, x108_130, x108_133, x108_134, x108_134N, x108_135, x108_138, x108_139, x108_141, aft_some, aft_void, Option.bind_some, Option.toList_some, Option.toList_none, List.cons_append, List.nil_append, if_true, if_false, ↓reduceIte, eq_self, z0_o, ↓z0_0, ↓z0_1, ↓z0_2, ↓z0_3, ↓z0_4, ↓z0_5, ↓z0_5p0, ↓z0_5p1, ↓z0n h1, f0_o ho, ↓f0_0 ho, ↓f0_0p ho, ↓f0_1 ho, ↓f0_1p ho, ↓f0_2 ho, ↓f0_2p ho, ↓f0_3 ho, ↓f0_3p ho, ↓f0_4 ho, ↓f0_5 ho, ↓f0_6 ho, ↓f0_7 ho, ↓f0_8 ho, ↓f0_9 ho, ↓f0_10 ho, ↓f0_11 ho, ↓f1_g ho, ↓f1_s ho, ↓f2_g ho, ↓f2_s ho, f7_o ho, ↓f7_0 ho, ↓f7_1 ho, ↓f7_1p ho, ↓f7_2 ho, ↓f7_2p ho, ↓f8_g ho, fK_o hk, ↓fK_0 hk, ↓fK_0p hk, ↓fK_1 hk, ↓fK_1p hk, ↓fK_2 hk, ↓fK_2p hk, ↓fK_3 hk, ↓fK_3p hk, ↓fK_4 hk, ↓fK_4p hk, ↓fK_5 hk, ↓fK_6 hk, ↓fK_7 hk, ↓fK1_g hk, ↓fK1_s hk, ↓fK2_g hk, ↓fK2_s hk, ↓fK3_g hk, ↓fK3_s hk, fK_o hk, ↓aft_of (ew), ↓aft_of (d1), ↓aft_of (d2), ↓aft_of (d3), ↓aft_of (d5), ↓aft_of (d6), r1, r2, r3, r4]
    by_cases c4 : w = 4
    · subst c4
      simp +decide only [x108_0, x108_1, x108_4, x108_7, x108_8, x108_11, x108_11N, x108_12, x108_12N, x108_13, x108_13N, x108_16, x108_17, x108_18, x108_19, x108_72, x108_72N, x108_73, x108_76, x108_77, x108_77N, x108_78, x108_81, x108_82, x108_82N, x108_83, x108_86, x108_87, x108_87N, x108_88, x108_91, x108_94, x108_95, x108_95N, x108_96, x108_99, x108_102, x108_103, x108_103N, x108_104, x108_107, x108_110, x108_111, x108_111N, x108_112, x108_115, x108_118, x108_119, x108_122, x108_123, x108_124, x108_124N, x108_125, x108_128, x108_129, x108_129N, x108_130, x108_133, x108_134, x108_134N, x108_135, x108_138, x108_139, x108_141, aft_some, aft_void, Option.bind_some, Option.toList_some, Option.toList_none, List.cons_append, List.nil_append, if_true, if_false, ↓reduceIte, eq_self, z0_o, ↓z0_0, ↓z0_1, ↓z0_2, ↓z0_3, ↓z0_4, ↓z0_5, ↓z0_5p0, ↓z0_5p1, ↓z0n h1, f0_o ho, ↓f0_0 ho, ↓f0_0p ho, ↓f0_1 ho, ↓f0_1p ho, ↓f0_2 ho, ↓f0_2p ho, ↓f0_3 ho, ↓f0_3p ho, ↓f0_4 ho, ↓f0_5 ho, ↓f0_6 ho, ↓f0_7 ho, ↓f0_8 ho, ↓f0_9 ho, ↓f0_10 ho, ↓f0_11 ho, ↓f1_g ho, ↓f1_s ho, ↓f2_g ho, ↓f2_s ho, f7_o ho, ↓f7_0 ho, ↓f7_1 ho, ↓f7_1p ho, ↓f7_2 ho, ↓f7_2p ho, ↓f8_g ho, fK_o hk, ↓fK_0 hk, ↓fK_0p hk, ↓fK_1 hk, ↓fK_1p hk, ↓fK_2 hk, ↓fK_2p hk, ↓fK_3 hk, ↓fK_3p hk, ↓fK_4 hk, ↓fK_4p hk, ↓fK_5 hk, ↓fK_6 hk, ↓fK_7 hk, ↓fK1_g hk, ↓fK1_s hk, ↓fK2_g hk, ↓fK2_s hk, ↓fK3_g hk, ↓fK3_s hk, fK_o hk, ↓aft_of (ew), ↓aft_of (d1), ↓aft_of (d2), ↓aft_of (d3), ↓aft_of (d5), ↓aft_of (d6), r1, r2, r3, r4]
    by_cases c5 : w = 5
    · subst c5
      simp +decide only [x108_0, x108_1, x108_4, x108_7, x108_8, x108_11, x108_11N, x108_12, x108_12N, x108_13, x108_13N, x108_16, x108_17, x108_18, x108_19, x108_72, x108_72N, x108_73, x108_76, x108_77, x108_77N, x108_78, x108_81, x108_82, x108_82N, x108_83, x108_86, x108_87, x108_87N, x108_88, x108_91, x108_94, x108_95, x108_95N, x108_96, x108_99, x108_102, x108_103, x108_103N, x108_104, x108_107, x108_110, x108_111, x108_111N, x108_112, x108_115, x108_118, x108_119, x108_122, x108_123, x108_124, x108_124N, x108_125, x108_128, x108_129, x108_129N, x108_130, x108_133, x108_134, x108_134N, x108_135, x108_138, x108_139, x108_141, aft_some, aft_void, Option.bind_some, Option.toList_some, Option.toList_none, List.cons_append, List.nil_append, if_true, if_false, ↓reduceIte, eq_self, z0_o, ↓z0_0, ↓z0_1, ↓z0_2, ↓z0_3, ↓z0_4, ↓z0_5, ↓z0_5p0, ↓z0_5p1, ↓z0n h1, f0_o ho, ↓f0_0 ho, ↓f0_0p ho, ↓f0_1 ho, ↓f0_1p ho, ↓f0_2 ho, ↓f0_2p ho, ↓f0_3 ho, ↓f0_3p ho, ↓f0_4 ho, ↓f0_5 ho, ↓f0_6 ho, ↓f0_7 ho, ↓f0_8 ho, ↓f0_9 ho, ↓f0_10 ho, ↓f0_11 ho, ↓f1_g ho, ↓f1_s ho, ↓f2_g ho, ↓f2_s ho, f7_o ho, ↓f7_0 ho, ↓f7_1 ho, ↓f7_1p ho, ↓f7_2 ho, ↓f7_2p ho, ↓f8_g ho, fK_o hk, ↓fK_0 hk, ↓fK_0p hk, ↓fK_1 hk, ↓fK_1p hk, ↓fK_2 hk, ↓fK_2p hk, ↓fK_3 hk, ↓fK_3p hk, ↓fK_4 hk, ↓fK_4p hk, ↓fK_5 hk, ↓fK_6 hk, ↓fK_7 hk, ↓fK1_g hk, ↓fK1_s hk, ↓fK2_g hk, ↓fK2_s hk, ↓fK3_g hk, ↓fK3_s hk, fK_o hk, ↓aft_of (ew), ↓aft_of (d1), ↓aft_of (d2), ↓aft_of (d3), ↓aft_of (d5), ↓aft_of (d6), r1, r2, r3, r4]
    by_cases c6 : w = 6
    · subst c6
      by_cases z : rdK (gK s.1.2 i) = 0
      · simp +decide only [x108_0, x108_1, x108_4, x108_7, x108_8, x108_11, x108_11N, x108_12, x108_12N, x108_13, x108_13N, x108_16, x108_17, x108_18, x108_19, x108_72, x108_72N, x108_73, x108_76, x108_77, x108_77N, x108_78, x108_81, x108_82, x108_82N, x108_83, x108_86, x108_87, x108_87N, x108_88, x108_91, x108_94, x108_95, x108_95N, x108_96, x108_99, x108_102, x108_103, x108_103N, x108_104, x108_107, x108_110, x108_111, x108_111N, x108_112, x108_115, x108_118, x108_119, x108_122, x108_123, x108_124, x108_124N, x108_125, x108_128, x108_129, x108_129N, x108_130, x108_133, x108_134, x108_134N, x108_135, x108_138, x108_139, x108_141, aft_some, aft_void, Option.bind_some, Option.toList_some, Option.toList_none, List.cons_append, List.nil_append, if_true, if_false, ↓reduceIte, eq_self, z0_o, ↓z0_0, ↓z0_1, ↓z0_2, ↓z0_3, ↓z0_4, ↓z0_5, ↓z0_5p0, ↓z0_5p1, ↓z0n h1, f0_o ho, ↓f0_0 ho, ↓f0_0p ho, ↓f0_1 ho, ↓f0_1p ho, ↓f0_2 ho, ↓f0_2p ho, ↓f0_3 ho, ↓f0_3p ho, ↓f0_4 ho, ↓f0_5 ho, ↓f0_6 ho, ↓f0_7 ho, ↓f0_8 ho, ↓f0_9 ho, ↓f0_10 ho, ↓f0_11 ho, ↓f1_g ho, ↓f1_s ho, ↓f2_g ho, ↓f2_s ho, f7_o ho, ↓f7_0 ho, ↓f7_1 ho, ↓f7_1p ho, ↓f7_2 ho, ↓f7_2p ho, ↓f8_g ho, fK_o hk, ↓fK_0 hk, ↓fK_0p hk, ↓fK_1 hk, ↓fK_1p hk, ↓fK_2 hk, ↓fK_2p hk, ↓fK_3 hk, ↓fK_3p hk, ↓fK_4 hk, ↓fK_4p hk, ↓fK_5 hk, ↓fK_6 hk, ↓fK_7 hk, ↓fK1_g hk, ↓fK1_s hk, ↓fK2_g hk, ↓fK2_s hk, ↓fK3_g hk, ↓fK3_s hk, fK_o hk, ↓aft_of (ew), ↓aft_of (d4), z]
      · rw [if_neg z] at rd
        simp +decide only [x108_0, x108_1, x108_4, x108_7, x108_8, x108_11, x108_11N, x108_12, x108_12N, x108_13, x108_13N, x108_16, x108_17, x108_18, x108_19, x108_72, x108_72N, x108_73, x108_76, x108_77, x108_77N, x108_78, x108_81, x108_82, x108_82N, x108_83, x108_86, x108_87, x108_87N, x108_88, x108_91, x108_94, x108_95, x108_95N, x108_96, x108_99, x108_102, x108_103, x108_103N, x108_104, x108_107, x108_110, x108_111, x108_111N, x108_112, x108_115, x108_118, x108_119, x108_122, x108_123, x108_124, x108_124N, x108_125, x108_128, x108_129, x108_129N, x108_130, x108_133, x108_134, x108_134N, x108_135, x108_138, x108_139, x108_141, aft_some, aft_void, Option.bind_some, Option.toList_some, Option.toList_none, List.cons_append, List.nil_append, if_true, if_false, ↓reduceIte, eq_self, z0_o, ↓z0_0, ↓z0_1, ↓z0_2, ↓z0_3, ↓z0_4, ↓z0_5, ↓z0_5p0, ↓z0_5p1, ↓z0n h1, f0_o ho, ↓f0_0 ho, ↓f0_0p ho, ↓f0_1 ho, ↓f0_1p ho, ↓f0_2 ho, ↓f0_2p ho, ↓f0_3 ho, ↓f0_3p ho, ↓f0_4 ho, ↓f0_5 ho, ↓f0_6 ho, ↓f0_7 ho, ↓f0_8 ho, ↓f0_9 ho, ↓f0_10 ho, ↓f0_11 ho, ↓f1_g ho, ↓f1_s ho, ↓f2_g ho, ↓f2_s ho, f7_o ho, ↓f7_0 ho, ↓f7_1 ho, ↓f7_1p ho, ↓f7_2 ho, ↓f7_2p ho, ↓f8_g ho, fK_o hk, ↓fK_0 hk, ↓fK_0p hk, ↓fK_1 hk, ↓fK_1p hk, ↓fK_2 hk, ↓fK_2p hk, ↓fK_3 hk, ↓fK_3p hk, ↓fK_4 hk, ↓fK_4p hk, ↓fK_5 hk, ↓fK_6 hk, ↓fK_7 hk, ↓fK1_g hk, ↓fK1_s hk, ↓fK2_g hk, ↓fK2_s hk, ↓fK3_g hk, ↓fK3_s hk, fK_o hk, ↓aft_of (ew), ↓aft_of (d4), z, rd]
    by_cases c7 : w = 7
    · subst c7
      simp +decide only [x108_0, x108_1, x108_4, x108_7, x108_8, x108_11, x108_11N, x108_12, x108_12N, x108_13, x108_13N, x108_16, x108_17, x108_18, x108_19, x108_72, x108_72N, x108_73, x108_76, x108_77, x108_77N, x108_78, x108_81, x108_82, x108_82N, x108_83, x108_86, x108_87, x108_87N, x108_88, x108_91, x108_94, x108_95, x108_95N, x108_96, x108_99, x108_102, x108_103, x108_103N, x108_104, x108_107, x108_110, x108_111, x108_111N, x108_112, x108_115, x108_118, x108_119, x108_122, x108_123, x108_124, x108_124N, x108_125, x108_128, x108_129, x108_129N, x108_130, x108_133, x108_134, x108_134N, x108_135, x108_138, x108_139, x108_141, aft_some, aft_void, Option.bind_some, Option.toList_some, Option.toList_none, List.cons_append, List.nil_append, if_true, if_false, ↓reduceIte, eq_self, z0_o, ↓z0_0, ↓z0_1, ↓z0_2, ↓z0_3, ↓z0_4, ↓z0_5, ↓z0_5p0, ↓z0_5p1, ↓z0n h1, f0_o ho, ↓f0_0 ho, ↓f0_0p ho, ↓f0_1 ho, ↓f0_1p ho, ↓f0_2 ho, ↓f0_2p ho, ↓f0_3 ho, ↓f0_3p ho, ↓f0_4 ho, ↓f0_5 ho, ↓f0_6 ho, ↓f0_7 ho, ↓f0_8 ho, ↓f0_9 ho, ↓f0_10 ho, ↓f0_11 ho, ↓f1_g ho, ↓f1_s ho, ↓f2_g ho, ↓f2_s ho, f7_o ho, ↓f7_0 ho, ↓f7_1 ho, ↓f7_1p ho, ↓f7_2 ho, ↓f7_2p ho, ↓f8_g ho, fK_o hk, ↓fK_0 hk, ↓fK_0p hk, ↓fK_1 hk, ↓fK_1p hk, ↓fK_2 hk, ↓fK_2p hk, ↓fK_3 hk, ↓fK_3p hk, ↓fK_4 hk, ↓fK_4p hk, ↓fK_5 hk, ↓fK_6 hk, ↓fK_7 hk, ↓fK1_g hk, ↓fK1_s hk, ↓fK2_g hk, ↓fK2_s hk, ↓fK3_g hk, ↓fK3_s hk, fK_o hk, ↓aft_of (ew), ↓aft_of (d1), ↓aft_of (d2), ↓aft_of (d3), ↓aft_of (d5), ↓aft_of (d6), r1, r2, r3, r4]
    by_cases c8 : w = 8
    · subst c8
      simp +decide only [x108_0, x108_1, x108_4, x108_7, x108_8, x108_11, x108_11N, x108_12, x108_12N, x108_13, x108_13N, x108_16, x108_17, x108_18, x108_19, x108_72, x108_72N, x108_73, x108_76, x108_77, x108_77N, x108_78, x108_81, x108_82, x108_82N, x108_83, x108_86, x108_87, x108_87N, x108_88, x108_91, x108_94, x108_95, x108_95N, x108_96, x108_99, x108_102, x108_103, x108_103N, x108_104, x108_107, x108_110, x108_111, x108_111N, x108_112, x108_115, x108_118, x108_119, x108_122, x108_123, x108_124, x108_124N, x108_125, x108_128, x108_129, x108_129N, x108_130, x108_133, x108_134, x108_134N, x108_135, x108_138, x108_139, x108_141, aft_some, aft_void, Option.bind_some, Option.toList_some, Option.toList_none, List.cons_append, List.nil_append, if_true, if_false, ↓reduceIte, eq_self, z0_o, ↓z0_0, ↓z0_1, ↓z0_2, ↓z0_3, ↓z0_4, ↓z0_5, ↓z0_5p0, ↓z0_5p1, ↓z0n h1, f0_o ho, ↓f0_0 ho, ↓f0_0p ho, ↓f0_1 ho, ↓f0_1p ho, ↓f0_2 ho, ↓f0_2p ho, ↓f0_3 ho, ↓f0_3p ho, ↓f0_4 ho, ↓f0_5 ho, ↓f0_6 ho, ↓f0_7 ho, ↓f0_8 ho, ↓f0_9 ho, ↓f0_10 ho, ↓f0_11 ho, ↓f1_g ho, ↓f1_s ho, ↓f2_g ho, ↓f2_s ho, f7_o ho, ↓f7_0 ho, ↓f7_1 ho, ↓f7_1p ho, ↓f7_2 ho, ↓f7_2p ho, ↓f8_g ho, fK_o hk, ↓fK_0 hk, ↓fK_0p hk, ↓fK_1 hk, ↓fK_1p hk, ↓fK_2 hk, ↓fK_2p hk, ↓fK_3 hk, ↓fK_3p hk, ↓fK_4 hk, ↓fK_4p hk, ↓fK_5 hk, ↓fK_6 hk, ↓fK_7 hk, ↓fK1_g hk, ↓fK1_s hk, ↓fK2_g hk, ↓fK2_s hk, ↓fK3_g hk, ↓fK3_s hk, fK_o hk, ↓aft_of (ew), ↓aft_of (d1), ↓aft_of (d2), ↓aft_of (d3), ↓aft_of (d5), ↓aft_of (d6), r1, r2, r3, r4]
    by_cases c9 : w = 9
    · subst c9
      simp +decide only [x108_0, x108_1, x108_4, x108_7, x108_8, x108_11, x108_11N, x108_12, x108_12N, x108_13, x108_13N, x108_16, x108_17, x108_18, x108_19, x108_72, x108_72N, x108_73, x108_76, x108_77, x108_77N, x108_78, x108_81, x108_82, x108_82N, x108_83, x108_86, x108_87, x108_87N, x108_88, x108_91, x108_94, x108_95, x108_95N, x108_96, x108_99, x108_102, x108_103, x108_103N, x108_104, x108_107, x108_110, x108_111, x108_111N, x108_112, x108_115, x108_118, x108_119, x108_122, x108_123, x108_124, x108_124N, x108_125, x108_128, x108_129, x108_129N, x108_130, x108_133, x108_134, x108_134N, x108_135, x108_138, x108_139, x108_141, aft_some, aft_void, Option.bind_some, Option.toList_some, Option.toList_none, List.cons_append, List.nil_append, if_true, if_false, ↓reduceIte, eq_self, z0_o, ↓z0_0, ↓z0_1, ↓z0_2, ↓z0_3, ↓z0_4, ↓z0_5, ↓z0_5p0, ↓z0_5p1, ↓z0n h1, f0_o ho, ↓f0_0 ho, ↓f0_0p ho, ↓f0_1 ho, ↓f0_1p ho, ↓f0_2 ho, ↓f0_2p ho, ↓f0_3 ho, ↓f0_3p ho, ↓f0_4 ho, ↓f0_5 ho, ↓f0_6 ho, ↓f0_7 ho, ↓f0_8 ho, ↓f0_9 ho, ↓f0_10 ho, ↓f0_11 ho, ↓f1_g ho, ↓f1_s ho, ↓f2_g ho, ↓f2_s ho, f7_o ho, ↓f7_0 ho, ↓f7_1 ho, ↓f7_1p ho, ↓f7_2 ho, ↓f7_2p ho, ↓f8_g ho, fK_o hk, ↓fK_0 hk, ↓fK_0p hk, ↓fK_1 hk, ↓fK_1p hk, ↓fK_2 hk, ↓fK_2p hk, ↓fK_3 hk, ↓fK_3p hk, ↓fK_4 hk, ↓fK_4p hk, ↓fK_5 hk, ↓fK_6 hk, ↓fK_7 hk, ↓fK1_g hk, ↓fK1_s hk, ↓fK2_g hk, ↓fK2_s hk, ↓fK3_g hk, ↓fK3_s hk, fK_o hk, ↓aft_of (ew), ↓aft_of (d1), ↓aft_of (d2), ↓aft_of (d3), ↓aft_of (d5), ↓aft_of (d6), r1, r2, r3, r4]
    simp +decide only [x108_0, x108_1, x108_4, x108_7, x108_8, x108_11, x108_11N, x108_12, x108_12N, x108_13, x108_13N, x108_16, x108_17, x108_18, x108_19, x108_72, x108_72N, x108_73, x108_76, x108_77, x108_77N, x108_78, x108_81, x108_82, x108_82N, x108_83, x108_86, x108_87, x108_87N, x108_88, x108_91, x108_94, x108_95, x108_95N, x108_96, x108_99, x108_102, x108_103, x108_103N, x108_104, x108_107, x108_110, x108_111, x108_111N, x108_112, x108_115, x108_118, x108_119, x108_122, x108_123, x108_124, x108_124N, x108_125, x108_128, x108_129, x108_129N, x108_130, x108_133, x108_134, x108_134N, x108_135, x108_138, x108_139, x108_141, aft_some, aft_void, Option.bind_some, Option.toList_some, Option.toList_none, List.cons_append, List.nil_append, if_true, if_false, ↓reduceIte, eq_self, z0_o, ↓z0_0, ↓z0_1, ↓z0_2, ↓z0_3, ↓z0_4, ↓z0_5, ↓z0_5p0, ↓z0_5p1, ↓z0n h1, f0_o ho, ↓f0_0 ho, ↓f0_0p ho, ↓f0_1 ho, ↓f0_1p ho, ↓f0_2 ho, ↓f0_2p ho, ↓f0_3 ho, ↓f0_3p ho, ↓f0_4 ho, ↓f0_5 ho, ↓f0_6 ho, ↓f0_7 ho, ↓f0_8 ho, ↓f0_9 ho, ↓f0_10 ho, ↓f0_11 ho, ↓f1_g ho, ↓f1_s ho, ↓f2_g ho, ↓f2_s ho, f7_o ho, ↓f7_0 ho, ↓f7_1 ho, ↓f7_1p ho, ↓f7_2 ho, ↓f7_2p ho, ↓f8_g ho, ↓aft_of (ew), c0, c1, c2, c3, c4, c5, c6, c7, c8, c9]
  · rw [e]
    simp +decide only [x108_0, x108_1, x108_4, x108_7, x108_8, x108_11, x108_11N, x108_12, x108_12N, x108_13, x108_13N, x108_16, x108_17, x108_18, x108_19, x108_72, x108_72N, x108_73, x108_76, x108_77, x108_77N, x108_78, x108_81, x108_82, x108_82N, x108_83, x108_86, x108_87, x108_87N, x108_88, x108_91, x108_94, x108_95, x108_95N, x108_96, x108_99, x108_102, x108_103, x108_103N, x108_104, x108_107, x108_110, x108_111, x108_111N, x108_112, x108_115, x108_118, x108_119, x108_122, x108_123, x108_124, x108_124N, x108_125, x108_128, x108_129, x108_129N, x108_130, x108_133, x108_134, x108_134N, x108_135, x108_138, x108_139, x108_141, aft_some, aft_void, Option.bind_some, Option.toList_some, Option.toList_none, List.cons_append, List.nil_append, if_true, if_false, ↓reduceIte, eq_self, z0_o, ↓z0_0, ↓z0_1, ↓z0_2, ↓z0_3, ↓z0_4, ↓z0_5, ↓z0_5p0, ↓z0_5p1, ↓z0n h1, f0_o ho, ↓f0_0 ho, ↓f0_0p ho, ↓f0_1 ho, ↓f0_1p ho, ↓f0_2 ho, ↓f0_2p ho, ↓f0_3 ho, ↓f0_3p ho, ↓f0_4 ho, ↓f0_5 ho, ↓f0_6 ho, ↓f0_7 ho, ↓f0_8 ho, ↓f0_9 ho, ↓f0_10 ho, ↓f0_11 ho, ↓f1_g ho, ↓f1_s ho, ↓f2_g ho, ↓f2_s ho, f7_o ho, ↓f7_0 ho, ↓f7_1 ho, ↓f7_1p ho, ↓f7_2 ho, ↓f7_2p ho, ↓f8_g ho, ↓aft_of (ew)]
end TM
end
section
/-! told of lost pieces; what would be, by an order -/
noncomputable def msN (k : Nat) (d : Int32) (K : List kT) : Int32 := smI (fun i => msK k d (gK K i)) K.length
noncomputable def msL (k : Nat) (d : Int32) (K : List kT) : Int32 := match fstN (fun i => msK k d (gK K i) = 1) 0 K.length with
  | some i => gK K i 0 0
  | none => -5
noncomputable def gLost (p w : Int32) (s : gT) : Int32 := @ite _ (hsI (s.1.1.1 3) p) (Classical.propDecidable _) (if w = 0 then s.1.1.2.1 46 p.toNatClampNeg else if w = 1 then s.1.1.2.1 47 p.toNatClampNeg else if w = 2 then msN (s.1.1.2.1 46 p.toNatClampNeg).toNatClampNeg (s.1.1.2.1 47 p.toNatClampNeg) s.1.2 else if w = 3 then msL (s.1.1.2.1 46 p.toNatClampNeg).toNatClampNeg (s.1.1.2.1 47 p.toNatClampNeg) s.1.2 else -2) (-1)
noncomputable def gSure (s : gT) : Int32 := smI (fun p => if msN (s.1.1.2.1 46 p).toNatClampNeg (s.1.1.2.1 47 p) s.1.2 = 1 then 1 else 0) (s.1.1.1 3)
abbrev ordU (u : uT) (r : Int32) : uT := uV u (up1 u.1.2.1 1 0 r)
noncomputable abbrev tuU (u : uT) (r m : Int32) : uT := irU (ordU u r) m
noncomputable abbrev tuN (u : uT) (r m : Int32) : Int32 := nI (irS u.1.1 288 (up1 u.1.2.1 1 0 r) u.2 m).1
noncomputable def gIf (r m w : Int32) (s : gT) : Int32 := if inI r 0 2 = 0 then -2 else if inI m 1 600 = 0 then -2 else if inI w 0 2 = 0 then -2 else if w = 0 then tuN s.1 r m else if w = 1 then smI (fun i => rdK (gK (tuU s.1 r m).2 i)) (tuU s.1 r m).2.length else (tuU s.1 r m).1.2.1 48 1 - s.1.1.2.1 48 1
section TN
variable {T U EE : Nat → Nat → Int32} {P Q : Nat → Nat → Nat} {o q : Nat} {s : gT} {u : uT} {N : Nat → Nat} {V W : Nat → Nat → Int32} {K : List kT} {B : List bT} {R : Nat → Nat → Int32} {x : Int32}
theorem s_missing (ho : isB o) (h : CS o T P N V K B R) (h8 : K.length ≤ 8) {k : Nat} (hk : k < 4) {d : Int32} : X 68 0 [.ref (o + 7), .int (nI k), .int d, .long 0, .long 0] [] (H T P) = some (some (.int (msN k d K)), H T P) := by
  rw [c_numberMissing ho h.pk h.n h8 hk d]
  unfold msN
  rw [smI_congr (fun i hi => (h.at hi).ms hk)]
theorem s_lowest (ho : isB o) (h : CS o T P N V K B R) (h8 : K.length ≤ 8) {k : Nat} (hk : k < 4) {d : Int32} : X 69 0 [.ref (o + 7), .int (nI k), .int d, .long 0] [] (H T P) = some (some (.int (msL k d K)), H T P) := by
  have e := c_lowestMissing (T := T) (P := P) ho h.pk h.n h8 hk d
  have e2 : fstN (fun i => msI T k d (P (o + 8) i) = 1) 0 K.length = fstN (fun i => msK k d (gK K i) = 1) 0 K.length := fstN_congr (fun i _ hi => by rw [(h.at (by omega)).ms hk])
  rw [e2] at e
  unfold msL
  cases hw : fstN (fun i => msK k d (gK K i) = 1) 0 K.length with
  | none => rw [hw] at e; exact e
  | some i =>
    rw [hw] at e
    have hi := fstN_some hw
    have e : X 69 0 [.ref (o + 7), .int (nI k), .int d, .long 0] [] (H T P) = some (some (.int (T (P (o + 8) i) 0)), H T P) := e
    rw [show T (P (o + 8) i) 0 = gK K i 0 0 from (h.at (by omega)).1 0 (by decide)] at e
    exact e
theorem c_lhasN (ho : isB o) {n : Nat} {c : Int32} (hn : T (o + 45) 2 = nI n) : X 57 0 [.ref (o + 45), .int c] [] (H T P) = some (some (.int (@ite _ (hsI n c) (Classical.propDecidable _) 1 0)), H T P) := by
  rw [c_lhas ho, hn]
  unfold hsI
  by_cases h1 : c < 0
  · rw [if_pos h1, if_neg (fun z => z.1 h1)]
  · rw [if_neg h1]
    by_cases h2 : c < nI n
    · rw [if_pos h2, if_pos ⟨h1, h2⟩]
    · rw [if_neg h2, if_neg (fun z => h2 z.2)]
theorem g_lost (h1 : o = 1) (h : CG EE T P s) (p w : Int32) : X 109 0 [.ref 0, .int p, .int w, .long 0, .long 0] [] (H T P) = some (some (.int (gLost p w s)), H T P) := by
  have ho : isB o := by subst h1; exact isB_1
  have hc : CSu o T P s.1 := by subst h1; exact h.2.1.1
  have hw := h.2.1.2.1
  have h8 := hw.1.2.2.2.1
  have hN3 := hw.1.2.2.2.2.1
  have eh := c_lhasN (P := P) (c := p) ho hc.2.2.2.2.1.1
  unfold gLost
  by_cases ch : hsI (s.1.1.1 3) p
  · rw [if_pos ch] at eh ⊢
    obtain ⟨j, hj, rfl⟩ := nI_ex ch.1 (by omega) ch.2
    have cl := nI_clamp (show j < 2 ^ 31 by omega)
    have ok := okx_nI (show j < 20 by omega) (show (20 : Nat) < 2 ^ 31 by decide)
    obtain ⟨k, hk, ek⟩ := hw.2.2.2.2.2.2.1 j hj
    have hr := hc.2.2.2.2.1.2.2 j hj
    have clk := nI_clamp (show k < 2 ^ 31 by omega)
    rw [cl, ek, clk]
    rw [ek] at hr
    have f1 := s_missing (d := s.1.1.2.1 47 j) ho hc h8 hk
    have f2 := s_lowest (d := s.1.1.2.1 47 j) ho hc h8 hk
    by_cases c0 : w = 0
    · subst c0
      simp +decide only [x109_0, x109_1, x109_4, x109_7, x109_8, x109_11, x109_14, x109_15, x109_16, x109_17, x109_20, x109_23, x109_26, x109_27, x109_28, x109_29, x109_30, x109_33, x109_36, x109_39, x109_40, x109_41, x109_43, x109_44, x109_76, x109_77, x109_78, x109_80, x109_81, x109_82, x109_85, x109_88, x109_89, x109_91, x109_94, x109_95, x109_96, x109_99, x109_102, x109_103, x109_105, x109_108, x109_109, x109_111, aft_some, aft_void, Option.bind_some, Option.toList_some, Option.toList_none, List.cons_append, List.nil_append, if_true, if_false, ↓reduceIte, eq_self, z0_o, ↓z0_0, ↓z0_1, ↓z0_2, ↓z0_3, ↓z0_4, ↓z0_5, ↓z0_5p0, ↓z0_5p1, ↓z0n h1, f0_o ho, ↓f0_0 ho, ↓f0_0p ho, ↓f0_1 ho, ↓f0_1p ho, ↓f0_2 ho, ↓f0_2p ho, ↓f0_3 ho, ↓f0_3p ho, ↓f0_4 ho, ↓f0_5 ho, ↓f0_6 ho, ↓f0_7 ho, ↓f0_8 ho, ↓f0_9 ho, ↓f0_10 ho, ↓f0_11 ho, ↓f1_g ho, ↓f1_s ho, ↓f2_g ho, ↓f2_s ho, f45_o ho, ↓f45_0 ho, ↓f45_1 ho, ↓f45_2 ho, ↓f45_2p ho, ↓f46_g ho, ↓f46_s ho, ↓f47_g ho, ↓f47_s ho, f7_o ho, ↓f7_0 ho, ↓f7_1 ho, ↓f7_1p ho, ↓f7_2 ho, ↓f7_2p ho, ↓f8_g ho, ↓aft_of (eh), ok, cl, hr.1, hr.2]
    by_cases c1 : w = 1
    · subst c1
      simp +decide only [x109_0, x109_1, x109_4, x109_7, x109_8, x109_11, x109_14, x109_15, x109_16, x109_17, x109_20, x109_23, x109_26, x109_27, x109_28, x109_29, x109_30, x109_33, x109_36, x109_39, x109_40, x109_41, x109_43, x109_44, x109_76, x109_77, x109_78, x109_80, x109_81, x109_82, x109_85, x109_88, x109_89, x109_91, x109_94, x109_95, x109_96, x109_99, x109_102, x109_103, x109_105, x109_108, x109_109, x109_111, aft_some, aft_void, Option.bind_some, Option.toList_some, Option.toList_none, List.cons_append, List.nil_append, if_true, if_false, ↓reduceIte, eq_self, z0_o, ↓z0_0, ↓z0_1, ↓z0_2, ↓z0_3, ↓z0_4, ↓z0_5, ↓z0_5p0, ↓z0_5p1, ↓z0n h1, f0_o ho, ↓f0_0 ho, ↓f0_0p ho, ↓f0_1 ho, ↓f0_1p ho, ↓f0_2 ho, ↓f0_2p ho, ↓f0_3 ho, ↓f0_3p ho, ↓f0_4 ho, ↓f0_5 ho, ↓f0_6 ho, ↓f0_7 ho, ↓f0_8 ho, ↓f0_9 ho, ↓f0_10 ho, ↓f0_11 ho, ↓f1_g ho, ↓f1_s ho, ↓f2_g ho, ↓f2_s ho, f45_o ho, ↓f45_0 ho, ↓f45_1 ho, ↓f45_2 ho, ↓f45_2p ho, ↓f46_g ho, ↓f46_s ho, ↓f47_g ho, ↓f47_s ho, f7_o ho, ↓f7_0 ho, ↓f7_1 ho, ↓f7_1p ho, ↓f7_2 ho, ↓f7_2p ho, ↓f8_g ho, ↓aft_of (eh), ok, cl, hr.1, hr.2]
    by_cases c2 : w = 2
    · subst c2
      simp +decide only [x109_0, x109_1, x109_4, x109_7, x109_8, x109_11, x109_14, x109_15, x109_16, x109_17, x109_20, x109_23, x109_26, x109_27, x109_28, x109_29, x109_30, x109_33, x109_36, x109_39, x109_40, x109_41, x109_43, x109_44, x109_76, x109_77, x109_78, x109_80, x109_81, x109_82, x109_85, x109_88, x109_89, x109_91, x109_94, x109_95, x109_96, x109_99, x109_102, x109_103, x109_105, x109_108, x109_109, x109_111, aft_some, aft_void, Option.bind_some, Option.toList_some, Option.toList_none, List.cons_append, List.nil_append, if_true, if_false, ↓reduceIte, eq_self, z0_o, ↓z0_0, ↓z0_1, ↓z0_2, ↓z0_3, ↓z0_4, ↓z0_5, ↓z0_5p0, ↓z0_5p1, ↓z0n h1, f0_o ho, ↓f0_0 ho, ↓f0_0p ho, ↓f0_1 ho, ↓f0_1p ho, ↓f0_2 ho, ↓f0_2p ho, ↓f0_3 ho, ↓f0_3p ho, ↓f0_4 ho, ↓f0_5 ho, ↓f0_6 ho, ↓f0_7 ho, ↓f0_8 ho, ↓f0_9 ho, ↓f0_10 ho, ↓f0_11 ho, ↓f1_g ho, ↓f1_s ho, ↓f2_g ho, ↓f2_s ho, f45_o ho, ↓f45_0 ho, ↓f45_1 ho, ↓f45_2 ho, ↓f45_2p ho, ↓f46_g ho, ↓f46_s ho, ↓f47_g ho, ↓f47_s ho, f7_o ho, ↓f7_0 ho, ↓f7_1 ho, ↓f7_1p ho, ↓f7_2 ho, ↓f7_2p ho, ↓f8_g ho, ↓aft_of (eh), ok, cl, hr.1, hr.2, ↓aft_of (f1)]
    by_cases c3 : w = 3
    · subst c3
      simp +decide only [x109_0, x109_1, x109_4, x109_7, x109_8, x109_11, x109_14, x109_15, x109_16, x109_17, x109_20, x109_23, x109_26, x109_27, x109_28, x109_29, x109_30, x109_33, x109_36, x109_39, x109_40, x109_41, x109_43, x109_44, x109_76, x109_77, x109_78, x109_80, x109_81, x109_82, x109_85, x109_88, x109_89, x109_91, x109_94, x109_95, x109_96, x109_99, x109_102, x109_103, x109_105, x109_108, x109_109, x109_111, aft_some, aft_void, Option.bind_some, Option.toList_some, Option.toList_none, List.cons_append, List.nil_append, if_true, if_false, ↓reduceIte, eq_self, z0_o, ↓z0_0, ↓z0_1, ↓z0_2, ↓z0_3, ↓z0_4, ↓z0_5, ↓z0_5p0, ↓z0_5p1, ↓z0n h1, f0_o ho, ↓f0_0 ho, ↓f0_0p ho, ↓f0_1 ho, ↓f0_1p ho, ↓f0_2 ho, ↓f0_2p ho, ↓f0_3 ho, ↓f0_3p ho, ↓f0_4 ho, ↓f0_5 ho, ↓f0_6 ho, ↓f0_7 ho, ↓f0_8 ho, ↓f0_9 ho, ↓f0_10 ho, ↓f0_11 ho, ↓f1_g ho, ↓f1_s ho, ↓f2_g ho, ↓f2_s ho, f45_o ho, ↓f45_0 ho, ↓f45_1 ho, ↓f45_2 ho, ↓f45_2p ho, ↓f46_g ho, ↓f46_s ho, ↓f47_g ho, ↓f47_s ho, f7_o ho, ↓f7_0 ho, ↓f7_1 ho, ↓f7_1p ho, ↓f7_2 ho, ↓f7_2p ho, ↓f8_g ho, ↓aft_of (eh), ok, cl, hr.1, hr.2, ↓aft_of (f2)]
    simp +decide only [x109_0, x109_1, x109_4, x109_7, x109_8, x109_11, x109_14, x109_15, x109_16, x109_17, x109_20, x109_23, x109_26, x109_27, x109_28, x109_29, x109_30, x109_33, x109_36, x109_39, x109_40, x109_41, x109_43, x109_44, x109_76, x109_77, x109_78, x109_80, x109_81, x109_82, x109_85, x109_88, x109_89, x109_91, x109_94, x109_95, x109_96, x109_99, x109_102, x109_103, x109_105, x109_108, x109_109, x109_111, aft_some, aft_void, Option.bind_some, Option.toList_some, Option.toList_none, List.cons_append, List.nil_append, if_true, if_false, ↓reduceIte, eq_self, z0_o, ↓z0_0, ↓z0_1, ↓z0_2, ↓z0_3, ↓z0_4, ↓z0_5, ↓z0_5p0, ↓z0_5p1, ↓z0n h1, f0_o ho, ↓f0_0 ho, ↓f0_0p ho, ↓f0_1 ho, ↓f0_1p ho, ↓f0_2 ho, ↓f0_2p ho, ↓f0_3 ho, ↓f0_3p ho, ↓f0_4 ho, ↓f0_5 ho, ↓f0_6 ho, ↓f0_7 ho, ↓f0_8 ho, ↓f0_9 ho, ↓f0_10 ho, ↓f0_11 ho, ↓f1_g ho, ↓f1_s ho, ↓f2_g ho, ↓f2_s ho, f45_o ho, ↓f45_0 ho, ↓f45_1 ho, ↓f45_2 ho, ↓f45_2p ho, ↓f46_g ho, ↓f46_s ho, ↓f47_g ho, ↓f47_s ho, f7_o ho, ↓f7_0 ho, ↓f7_1 ho, ↓f7_1p ho, ↓f7_2 ho, ↓f7_2p ho, ↓f8_g ho, ↓aft_of (eh), ok, cl, hr.1, hr.2, c0, c1, c2, c3]
  · rw [if_neg ch] at eh ⊢
    simp +decide only [x109_0, x109_1, x109_4, x109_7, x109_8, x109_11, x109_14, x109_15, x109_16, x109_17, x109_20, x109_23, x109_26, x109_27, x109_28, x109_29, x109_30, x109_33, x109_36, x109_39, x109_40, x109_41, x109_43, x109_44, x109_76, x109_77, x109_78, x109_80, x109_81, x109_82, x109_85, x109_88, x109_89, x109_91, x109_94, x109_95, x109_96, x109_99, x109_102, x109_103, x109_105, x109_108, x109_109, x109_111, aft_some, aft_void, Option.bind_some, Option.toList_some, Option.toList_none, List.cons_append, List.nil_append, if_true, if_false, ↓reduceIte, eq_self, z0_o, ↓z0_0, ↓z0_1, ↓z0_2, ↓z0_3, ↓z0_4, ↓z0_5, ↓z0_5p0, ↓z0_5p1, ↓z0n h1, f0_o ho, ↓f0_0 ho, ↓f0_0p ho, ↓f0_1 ho, ↓f0_1p ho, ↓f0_2 ho, ↓f0_2p ho, ↓f0_3 ho, ↓f0_3p ho, ↓f0_4 ho, ↓f0_5 ho, ↓f0_6 ho, ↓f0_7 ho, ↓f0_8 ho, ↓f0_9 ho, ↓f0_10 ho, ↓f0_11 ho, ↓f1_g ho, ↓f1_s ho, ↓f2_g ho, ↓f2_s ho, f45_o ho, ↓f45_0 ho, ↓f45_1 ho, ↓f45_2 ho, ↓f45_2p ho, ↓f46_g ho, ↓f46_s ho, ↓f47_g ho, ↓f47_s ho, ↓aft_of (eh)]
theorem g_sure (h1 : o = 1) (h : CG EE T P s) : X 118 0 [.ref 0, .long 0, .long 0] [] (H T P) = some (some (.int (gSure s)), H T P) := by
  have ho : isB o := by subst h1; exact isB_1
  have hc : CSu o T P s.1 := by subst h1; exact h.2.1.1
  have hw := h.2.1.2.1
  have h8 := hw.1.2.2.2.1
  have hN3 := hw.1.2.2.2.2.1
  have hn := hc.2.2.2.2.1.1
  have hstep : ∀ i, i < s.1.1.1 3 → X 118 4 [.ref 0, .int (smI (fun p => if msN (s.1.1.2.1 46 p).toNatClampNeg (s.1.1.2.1 47 p) s.1.2 = 1 then 1 else 0) i), .int (nI i)] [] (H T P) = X 118 4 [.ref 0, .int (smI (fun p => if msN (s.1.1.2.1 46 p).toNatClampNeg (s.1.1.2.1 47 p) s.1.2 = 1 then 1 else 0) (i + 1)), .int (nI (i + 1))] [] (H T P) := by
    intro i hi
    have hlt : nI i < nI (s.1.1.1 3) := nI_lt hi (by omega)
    have cl := nI_clamp (show i < 2 ^ 31 by omega)
    have ok := okx_nI (show i < 20 by omega) (show (20 : Nat) < 2 ^ 31 by decide)
    obtain ⟨k, hk, ek⟩ := hw.2.2.2.2.2.2.1 i hi
    have hr := hc.2.2.2.2.1.2.2 i hi
    have clk := nI_clamp (show k < 2 ^ 31 by omega)
    rw [ek] at hr
    have f1 := s_missing (d := s.1.1.2.1 47 i) ho hc h8 hk
    simp only [smI]
    rw [ek, clk, x118_4]
    by_cases cm : msN k (s.1.1.2.1 47 i) s.1.2 = 1
    · simp +decide only [x118_0, x118_1, x118_2, x118_3, x118_5, x118_6, x118_9, x118_12, x118_15, x118_18, x118_19, x118_22, x118_25, x118_26, x118_29, x118_32, x118_35, x118_36, x118_37, x118_38, x118_41, x118_44, x118_47, x118_48, x118_49, x118_52, x118_53, x118_56, x118_59, x118_62, x118_65, x118_66, aft_some, aft_void, Option.bind_some, Option.toList_some, Option.toList_none, List.cons_append, List.nil_append, if_true, if_false, ↓reduceIte, eq_self, z0_o, ↓z0_0, ↓z0_1, ↓z0_2, ↓z0_3, ↓z0_4, ↓z0_5, ↓z0_5p0, ↓z0_5p1, ↓z0n h1, f0_o ho, ↓f0_0 ho, ↓f0_0p ho, ↓f0_1 ho, ↓f0_1p ho, ↓f0_2 ho, ↓f0_2p ho, ↓f0_3 ho, ↓f0_3p ho, ↓f0_4 ho, ↓f0_5 ho, ↓f0_6 ho, ↓f0_7 ho, ↓f0_8 ho, ↓f0_9 ho, ↓f0_10 ho, ↓f0_11 ho, ↓f1_g ho, ↓f1_s ho, ↓f2_g ho, ↓f2_s ho, f45_o ho, ↓f45_0 ho, ↓f45_1 ho, ↓f45_2 ho, ↓f45_2p ho, ↓f46_g ho, ↓f46_s ho, ↓f47_g ho, ↓f47_s ho, f7_o ho, ↓f7_0 ho, ↓f7_1 ho, ↓f7_1p ho, ↓f7_2 ho, ↓f7_2p ho, ↓f8_g ho, hn, hlt, ok, cl, hr.1, hr.2, ↓aft_of (f1), cm, nI_1]
    · simp +decide only [x118_0, x118_1, x118_2, x118_3, x118_5, x118_6, x118_9, x118_12, x118_15, x118_18, x118_19, x118_22, x118_25, x118_26, x118_29, x118_32, x118_35, x118_36, x118_37, x118_38, x118_41, x118_44, x118_47, x118_48, x118_49, x118_52, x118_53, x118_56, x118_59, x118_62, x118_65, x118_66, aft_some, aft_void, Option.bind_some, Option.toList_some, Option.toList_none, List.cons_append, List.nil_append, if_true, if_false, ↓reduceIte, eq_self, z0_o, ↓z0_0, ↓z0_1, ↓z0_2, ↓z0_3, ↓z0_4, ↓z0_5, ↓z0_5p0, ↓z0_5p1, ↓z0n h1, f0_o ho, ↓f0_0 ho, ↓f0_0p ho, ↓f0_1 ho, ↓f0_1p ho, ↓f0_2 ho, ↓f0_2p ho, ↓f0_3 ho, ↓f0_3p ho, ↓f0_4 ho, ↓f0_5 ho, ↓f0_6 ho, ↓f0_7 ho, ↓f0_8 ho, ↓f0_9 ho, ↓f0_10 ho, ↓f0_11 ho, ↓f1_g ho, ↓f1_s ho, ↓f2_g ho, ↓f2_s ho, f45_o ho, ↓f45_0 ho, ↓f45_1 ho, ↓f45_2 ho, ↓f45_2p ho, ↓f46_g ho, ↓f46_s ho, ↓f47_g ho, ↓f47_s ho, f7_o ho, ↓f7_0 ho, ↓f7_1 ho, ↓f7_1p ho, ↓f7_2 ho, ↓f7_2p ho, ↓f8_g ho, hn, hlt, ok, cl, hr.1, hr.2, ↓aft_of (f1), cm, nI_1, Int32.add_zero]
  simp +decide only [x118_0, x118_1, x118_2, x118_3, x118_5, x118_6, x118_9, x118_12, x118_15, x118_18, x118_19, x118_22, x118_25, x118_26, x118_29, x118_32, x118_35, x118_36, x118_37, x118_38, x118_41, x118_44, x118_47, x118_48, x118_49, x118_52, x118_53, x118_56, x118_59, x118_62, x118_65, x118_66, aft_some, aft_void, Option.bind_some, Option.toList_some, Option.toList_none, List.cons_append, List.nil_append, if_true, if_false, ↓reduceIte, eq_self, z0_o, ↓z0_0, ↓z0_1, ↓z0_2, ↓z0_3, ↓z0_4, ↓z0_5, ↓z0_5p0, ↓z0_5p1]
  rw [show X 118 4 [.ref 0, .int 0, .int 0] [] (H T P) = _ from loop_up (fun i => X 118 4 [.ref 0, .int (smI (fun p => if msN (s.1.1.2.1 46 p).toNatClampNeg (s.1.1.2.1 47 p) s.1.2 = 1 then 1 else 0) i), .int (nI i)] [] (H T P)) (s.1.1.1 3) hstep, x118_4]
  unfold gSure
  simp +decide only [x118_0, x118_1, x118_2, x118_3, x118_5, x118_6, x118_9, x118_12, x118_15, x118_18, x118_19, x118_22, x118_25, x118_26, x118_29, x118_32, x118_35, x118_36, x118_37, x118_38, x118_41, x118_44, x118_47, x118_48, x118_49, x118_52, x118_53, x118_56, x118_59, x118_62, x118_65, x118_66, aft_some, aft_void, Option.bind_some, Option.toList_some, Option.toList_none, List.cons_append, List.nil_append, if_true, if_false, ↓reduceIte, eq_self, z0_o, ↓z0_0, ↓z0_1, ↓z0_2, ↓z0_3, ↓z0_4, ↓z0_5, ↓z0_5p0, ↓z0_5p1, ↓z0n h1, f0_o ho, ↓f0_0 ho, ↓f0_0p ho, ↓f0_1 ho, ↓f0_1p ho, ↓f0_2 ho, ↓f0_2p ho, ↓f0_3 ho, ↓f0_3p ho, ↓f0_4 ho, ↓f0_5 ho, ↓f0_6 ho, ↓f0_7 ho, ↓f0_8 ho, ↓f0_9 ho, ↓f0_10 ho, ↓f0_11 ho, ↓f1_g ho, ↓f1_s ho, ↓f2_g ho, ↓f2_s ho, f45_o ho, ↓f45_0 ho, ↓f45_1 ho, ↓f45_2 ho, ↓f45_2p ho, ↓f46_g ho, ↓f46_s ho, ↓f47_g ho, ↓f47_s ho, hn, nI_nlt (Nat.le_refl (s.1.1.1 3)) (show s.1.1.1 3 < 2 ^ 31 by omega)]
theorem g_try (h1 : o = 1) (hq1 : q = 103) (h : CG EE T P s) {r m : Int32} (hr : ∃ k, k < 3 ∧ r = nI k) : ∃ T', X 119 0 [.ref 0, .int r, .int m] [] (H T P) = some (some (.int (tuN s.1 r m)), H T' P) ∧ CG EE T' P s ∧ CSu q T' P (tuU s.1 r m) ∧ (tuU s.1 r m).2.length ≤ 8 ∧ (∀ a, (a < q ∨ q + 51 ≤ a) → T' a = T a) := by
  have ho : isB o := by subst h1; exact isB_1
  have hq : isB q := by subst hq1; exact isB_103
  have hc : CSu o T P s.1 := by subst h1; exact h.2.1.1
  have hw := h.2.1.2.1
  have h8 := hw.1.2.2.2.1
  obtain ⟨k, hk, rfl⟩ := hr
  obtain ⟨T1, e1, f1, c1⟩ := c_stCopy (o := q) (q := o) hq ho (by omega) (h.1.1 _ hq) hc hw.1.2.1 h8
  have c2 := CS.set1 (r := 1) (j := 0) (v := nI k) c1 h8 (Or.inl rfl)
  have w2 : WF s.1.1.1 (up1 s.1.1.2.1 1 0 (nI k)) s.1.2 s.1.1.2.2.1 := by
    obtain ⟨-, g3, g4⟩ := hw.2.2.1
    refine hw.v ?_ ?_ ?_ ?_ ⟨⟨k, hk, ?_⟩, ?_, ?_⟩
    · simp +decide only [u_n]
    · simp +decide only [u_n]
    · simp +decide only [u_n]
    · simp +decide only [u_n]
    · simp +decide only [upA_s]
    · simp +decide only [upA_s, u_n]; exact g3
    · simp +decide only [upA_s, u_n]; exact g4
  obtain ⟨T3, e3, f3, c3, w3⟩ := c_ironFor (m0 := m) hq c2 w2
  have hf : ∀ a, (a < q ∨ q + 51 ≤ a) → T3 a = T a := fun a ha => by
    rw [f3 a ha]
    simp only [upA_n _ _ (show a ≠ q + 1 by omega)]
    exact f1 a ha
  refine ⟨T3, ?_, ?_, c3, w3.1.2.2.2.1, hf⟩
  · simp +decide only [x119_0, x119_1, x119_4, x119_5, x119_8, x119_11, x119_12, x119_15, x119_18, x119_19, x119_20, x119_21, x119_22, x119_25, x119_26, x119_29, aft_some, aft_void, Option.bind_some, Option.toList_some, Option.toList_none, List.cons_append, List.nil_append, if_true, if_false, ↓reduceIte, eq_self, z0_o, ↓z0_0, ↓z0_1, ↓z0_2, ↓z0_3, ↓z0_4, ↓z0_5, ↓z0_5p0, ↓z0_5p1, ↓z0n h1, ↓z0t hq1, f0_o ho, ↓f0_0 ho, ↓f0_0p ho, ↓f0_1 ho, ↓f0_1p ho, ↓f0_2 ho, ↓f0_2p ho, ↓f0_3 ho, ↓f0_3p ho, ↓f0_4 ho, ↓f0_5 ho, ↓f0_6 ho, ↓f0_7 ho, ↓f0_8 ho, ↓f0_9 ho, ↓f0_10 ho, ↓f0_11 ho, ↓f1_g ho, ↓f1_s ho, ↓f2_g ho, ↓f2_s ho, f0_o hq, ↓f0_0 hq, ↓f0_0p hq, ↓f0_1 hq, ↓f0_1p hq, ↓f0_2 hq, ↓f0_2p hq, ↓f0_3 hq, ↓f0_3p hq, ↓f0_4 hq, ↓f0_5 hq, ↓f0_6 hq, ↓f0_7 hq, ↓f0_8 hq, ↓f0_9 hq, ↓f0_10 hq, ↓f0_11 hq, ↓f1_g hq, ↓f1_s hq, ↓f2_g hq, ↓f2_s hq, cl0, ↓aft_of (e1), ↓aft_of (e3)]
  · subst hq1
    exact h.tri c3.pk (fun a ha => hf a (by omega)) (fun _ _ => rfl)
theorem g_if (h1 : o = 1) (hq1 : q = 103) (h : CG EE T P s) (r m w : Int32) : ∃ T', X 114 0 [.ref 0, .int r, .int m, .int w, .long 0] [] (H T P) = some (some (.int (gIf r m w s)), H T' P) ∧ CG EE T' P s := by
  have ho : isB o := by subst h1; exact isB_1
  have hq : isB q := by subst hq1; exact isB_103
  unfold gIf
  by_cases c1 : inI r 0 2 = 0
  · rw [if_pos c1]
    refine ⟨T, ?_, h⟩
    simp +decide only [x114_0, x114_1, x114_2, x114_3, x114_6, x114_9, x114_10, x114_11, x114_14, x114_17, x114_20, x114_21, x114_22, x114_23, x114_26, x114_29, x114_31, x114_32, x114_33, x114_34, x114_35, x114_38, x114_40, x114_41, x114_68, x114_70, x114_71, x114_72, x114_75, x114_78, x114_81, x114_82, x114_83, x114_86, x114_89, x114_92, x114_93, x114_96, x114_99, x114_102, x114_103, aft_some, aft_void, Option.bind_some, Option.toList_some, Option.toList_none, List.cons_append, List.nil_append, if_true, if_false, ↓reduceIte, eq_self, z0_o, ↓z0_0, ↓z0_1, ↓z0_2, ↓z0_3, ↓z0_4, ↓z0_5, ↓z0_5p0, ↓z0_5p1, ↓aft_of (c_within), c1]
  rw [if_neg c1]
  by_cases c2 : inI m 1 600 = 0
  · rw [if_pos c2]
    refine ⟨T, ?_, h⟩
    simp +decide only [x114_0, x114_1, x114_2, x114_3, x114_6, x114_9, x114_10, x114_11, x114_14, x114_17, x114_20, x114_21, x114_22, x114_23, x114_26, x114_29, x114_31, x114_32, x114_33, x114_34, x114_35, x114_38, x114_40, x114_41, x114_68, x114_70, x114_71, x114_72, x114_75, x114_78, x114_81, x114_82, x114_83, x114_86, x114_89, x114_92, x114_93, x114_96, x114_99, x114_102, x114_103, aft_some, aft_void, Option.bind_some, Option.toList_some, Option.toList_none, List.cons_append, List.nil_append, if_true, if_false, ↓reduceIte, eq_self, z0_o, ↓z0_0, ↓z0_1, ↓z0_2, ↓z0_3, ↓z0_4, ↓z0_5, ↓z0_5p0, ↓z0_5p1, ↓aft_of (c_within), c1, c2]
  rw [if_neg c2]
  by_cases c3 : inI w 0 2 = 0
  · rw [if_pos c3]
    refine ⟨T, ?_, h⟩
    simp +decide only [x114_0, x114_1, x114_2, x114_3, x114_6, x114_9, x114_10, x114_11, x114_14, x114_17, x114_20, x114_21, x114_22, x114_23, x114_26, x114_29, x114_31, x114_32, x114_33, x114_34, x114_35, x114_38, x114_40, x114_41, x114_68, x114_70, x114_71, x114_72, x114_75, x114_78, x114_81, x114_82, x114_83, x114_86, x114_89, x114_92, x114_93, x114_96, x114_99, x114_102, x114_103, aft_some, aft_void, Option.bind_some, Option.toList_some, Option.toList_none, List.cons_append, List.nil_append, if_true, if_false, ↓reduceIte, eq_self, z0_o, ↓z0_0, ↓z0_1, ↓z0_2, ↓z0_3, ↓z0_4, ↓z0_5, ↓z0_5p0, ↓z0_5p1, ↓aft_of (c_within), c1, c2, c3]
  rw [if_neg c3]
  obtain ⟨k, hk, ek⟩ := inI_ex (n := 2) (by decide) c1
  obtain ⟨T1, e1, g1, t1, hlen, f1⟩ := g_try (m := m) h1 hq1 h ⟨k, by omega, ek⟩
  have hc1 : CSu o T1 P s.1 := by subst h1; exact g1.2.1.1
  have e2 := s_ready hq t1 hlen
  have b1 : T1 (o + 48) 1 = s.1.1.2.1 48 1 := hc1.2.2.2.2.2.1 1 (by decide)
  have b2 : T1 (q + 48) 1 = (tuU s.1 r m).1.2.1 48 1 := t1.2.2.2.2.2.1 1 (by decide)
  refine ⟨T1, ?_, g1⟩
  by_cases w0 : w = 0
  · subst w0
    simp +decide only [x114_0, x114_1, x114_2, x114_3, x114_6, x114_9, x114_10, x114_11, x114_14, x114_17, x114_20, x114_21, x114_22, x114_23, x114_26, x114_29, x114_31, x114_32, x114_33, x114_34, x114_35, x114_38, x114_40, x114_41, x114_68, x114_70, x114_71, x114_72, x114_75, x114_78, x114_81, x114_82, x114_83, x114_86, x114_89, x114_92, x114_93, x114_96, x114_99, x114_102, x114_103, aft_some, aft_void, Option.bind_some, Option.toList_some, Option.toList_none, List.cons_append, List.nil_append, if_true, if_false, ↓reduceIte, eq_self, z0_o, ↓z0_0, ↓z0_1, ↓z0_2, ↓z0_3, ↓z0_4, ↓z0_5, ↓z0_5p0, ↓z0_5p1, ↓z0n h1, ↓z0t hq1, f0_o ho, ↓f0_0 ho, ↓f0_0p ho, ↓f0_1 ho, ↓f0_1p ho, ↓f0_2 ho, ↓f0_2p ho, ↓f0_3 ho, ↓f0_3p ho, ↓f0_4 ho, ↓f0_5 ho, ↓f0_6 ho, ↓f0_7 ho, ↓f0_8 ho, ↓f0_9 ho, ↓f0_10 ho, ↓f0_11 ho, ↓f1_g ho, ↓f1_s ho, ↓f2_g ho, ↓f2_s ho, f0_o hq, ↓f0_0 hq, ↓f0_0p hq, ↓f0_1 hq, ↓f0_1p hq, ↓f0_2 hq, ↓f0_2p hq, ↓f0_3 hq, ↓f0_3p hq, ↓f0_4 hq, ↓f0_5 hq, ↓f0_6 hq, ↓f0_7 hq, ↓f0_8 hq, ↓f0_9 hq, ↓f0_10 hq, ↓f0_11 hq, ↓f1_g hq, ↓f1_s hq, ↓f2_g hq, ↓f2_s hq, f7_o hq, ↓f7_0 hq, ↓f7_1 hq, ↓f7_1p hq, ↓f7_2 hq, ↓f7_2p hq, ↓f8_g hq, f48_o ho, ↓f48_0 ho, ↓f48_0p ho, ↓f48_1 ho, ↓f48_1p ho, ↓f48_2 ho, ↓f48_2p ho, ↓f48_3 ho, ↓f48_3p ho, f48_o hq, ↓f48_0 hq, ↓f48_0p hq, ↓f48_1 hq, ↓f48_1p hq, ↓f48_2 hq, ↓f48_2p hq, ↓f48_3 hq, ↓f48_3p hq, ↓aft_of (c_within), c1, c2, c3, ↓aft_of (e1)]
  by_cases w1 : w = 1
  · subst w1
    simp +decide only [x114_0, x114_1, x114_2, x114_3, x114_6, x114_9, x114_10, x114_11, x114_14, x114_17, x114_20, x114_21, x114_22, x114_23, x114_26, x114_29, x114_31, x114_32, x114_33, x114_34, x114_35, x114_38, x114_40, x114_41, x114_68, x114_70, x114_71, x114_72, x114_75, x114_78, x114_81, x114_82, x114_83, x114_86, x114_89, x114_92, x114_93, x114_96, x114_99, x114_102, x114_103, aft_some, aft_void, Option.bind_some, Option.toList_some, Option.toList_none, List.cons_append, List.nil_append, if_true, if_false, ↓reduceIte, eq_self, z0_o, ↓z0_0, ↓z0_1, ↓z0_2, ↓z0_3, ↓z0_4, ↓z0_5, ↓z0_5p0, ↓z0_5p1, ↓z0n h1, ↓z0t hq1, f0_o ho, ↓f0_0 ho, ↓f0_0p ho, ↓f0_1 ho, ↓f0_1p ho, ↓f0_2 ho, ↓f0_2p ho, ↓f0_3 ho, ↓f0_3p ho, ↓f0_4 ho, ↓f0_5 ho, ↓f0_6 ho, ↓f0_7 ho, ↓f0_8 ho, ↓f0_9 ho, ↓f0_10 ho, ↓f0_11 ho, ↓f1_g ho, ↓f1_s ho, ↓f2_g ho, ↓f2_s ho, f0_o hq, ↓f0_0 hq, ↓f0_0p hq, ↓f0_1 hq, ↓f0_1p hq, ↓f0_2 hq, ↓f0_2p hq, ↓f0_3 hq, ↓f0_3p hq, ↓f0_4 hq, ↓f0_5 hq, ↓f0_6 hq, ↓f0_7 hq, ↓f0_8 hq, ↓f0_9 hq, ↓f0_10 hq, ↓f0_11 hq, ↓f1_g hq, ↓f1_s hq, ↓f2_g hq, ↓f2_s hq, f7_o hq, ↓f7_0 hq, ↓f7_1 hq, ↓f7_1p hq, ↓f7_2 hq, ↓f7_2p hq, ↓f8_g hq, f48_o ho, ↓f48_0 ho, ↓f48_0p ho, ↓f48_1 ho, ↓f48_1p ho, ↓f48_2 ho, ↓f48_2p ho, ↓f48_3 ho, ↓f48_3p ho, f48_o hq, ↓f48_0 hq, ↓f48_0p hq, ↓f48_1 hq, ↓f48_1p hq, ↓f48_2 hq, ↓f48_2p hq, ↓f48_3 hq, ↓f48_3p hq, ↓aft_of (c_within), c1, c2, c3, ↓aft_of (e1), ↓aft_of (e2)]
  simp +decide only [x114_0, x114_1, x114_2, x114_3, x114_6, x114_9, x114_10, x114_11, x114_14, x114_17, x114_20, x114_21, x114_22, x114_23, x114_26, x114_29, x114_31, x114_32, x114_33, x114_34, x114_35, x114_38, x114_40, x114_41, x114_68, x114_70, x114_71, x114_72, x114_75, x114_78, x114_81, x114_82, x114_83, x114_86, x114_89, x114_92, x114_93, x114_96, x114_99, x114_102, x114_103, aft_some, aft_void, Option.bind_some, Option.toList_some, Option.toList_none, List.cons_append, List.nil_append, if_true, if_false, ↓reduceIte, eq_self, z0_o, ↓z0_0, ↓z0_1, ↓z0_2, ↓z0_3, ↓z0_4, ↓z0_5, ↓z0_5p0, ↓z0_5p1, ↓z0n h1, ↓z0t hq1, f0_o ho, ↓f0_0 ho, ↓f0_0p ho, ↓f0_1 ho, ↓f0_1p ho, ↓f0_2 ho, ↓f0_2p ho, ↓f0_3 ho, ↓f0_3p ho, ↓f0_4 ho, ↓f0_5 ho, ↓f0_6 ho, ↓f0_7 ho, ↓f0_8 ho, ↓f0_9 ho, ↓f0_10 ho, ↓f0_11 ho, ↓f1_g ho, ↓f1_s ho, ↓f2_g ho, ↓f2_s ho, f0_o hq, ↓f0_0 hq, ↓f0_0p hq, ↓f0_1 hq, ↓f0_1p hq, ↓f0_2 hq, ↓f0_2p hq, ↓f0_3 hq, ↓f0_3p hq, ↓f0_4 hq, ↓f0_5 hq, ↓f0_6 hq, ↓f0_7 hq, ↓f0_8 hq, ↓f0_9 hq, ↓f0_10 hq, ↓f0_11 hq, ↓f1_g hq, ↓f1_s hq, ↓f2_g hq, ↓f2_s hq, f7_o hq, ↓f7_0 hq, ↓f7_1 hq, ↓f7_1p hq, ↓f7_2 hq, ↓f7_2p hq, ↓f8_g hq, f48_o ho, ↓f48_0 ho, ↓f48_0p ho, ↓f48_1 ho, ↓f48_1p ho, ↓f48_2 ho, ↓f48_2p ho, ↓f48_3 ho, ↓f48_3p ho, f48_o hq, ↓f48_0 hq, ↓f48_0p hq, ↓f48_1 hq, ↓f48_1p hq, ↓f48_2 hq, ↓f48_2p hq, ↓f48_3 hq, ↓f48_3p hq, ↓aft_of (c_within), c1, c2, c3, ↓aft_of (e1), w0, w1, b1, b2]
end TN
end
section
/-! the best order, when a basket comes home -/
abbrev bsT : Type := Int32 × Int32 × Int32
def bsS (k r p : Int32) (b : bsT) : bsT := if b.2.1 < r then (k, r, p) else if r = b.2.1 then (if b.2.2 < p then (k, r, p) else b) else b
noncomputable abbrev rdU (u : uT) : Int32 := smI (fun i => rdK (gK u.2 i)) u.2.length
noncomputable def bsU (m : Int32) (u : uT) : Nat → bsT
  | 0 => (0, -1, -1)
  | k + 1 => bsS (nI k) (rdU (tuU u (nI k) m)) (tuN u (nI k) m) (bsU m u k)
noncomputable def gBest (m : Int32) (s : gT) : Int32 := if inI m 1 600 = 0 then -2 else (bsU m s.1 3).1
noncomputable def hmU (x m : Int32) : Nat → uT → Int32
  | 0, _ => -5
  | n + 1, u => match wnK x (dyU (irU u m)).2 with
    | none => (dyU (irU u m)).1.2.1 0 0
    | some _ => hmU x m n (dyU (irU u m))
noncomputable def gHome (x m : Int32) (s : gT) : Int32 := match wnK x s.1.2 with
  | none => -1
  | some _ => if inI m 1 600 = 0 then -2 else hmU x m 60 s.1
section TO
variable {T U EE : Nat → Nat → Int32} {P Q : Nat → Nat → Nat} {o q : Nat} {s : gT} {u : uT}
theorem g_best (h1 : o = 1) (hq1 : q = 103) (h : CG EE T P s) (m : Int32) : ∃ T', X 115 0 [.ref 0, .int m, .long 0, .long 0, .long 0, .long 0, .long 0, .long 0] [] (H T P) = some (some (.int (gBest m s)), H T' P) ∧ CG EE T' P s := by
  have ho : isB o := by subst h1; exact isB_1
  have hq : isB q := by subst hq1; exact isB_103
  unfold gBest
  by_cases c1 : inI m 1 600 = 0
  · rw [if_pos c1]
    refine ⟨T, ?_, h⟩
    simp +decide only [x115_0, x115_1, x115_2, x115_5, x115_8, x115_11, x115_13, x115_14, x115_15, x115_16, x115_17, x115_18, x115_19, x115_21, x115_22, x115_24, x115_26, x115_27, x115_30, x115_31, x115_33, x115_34, x115_37, x115_39, x115_40, x115_43, x115_46, x115_49, x115_51, x115_53, x115_54, x115_57, x115_59, x115_60, x115_63, x115_65, x115_67, x115_70, x115_72, x115_73, x115_75, x115_76, x115_78, x115_80, x115_83, x115_86, x115_87, aft_some, aft_void, Option.bind_some, Option.toList_some, Option.toList_none, List.cons_append, List.nil_append, if_true, if_false, ↓reduceIte, eq_self, z0_o, ↓z0_0, ↓z0_1, ↓z0_2, ↓z0_3, ↓z0_4, ↓z0_5, ↓z0_5p0, ↓z0_5p1, ↓aft_of (c_within), c1]
  rw [if_neg c1]
  obtain ⟨⟨T2, v6, v7⟩, e2, i1⟩ := loop_ex (fun i (t : (Nat → Nat → Int32) × Value × Value) => X 115 24 [.ref 0, .int m, .int (bsU m s.1 i).1, .int (bsU m s.1 i).2.1, .int (bsU m s.1 i).2.2, .int (nI i), t.2.1, t.2.2] [] (H t.1 P))
    (fun _ t => CG EE t.1 P s) 3 (T, .long 0, .long 0) h (by
      intro i ⟨U, v6, v7⟩ hi j1
      have j1 : CG EE U P s := j1
      obtain ⟨U1, e1, g1, t1, hlen, f1⟩ := g_try (m := m) h1 hq1 j1 ⟨i, hi, rfl⟩
      have e3 := s_ready hq t1 hlen
      have hlt : (2 < nI i) = False := by
        rw [show (2 : Int32) = nI 2 from rfl, nI_ltp (by decide) (by omega)]
        exact eq_false (by omega)
      refine ⟨(U1, .int (tuN s.1 (nI i) m), .int (rdU (tuU s.1 (nI i) m))), ?_, g1⟩
      show X 115 24 [.ref 0, .int m, .int (bsU m s.1 i).1, .int (bsU m s.1 i).2.1, .int (bsU m s.1 i).2.2, .int (nI i), v6, v7] [] (H U P) = _
      rw [x115_24]
      have hB : bsU m s.1 (i + 1) = bsS (nI i) (rdU (tuU s.1 (nI i) m)) (tuN s.1 (nI i) m) (bsU m s.1 i) := rfl
      rw [hB]
      unfold bsS
      by_cases d1 : (bsU m s.1 i).2.1 < rdU (tuU s.1 (nI i) m)
      · simp +decide only [x115_0, x115_1, x115_2, x115_5, x115_8, x115_11, x115_13, x115_14, x115_15, x115_16, x115_17, x115_18, x115_19, x115_21, x115_22, x115_26, x115_27, x115_30, x115_31, x115_33, x115_34, x115_37, x115_39, x115_40, x115_43, x115_46, x115_49, x115_51, x115_53, x115_54, x115_57, x115_59, x115_60, x115_63, x115_65, x115_67, x115_70, x115_72, x115_73, x115_75, x115_76, x115_78, x115_80, x115_83, x115_86, x115_87, aft_some, aft_void, Option.bind_some, Option.toList_some, Option.toList_none, List.cons_append, List.nil_append, if_true, if_false, ↓reduceIte, eq_self, z0_o, ↓z0_0, ↓z0_1, ↓z0_2, ↓z0_3, ↓z0_4, ↓z0_5, ↓z0_5p0, ↓z0_5p1, ↓z0t hq1, f0_o hq, ↓f0_0 hq, ↓f0_0p hq, ↓f0_1 hq, ↓f0_1p hq, ↓f0_2 hq, ↓f0_2p hq, ↓f0_3 hq, ↓f0_3p hq, ↓f0_4 hq, ↓f0_5 hq, ↓f0_6 hq, ↓f0_7 hq, ↓f0_8 hq, ↓f0_9 hq, ↓f0_10 hq, ↓f0_11 hq, ↓f1_g hq, ↓f1_s hq, ↓f2_g hq, ↓f2_s hq, f7_o hq, ↓f7_0 hq, ↓f7_1 hq, ↓f7_1p hq, ↓f7_2 hq, ↓f7_2p hq, ↓f8_g hq, hlt, ↓aft_of (e1), ↓aft_of (e3), d1, nI_1]
      · by_cases d2 : rdU (tuU s.1 (nI i) m) = (bsU m s.1 i).2.1
        · by_cases d3 : (bsU m s.1 i).2.2 < tuN s.1 (nI i) m
          · rw [if_neg d1, if_pos d2, if_pos d3]
            simp +decide only [x115_0, x115_1, x115_2, x115_5, x115_8, x115_11, x115_13, x115_14, x115_15, x115_16, x115_17, x115_18, x115_19, x115_21, x115_22, x115_26, x115_27, x115_30, x115_31, x115_33, x115_34, x115_37, x115_39, x115_40, x115_43, x115_46, x115_49, x115_51, x115_53, x115_54, x115_57, x115_59, x115_60, x115_63, x115_65, x115_67, x115_70, x115_72, x115_73, x115_75, x115_76, x115_78, x115_80, x115_83, x115_86, x115_87, aft_some, aft_void, Option.bind_some, Option.toList_some, Option.toList_none, List.cons_append, List.nil_append, if_true, if_false, ↓reduceIte, eq_self, z0_o, ↓z0_0, ↓z0_1, ↓z0_2, ↓z0_3, ↓z0_4, ↓z0_5, ↓z0_5p0, ↓z0_5p1, ↓z0t hq1, f0_o hq, ↓f0_0 hq, ↓f0_0p hq, ↓f0_1 hq, ↓f0_1p hq, ↓f0_2 hq, ↓f0_2p hq, ↓f0_3 hq, ↓f0_3p hq, ↓f0_4 hq, ↓f0_5 hq, ↓f0_6 hq, ↓f0_7 hq, ↓f0_8 hq, ↓f0_9 hq, ↓f0_10 hq, ↓f0_11 hq, ↓f1_g hq, ↓f1_s hq, ↓f2_g hq, ↓f2_s hq, f7_o hq, ↓f7_0 hq, ↓f7_1 hq, ↓f7_1p hq, ↓f7_2 hq, ↓f7_2p hq, ↓f8_g hq, hlt, ↓aft_of (e1), ↓aft_of (e3), d1, if_pos d2, d3, nI_1]
          · rw [if_neg d1, if_pos d2, if_neg d3]
            simp +decide only [x115_0, x115_1, x115_2, x115_5, x115_8, x115_11, x115_13, x115_14, x115_15, x115_16, x115_17, x115_18, x115_19, x115_21, x115_22, x115_26, x115_27, x115_30, x115_31, x115_33, x115_34, x115_37, x115_39, x115_40, x115_43, x115_46, x115_49, x115_51, x115_53, x115_54, x115_57, x115_59, x115_60, x115_63, x115_65, x115_67, x115_70, x115_72, x115_73, x115_75, x115_76, x115_78, x115_80, x115_83, x115_86, x115_87, aft_some, aft_void, Option.bind_some, Option.toList_some, Option.toList_none, List.cons_append, List.nil_append, if_true, if_false, ↓reduceIte, eq_self, z0_o, ↓z0_0, ↓z0_1, ↓z0_2, ↓z0_3, ↓z0_4, ↓z0_5, ↓z0_5p0, ↓z0_5p1, ↓z0t hq1, f0_o hq, ↓f0_0 hq, ↓f0_0p hq, ↓f0_1 hq, ↓f0_1p hq, ↓f0_2 hq, ↓f0_2p hq, ↓f0_3 hq, ↓f0_3p hq, ↓f0_4 hq, ↓f0_5 hq, ↓f0_6 hq, ↓f0_7 hq, ↓f0_8 hq, ↓f0_9 hq, ↓f0_10 hq, ↓f0_11 hq, ↓f1_g hq, ↓f1_s hq, ↓f2_g hq, ↓f2_s hq, f7_o hq, ↓f7_0 hq, ↓f7_1 hq, ↓f7_1p hq, ↓f7_2 hq, ↓f7_2p hq, ↓f8_g hq, hlt, ↓aft_of (e1), ↓aft_of (e3), d1, if_pos d2, d3, nI_1]
        · simp +decide only [x115_0, x115_1, x115_2, x115_5, x115_8, x115_11, x115_13, x115_14, x115_15, x115_16, x115_17, x115_18, x115_19, x115_21, x115_22, x115_26, x115_27, x115_30, x115_31, x115_33, x115_34, x115_37, x115_39, x115_40, x115_43, x115_46, x115_49, x115_51, x115_53, x115_54, x115_57, x115_59, x115_60, x115_63, x115_65, x115_67, x115_70, x115_72, x115_73, x115_75, x115_76, x115_78, x115_80, x115_83, x115_86, x115_87, aft_some, aft_void, Option.bind_some, Option.toList_some, Option.toList_none, List.cons_append, List.nil_append, if_true, if_false, ↓reduceIte, eq_self, z0_o, ↓z0_0, ↓z0_1, ↓z0_2, ↓z0_3, ↓z0_4, ↓z0_5, ↓z0_5p0, ↓z0_5p1, ↓z0t hq1, f0_o hq, ↓f0_0 hq, ↓f0_0p hq, ↓f0_1 hq, ↓f0_1p hq, ↓f0_2 hq, ↓f0_2p hq, ↓f0_3 hq, ↓f0_3p hq, ↓f0_4 hq, ↓f0_5 hq, ↓f0_6 hq, ↓f0_7 hq, ↓f0_8 hq, ↓f0_9 hq, ↓f0_10 hq, ↓f0_11 hq, ↓f1_g hq, ↓f1_s hq, ↓f2_g hq, ↓f2_s hq, f7_o hq, ↓f7_0 hq, ↓f7_1 hq, ↓f7_1p hq, ↓f7_2 hq, ↓f7_2p hq, ↓f8_g hq, hlt, ↓aft_of (e1), ↓aft_of (e3), d1, d2, nI_1])
  have i1 : CG EE T2 P s := i1
  refine ⟨T2, ?_, i1⟩
  have h3 : (2 < nI 3) = True := by decide
  simp +decide only [x115_0, x115_1, x115_2, x115_5, x115_8, x115_11, x115_13, x115_14, x115_15, x115_16, x115_17, x115_18, x115_19, x115_21, x115_22, x115_26, x115_27, x115_30, x115_31, x115_33, x115_34, x115_37, x115_39, x115_40, x115_43, x115_46, x115_49, x115_51, x115_53, x115_54, x115_57, x115_59, x115_60, x115_63, x115_65, x115_67, x115_70, x115_72, x115_73, x115_75, x115_76, x115_78, x115_80, x115_83, x115_86, x115_87, aft_some, aft_void, Option.bind_some, Option.toList_some, Option.toList_none, List.cons_append, List.nil_append, if_true, if_false, ↓reduceIte, eq_self, z0_o, ↓z0_0, ↓z0_1, ↓z0_2, ↓z0_3, ↓z0_4, ↓z0_5, ↓z0_5p0, ↓z0_5p1, ↓aft_of (c_within), c1]
  rw [show X 115 24 [.ref 0, .int m, .int 0, .int (-1), .int (-1), .int 0, .long 0, .long 0] [] (H T P) = _ from e2, x115_24]
  simp +decide only [x115_0, x115_1, x115_2, x115_5, x115_8, x115_11, x115_13, x115_14, x115_15, x115_16, x115_17, x115_18, x115_19, x115_21, x115_22, x115_26, x115_27, x115_30, x115_31, x115_33, x115_34, x115_37, x115_39, x115_40, x115_43, x115_46, x115_49, x115_51, x115_53, x115_54, x115_57, x115_59, x115_60, x115_63, x115_65, x115_67, x115_70, x115_72, x115_73, x115_75, x115_76, x115_78, x115_80, x115_83, x115_86, x115_87, aft_some, aft_void, Option.bind_some, Option.toList_some, Option.toList_none, List.cons_append, List.nil_append, if_true, if_false, ↓reduceIte, eq_self, h3]
theorem g_home (h1 : o = 1) (hq1 : q = 103) (h : CG EE T P s) (x m : Int32) : ∃ T' P', X 116 0 [.ref 0, .int x, .int m, .long 0] [] (H T P) = some (some (.int (gHome x m s)), H T' P') ∧ CG EE T' P' s := by
  have ho : isB o := by subst h1; exact isB_1
  have hq : isB q := by subst hq1; exact isB_103
  have hc : CSu o T P s.1 := by subst h1; exact h.2.1.1
  have hw := h.2.1.2.1
  have h8 := hw.1.2.2.2.1
  unfold gHome
  rcases s_wn (x := x) ho hc h8 with ⟨i, e, hi, ei, ew⟩ | ⟨e, ew⟩
  · rw [e]
    show ∃ T' P', X 116 0 [.ref 0, .int x, .int m, .long 0] [] (H T P) = some (some (.int (if inI m 1 600 = 0 then -2 else hmU x m 60 s.1)), H T' P') ∧ CG EE T' P' s
    by_cases c1 : inI m 1 600 = 0
    · rw [if_pos c1]
      refine ⟨T, P, ?_, h⟩
      simp +decide only [x116_0, x116_1, x116_4, x116_7, x116_8, x116_11, x116_11N, x116_14, x116_15, x116_16, x116_17, x116_18, x116_21, x116_24, x116_27, x116_29, x116_30, x116_31, x116_34, x116_35, x116_38, x116_41, x116_42, x116_43, x116_44, x116_46, x116_49, x116_50, x116_53, x116_54, x116_57, x116_58, x116_59, x116_62, x116_65, x116_66, x116_67, x116_70, x116_73, x116_74, x116_77, x116_77N, x116_80, x116_81, x116_84, x116_87, x116_88, x116_91, x116_94, x116_96, aft_some, aft_void, Option.bind_some, Option.toList_some, Option.toList_none, List.cons_append, List.nil_append, if_true, if_false, ↓reduceIte, eq_self, z0_o, ↓z0_0, ↓z0_1, ↓z0_2, ↓z0_3, ↓z0_4, ↓z0_5, ↓z0_5p0, ↓z0_5p1, ↓z0n h1, f0_o ho, ↓f0_0 ho, ↓f0_0p ho, ↓f0_1 ho, ↓f0_1p ho, ↓f0_2 ho, ↓f0_2p ho, ↓f0_3 ho, ↓f0_3p ho, ↓f0_4 ho, ↓f0_5 ho, ↓f0_6 ho, ↓f0_7 ho, ↓f0_8 ho, ↓f0_9 ho, ↓f0_10 ho, ↓f0_11 ho, ↓f1_g ho, ↓f1_s ho, ↓f2_g ho, ↓f2_s ho, f7_o ho, ↓f7_0 ho, ↓f7_1 ho, ↓f7_1p ho, ↓f7_2 ho, ↓f7_2p ho, ↓f8_g ho, ↓aft_of (ew), ↓aft_of (c_within), c1]
    rw [if_neg c1]
    obtain ⟨T1, e1, f1, c2⟩ := c_stCopy (o := q) (q := o) hq ho (by omega) (h.1.1 _ hq) hc hw.1.2.1 h8
    have g1 : CG EE T1 P s := by
      subst hq1
      exact h.tri c2.pk (fun a ha => f1 a (by omega)) (fun _ _ => rfl)
    have key : ∀ (n i : Nat) (u : uT) (T : Nat → Nat → Int32) (P : Nat → Nat → Nat), i + n = 60 → CG EE T P s → CSu q T P u → WF u.1.1 u.1.2.1 u.2 u.1.2.2.1 → u.1.1 0 ≤ 9999 + i → ∃ T' P', X 116 43 [.ref 0, .int x, .int m, .int (nI i)] [] (H T P) = some (some (.int (hmU x m n u)), H T' P') ∧ CG EE T' P' s := by
      intro n
      induction n with
      | zero =>
        intro i u T P hi hG hu hw hd
        have hi : i = 60 := by omega
        subst hi
        refine ⟨T, P, ?_, hG⟩
        rw [x116_43]
        have h60 : (nI 60 < 60) = False := by decide
        simp +decide only [x116_0, x116_1, x116_4, x116_7, x116_8, x116_11, x116_11N, x116_14, x116_15, x116_16, x116_17, x116_18, x116_21, x116_24, x116_27, x116_29, x116_30, x116_31, x116_34, x116_35, x116_38, x116_41, x116_42, x116_44, x116_46, x116_49, x116_50, x116_53, x116_54, x116_57, x116_58, x116_59, x116_62, x116_65, x116_66, x116_67, x116_70, x116_73, x116_74, x116_77, x116_77N, x116_80, x116_81, x116_84, x116_87, x116_88, x116_91, x116_94, x116_96, aft_some, aft_void, Option.bind_some, Option.toList_some, Option.toList_none, List.cons_append, List.nil_append, if_true, if_false, ↓reduceIte, eq_self, z0_o, ↓z0_0, ↓z0_1, ↓z0_2, ↓z0_3, ↓z0_4, ↓z0_5, ↓z0_5p0, ↓z0_5p1, h60, hmU]
      | succ n ih =>
        intro i u T P hi hG hu hw hd
        have hlt : (nI i < 60) = True := by
          rw [show (60 : Int32) = nI 60 from rfl, nI_ltp (by omega) (by decide)]
          exact eq_true (by omega)
        obtain ⟨T1, e1, f1, c1, w1⟩ := c_ironFor (m0 := m) hq hu hw
        have g1 : CG EE T1 P s := by
          subst hq1
          exact hG.tri c1.pk (fun a ha => f1 a (by omega)) (fun _ _ => rfl)
        have c1 : CSu q T1 P (irU u m) := c1
        obtain ⟨T2, P2, e2, f2, q2, c2⟩ := c_nextDay hq c1 w1
        have w2 := WF_day (R := (irU u m).1.2.2.2) w1 (show u.1.1 0 < 10100 by omega)
        have c2 : CSu q T2 P2 (dyU (irU u m)) := c2
        have w2 : WF (dyU (irU u m)).1.1 (dyU (irU u m)).1.2.1 (dyU (irU u m)).2 (dyU (irU u m)).1.2.2.1 := w2
        have g2 : CG EE T2 P2 s := by
          subst hq1
          exact g1.tri c2.pk (fun a ha => f2 a (by omega)) (fun a ha => q2 a (by omega))
        have hdy : (dyU (irU u m)).1.1 0 = u.1.1 0 + 1 := dy_day _
        have hd2 : T2 q 0 = (dyU (irU u m)).1.2.1 0 0 := c2.1.1 0 (by decide)
        unfold hmU
        rcases s_wn (x := x) hq c2 w2.1.2.2.2.1 with ⟨j, ej, hj, ej2, ew⟩ | ⟨ej, ew⟩
        · obtain ⟨T3, P3, e3, g3⟩ := ih (i + 1) (dyU (irU u m)) T2 P2 (by omega) g2 c2 w2 (by omega)
          refine ⟨T3, P3, ?_, g3⟩
          rw [ej, x116_43]
          show _ = some (some (Value.int (hmU x m n (dyU (irU u m)))), H T3 P3)
          rw [← e3]
          simp +decide only [x116_0, x116_1, x116_4, x116_7, x116_8, x116_11, x116_11N, x116_14, x116_15, x116_16, x116_17, x116_18, x116_21, x116_24, x116_27, x116_29, x116_30, x116_31, x116_34, x116_35, x116_38, x116_41, x116_42, x116_44, x116_46, x116_49, x116_50, x116_53, x116_54, x116_57, x116_58, x116_59, x116_62, x116_65, x116_66, x116_67, x116_70, x116_73, x116_74, x116_77, x116_77N, x116_80, x116_81, x116_84, x116_87, x116_88, x116_91, x116_94, x116_96, aft_some, aft_void, Option.bind_some, Option.toList_some, Option.toList_none, List.cons_append, List.nil_append, if_true, if_false, ↓reduceIte, eq_self, z0_o, ↓z0_0, ↓z0_1, ↓z0_2, ↓z0_3, ↓z0_4, ↓z0_5, ↓z0_5p0, ↓z0_5p1, ↓z0t hq1, f0_o hq, ↓f0_0 hq, ↓f0_0p hq, ↓f0_1 hq, ↓f0_1p hq, ↓f0_2 hq, ↓f0_2p hq, ↓f0_3 hq, ↓f0_3p hq, ↓f0_4 hq, ↓f0_5 hq, ↓f0_6 hq, ↓f0_7 hq, ↓f0_8 hq, ↓f0_9 hq, ↓f0_10 hq, ↓f0_11 hq, ↓f1_g hq, ↓f1_s hq, ↓f2_g hq, ↓f2_s hq, f7_o hq, ↓f7_0 hq, ↓f7_1 hq, ↓f7_1p hq, ↓f7_2 hq, ↓f7_2p hq, ↓f8_g hq, hlt, ↓aft_of (e1), ↓aft_of (e2), ↓aft_of (ew), nI_1]
        · refine ⟨T2, P2, ?_, g2⟩
          rw [ej, x116_43]
          show _ = some (some (Value.int ((dyU (irU u m)).1.2.1 0 0)), H T2 P2)
          simp +decide only [x116_0, x116_1, x116_4, x116_7, x116_8, x116_11, x116_11N, x116_14, x116_15, x116_16, x116_17, x116_18, x116_21, x116_24, x116_27, x116_29, x116_30, x116_31, x116_34, x116_35, x116_38, x116_41, x116_42, x116_44, x116_46, x116_49, x116_50, x116_53, x116_54, x116_57, x116_58, x116_59, x116_62, x116_65, x116_66, x116_67, x116_70, x116_73, x116_74, x116_77, x116_77N, x116_80, x116_81, x116_84, x116_87, x116_88, x116_91, x116_94, x116_96, aft_some, aft_void, Option.bind_some, Option.toList_some, Option.toList_none, List.cons_append, List.nil_append, if_true, if_false, ↓reduceIte, eq_self, z0_o, ↓z0_0, ↓z0_1, ↓z0_2, ↓z0_3, ↓z0_4, ↓z0_5, ↓z0_5p0, ↓z0_5p1, ↓z0t hq1, f0_o hq, ↓f0_0 hq, ↓f0_0p hq, ↓f0_1 hq, ↓f0_1p hq, ↓f0_2 hq, ↓f0_2p hq, ↓f0_3 hq, ↓f0_3p hq, ↓f0_4 hq, ↓f0_5 hq, ↓f0_6 hq, ↓f0_7 hq, ↓f0_8 hq, ↓f0_9 hq, ↓f0_10 hq, ↓f0_11 hq, ↓f1_g hq, ↓f1_s hq, ↓f2_g hq, ↓f2_s hq, f7_o hq, ↓f7_0 hq, ↓f7_1 hq, ↓f7_1p hq, ↓f7_2 hq, ↓f7_2p hq, ↓f8_g hq, hlt, ↓aft_of (e1), ↓aft_of (e2), ↓aft_of (ew), hd2]
    obtain ⟨T2, P2, e2, g2⟩ := key 60 0 s.1 T1 P rfl g1 c2 hw (by have := h.2.1.2.2; omega)
    refine ⟨T2, P2, ?_, g2⟩
    rw [← e2]
    simp +decide only [x116_0, x116_1, x116_4, x116_7, x116_8, x116_11, x116_11N, x116_14, x116_15, x116_16, x116_17, x116_18, x116_21, x116_24, x116_27, x116_29, x116_30, x116_31, x116_34, x116_35, x116_38, x116_41, x116_42, x116_44, x116_46, x116_49, x116_50, x116_53, x116_54, x116_57, x116_58, x116_59, x116_62, x116_65, x116_66, x116_67, x116_70, x116_73, x116_74, x116_77, x116_77N, x116_80, x116_81, x116_84, x116_87, x116_88, x116_91, x116_94, x116_96, aft_some, aft_void, Option.bind_some, Option.toList_some, Option.toList_none, List.cons_append, List.nil_append, if_true, if_false, ↓reduceIte, eq_self, z0_o, ↓z0_0, ↓z0_1, ↓z0_2, ↓z0_3, ↓z0_4, ↓z0_5, ↓z0_5p0, ↓z0_5p1, ↓z0n h1, ↓z0t hq1, f0_o ho, ↓f0_0 ho, ↓f0_0p ho, ↓f0_1 ho, ↓f0_1p ho, ↓f0_2 ho, ↓f0_2p ho, ↓f0_3 ho, ↓f0_3p ho, ↓f0_4 ho, ↓f0_5 ho, ↓f0_6 ho, ↓f0_7 ho, ↓f0_8 ho, ↓f0_9 ho, ↓f0_10 ho, ↓f0_11 ho, ↓f1_g ho, ↓f1_s ho, ↓f2_g ho, ↓f2_s ho, f0_o hq, ↓f0_0 hq, ↓f0_0p hq, ↓f0_1 hq, ↓f0_1p hq, ↓f0_2 hq, ↓f0_2p hq, ↓f0_3 hq, ↓f0_3p hq, ↓f0_4 hq, ↓f0_5 hq, ↓f0_6 hq, ↓f0_7 hq, ↓f0_8 hq, ↓f0_9 hq, ↓f0_10 hq, ↓f0_11 hq, ↓f1_g hq, ↓f1_s hq, ↓f2_g hq, ↓f2_s hq, f7_o ho, ↓f7_0 ho, ↓f7_1 ho, ↓f7_1p ho, ↓f7_2 ho, ↓f7_2p ho, ↓f8_g ho, ↓aft_of (ew), ↓aft_of (c_within), c1, ↓aft_of (e1)]
    rfl
  · rw [e]
    refine ⟨T, P, ?_, h⟩
    simp +decide only [x116_0, x116_1, x116_4, x116_7, x116_8, x116_11, x116_11N, x116_14, x116_15, x116_16, x116_17, x116_18, x116_21, x116_24, x116_27, x116_29, x116_30, x116_31, x116_34, x116_35, x116_38, x116_41, x116_42, x116_43, x116_44, x116_46, x116_49, x116_50, x116_53, x116_54, x116_57, x116_58, x116_59, x116_62, x116_65, x116_66, x116_67, x116_70, x116_73, x116_74, x116_77, x116_77N, x116_80, x116_81, x116_84, x116_87, x116_88, x116_91, x116_94, x116_96, aft_some, aft_void, Option.bind_some, Option.toList_some, Option.toList_none, List.cons_append, List.nil_append, if_true, if_false, ↓reduceIte, eq_self, z0_o, ↓z0_0, ↓z0_1, ↓z0_2, ↓z0_3, ↓z0_4, ↓z0_5, ↓z0_5p0, ↓z0_5p1, ↓z0n h1, f0_o ho, ↓f0_0 ho, ↓f0_0p ho, ↓f0_1 ho, ↓f0_1p ho, ↓f0_2 ho, ↓f0_2p ho, ↓f0_3 ho, ↓f0_3p ho, ↓f0_4 ho, ↓f0_5 ho, ↓f0_6 ho, ↓f0_7 ho, ↓f0_8 ho, ↓f0_9 ho, ↓f0_10 ho, ↓f0_11 ho, ↓f1_g ho, ↓f1_s ho, ↓f2_g ho, ↓f2_s ho, f7_o ho, ↓f7_0 ho, ↓f7_1 ho, ↓f7_1p ho, ↓f7_2 ho, ↓f7_2p ho, ↓f8_g ho, ↓aft_of (ew)]
end TO
end
section
/-! a piece loses its pin, a piece is found -/
section LF
variable {T U EE : Nat → Nat → Int32} {P Q : Nat → Nat → Nat} {o q : Nat} {s : gT} {u : uT} {N M : Nat → Nat} {V W : Nat → Nat → Int32} {K : List kT} {B : List bT} {R R' : Nat → Nat → Int32} {x v : Int32}
theorem CS.setK (h : CS o T P N V K B R) (h8 : K.length ≤ 8) {i k : Nat} (hi : i < K.length) : CS o (up1 T (P (o + 8) i + 3) k v) P N V (K.set i (up1 (gK K i) 3 k v)) B R := by
  obtain ⟨⟨k0, k1, k2, k00⟩, ⟨k3, k4, k5, k6⟩, ⟨kP, kn, kc, kK⟩, kB, kL, k48, kJ⟩ := id h
  have hr := kP.rg (show i < 8 by omega)
  have hf : ∀ a, (a < o + 9 ∨ o + 41 ≤ a) → up1 T (P (o + 8) i + 3) k v a = T a := fun a ha => upA_n _ _ (by omega)
  refine ⟨⟨?_, ?_, ?_, k00⟩, ⟨?_, ?_, ?_, ?_⟩, ⟨kP, ?_, ?_, fun j b hb => ?_⟩, kB.other (hf _ (by omega)) (hf _ (by omega)) (hf _ (by omega)) (hf _ (by omega)), kL.same (hf _ (by omega)) (hf _ (by omega)) (hf _ (by omega)), ?_, kJ.same (hf _ (by omega)) (hf _ (by omega))⟩
  · rw [hf _ (by omega)]; exact k0
  · rw [hf _ (by omega)]; exact k1
  · rw [hf _ (by omega)]; exact k2
  · rw [hf _ (by omega)]; exact k3
  · rw [hf _ (by omega)]; exact k4
  · rw [hf _ (by omega)]; exact k5
  · rw [hf _ (by omega)]; exact k6
  · rw [hf _ (by omega), List.length_set]; exact kn
  · rw [hf _ (by omega)]; exact kc
  · have hj : j < K.length := by
      have := (List.getElem?_eq_some_iff.mp hb).1
      rwa [List.length_set] at this
    by_cases e : j = i
    · subst e
      rw [List.getElem?_set_self hi] at hb
      cases hb
      have hbi := h.at hi
      refine ⟨fun a ha => ?_, fun a ha => ?_⟩
      · simp only [upA_n _ _ (show P (o + 8) j ≠ P (o + 8) j + 3 by omega)]
        show T (P (o + 8) j) a = up1 (gK K j) 3 k v 0 a
        rw [show up1 (gK K j) 3 k v 0 = gK K j 0 from upA_n _ _ (by decide)]
        exact hbi.1 a ha
      · obtain ⟨x1, x2, x3⟩ := hbi.2 a ha
        refine ⟨?_, ?_, ?_⟩
        · simp only [upA_n _ _ (show P (o + 8) j + 1 ≠ P (o + 8) j + 3 by omega)]
          rw [show up1 (gK K j) 3 k v 1 = gK K j 1 from upA_n _ _ (by decide)]
          exact x1
        · simp only [upA_n _ _ (show P (o + 8) j + 2 ≠ P (o + 8) j + 3 by omega)]
          rw [show up1 (gK K j) 3 k v 2 = gK K j 2 from upA_n _ _ (by decide)]
          exact x2
        · simp only [upA_s]
          unfold upA
          split
          · rfl
          · exact x3
    · rw [List.getElem?_set_ne (Ne.symm e)] at hb
      have ap := kP.ap (show j < 8 by omega) (show i < 8 by omega) e
      exact (kK j b hb).same (fun y hy => upA_n _ _ (ap y 3 hy (by decide)))
  · rw [hf _ (by omega)]; exact k48
theorem CS.lost (h : CS o T P N V K B R) (h8 : K.length ≤ 8) (hT : ∀ a, a ≠ o + 45 → a ≠ o + 46 → a ≠ o + 47 → U a = T a) {n : Nat} {kd dg : Nat → Int32} (hL : LO U o n kd dg) : CS o U P (upA N 3 n) (upA (upA V 46 kd) 47 dg) K B R := by
  obtain ⟨⟨k0, k1, k2, k00⟩, ⟨k3, k4, k5, k6⟩, ⟨kP, kn, kc, kK⟩, kB, kL, k48, kJ⟩ := id h
  have hf : ∀ a, (a < o + 45 ∨ o + 47 < a) → U a = T a := fun a ha => hT a (by omega) (by omega) (by omega)
  have gf : ∀ a, a ≠ 46 → a ≠ 47 → upA (upA V 46 kd) 47 dg a = V a := fun a h1 h2 => by rw [upA_n _ _ h2, upA_n _ _ h1]
  have nf : ∀ a, a ≠ 3 → upA N 3 n a = N a := fun a h1 => upA_n _ _ h1
  refine ⟨⟨?_, ?_, ?_, ?_⟩, ⟨?_, ?_, ?_, ?_⟩, ⟨kP, ?_, ?_, fun j b hb => ?_⟩, kB.other (hf _ (by omega)) (hf _ (by omega)) (hf _ (by omega)) (hf _ (by omega)), ?_, ?_, ?_⟩
  · rw [hf _ (by omega), gf _ (by decide) (by decide)]; exact k0
  · rw [hf _ (by omega), gf _ (by decide) (by decide)]; exact k1
  · rw [hf _ (by omega), gf _ (by decide) (by decide)]; exact k2
  · rw [gf _ (by decide) (by decide), nf _ (by decide)]; exact k00
  · rw [hf _ (by omega), nf _ (by decide)]; exact k3
  · rw [hf _ (by omega), gf _ (by decide) (by decide), nf _ (by decide)]; exact k4
  · rw [hf _ (by omega), gf _ (by decide) (by decide), nf _ (by decide)]; exact k5
  · rw [hf _ (by omega), gf _ (by decide) (by decide), nf _ (by decide)]; exact k6
  · rw [hf _ (by omega)]; exact kn
  · rw [hf _ (by omega), nf _ (by decide)]; exact kc
  · have hj := (List.getElem?_eq_some_iff.mp hb).1
    have := kP.rg (show j < 8 by omega)
    exact (kK j b hb).same (fun y hy => hf _ (by omega))
  · rw [upA_s, upA_s, upA_n _ _ (show 46 ≠ 47 by decide), upA_s]; exact hL
  · rw [hf _ (by omega), gf _ (by decide) (by decide)]; exact k48
  · rw [nf _ (by decide)]; exact kJ.same (hf _ (by omega)) (hf _ (by omega))
theorem CS.book (h : CS o T P N V K B R) (h8 : K.length ≤ 8) (hT : ∀ a, a ≠ o + 49 → a ≠ o + 50 → U a = T a) {n : Nat} (hJ : JO U o n R') : CS o U P (upA N 4 n) V K B R' := by
  obtain ⟨⟨k0, k1, k2, k00⟩, ⟨k3, k4, k5, k6⟩, ⟨kP, kn, kc, kK⟩, kB, kL, k48, kJ⟩ := id h
  have hf : ∀ a, (a < o + 49 ∨ o + 50 < a) → U a = T a := fun a ha => hT a (by omega) (by omega)
  have nf : ∀ a, a ≠ 4 → upA N 4 n a = N a := fun a h1 => upA_n _ _ h1
  refine ⟨⟨?_, ?_, ?_, ?_⟩, ⟨?_, ?_, ?_, ?_⟩, ⟨kP, ?_, ?_, fun j b hb => ?_⟩, kB.other (hf _ (by omega)) (hf _ (by omega)) (hf _ (by omega)) (hf _ (by omega)), ?_, ?_, ?_⟩
  · rw [hf _ (by omega)]; exact k0
  · rw [hf _ (by omega)]; exact k1
  · rw [hf _ (by omega)]; exact k2
  · rw [nf _ (by decide)]; exact k00
  · rw [hf _ (by omega), nf _ (by decide)]; exact k3
  · rw [hf _ (by omega), nf _ (by decide)]; exact k4
  · rw [hf _ (by omega), nf _ (by decide)]; exact k5
  · rw [hf _ (by omega), nf _ (by decide)]; exact k6
  · rw [hf _ (by omega)]; exact kn
  · rw [hf _ (by omega), nf _ (by decide)]; exact kc
  · have hj := (List.getElem?_eq_some_iff.mp hb).1
    have := kP.rg (show j < 8 by omega)
    exact (kK j b hb).same (fun y hy => hf _ (by omega))
  · rw [nf _ (by decide)]; exact kL.same (hf _ (by omega)) (hf _ (by omega)) (hf _ (by omega))
  · rw [hf _ (by omega)]; exact k48
  · rw [upA_s]; exact hJ
theorem WF.lost (hw : WF N V K B) (h4 : W 4 = V 4) (h1 : W 1 = V 1) (h6 : W 6 = V 6) (h0 : W 0 = V 0) (n0 : M 0 = N 0) (n1 : M 1 = N 1) (n2 : M 2 = N 2) (n3 : M 3 ≤ 20) (n4 : M 4 ≤ 10) (h46 : ∀ i, i < M 3 → ∃ k, k < 4 ∧ W 46 i = nI k) : WF M W K B := by
  obtain ⟨⟨a0, a1, a2, a3, a4, a5⟩, w2, w3, w4, w5, w6, w9, w10⟩ := hw
  unfold WF
  rw [h4, h1, h6, h0, n0, n1, n2]
  exact ⟨⟨a0, a1, a2, a3, n3, n4⟩, w2, w3, w4, w5, w6, h46, w10⟩
theorem WF.setK (hw : WF N V K B) {i k : Nat} (hi : i < K.length) (hk : k < 4) {z' : Nat} (hz : ∀ x y z, x ≤ 9 → y + z ≤ x → gK K i 1 k = nI x → gK K i 2 k = nI y → gK K i 3 k = nI z → y + z' ≤ x) : WF N V (K.set i (up1 (gK K i) 3 k (nI z'))) B := by
  obtain ⟨⟨a0, a1, a2, a3, a4, a5⟩, w2, w3, w4, w5, ⟨w6, w7, w8⟩, w9, w10⟩ := id hw
  have hl : (K.set i (up1 (gK K i) 3 k (nI z'))).length = K.length := List.length_set
  have h0 : up1 (gK K i) 3 k (nI z') 0 = gK K i 0 := upA_n _ _ (by decide)
  have h1 : up1 (gK K i) 3 k (nI z') 1 = gK K i 1 := upA_n _ _ (by decide)
  have h2 : up1 (gK K i) 3 k (nI z') 2 = gK K i 2 := upA_n _ _ (by decide)
  have hat : ∀ (j : Nat) (b : kT), (K.set i (up1 (gK K i) 3 k (nI z')))[j]? = some b → (K[j]? = some b) ∨ (j = i ∧ b = up1 (gK K i) 3 k (nI z')) := by
    intro j b hb
    by_cases e : j = i
    · subst e
      rw [List.getElem?_set_self hi] at hb
      cases hb
      exact Or.inr ⟨rfl, rfl⟩
    · rw [List.getElem?_set_ne (Ne.symm e)] at hb
      exact Or.inl hb
  refine ⟨⟨a0, a1, a2, by rw [hl]; exact a3, a4, a5⟩, w2, w3, ?_, ?_, ⟨w6, w7, by rw [hl]; exact w8⟩, w9, ?_⟩
  · intro j b hb
    rcases hat j b hb with hb | ⟨-, rfl⟩
    · exact w4 j b hb
    · obtain ⟨x1, x2, x3, x4, x5⟩ := w4 i _ (gK_at hi)
      rw [h0, h1, h2]
      refine ⟨x1, x2, x3, x4, fun j hj => ?_⟩
      obtain ⟨x, y, z, y1, y2, y3, y4, y5⟩ := x5 j hj
      by_cases e : j = k
      · subst e
        exact ⟨x, y, z', y1, hz x y z y1 y2 y3 y4 y5, y3, y4, by simp only [upA_s]⟩
      · exact ⟨x, y, z, y1, y2, y3, y4, by simp only [upA_s]; rw [upA_n _ _ e]; exact y5⟩
  · intro a b c d hab hc hd
    have key : ∀ (j : Nat) (b : kT), (K.set i (up1 (gK K i) 3 k (nI z')))[j]? = some b → ∃ b', K[j]? = some b' ∧ b 0 0 = b' 0 0 := by
      intro j b hb
      rcases hat j b hb with hb | ⟨e, rfl⟩
      · exact ⟨b, hb, rfl⟩
      · subst e
        exact ⟨gK K j, gK_at hi, by rw [h0]⟩
    obtain ⟨c', hc', ec⟩ := key a c hc
    obtain ⟨d', hd', ed⟩ := key b d hd
    rw [ec, ed]
    exact w5 a b c' d' hab hc' hd'
  · rw [hl]
    have e : ∀ j, j < K.length → nhI (gK (K.set i (up1 (gK K i) 3 k (nI z'))) j 2) = nhI (gK K j 2) := by
      intro j hj
      rw [gK_set hi]
      by_cases e : j = i
      · rw [if_pos e, h2, e]
      · rw [if_neg e]
    rw [smI_congr e]; exact w10
end LF
end
