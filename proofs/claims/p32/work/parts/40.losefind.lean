/-! a piece loses its pin, a piece is found -/
section LF
variable {T U EE : Nat → Nat → Int32} {P Q : Nat → Nat → Nat} {o q : Nat} {s : gT} {u : uT} {N M : Nat → Nat} {V W : Nat → Nat → Int32} {K : List kT} {B : List bT} {R R' : Nat → Nat → Int32} {x v : Int32}
theorem CS.setK (h : CS o T P N V K B R) (h8 : K.length ≤ 8) {i k : Nat} (hi : i < K.length) : CS o (up1 T (P (o + 8) i + 3) k v) P N V (K.set i (up1 (gK K i) 3 k v)) B R := by
  obtain ⟨⟨k0, k1, k2, k00⟩, ⟨k3, k4, k5, k6⟩, ⟨kP, kn, kc, kK⟩, kB, kL, k48, kJ⟩ := id h
  have hr := kP.rg (show i < 8 by omega)
  have hf : ∀ a, (a < o + 9 ∨ o + 41 ≤ a) → up1 T (P (o + 8) i + 3) k v a = T a := fun a ha => upA_n _ _ (by omega)
  refine ⟨⟨?_, ?_, ?_, k00⟩, ⟨?_, ?_, ?_, ?_⟩, ⟨kP, ?_, ?_, fun j b hb => ?_⟩, kB.other (hf _ (by omega)) (hf _ (by omega)) (hf _ (by omega)) (hf _ (by omega)), kL.same (hf _ (by omega)) (hf _ (by omega)) (hf _ (by omega)), ?_, kJ.same (hf _ (by omega)) (hf _ (by omega))⟩
  · rw [hf _ (by omega)]; exact k0
  · rw [hf _ (by omega)]; exact k1
  · rw [hf _ (by omega)]; exact k2
  · rw [hf _ (by omega)]; exact k3
  · rw [hf _ (by omega)]; exact k4
  · rw [hf _ (by omega)]; exact k5
  · rw [hf _ (by omega)]; exact k6
  · rw [hf _ (by omega), List.length_set]; exact kn
  · rw [hf _ (by omega)]; exact kc
  · have hj : j < K.length := by
      have := (List.getElem?_eq_some_iff.mp hb).1
      rwa [List.length_set] at this
    by_cases e : j = i
    · subst e
      rw [List.getElem?_set_self hi] at hb
      cases hb
      have hbi := h.at hi
      refine ⟨fun a ha => ?_, fun a ha => ?_⟩
      · simp only [upA_n _ _ (show P (o + 8) j ≠ P (o + 8) j + 3 by omega)]
        show T (P (o + 8) j) a = up1 (gK K j) 3 k v 0 a
        rw [show up1 (gK K j) 3 k v 0 = gK K j 0 from upA_n _ _ (by decide)]
        exact hbi.1 a ha
      · obtain ⟨x1, x2, x3⟩ := hbi.2 a ha
        refine ⟨?_, ?_, ?_⟩
        · simp only [upA_n _ _ (show P (o + 8) j + 1 ≠ P (o + 8) j + 3 by omega)]
          rw [show up1 (gK K j) 3 k v 1 = gK K j 1 from upA_n _ _ (by decide)]
          exact x1
        · simp only [upA_n _ _ (show P (o + 8) j + 2 ≠ P (o + 8) j + 3 by omega)]
          rw [show up1 (gK K j) 3 k v 2 = gK K j 2 from upA_n _ _ (by decide)]
          exact x2
        · simp only [upA_s]
          unfold upA
          split
          · rfl
          · exact x3
    · rw [List.getElem?_set_ne (Ne.symm e)] at hb
      have ap := kP.ap (show j < 8 by omega) (show i < 8 by omega) e
      exact (kK j b hb).same (fun y hy => upA_n _ _ (ap y 3 hy (by decide)))
  · rw [hf _ (by omega)]; exact k48
theorem CS.lost (h : CS o T P N V K B R) (h8 : K.length ≤ 8) (hT : ∀ a, a ≠ o + 45 → a ≠ o + 46 → a ≠ o + 47 → U a = T a) {n : Nat} {kd dg : Nat → Int32} (hL : LO U o n kd dg) : CS o U P (upA N 3 n) (upA (upA V 46 kd) 47 dg) K B R := by
  obtain ⟨⟨k0, k1, k2, k00⟩, ⟨k3, k4, k5, k6⟩, ⟨kP, kn, kc, kK⟩, kB, kL, k48, kJ⟩ := id h
  have hf : ∀ a, (a < o + 45 ∨ o + 47 < a) → U a = T a := fun a ha => hT a (by omega) (by omega) (by omega)
  have gf : ∀ a, a ≠ 46 → a ≠ 47 → upA (upA V 46 kd) 47 dg a = V a := fun a h1 h2 => by rw [upA_n _ _ h2, upA_n _ _ h1]
  have nf : ∀ a, a ≠ 3 → upA N 3 n a = N a := fun a h1 => upA_n _ _ h1
  refine ⟨⟨?_, ?_, ?_, ?_⟩, ⟨?_, ?_, ?_, ?_⟩, ⟨kP, ?_, ?_, fun j b hb => ?_⟩, kB.other (hf _ (by omega)) (hf _ (by omega)) (hf _ (by omega)) (hf _ (by omega)), ?_, ?_, ?_⟩
  · rw [hf _ (by omega), gf _ (by decide) (by decide)]; exact k0
  · rw [hf _ (by omega), gf _ (by decide) (by decide)]; exact k1
  · rw [hf _ (by omega), gf _ (by decide) (by decide)]; exact k2
  · rw [gf _ (by decide) (by decide), nf _ (by decide)]; exact k00
  · rw [hf _ (by omega), nf _ (by decide)]; exact k3
  · rw [hf _ (by omega), gf _ (by decide) (by decide), nf _ (by decide)]; exact k4
  · rw [hf _ (by omega), gf _ (by decide) (by decide), nf _ (by decide)]; exact k5
  · rw [hf _ (by omega), gf _ (by decide) (by decide), nf _ (by decide)]; exact k6
  · rw [hf _ (by omega)]; exact kn
  · rw [hf _ (by omega), nf _ (by decide)]; exact kc
  · have hj := (List.getElem?_eq_some_iff.mp hb).1
    have := kP.rg (show j < 8 by omega)
    exact (kK j b hb).same (fun y hy => hf _ (by omega))
  · rw [upA_s, upA_s, upA_n _ _ (show 46 ≠ 47 by decide), upA_s]; exact hL
  · rw [hf _ (by omega), gf _ (by decide) (by decide)]; exact k48
  · rw [nf _ (by decide)]; exact kJ.same (hf _ (by omega)) (hf _ (by omega))
theorem CS.book (h : CS o T P N V K B R) (h8 : K.length ≤ 8) (hT : ∀ a, a ≠ o + 49 → a ≠ o + 50 → U a = T a) {n : Nat} (hJ : JO U o n R') : CS o U P (upA N 4 n) V K B R' := by
  obtain ⟨⟨k0, k1, k2, k00⟩, ⟨k3, k4, k5, k6⟩, ⟨kP, kn, kc, kK⟩, kB, kL, k48, kJ⟩ := id h
  have hf : ∀ a, (a < o + 49 ∨ o + 50 < a) → U a = T a := fun a ha => hT a (by omega) (by omega)
  have nf : ∀ a, a ≠ 4 → upA N 4 n a = N a := fun a h1 => upA_n _ _ h1
  refine ⟨⟨?_, ?_, ?_, ?_⟩, ⟨?_, ?_, ?_, ?_⟩, ⟨kP, ?_, ?_, fun j b hb => ?_⟩, kB.other (hf _ (by omega)) (hf _ (by omega)) (hf _ (by omega)) (hf _ (by omega)), ?_, ?_, ?_⟩
  · rw [hf _ (by omega)]; exact k0
  · rw [hf _ (by omega)]; exact k1
  · rw [hf _ (by omega)]; exact k2
  · rw [nf _ (by decide)]; exact k00
  · rw [hf _ (by omega), nf _ (by decide)]; exact k3
  · rw [hf _ (by omega), nf _ (by decide)]; exact k4
  · rw [hf _ (by omega), nf _ (by decide)]; exact k5
  · rw [hf _ (by omega), nf _ (by decide)]; exact k6
  · rw [hf _ (by omega)]; exact kn
  · rw [hf _ (by omega), nf _ (by decide)]; exact kc
  · have hj := (List.getElem?_eq_some_iff.mp hb).1
    have := kP.rg (show j < 8 by omega)
    exact (kK j b hb).same (fun y hy => hf _ (by omega))
  · rw [nf _ (by decide)]; exact kL.same (hf _ (by omega)) (hf _ (by omega)) (hf _ (by omega))
  · rw [hf _ (by omega)]; exact k48
  · rw [upA_s]; exact hJ
theorem WF.lost (hw : WF N V K B) (h4 : W 4 = V 4) (h1 : W 1 = V 1) (h6 : W 6 = V 6) (h0 : W 0 = V 0) (n0 : M 0 = N 0) (n1 : M 1 = N 1) (n2 : M 2 = N 2) (n3 : M 3 ≤ 20) (n4 : M 4 ≤ 10) (h46 : ∀ i, i < M 3 → ∃ k, k < 4 ∧ W 46 i = nI k) : WF M W K B := by
  obtain ⟨⟨a0, a1, a2, a3, a4, a5⟩, w2, w3, w4, w5, w6, w9, w10⟩ := hw
  unfold WF
  rw [h4, h1, h6, h0, n0, n1, n2]
  exact ⟨⟨a0, a1, a2, a3, n3, n4⟩, w2, w3, w4, w5, w6, h46, w10⟩
theorem WF.setK (hw : WF N V K B) {i k : Nat} (hi : i < K.length) (hk : k < 4) {z' : Nat} (hz : ∀ x y z, x ≤ 9 → y + z ≤ x → gK K i 1 k = nI x → gK K i 2 k = nI y → gK K i 3 k = nI z → y + z' ≤ x) : WF N V (K.set i (up1 (gK K i) 3 k (nI z'))) B := by
  obtain ⟨⟨a0, a1, a2, a3, a4, a5⟩, w2, w3, w4, w5, ⟨w6, w7, w8⟩, w9, w10⟩ := id hw
  have hl : (K.set i (up1 (gK K i) 3 k (nI z'))).length = K.length := List.length_set
  have h0 : up1 (gK K i) 3 k (nI z') 0 = gK K i 0 := upA_n _ _ (by decide)
  have h1 : up1 (gK K i) 3 k (nI z') 1 = gK K i 1 := upA_n _ _ (by decide)
  have h2 : up1 (gK K i) 3 k (nI z') 2 = gK K i 2 := upA_n _ _ (by decide)
  have hat : ∀ (j : Nat) (b : kT), (K.set i (up1 (gK K i) 3 k (nI z')))[j]? = some b → (K[j]? = some b) ∨ (j = i ∧ b = up1 (gK K i) 3 k (nI z')) := by
    intro j b hb
    by_cases e : j = i
    · subst e
      rw [List.getElem?_set_self hi] at hb
      cases hb
      exact Or.inr ⟨rfl, rfl⟩
    · rw [List.getElem?_set_ne (Ne.symm e)] at hb
      exact Or.inl hb
  refine ⟨⟨a0, a1, a2, by rw [hl]; exact a3, a4, a5⟩, w2, w3, ?_, ?_, ⟨w6, w7, by rw [hl]; exact w8⟩, w9, ?_⟩
  · intro j b hb
    rcases hat j b hb with hb | ⟨-, rfl⟩
    · exact w4 j b hb
    · obtain ⟨x1, x2, x3, x4, x5⟩ := w4 i _ (gK_at hi)
      rw [h0, h1, h2]
      refine ⟨x1, x2, x3, x4, fun j hj => ?_⟩
      obtain ⟨x, y, z, y1, y2, y3, y4, y5⟩ := x5 j hj
      by_cases e : j = k
      · subst e
        exact ⟨x, y, z', y1, hz x y z y1 y2 y3 y4 y5, y3, y4, by simp only [upA_s]⟩
      · exact ⟨x, y, z, y1, y2, y3, y4, by simp only [upA_s]; rw [upA_n _ _ e]; exact y5⟩
  · intro a b c d hab hc hd
    have key : ∀ (j : Nat) (b : kT), (K.set i (up1 (gK K i) 3 k (nI z')))[j]? = some b → ∃ b', K[j]? = some b' ∧ b 0 0 = b' 0 0 := by
      intro j b hb
      rcases hat j b hb with hb | ⟨e, rfl⟩
      · exact ⟨b, hb, rfl⟩
      · subst e
        exact ⟨gK K j, gK_at hi, by rw [h0]⟩
    obtain ⟨c', hc', ec⟩ := key a c hc
    obtain ⟨d', hd', ed⟩ := key b d hd
    rw [ec, ed]
    exact w5 a b c' d' hab hc' hd'
  · rw [hl]
    have e : ∀ j, j < K.length → nhI (gK (K.set i (up1 (gK K i) 3 k (nI z'))) j 2) = nhI (gK K j 2) := by
      intro j hj
      rw [gK_set hi]
      by_cases e : j = i
      · rw [if_pos e, h2, e]
      · rw [if_neg e]
    rw [smI_congr e]; exact w10
end LF
