/-! a day ends -/
abbrev dyG (V : Nat → Nat → Int32) : Nat := (V 1 2).toNatClampNeg
abbrev dy0 (s : sT) : sT := (upA s.1 0 (s.1 0 + 1), up1 s.2.1 0 0 (nI (s.1 0 + 1)), s.2.2)
abbrev dy1 (s : sT) : sT := chE (s.1 0 + 1 - dyG s.2.1) (s.1 1) (dy0 s)
noncomputable abbrev dyS (s : sT) (K : List kT) : sT := lvE (goK (dy1 s).1 (dy1 s).2.1) (dy1 s) K
noncomputable abbrev dyK (s : sT) (K : List kT) : List kT := lvK (goK (dy1 s).1 (dy1 s).2.1) K
section ND
variable {T : Nat → Nat → Int32} {P : Nat → Nat → Nat} {o : Nat} {N : Nat → Nat} {V : Nat → Nat → Int32} {K : List kT} {B : List bT} {R : Nat → Nat → Int32}
theorem c_nextDay (ho : isB o) (h : CS o T P N V K B R) (hw : WF N V K B) : ∃ T' P', X 85 0 [.ref o] [] (H T P) = some (some (.int (nI (K.length - (dyK (N, V, B, R) K).length))), H T' P') ∧ (∀ a, (a < o ∨ o + 51 ≤ a) → T' a = T a) ∧ (∀ a, a ≠ o + 8 → P' a = P a) ∧ CSs o T' P' (dyS (N, V, B, R) K) (dyK (N, V, B, R) K) := by
  obtain ⟨w1, w2, ⟨-, ⟨g, g1, g2, eg⟩, -⟩, w4, -, ⟨w6, w7, w8⟩, -⟩ := id hw
  have hday : T o 0 = nI (N 0) := by rw [h.1.1 0 (by decide)]; exact h.1.2.2.2
  have hG : dyG V = g := by unfold dyG; rw [eg, nI_clamp (by omega)]
  have hD1 : CS o (up1 T o 0 (nI (N 0 + 1))) P (upA N 0 (N 0 + 1)) (up1 V 0 0 (nI (N 0 + 1))) K B R := by
    obtain ⟨⟨k0, k1, k2, k00⟩, ⟨k3, k4, k5, k6⟩, ⟨kP, kn, kc, kK⟩, kB, kL, k48, kJ⟩ := id h
    have hf : ∀ a, a ≠ o → up1 T o 0 (nI (N 0 + 1)) a = T a := fun a ha => upA_n _ _ ha
    refine ⟨⟨fun j hj => ?_, fun j hj => ?_, fun j hj => ?_, ?_⟩, ⟨?_, fun j hj => ?_, fun j hj => ?_, fun j hj => ?_⟩, ⟨kP, ?_, ?_, fun j q hq => ?_⟩, ?_, ?_, fun j hj => ?_, ?_⟩
    · simp only [upA_s]
      unfold upA
      split
      · rfl
      · exact k0 j hj
    · rw [hf _ (by omega)]; simp +decide only [u_n]; exact k1 j hj
    · rw [hf _ (by omega)]; simp +decide only [u_n]; exact k2 j hj
    · simp only [upA_s]
    · rw [hf _ (by omega)]; simp +decide only [u_n]; exact k3
    · simp +decide only [u_n] at hj
      rw [hf _ (by omega)]; simp +decide only [u_n]; exact k4 j hj
    · simp +decide only [u_n] at hj
      rw [hf _ (by omega)]; simp +decide only [u_n]; exact k5 j hj
    · simp +decide only [u_n] at hj
      rw [hf _ (by omega)]; simp +decide only [u_n]; exact k6 j hj
    · rw [hf _ (by omega)]; exact kn
    · rw [hf _ (by omega)]; simp +decide only [u_n]; exact kc
    · have hj := (List.getElem?_eq_some_iff.mp hq).1
      have := kP.rg (show j < 8 by omega)
      exact (kK j q hq).same (fun x hx => hf _ (by omega))
    · exact kB.other (hf _ (by omega)) (hf _ (by omega)) (hf _ (by omega)) (hf _ (by omega))
    · have := kL.same (U := up1 T o 0 (nI (N 0 + 1))) (hf _ (by omega)) (hf _ (by omega)) (hf _ (by omega))
      simp +decide only [u_n]; exact this
    · rw [hf _ (by omega)]; simp +decide only [u_n]; exact k48 j hj
    · simp +decide only [u_n]; exact kJ.same (hf _ (by omega)) (hf _ (by omega))
  obtain ⟨T2, e2, f2, c2⟩ := c_charge (g := g) ho hD1 (by simp only [upA_s]; omega) (by simp +decide only [u_n]; omega) (by omega) (OS.of_wf hw) (fun q hq => (w6 q hq).2.2.2.1) w7 g2 (by simp +decide only [u_n]; exact eg)
  simp +decide only [upA_s, u_n] at c2
  have hs1 : chE (N 0 + 1 - g) (N 1) (upA N 0 (N 0 + 1), up1 V 0 0 (nI (N 0 + 1)), B, R) = dy1 (N, V, B, R) := by
    show _ = chE (N 0 + 1 - dyG V) (N 1) (dy0 (N, V, B, R))
    rw [hG]
  obtain ⟨n0, n1, n2, n3, n4, n5⟩ := ch_keep (l0 := N 0 + 1 - g) (s := (upA N 0 (N 0 + 1), up1 V 0 0 (nI (N 0 + 1)), B, R)) (N 1)
  have c2 : CSs o T2 P (chE (N 0 + 1 - g) (N 1) (upA N 0 (N 0 + 1), up1 V 0 0 (nI (N 0 + 1)), B, R)) K := c2
  rw [hs1] at c2 n0 n1 n2 n3 n4 n5
  obtain ⟨s, hsd⟩ : ∃ s, s = dy1 (N, V, B, R) := ⟨_, rfl⟩
  rw [← hsd] at c2 n0 n1 n2 n3 n4 n5
  have n0 : s.1 0 = N 0 + 1 := by rw [n0]; show upA N 0 (N 0 + 1) 0 = _; exact upA_s _ _ _
  have n1 : s.1 1 = N 1 := by rw [n1]; simp +decide only [u_n]
  have nv4 : s.2.1 4 = V 4 := by rw [n4 4 (by decide) (by decide)]; simp +decide only [u_n]
  have nB : s.2.2.1.length ≤ B.length := n5
  obtain ⟨T3, P3, e3, f3, q3, c3⟩ := c_loadVan (K := K) ho c2 (by omega) (by omega) (by omega) (fun c hc => by rw [nv4]; rw [n1] at hc; exact w2 c hc) (fun i hi => ⟨by rw [n1]; exact (w4 i _ (gK_at hi)).1, nh_small hw hi⟩) (by omega)
  have hss : (s.1, s.2.1, s.2.2.1, s.2.2.2) = s := rfl
  rw [hss] at c3
  refine ⟨T3, P3, ?_, fun a ha => ?_, q3, ?_⟩
  · have e2 : X 86 0 [.ref o, .long 0, .long 0, .long 0, .long 0] [] (H (up1 T o 0 (nI (N 0 + 1))) P) = some (none, H T2 P) := e2
    show X 85 0 [.ref o] [] (H T P) = some (some (.int (nI (K.length - (lvK (goK (dy1 (N, V, B, R)).1 (dy1 (N, V, B, R)).2.1) K).length))), H T3 P3)
    rw [← hsd]
    simp +decide only [x85_0, x85_1, x85_2, x85_5, x85_6, x85_7, x85_10, x85_11, x85_14, x85_15, x85_18, aft_some, aft_void, Option.bind_some, Option.toList_some, Option.toList_none, List.cons_append, List.nil_append, if_true, if_false, ↓reduceIte, eq_self, f0_o ho, ↓f0_0 ho, ↓f0_0p ho, ↓f0_1 ho, ↓f0_1p ho, ↓f0_2 ho, ↓f0_2p ho, ↓f0_3 ho, ↓f0_3p ho, ↓f0_4 ho, ↓f0_5 ho, ↓f0_6 ho, ↓f0_7 ho, ↓f0_8 ho, ↓f0_9 ho, ↓f0_10 ho, ↓f0_11 ho, ↓f1_g ho, ↓f1_s ho, ↓f2_g ho, ↓f2_s ho, hday, nI_1, ↓aft_of (e2), ↓aft_of (e3)]
  · rw [f3 a ha, f2 a ha]; exact upA_n _ _ (by omega)
  · show CSs o T3 P3 (lvE (goK (dy1 (N, V, B, R)).1 (dy1 (N, V, B, R)).2.1) (dy1 (N, V, B, R)) K) (lvK (goK (dy1 (N, V, B, R)).1 (dy1 (N, V, B, R)).2.1) K)
    rw [← hsd]; exact c3
end ND
