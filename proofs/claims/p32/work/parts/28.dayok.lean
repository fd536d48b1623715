/-! a day keeps what always holds -/
theorem allL_drop : ∀ B : List bT, allL (dropE B) = allL B
  | [] => rfl
  | q :: B => by
    have ih := allL_drop B
    unfold dropE at ih ⊢
    rw [List.filter_cons]
    by_cases h : 0 < q.2.2
    · rw [if_pos (decide_eq_true h)]
      simp only [allL, ih]
    · rw [if_neg (by simpa using h), ih]
      simp only [allL]; omega
theorem allL_zero (l0 c : Nat) : ∀ B : List bT, allL (zeroL l0 c B) + oldL l0 c B = allL B
  | [] => rfl
  | q :: B => by
    have ih := allL_zero l0 c B
    unfold zeroL at ih ⊢
    rw [List.map_cons]
    by_cases h : q.1 = c ∧ q.2.1 < l0
    · rw [if_pos h]
      simp only [allL, oldL, if_pos h]; omega
    · rw [if_neg h]
      simp only [allL, oldL, if_neg h]; omega
theorem memDZ {l0 c : Nat} {B : List bT} {q : bT} (h : q ∈ dropE (zeroL l0 c B)) : q ∈ B ∧ ¬ (q.1 = c ∧ q.2.1 < l0) := by
  unfold dropE at h
  obtain ⟨h1, h2⟩ := List.mem_filter.mp h
  unfold zeroL at h1
  obtain ⟨p, hp, e⟩ := List.mem_map.mp h1
  have h2 : 0 < q.2.2 := of_decide_eq_true h2
  by_cases hc : p.1 = c ∧ p.2.1 < l0
  · rw [if_pos hc] at e
    rw [← e] at h2
    exact absurd h2 (Nat.lt_irrefl 0)
  · rw [if_neg hc] at e
    subst e
    exact ⟨hp, hc⟩
theorem pwDZ {l0 c : Nat} {B : List bT} (h : B.Pairwise (fun p q => p.2.1 ≤ q.2.1)) : (dropE (zeroL l0 c B)).Pairwise (fun p q => p.2.1 ≤ q.2.1) := by
  unfold dropE
  refine List.Pairwise.filter _ ?_
  unfold zeroL
  rw [List.pairwise_map]
  refine h.imp ?_
  intro p q hpq
  have e : ∀ r : bT, (if r.1 = c ∧ r.2.1 < l0 then (r.1, r.2.1, 0) else r).2.1 = r.2.1 := by
    intro r
    split <;> rfl
  rw [e, e]; exact hpq
/-- what a charging keeps -/
theorem ch_ok {l0 : Nat} {s : sT} {m : Nat} (hp : s.2.2.1.Pairwise (fun p q => p.2.1 ≤ q.2.1)) : ∀ n, n ≤ m → (∀ q ∈ (chE l0 n s).2.2.1, q ∈ s.2.2.1 ∧ (q.1 < n → ¬ q.2.1 < l0)) ∧ (chE l0 n s).2.2.1.Pairwise (fun p q => p.2.1 ≤ q.2.1) ∧ nI (allL (chE l0 n s).2.2.1) + smI ((chE l0 n s).2.1 6) m = nI (allL s.2.2.1) + smI (s.2.1 6) m ∧ (chE l0 n s).1 4 ≤ 10 ∨ ¬ s.1 4 ≤ 10
  | 0, _ => by
    by_cases h : s.1 4 ≤ 10
    · exact Or.inl ⟨fun q hq => ⟨hq, fun h => absurd h (Nat.not_lt_zero _)⟩, hp, rfl, h⟩
    · exact Or.inr h
  | n + 1, hn => by
    rcases ch_ok (m := m) hp n (by omega) with ⟨h1, h2, h3, h4⟩ | h
    · refine Or.inl ?_
      obtain ⟨t, ht⟩ : ∃ t, t = chE l0 n s := ⟨_, rfl⟩
      rw [← ht] at h1 h2 h3 h4
      have hE : chE l0 (n + 1) s = chS l0 t n := by rw [ht]; rfl
      rw [hE]
      have hm : ∀ q ∈ dropE (zeroL l0 n t.2.2.1), q ∈ s.2.2.1 ∧ (q.1 < n + 1 → ¬ q.2.1 < l0) := by
        intro q hq
        obtain ⟨g1, g2⟩ := memDZ hq
        refine ⟨(h1 q g1).1, fun hlt => ?_⟩
        by_cases hqn : q.1 = n
        · exact fun z => g2 ⟨hqn, z⟩
        · exact (h1 q g1).2 (by omega)
      have ha := allL_zero l0 n t.2.2.1
      have hd := allL_drop (zeroL l0 n t.2.2.1)
      unfold chS
      by_cases h0 : 0 < oldL l0 n t.2.2.1
      · rw [if_pos h0]
        refine ⟨hm, pwDZ h2, ?_, ?_⟩
        · show nI (allL (dropE (zeroL l0 n t.2.2.1))) + smI (chV t.2.1 n (oldL l0 n t.2.2.1) 6) m = _
          have e6 : chV t.2.1 n (oldL l0 n t.2.2.1) 6 = upA (t.2.1 6) n (t.2.1 6 n + nI (oldL l0 n t.2.2.1)) := by simp +decide only [u_n, upA_s]
          rw [e6, smI_set (by omega), hd, ← h3, ← ha, ← nI_add]
          grind
        · show hoN t.1 4 ≤ 10
          simp only [upA_s]; omega
      · rw [if_neg h0]
        refine ⟨hm, pwDZ h2, ?_, h4⟩
        show nI (allL (dropE (zeroL l0 n t.2.2.1))) + smI (t.2.1 6) m = _
        rw [hd, ← h3]
        congr 2
        omega
    · exact Or.inr h
def skL : List kT → Int32
  | [] => 0
  | b :: K => nhI (b 2) + skL K
theorem skL_app : ∀ A B : List kT, skL (A ++ B) = skL A + skL B
  | [], B => by simp only [skL, List.nil_append, Int32.zero_add]
  | a :: A, B => by simp only [List.cons_append, skL, skL_app A B]; grind
theorem sm_skL {K : List kT} : ∀ n, n ≤ K.length → smI (fun i => nhI (gK K i 2)) n = skL (K.take n)
  | 0, _ => rfl
  | n + 1, h => by
    rw [take_s (gK_at (show n < K.length by omega)), skL_app, ← sm_skL n (by omega)]
    simp only [smI, skL]
    grind
theorem sm_sk (K : List kT) : smI (fun i => nhI (gK K i 2)) K.length = skL K := by
  rw [sm_skL K.length (Nat.le_refl _), List.take_length]
theorem lvK_sub (g : kT → Prop) : ∀ K : List kT, List.Sublist (lvK g K) K
  | [] => List.Sublist.slnil
  | b :: K => by
    show List.Sublist (@ite _ (g b) (Classical.propDecidable _) (lvK g K) (b :: lvK g K)) _
    by_cases h : g b
    · rw [if_pos h]; exact (lvK_sub g K).cons _
    · rw [if_neg h]; exact (lvK_sub g K).cons_cons _
/-- the order of the numbers, said of pairs -/
def ordK (n : Nat) (K : List kT) : Prop := K.Pairwise (fun b c => ∃ x y, x < y ∧ y < n ∧ b 0 0 = nI x ∧ c 0 0 = nI y)
theorem ordK_iff {n : Nat} {K : List kT} : ordK n K ↔ ∀ (i j : Nat) (b c : kT), i < j → K[i]? = some b → K[j]? = some c → ∃ x y, x < y ∧ y < n ∧ b 0 0 = nI x ∧ c 0 0 = nI y := by
  unfold ordK
  rw [List.pairwise_iff_getElem]
  constructor
  · intro h i j b c hij hb hc
    obtain ⟨h1, rfl⟩ := List.getElem?_eq_some_iff.mp hb
    obtain ⟨h2, rfl⟩ := List.getElem?_eq_some_iff.mp hc
    exact h i j h1 h2 hij
  · intro h i j h1 h2 hij
    exact h i j _ _ hij (List.getElem?_eq_getElem h1) (List.getElem?_eq_getElem h2)
/-- what the van keeps -/
theorem lv_ok (g : kT → Prop) {n1 : Nat} : ∀ (K : List kT) (s : sT), (∀ b ∈ K, (∃ c, c < n1 ∧ n1 ≤ 10 ∧ b 0 1 = nI c) ∧ ∃ x, x ≤ 27 ∧ nhI (b 2) = nI x) → s.1 4 ≤ 10 → (∀ q ∈ s.2.2.1, q.2.1 ≤ s.1 0) → s.2.2.1.Pairwise (fun p q => p.2.1 ≤ q.2.1) →
    (lvE g s K).1 4 ≤ 10 ∧ (∀ q ∈ (lvE g s K).2.2.1, q ∈ s.2.2.1 ∨ (q.1 < n1 ∧ q.2.1 = s.1 0 ∧ 0 < q.2.2 ∧ q.2.2 ≤ 27)) ∧ (lvE g s K).2.2.1.Pairwise (fun p q => p.2.1 ≤ q.2.1) ∧ skL (lvK g K) + nI (allL (lvE g s K).2.2.1) = skL K + nI (allL s.2.2.1) ∧ (lvE g s K).2.2.1.length + (lvK g K).length ≤ s.2.2.1.length + K.length
  | [], s, _, h4, _, hp => ⟨h4, fun q hq => Or.inl hq, hp, rfl, Nat.le_refl _⟩
  | b :: K, s, hK, h4, hq, hp => by
    have hK' := fun x hx => hK x (List.mem_cons_of_mem _ hx)
    obtain ⟨⟨c, hc, hn, ec⟩, x, hx, ex⟩ := hK b List.mem_cons_self
    by_cases hg : g b
    · have e1 : lvE g s (b :: K) = lvE g (hoS s b) K := by
        show lvE g (@ite _ (g b) (Classical.propDecidable _) (hoS s b) s) K = _
        rw [if_pos hg]
      have e2 : lvK g (b :: K) = lvK g K := by
        show @ite _ (g b) (Classical.propDecidable _) _ _ = _
        rw [if_pos hg]
      have hnx : (nhI (b 2)).toNatClampNeg = x := by rw [ex, nI_clamp (by omega)]
      have hcu : cuK b = c := by unfold cuK; rw [ec, nI_clamp (by omega)]
      have hB : (hoS s b).2.2.1 = if 0 < x then s.2.2.1 ++ [(c, s.1 0, x)] else s.2.2.1 := by
        show hoB s.1 s.2.2.1 b = _
        unfold hoB
        rw [hnx, hcu]
      have h0 : (hoS s b).1 0 = s.1 0 := by
        show hoN s.1 0 = s.1 0
        simp +decide only [u_n]
      have h4' : (hoS s b).1 4 ≤ 10 := by
        show hoN s.1 4 ≤ 10
        simp only [upA_s]; omega
      have hq' : ∀ q ∈ (hoS s b).2.2.1, q.2.1 ≤ (hoS s b).1 0 := by
        intro q hm
        rw [h0]
        rw [hB] at hm
        split at hm
        · rcases List.mem_append.mp hm with hm | hm
          · exact hq q hm
          · have := List.mem_singleton.mp hm
            subst this
            exact Nat.le_refl _
        · exact hq q hm
      have hp' : (hoS s b).2.2.1.Pairwise (fun p q => p.2.1 ≤ q.2.1) := by
        rw [hB]
        split
        · rw [List.pairwise_append]
          refine ⟨hp, List.pairwise_singleton _ _, fun p hp1 q hq1 => ?_⟩
          have := List.mem_singleton.mp hq1
          subst this
          exact hq p hp1
        · exact hp
      obtain ⟨r1, r2, r3, r4, r5⟩ := lv_ok g (n1 := n1) K (hoS s b) hK' h4' hq' hp'
      rw [e1, e2]
      have hA : nI (allL (hoS s b).2.2.1) = nI (allL s.2.2.1) + nhI (b 2) := by
        rw [hB, ex, nI_add]
        split
        · rw [allL_app]; rfl
        · congr 1; omega
      have hL : (hoS s b).2.2.1.length ≤ s.2.2.1.length + 1 := by
        rw [hB]
        split
        · rw [List.length_append]; exact Nat.le_refl _
        · omega
      refine ⟨r1, fun q hm => ?_, r3, ?_, by rw [List.length_cons]; omega⟩
      · rcases r2 q hm with hm | hm
        · rw [hB] at hm
          split at hm
          · rcases List.mem_append.mp hm with hm | hm
            · exact Or.inl hm
            · have := List.mem_singleton.mp hm
              subst this
              exact Or.inr ⟨hc, rfl, by assumption, hx⟩
          · exact Or.inl hm
        · rw [h0] at hm; exact Or.inr hm
      · rw [r4, hA]
        simp only [skL]
        grind
    · have e1 : lvE g s (b :: K) = lvE g s K := by
        show lvE g (@ite _ (g b) (Classical.propDecidable _) (hoS s b) s) K = _
        rw [if_neg hg]
      have e2 : lvK g (b :: K) = b :: lvK g K := by
        show @ite _ (g b) (Classical.propDecidable _) _ _ = _
        rw [if_neg hg]
      obtain ⟨r1, r2, r3, r4, r5⟩ := lv_ok g (n1 := n1) K s hK' h4 hq hp
      rw [e1, e2]
      refine ⟨r1, r2, r3, ?_, by rw [List.length_cons, List.length_cons]; omega⟩
      simp only [skL]
      grind
theorem WF_day {N : Nat → Nat} {V : Nat → Nat → Int32} {K : List kT} {B : List bT} {R : Nat → Nat → Int32} (hw : WF N V K B) (hd : N 0 < 10100) : WF (dyS (N, V, B, R) K).1 (dyS (N, V, B, R) K).2.1 (dyK (N, V, B, R) K) (dyS (N, V, B, R) K).2.2.1 := by
  obtain ⟨⟨a0, a1, a2, a3, a4, a5⟩, w2, ⟨⟨m, hm, em⟩, ⟨g, g1, g2, eg⟩, w3⟩, w4, w5, ⟨w6, w7, w8⟩, w9, w10⟩ := id hw
  have hG : dyG V = g := by unfold dyG; rw [eg, nI_clamp (by omega)]
  obtain ⟨s, hsd⟩ : ∃ s, s = dy1 (N, V, B, R) := ⟨_, rfl⟩
  have hs1 : s = chE (N 0 + 1 - g) (N 1) (dy0 (N, V, B, R)) := by
    rw [hsd]
    show chE (N 0 + 1 - dyG V) (N 1) (dy0 (N, V, B, R)) = _
    rw [hG]
  obtain ⟨n0, n1, n2, n3, n4, n5⟩ := ch_keep (l0 := N 0 + 1 - g) (s := dy0 (N, V, B, R)) (N 1)
  have hc := ch_ok (l0 := N 0 + 1 - g) (s := dy0 (N, V, B, R)) (m := N 1) w7 (N 1) (Nat.le_refl _)
  rw [← hs1] at n0 n1 n2 n3 n4 n5 hc
  have z4 : (dy0 (N, V, B, R)).1 4 = N 4 := by show upA N 0 (N 0 + 1) 4 = N 4; simp +decide only [u_n]
  have n0 : s.1 0 = N 0 + 1 := by rw [n0]; show upA N 0 (N 0 + 1) 0 = _; exact upA_s _ _ _
  have n1 : s.1 1 = N 1 := by rw [n1]; show upA N 0 (N 0 + 1) 1 = _; simp +decide only [u_n]
  have n2 : s.1 2 = N 2 := by rw [n2]; show upA N 0 (N 0 + 1) 2 = _; simp +decide only [u_n]
  have n3 : s.1 3 = N 3 := by rw [n3]; show upA N 0 (N 0 + 1) 3 = _; simp +decide only [u_n]
  have nv : ∀ r, r ≠ 0 → r ≠ 5 → r ≠ 6 → s.2.1 r = V r := fun r q0 q5 q6 => by
    rw [n4 r q5 q6]; show up1 V 0 0 (nI (N 0 + 1)) r = _; exact upA_n _ _ q0
  have nv0 : ∀ j, j ≠ 0 → s.2.1 0 j = V 0 j := fun j hj => by
    rw [n4 0 (by decide) (by decide)]; show up1 V 0 0 (nI (N 0 + 1)) 0 j = _
    simp only [upA_s]; exact upA_n _ _ hj
  obtain ⟨c1, c2, c3, c4⟩ := hc.resolve_right (by rw [z4]; omega)
  have c3 : nI (allL s.2.2.1) + smI (s.2.1 6) (N 1) = nI (allL B) + smI (V 6) (N 1) := by
    rw [c3]
    show nI (allL B) + smI (up1 V 0 0 (nI (N 0 + 1)) 6) (N 1) = _
    simp +decide only [u_n]
  have c1 : ∀ q ∈ s.2.2.1, q ∈ B ∧ ¬ q.2.1 < N 0 + 1 - g := fun q hq => by
    have h1 := c1 q hq
    have h2 : q ∈ B := h1.1
    exact ⟨h2, h1.2 (w6 q h2).1⟩
  have hKm : ∀ b ∈ K, ∃ i, i < K.length ∧ K[i]? = some b := fun b hb => by
    obtain ⟨i, hi, e⟩ := List.getElem_of_mem hb
    exact ⟨i, hi, by rw [← e]; exact List.getElem?_eq_getElem hi⟩
  obtain ⟨l0, l1, l2, l3, l4, l5⟩ := lvE_keep (goK s.1 s.2.1) s K
  obtain ⟨r1, r2, r3, r4, r5⟩ := lv_ok (goK s.1 s.2.1) (n1 := N 1) K s (fun b hb => by
    obtain ⟨i, hi, e⟩ := hKm b hb
    obtain ⟨⟨c, hc, ec⟩, -⟩ := w4 i b e
    refine ⟨⟨c, hc, a1, ec⟩, ?_⟩
    have := nh_small hw hi
    rwa [gK_of e] at this) c4 (fun q hq => by rw [n0]; have := (w6 q (c1 q hq).1).2.1; omega) c2
  have hsub := lvK_sub (goK s.1 s.2.1) K
  have hB5 : s.2.2.1.length ≤ B.length := n5
  show WF (lvE (goK (dy1 (N, V, B, R)).1 (dy1 (N, V, B, R)).2.1) (dy1 (N, V, B, R)) K).1 (lvE (goK (dy1 (N, V, B, R)).1 (dy1 (N, V, B, R)).2.1) (dy1 (N, V, B, R)) K).2.1 (lvK (goK (dy1 (N, V, B, R)).1 (dy1 (N, V, B, R)).2.1) K) (lvE (goK (dy1 (N, V, B, R)).1 (dy1 (N, V, B, R)).2.1) (dy1 (N, V, B, R)) K).2.2.1
  rw [← hsd]
  have hle := lvK_le (goK s.1 s.2.1) K
  refine ⟨⟨?_, ?_, ?_, ?_, ?_, r1⟩, ?_, ⟨⟨m, hm, ?_⟩, ⟨g, g1, g2, ?_⟩, ?_⟩, ?_, ?_, ⟨?_, r3, ?_⟩, ?_, ?_⟩
  · rw [l0, n0]; omega
  · rw [l1, n1]; omega
  · rw [l2, n2]; omega
  · omega
  · rw [l3, n3]; omega
  · rw [l1, n1, l4 4 (by decide), nv 4 (by decide) (by decide) (by decide)]; exact w2
  · rw [l4 1 (by decide), nv 1 (by decide) (by decide) (by decide)]; exact em
  · rw [l4 1 (by decide), nv 1 (by decide) (by decide) (by decide)]; exact eg
  · rw [l4 1 (by decide), nv 1 (by decide) (by decide) (by decide)]; exact w3
  · intro i b hb
    have hbm : b ∈ K := hsub.subset (List.mem_of_getElem? hb)
    obtain ⟨j, hj, e⟩ := hKm b hbm
    rw [l1, n1, l2, n2]
    exact w4 j b e
  · rw [l2, n2]
    exact ordK_iff.mp ((ordK_iff.mpr w5).sublist hsub)
  · intro q hq
    rw [l0, n0, l1, n1]
    rcases r2 q hq with h | h
    · have h1 := c1 q h
      have h2 := w6 q h1.1
      exact ⟨h2.1, by omega, by omega, h2.2.2.2.1, h2.2.2.2.2⟩
    · rw [n0] at h
      exact ⟨h.1, by omega, by omega, h.2.2.1, h.2.2.2⟩
  · rw [l2, n2]; omega
  · rw [l3, n3, l4 46 (by decide), nv 46 (by decide) (by decide) (by decide)]; exact w9
  · rw [sm_sk, l1, n1, l4 0 (by decide), l4 6 (by decide), nv0 1 (by decide), nv0 2 (by decide)]
    rw [sm_sk] at w10
    grind
