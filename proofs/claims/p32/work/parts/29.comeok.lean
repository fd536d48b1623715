/-! a basket that comes keeps what always holds -/
def pcN (m : Nat) : Nat := m % 2 + m / 2 % 2 + m / 4 % 2 + m / 8 % 2 + m / 16 % 2 + m / 32 % 2 + m / 64 % 2 + m / 128 % 2
theorem pc_or : ∀ q, q < 8 → ∀ m, m < 256 → nI m ||| ((1 : Int32) <<< (nI q &&& 31)) = nI (m ||| 2 ^ q) ∧ m ||| 2 ^ q < 256 ∧ pcN (m ||| 2 ^ q) ≤ pcN m + 1 := by decide +kernel
theorem fp_small : ∀ m, m < 256 → pcN m < 8 → ∃ p, p < 8 ∧ fpI (nI m) = nI p := by decide +kernel
theorem us_small {f : Nat → Int32} : ∀ {n : Nat}, (∀ i, i < n → ∃ q, q < 8 ∧ f i = nI q) → ∃ m, m < 256 ∧ usI f n = nI m ∧ pcN m ≤ n
  | 0, _ => ⟨0, by decide, rfl, by decide⟩
  | n + 1, h => by
    obtain ⟨m, hm, e, hp⟩ := us_small (n := n) (fun i hi => h i (by omega))
    obtain ⟨q, hq, eq⟩ := h n (by omega)
    obtain ⟨h1, h2, h3⟩ := pc_or q hq m hm
    refine ⟨m ||| 2 ^ q, h2, ?_, by omega⟩
    simp only [usI]
    rw [e, eq, h1]
theorem dig_small {m k : Nat} (hm : m ≤ 9999) (hk : k < 4) : ∃ x, x ≤ 9 ∧ digI (nI m) k = nI x := by
  have e : ∀ b, 0 < b → b < 2 ^ 31 → nI m / nI b - nI m / nI b / 10 * 10 = nI (m / b % 10) := fun b h0 hb => by
    rw [nI_divp (by omega) hb h0]
    exact nI_modp (b := 10) (by have := Nat.div_le_self m b; omega) (by decide) (by decide)
  match k, hk with
  | 0, _ => exact ⟨_, by omega, e 1000 (by decide) (by decide)⟩
  | 1, _ => exact ⟨_, by omega, e 100 (by decide) (by decide)⟩
  | 2, _ => exact ⟨_, by omega, e 10 (by decide) (by decide)⟩
  | 3, _ => exact ⟨_, by omega, e 1 (by decide) (by decide)⟩
theorem tk_all (c : Nat) : ∀ (g : Nat) (B : List bT), allL (tkL c g B) + min g (outL c B) = allL B
  | g, [] => by simp only [tkL, allL, outL]; omega
  | g, q :: B => by
    simp only [tkL, outL]
    by_cases h : q.1 = c
    · rw [if_pos h, if_pos h]
      have := tk_all c (g - min g q.2.2) B
      simp only [allL]; omega
    · rw [if_neg h, if_neg h]
      have := tk_all c g B
      simp only [allL]; omega
theorem tk_mem (c : Nat) : ∀ (g : Nat) (B : List bT) (q : bT), q ∈ tkL c g B → ∃ p ∈ B, q.1 = p.1 ∧ q.2.1 = p.2.1 ∧ q.2.2 ≤ p.2.2
  | _, [], _, h => by cases h
  | g, r :: B, q, h => by
    unfold tkL at h
    split at h
    · rcases List.mem_cons.mp h with rfl | h
      · exact ⟨r, List.mem_cons_self, rfl, rfl, Nat.sub_le _ _⟩
      · obtain ⟨p, hp, e⟩ := tk_mem c _ B q h
        exact ⟨p, List.mem_cons_of_mem _ hp, e⟩
    · rcases List.mem_cons.mp h with rfl | h
      · exact ⟨q, List.mem_cons_self, rfl, rfl, Nat.le_refl _⟩
      · obtain ⟨p, hp, e⟩ := tk_mem c _ B q h
        exact ⟨p, List.mem_cons_of_mem _ hp, e⟩
theorem tk_pw (c : Nat) : ∀ (g : Nat) (B : List bT), B.Pairwise (fun p q => p.2.1 ≤ q.2.1) → (tkL c g B).Pairwise (fun p q => p.2.1 ≤ q.2.1)
  | _, [], _ => List.Pairwise.nil
  | g, r :: B, h => by
    obtain ⟨h1, h2⟩ := List.pairwise_cons.mp h
    unfold tkL
    split
    · refine List.pairwise_cons.mpr ⟨fun q hq => ?_, tk_pw c _ B h2⟩
      obtain ⟨p, hp, -, e, -⟩ := tk_mem c _ B q hq
      show r.2.1 ≤ _
      rw [e]; exact h1 p hp
    · refine List.pairwise_cons.mpr ⟨fun q hq => ?_, tk_pw c _ B h2⟩
      obtain ⟨p, hp, -, e, -⟩ := tk_mem c _ B q hq
      rw [e]; exact h1 p hp
theorem WF_come {N : Nat → Nat} {V : Nat → Nat → Int32} {K : List kT} {B : List bT} {p st : Int32} {c g : Nat} (hw : WF N V K B) (hc : c < N 1) (h8 : K.length < 8) (h2 : N 2 < 99) (hg : g ≤ outL c B) (hp : ∃ m, m ≤ 9999 ∧ p = nI m) (hs : ∃ s, s ≤ 3 ∧ st = nI s) : WF (rcN N) (up1 V 0 1 (V 0 1 + nI g)) (rcK N V K c p st) (dropE (tkL c g B)) := by
  obtain ⟨⟨a0, a1, a2, a3, a4, a5⟩, w2, w3, w4, w5, ⟨w6, w7, w8⟩, w9, w10⟩ := id hw
  obtain ⟨pm, hpm, ep⟩ := hp
  have hv : ∀ r, r ≠ 0 → up1 V 0 1 (V 0 1 + nI g) r = V r := fun r hr => upA_n _ _ hr
  have h2' : rcN N 2 = N 2 + 1 := by simp +decide only [u_n, upA_s]
  have h0' : rcN N 0 = N 0 := by simp +decide only [u_n]
  have h1' : rcN N 1 = N 1 := by simp +decide only [u_n]
  have h3' : rcN N 3 = N 3 := by simp +decide only [u_n]
  have hl : (rcK N V K c p st).length = K.length + 1 := List.length_append
  have hdl : (dropE (tkL c g B)).length ≤ B.length := by
    refine Nat.le_trans (List.length_filter_le _ _) ?_
    rw [tkL_len]; exact Nat.le_refl _
  have hat : ∀ (i : Nat) (b : kT), (rcK N V K c p st)[i]? = some b → (i < K.length ∧ K[i]? = some b) ∨ (i = K.length ∧ b = newK (nI (N 2)) (nI c) (fpI (usI (fun i => gK K i 0 2) K.length)) st (V 0 0) p) := by
    intro i b hb
    by_cases hi : i < K.length
    · rw [List.getElem?_append_left hi] at hb; exact Or.inl ⟨hi, hb⟩
    · rw [List.getElem?_append_right (by omega)] at hb
      have hz : i - K.length < 1 := (List.getElem?_eq_some_iff.mp hb).1
      have hie : i = K.length := by omega
      subst hie
      rw [Nat.sub_self] at hb
      cases hb
      exact Or.inr ⟨rfl, rfl⟩
  refine ⟨⟨?_, ?_, ?_, ?_, ?_, ?_⟩, ?_, ?_, ?_, ?_, ⟨?_, ?_, ?_⟩, ?_, ?_⟩
  · rw [h0']; exact a0
  · rw [h1']; exact a1
  · rw [h2']; omega
  · rw [hl]; omega
  · rw [h3']; exact a4
  · show upA _ 4 _ 4 ≤ 10
    rw [upA_s]; omega
  · rw [h1', hv 4 (by decide)]; exact w2
  · rw [hv 1 (by decide)]; exact w3
  · intro i b hb
    rw [h1', h2']
    rcases hat i b hb with ⟨hi, hb⟩ | ⟨-, rfl⟩
    · obtain ⟨x1, x2, ⟨x, hx, ex⟩, x4⟩ := w4 i b hb
      exact ⟨x1, x2, ⟨x, by omega, ex⟩, x4⟩
    · obtain ⟨m, hm, em, hpc⟩ := us_small (f := fun i => gK K i 0 2) (n := K.length) (fun i hi => (w4 i _ (gK_at hi)).2.1)
      obtain ⟨q, hq, eq⟩ := fp_small m hm (by omega)
      refine ⟨⟨c, hc, rfl⟩, ⟨q, hq, ?_⟩, ⟨N 2, by omega, rfl⟩, hs, fun k hk => ?_⟩
      · show fpI (usI (fun i => gK K i 0 2) K.length) = nI q
        rw [em, eq]
      · obtain ⟨x, hx, ex⟩ := dig_small hpm hk
        exact ⟨x, 0, 0, hx, by omega, by rw [ep]; exact ex, rfl, rfl⟩
  · intro i j b d hij hb hd
    rw [h2']
    rcases hat i b hb with ⟨hi, hb⟩ | ⟨hi, -⟩
    · rcases hat j d hd with ⟨hj, hd⟩ | ⟨hj, rfl⟩
      · obtain ⟨x, y, hxy, hy, e⟩ := w5 i j b d hij hb hd
        exact ⟨x, y, hxy, by omega, e⟩
      · obtain ⟨-, -, ⟨x, hx, ex⟩, -⟩ := w4 i b hb
        exact ⟨x, N 2, hx, by omega, ex, rfl⟩
    · have := (List.getElem?_eq_some_iff.mp hd).1
      omega
  · intro q hq
    obtain ⟨m1, m2⟩ := List.mem_filter.mp hq
    obtain ⟨r, hr, e1, e2, e3⟩ := tk_mem c g B q m1
    have := w6 r hr
    have m2 : 0 < q.2.2 := of_decide_eq_true m2
    rw [h0', h1', e1, e2]
    exact ⟨this.1, this.2.1, this.2.2.1, m2, by omega⟩
  · exact (tk_pw c g B w7).filter _
  · rw [hl, h2']; omega
  · rw [h3', hv 46 (by decide)]; exact w9
  · rw [sm_sk, skL_app, h1', hv 6 (by decide), allL_drop]
    rw [sm_sk] at w10
    have ha := tk_all c g B
    have hmin : min g (outL c B) = g := Nat.min_eq_left hg
    rw [hmin] at ha
    have hA : nI (allL (tkL c g B)) + nI g = nI (allL B) := by rw [nI_add, ha]
    have hn : skL [newK (nI (N 2)) (nI c) (fpI (usI (fun i => gK K i 0 2) K.length)) st (V 0 0) p] = 0 := rfl
    have hv1 : up1 V 0 1 (V 0 1 + nI g) 0 1 = V 0 1 + nI g := by simp only [upA_s]
    have hv2 : up1 V 0 1 (V 0 1 + nI g) 0 2 = V 0 2 := by simp +decide only [upA_s, u_n]
    rw [hn, hv1, hv2]
    grind
