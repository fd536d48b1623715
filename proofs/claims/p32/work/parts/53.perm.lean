/-! baskets in their order: each once -/
theorem smI_add (f g : Nat → Int32) : ∀ n, smI (fun i => f i + g i) n = smI f n + smI g n
  | 0 => rfl
  | n + 1 => by
    simp only [smI]
    rw [smI_add f g n]
    grind
theorem smI_0 : ∀ n, smI (fun _ => 0) n = 0
  | 0 => rfl
  | n + 1 => by simp only [smI]; rw [smI_0 n]; rfl
theorem smI_sw (F : Nat → Nat → Int32) (n : Nat) : ∀ m, smI (fun k => smI (fun i => F k i) n) m = smI (fun i => smI (fun k => F k i) m) n
  | 0 => (smI_0 n).symm
  | m + 1 => by
    simp only [smI]
    rw [smI_sw F n m, ← smI_add]
theorem smI_at {f : Nat → Int32} {j : Nat} : ∀ {n : Nat}, j < n → smI (fun k => if j = k then f k else 0) n = f j
  | 0, h => absurd h (Nat.not_lt_zero _)
  | n + 1, h => by
    simp only [smI]
    by_cases c : j = n
    · subst c
      rw [if_pos rfl, smI_congr (g := fun _ => 0) (fun i hi => if_neg (by omega)), smI_0, Int32.zero_add]
    · rw [if_neg c, smI_at (by omega), Int32.add_zero]
theorem perm_sum {f : Nat → Int32} {c p : Nat → Nat} {n : Nat} (h1 : ∀ i, i < n → c i < n) (h2 : ∀ k, k < n → p k < n ∧ c (p k) = k) (h3 : ∀ i j, i < n → j < n → c i = c j → i = j) : smI (fun k => f (p k)) n = smI f n := by
  have e1 : smI (fun k => f (p k)) n = smI (fun k => smI (fun i => if c i = k then f i else 0) n) n := by
    refine smI_congr (fun k hk => ?_)
    obtain ⟨a, b⟩ := h2 k hk
    have e := smI_at (f := f) a
    rw [← e]
    refine smI_congr (fun i hi => ?_)
    by_cases q : p k = i
    · rw [if_pos q, if_pos (by rw [← q]; exact b)]
    · rw [if_neg q, if_neg]
      intro z
      exact q (h3 _ _ a hi (b.trans z.symm))
  rw [e1, smI_sw]
  exact smI_congr (fun i hi => smI_at (f := fun _ => f i) (h1 i hi))
noncomputable def pO (t : Nat → Int32) (n k : Nat) : Nat := @dite _ (k < n) (Classical.propDecidable _) (fun h => Classical.choose (cO_ex t n k h)) (fun _ => 0)
theorem pO_at {t : Nat → Int32} {n k : Nat} (h : k < n) : pO t n k < n ∧ cO t n (pO t n k) = k := by
  unfold pO
  rw [dif_pos h]
  exact Classical.choose_spec (cO_ex t n k h)
theorem pO_sum (t f : Nat → Int32) (n : Nat) : smI (fun k => f (pO t n k)) n = smI f n := perm_sum (fun i hi => cO_n hi) (fun k hk => pO_at hk) (fun i j hi hj h => cO_inj hi hj h)
/-- the baskets' order of u, and the place of the k-th -/
abbrev tU (u : uT) : Nat → Int32 := fun i => tnK u.1.1 u.1.2.1 (gK u.2 i)
noncomputable abbrev pU (u : uT) (k : Nat) : Nat := pO (tU u) u.2.length k
theorem ord_at {u : uT} (h8 : u.2.length ≤ 8) {k : Nat} (hk : k < u.2.length) : gOrd' (nI k) u = gK u.2 (pU u k) 0 0 := by
  obtain ⟨a, b⟩ := pO_at (t := tU u) hk
  have a' : pU u k < u.2.length := a
  have e : fstN (fun i => rkI (tU u) u.2.length i = nI k) 0 u.2.length = some (pU u k) := by
    refine fst_uni (Nat.zero_le _) (by omega) ?_ (fun j _ hj q => ?_)
    · show rkI _ _ _ = _
      rw [rk_c, b]
    · have q : rkI (tU u) u.2.length j = nI k := q
      rw [rk_c] at q
      have hl := cO_le (tU u) j u.2.length
      exact cO_inj (by omega) a ((nI_eq (by omega) (by omega)).mp q |>.trans b.symm)
  show (match fstN (fun i => rkI (tU u) u.2.length i = _) 0 u.2.length with
    | some i => gK u.2 i 0 0
    | none => -5) = _
  rw [e]
  try rfl
theorem ord_end {u : uT} (h8 : u.2.length ≤ 8) : gOrd' (nI u.2.length) u = -5 := by
  have e : fstN (fun i => rkI (tU u) u.2.length i = nI u.2.length) 0 u.2.length = none := by
    refine fst_none (fun j _ hj q => ?_)
    have q : rkI (tU u) u.2.length j = nI u.2.length := q
    rw [rk_c] at q
    have hl := cO_n (t := tU u) (n := u.2.length) (j := j) (by omega)
    have := (nI_eq (by omega) (by omega)).mp q
    omega
  show (match fstN (fun i => rkI (tU u) u.2.length i = _) 0 u.2.length with
    | some i => gK u.2 i 0 0
    | none => -5) = _
  rw [e]
  try rfl
theorem wn_at {u : uT} (hw : WFu u) {i : Nat} (hi : i < u.2.length) : wnK (gK u.2 i 0 0) u.2 = some i := by
  refine fst_uni (Nat.zero_le _) (by omega) rfl (fun j _ hj q => ?_)
  apply Classical.byContradiction
  intro hne
  have hj : j < u.2.length := by omega
  have hN := hw.1.1.2.2.1
  rcases Nat.lt_or_gt_of_ne hne with c | c
  · obtain ⟨x, y, h1, h2, e1, e2⟩ := hw.1.2.2.2.2.1 j i _ _ c (gK_at hj) (gK_at hi)
    rw [e1, e2] at q
    have := (nI_eq (by omega) (by omega)).mp q
    omega
  · obtain ⟨x, y, h1, h2, e1, e2⟩ := hw.1.2.2.2.2.1 i j _ _ c (gK_at hi) (gK_at hj)
    rw [e1, e2] at q
    have := (nI_eq (by omega) (by omega)).mp q
    omega
theorem bas_at {s : gT} (hw : WFu s.1) {i : Nat} (hi : i < s.1.2.length) (w : Int32) : gBasOf (gK s.1.2 i 0 0) w s = tbK (gK s.1.2 i) w := by
  unfold gBasOf
  rw [wn_at hw hi]
  try rfl
