/-! ranks are the numbers below the count, each once -/
abbrev ltO (t : Nat → Int32) (i j : Nat) : Prop := t i < t j ∨ (t i = t j ∧ i < j)
theorem ltO_i {t : Nat → Int32} {i j : Nat} : ltO t i j ↔ (t i).toInt < (t j).toInt ∨ ((t i).toInt = (t j).toInt ∧ i < j) := by
  unfold ltO
  rw [Int32.lt_iff_toInt_lt, Int32.toInt_inj]
theorem ltO_irr {t : Nat → Int32} {i : Nat} : ¬ ltO t i i := by rw [ltO_i]; omega
theorem ltO_tr {t : Nat → Int32} {i j k : Nat} (h : ltO t i j) (g : ltO t j k) : ltO t i k := by
  rw [ltO_i] at *; omega
theorem ltO_tot {t : Nat → Int32} {i j : Nat} (h : ¬ ltO t i j) (hn : i ≠ j) : ltO t j i := by
  rw [ltO_i] at *; omega
/-- how many of the first n come before p -/
def cO (t : Nat → Int32) (n p : Nat) : Nat := sN (fun i => if t i < t p ∨ (t i = t p ∧ i < p) then 1 else 0) n
theorem rk_c (t : Nat → Int32) (n p : Nat) : rkI t n p = nI (cO t n p) := by
  unfold rkI cO
  rw [← smI_nI]
  refine smI_congr (fun i _ => ?_)
  split <;> rfl
theorem sN_le {g h : Nat → Nat} : ∀ {n : Nat}, (∀ i, i < n → g i ≤ h i) → sN g n ≤ sN h n
  | 0, _ => Nat.le_refl _
  | n + 1, e => by
    simp only [sN]
    have := sN_le (n := n) (fun i hi => e i (by omega))
    have := e n (by omega)
    omega
theorem sN_lt {g h : Nat → Nat} {j : Nat} : ∀ {n : Nat}, (∀ i, i < n → g i ≤ h i) → j < n → g j < h j → sN g n < sN h n
  | 0, _, hj, _ => absurd hj (Nat.not_lt_zero _)
  | n + 1, e, hj, hl => by
    simp only [sN]
    by_cases c : j = n
    · subst c
      have := sN_le (n := j) (fun i hi => e i (by omega))
      omega
    · have := sN_lt (n := n) (fun i hi => e i (by omega)) (by omega) hl
      have := e n (by omega)
      omega
theorem cO_mono {t : Nat → Int32} {n p q : Nat} (h : ltO t p q) : cO t n p ≤ cO t n q := by
  refine sN_le (fun i _ => ?_)
  by_cases c : ltO t i p
  · rw [if_pos c, if_pos (ltO_tr c h)]; exact Nat.le_refl _
  · rw [if_neg c]; omega
theorem cO_lt {t : Nat → Int32} {n p q : Nat} (h : ltO t p q) (hp : p < n) : cO t n p < cO t n q := by
  refine sN_lt (j := p) (fun i _ => ?_) hp ?_
  · by_cases c : ltO t i p
    · rw [if_pos c, if_pos (ltO_tr c h)]; exact Nat.le_refl _
    · rw [if_neg c]; omega
  · rw [if_neg ltO_irr, if_pos h]; omega
theorem cO_le (t : Nat → Int32) (p : Nat) : ∀ n, cO t n p ≤ n
  | 0 => Nat.le_refl _
  | n + 1 => by
    have := cO_le t p n
    unfold cO at this ⊢
    simp only [sN]
    split <;> omega
theorem cO_s (t : Nat → Int32) (n p : Nat) : cO t (n + 1) p = cO t n p + if t n < t p ∨ (t n = t p ∧ n < p) then 1 else 0 := rfl
theorem cO_n {t : Nat → Int32} {j : Nat} : ∀ {n : Nat}, j < n → cO t n j < n
  | 0, h => absurd h (Nat.not_lt_zero _)
  | n + 1, h => by
    rw [cO_s]
    by_cases c : j = n
    · subst c
      have h1 : ¬ (t j < t j ∨ (t j = t j ∧ j < j)) := ltO_irr
      rw [if_neg h1]
      have := cO_le t j j
      omega
    · have := cO_n (t := t) (n := n) (j := j) (by omega)
      split <;> omega
/-- each rank is somebody's -/
theorem cO_ex (t : Nat → Int32) : ∀ n r, r < n → ∃ p, p < n ∧ cO t n p = r
  | 0, r, h => absurd h (Nat.not_lt_zero _)
  | n + 1, r, h => by
    have key : ∀ p, p < n → (cO t n p < cO t n n → cO t (n + 1) p = cO t n p) ∧ (cO t n n ≤ cO t n p → cO t (n + 1) p = cO t n p + 1) := by
      intro p hp
      by_cases c : ltO t n p
      · have h1 := cO_mono (n := n) c
        refine ⟨fun q => by omega, fun _ => ?_⟩
        rw [cO_s, if_pos c]
      · have h1 := cO_lt (n := n) (ltO_tot c (by omega)) hp
        refine ⟨fun _ => ?_, fun q => by omega⟩
        rw [cO_s, if_neg c]; omega
    have hn : cO t (n + 1) n = cO t n n := by
      rw [cO_s, if_neg ltO_irr]; omega
    have hm := cO_le t n n
    by_cases c1 : r < cO t n n
    · obtain ⟨p, hp, e⟩ := cO_ex t n r (by omega)
      exact ⟨p, by omega, by rw [(key p hp).1 (by omega)]; exact e⟩
    · by_cases c2 : r = cO t n n
      · exact ⟨n, by omega, by rw [hn, c2]⟩
      · obtain ⟨p, hp, e⟩ := cO_ex t n (r - 1) (by omega)
        exact ⟨p, by omega, by rw [(key p hp).2 (by omega)]; omega⟩
theorem cO_inj {t : Nat → Int32} {n p q : Nat} (hp : p < n) (hq : q < n) (h : cO t n p = cO t n q) : p = q := by
  apply Classical.byContradiction
  intro hn
  by_cases c : ltO t p q
  · have := cO_lt (n := n) c hp; omega
  · have := cO_lt (n := n) (ltO_tot c hn) hq; omega
/-- the class's next: nobody who can comes before it -/
theorem fst_congr {p q : Nat → Prop} : ∀ {n i : Nat}, (∀ j, i ≤ j → j < i + n → (p j ↔ q j)) → fstN p i n = fstN q i n
  | 0, _, _ => rfl
  | n + 1, i, h => by
    show @ite _ (p i) (Classical.propDecidable _) _ _ = @ite _ (q i) (Classical.propDecidable _) _ _
    rw [fst_congr (n := n) (i := i + 1) (fun j h1 h2 => h j (by omega) (by omega))]
    by_cases c : p i
    · rw [if_pos c, if_pos ((h i (Nat.le_refl _) (by omega)).mp c)]
    · rw [if_neg c, if_neg (fun z => c ((h i (Nat.le_refl _) (by omega)).mpr z))]
theorem fst_uni {p : Nat → Prop} {j : Nat} : ∀ {n i : Nat}, i ≤ j → j < i + n → p j → (∀ k, i ≤ k → k < i + n → p k → k = j) → fstN p i n = some j
  | 0, i, h1, h2, _, _ => by omega
  | n + 1, i, h1, h2, hp, hu => by
    show @ite _ (p i) (Classical.propDecidable _) _ _ = _
    by_cases c : p i
    · rw [if_pos c, hu i (Nat.le_refl _) (by omega) c]
    · rw [if_neg c]
      have : i ≠ j := fun e => c (e ▸ hp)
      exact fst_uni (n := n) (i := i + 1) (by omega) (by omega) hp (fun k a b => hu k (by omega) (by omega))
theorem fst_none {p : Nat → Prop} : ∀ {n i : Nat}, (∀ k, i ≤ k → k < i + n → ¬ p k) → fstN p i n = none
  | 0, _, _ => rfl
  | n + 1, i, h => by
    show @ite _ (p i) (Classical.propDecidable _) _ _ = _
    rw [if_neg (h i (Nat.le_refl _) (by omega))]
    exact fst_none (n := n) (i := i + 1) (fun k a b => h k (by omega) (by omega))
theorem fst_some {p : Nat → Prop} {j : Nat} : ∀ {n i : Nat}, fstN p i n = some j → i ≤ j ∧ j < i + n ∧ p j
  | 0, i, h => by cases h
  | n + 1, i, h => by
    have h : @ite _ (p i) (Classical.propDecidable _) (some i) (fstN p (i + 1) n) = some j := h
    by_cases c : p i
    · rw [if_pos c] at h; cases h; exact ⟨Nat.le_refl _, by omega, c⟩
    · rw [if_neg c] at h
      have := fst_some h
      exact ⟨by omega, by omega, this.2.2⟩
