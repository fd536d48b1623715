/-! sums over baskets; what a van leaves; small facts on numbers -/
theorem nI_mul (a b : Nat) : nI a * nI b = nI (a * b) := (Int32.ofNat_mul a b).symm
def sN (g : Nat → Nat) : Nat → Nat
  | 0 => 0
  | n + 1 => sN g n + g n
theorem sN_congr {g h : Nat → Nat} : ∀ {n : Nat}, (∀ i, i < n → g i = h i) → sN g n = sN h n
  | 0, _ => rfl
  | n + 1, e => by simp only [sN]; rw [sN_congr (fun i hi => e i (by omega)), e n (by omega)]
theorem sN_add (g h : Nat → Nat) : ∀ n, sN (fun i => g i + h i) n = sN g n + sN h n
  | 0 => rfl
  | n + 1 => by simp only [sN]; rw [sN_add g h n]; omega
theorem sN_0 : ∀ n, sN (fun _ => 0) n = 0
  | 0 => rfl
  | n + 1 => by simp only [sN]; rw [sN_0 n]
theorem sN_one (x j : Nat) : ∀ n, sN (fun k => if j = k then x else 0) n = if j < n then x else 0
  | 0 => by simp [sN]
  | n + 1 => by
    simp only [sN]
    rw [sN_one x j n]
    by_cases h : j < n
    · rw [if_pos h, if_neg (by omega), if_pos (by omega)]; omega
    · by_cases h2 : j = n
      · rw [if_neg h, if_pos h2, if_pos (by omega)]; omega
      · rw [if_neg h, if_neg h2, if_neg (by omega)]
theorem smI_nI {g : Nat → Nat} : ∀ n, smI (fun i => nI (g i)) n = nI (sN g n)
  | 0 => rfl
  | n + 1 => by simp only [smI, sN]; rw [smI_nI n, nI_add]
theorem out_le (c : Nat) : ∀ B : List bT, outL c B ≤ allL B
  | [] => Nat.le_refl _
  | q :: B => by
    have := out_le c B
    simp only [outL, allL]
    split <;> omega
theorem all_le {n : Nat} : ∀ B : List bT, (∀ q ∈ B, q.2.2 ≤ n) → allL B ≤ n * B.length
  | [], _ => Nat.le_refl _
  | q :: B, h => by
    have := all_le B (fun q hq => h q (List.mem_cons_of_mem _ hq))
    have := h q List.mem_cons_self
    simp only [allL, List.length_cons, Nat.mul_add]
    omega
def lsI (g : kT → Int32) : List kT → Int32
  | [] => 0
  | b :: K => g b + lsI g K
theorem lsI_app (g : kT → Int32) : ∀ A B : List kT, lsI g (A ++ B) = lsI g A + lsI g B
  | [], B => (Int32.zero_add _).symm
  | a :: A, B => by
    show g a + lsI g (A ++ B) = (g a + lsI g A) + lsI g B
    rw [lsI_app g A B, Int32.add_assoc]
theorem sm_ls {g : kT → Int32} {K : List kT} : ∀ n, n ≤ K.length → smI (fun i => g (gK K i)) n = lsI g (K.take n)
  | 0, _ => rfl
  | n + 1, h => by
    rw [take_s (gK_at (show n < K.length by omega)), lsI_app, ← sm_ls n (by omega)]
    simp only [smI, lsI]
    grind
theorem sm_lsI (g : kT → Int32) (K : List kT) : smI (fun i => g (gK K i)) K.length = lsI g K := by
  rw [sm_ls _ (Nat.le_refl _), List.take_length]
theorem lsI_set {g : kT → Int32} {b : kT} : ∀ {K : List kT} {i : Nat}, i < K.length → lsI g (K.set i b) = lsI g K - g (gK K i) + g b
  | [], i, h => absurd h (Nat.not_lt_zero _)
  | a :: K, 0, _ => by
    show g b + lsI g K = (g a + lsI g K) - g a + g b
    generalize g a = x
    generalize g b = y
    generalize lsI g K = z
    grind
  | a :: K, i + 1, h => by
    have ih := lsI_set (g := g) (b := b) (K := K) (i := i) (by simpa using h)
    show g a + lsI g (K.set i b) = (g a + lsI g K) - g (gK K i) + g b
    rw [ih]
    generalize g a = x
    generalize g b = y
    generalize g (gK K i) = w
    generalize lsI g K = z
    grind
theorem lsI_lv {g : kT → Int32} {p : kT → Prop} : ∀ {K : List kT}, (∀ b ∈ K, p b → g b = 0) → lsI g (lvK p K) = lsI g K
  | [], _ => rfl
  | a :: K, h => by
    have ih := lsI_lv (g := g) (p := p) (K := K) (fun b hb => h b (List.mem_cons_of_mem _ hb))
    show lsI g (@ite _ (p a) (Classical.propDecidable _) (lvK p K) (a :: lvK p K)) = g a + lsI g K
    by_cases hp : p a
    · rw [if_pos hp, ih, h a List.mem_cons_self hp, Int32.zero_add]
    · rw [if_neg hp]
      show g a + lsI g (lvK p K) = _
      rw [ih]
theorem lsI_nat {g : kT → Int32} {m : Nat} : ∀ {K : List kT}, (∀ b ∈ K, ∃ y, y ≤ m ∧ g b = nI y) → ∃ y, y ≤ m * K.length ∧ lsI g K = nI y
  | [], _ => ⟨0, Nat.zero_le _, rfl⟩
  | a :: K, h => by
    obtain ⟨y, h1, h2⟩ := lsI_nat (g := g) (K := K) (fun b hb => h b (List.mem_cons_of_mem _ hb))
    obtain ⟨z, h3, h4⟩ := h a List.mem_cons_self
    refine ⟨z + y, ?_, ?_⟩
    · rw [List.length_cons, Nat.mul_succ]; omega
    · show g a + lsI g K = _
      rw [h2, h4, nI_add]
/-- a sum of small numbers that isn't 0 has a part that isn't 0 -/
theorem lsI_ne {g : kT → Int32} : ∀ {K : List kT}, ¬ lsI g K = 0 → ∃ b ∈ K, ¬ g b = 0
  | [], h => absurd rfl h
  | a :: K, h => by
    by_cases ha : g a = 0
    · have h : ¬ lsI g K = 0 := by
        intro e
        apply h
        show g a + lsI g K = 0
        rw [ha, e]; rfl
      obtain ⟨b, h1, h2⟩ := lsI_ne h
      exact ⟨b, List.mem_cons_of_mem _ h1, h2⟩
    · exact ⟨a, List.mem_cons_self, ha⟩
theorem nI_nn {x : Nat} (hx : x < 2 ^ 31) : ¬ nI x < 0 := by
  rw [Int32.lt_iff_toInt_lt, nI_toInt hx]
  show ¬ (x : Int) < (0 : Int32).toInt
  rw [show (0 : Int32).toInt = 0 from by decide]
  omega
theorem mapset {α β : Type} (f : α → β) {K : List α} {i : Nat} {b : α} (h : ∀ a, K[i]? = some a → f b = f a) : (K.set i b).map f = K.map f := by
  rw [List.map_set]
  apply List.ext_getElem?
  intro j
  by_cases hj : i = j
  · subst hj
    by_cases hl : i < K.length
    · rw [List.getElem?_set_self (by simpa using hl), List.getElem?_map, List.getElem?_eq_getElem hl, Option.map_some, h _ (List.getElem?_eq_getElem hl)]
    · rw [List.getElem?_eq_none (by simpa using Nat.le_of_not_lt hl), List.getElem?_eq_none (by simpa using Nat.le_of_not_lt hl)]
  · rw [List.getElem?_set_ne hj]
theorem fp_spec {u : Int32} {p : Nat} (hp : p < 8) (h : fpI u = nI p) : (∀ j, j < p → ¬ u >>> (nI j &&& 31) &&& 1 = 0) ∧ u >>> (nI p &&& 31) &&& 1 = 0 := by
  have e : fpI u = if u >>> (nI 0 &&& 31) &&& 1 = 0 then nI 0 else if u >>> (nI 1 &&& 31) &&& 1 = 0 then nI 1 else if u >>> (nI 2 &&& 31) &&& 1 = 0 then nI 2 else if u >>> (nI 3 &&& 31) &&& 1 = 0 then nI 3 else if u >>> (nI 4 &&& 31) &&& 1 = 0 then nI 4 else if u >>> (nI 5 &&& 31) &&& 1 = 0 then nI 5 else if u >>> (nI 6 &&& 31) &&& 1 = 0 then nI 6 else if u >>> (nI 7 &&& 31) &&& 1 = 0 then nI 7 else nI 8 := rfl
  rw [e] at h
  have inj : ∀ q : Nat, q ≤ 8 → nI q = nI p → q = p := fun q hq hh => by rwa [nI_inj (by omega) (by omega)] at hh
  by_cases h0 : u >>> (nI 0 &&& 31) &&& 1 = 0
  · rw [if_pos h0] at h
    obtain rfl := inj 0 (by omega) h
    exact ⟨fun j hj => by omega, h0⟩
  rw [if_neg h0] at h
  by_cases h1 : u >>> (nI 1 &&& 31) &&& 1 = 0
  · rw [if_pos h1] at h
    obtain rfl := inj 1 (by omega) h
    exact ⟨fun j hj => by match j, hj with | 0, _ => exact h0, h1⟩
  rw [if_neg h1] at h
  by_cases h2 : u >>> (nI 2 &&& 31) &&& 1 = 0
  · rw [if_pos h2] at h
    obtain rfl := inj 2 (by omega) h
    exact ⟨fun j hj => by match j, hj with | 0, _ => exact h0 | 1, _ => exact h1, h2⟩
  rw [if_neg h2] at h
  by_cases h3 : u >>> (nI 3 &&& 31) &&& 1 = 0
  · rw [if_pos h3] at h
    obtain rfl := inj 3 (by omega) h
    exact ⟨fun j hj => by match j, hj with | 0, _ => exact h0 | 1, _ => exact h1 | 2, _ => exact h2, h3⟩
  rw [if_neg h3] at h
  by_cases h4 : u >>> (nI 4 &&& 31) &&& 1 = 0
  · rw [if_pos h4] at h
    obtain rfl := inj 4 (by omega) h
    exact ⟨fun j hj => by match j, hj with | 0, _ => exact h0 | 1, _ => exact h1 | 2, _ => exact h2 | 3, _ => exact h3, h4⟩
  rw [if_neg h4] at h
  by_cases h5 : u >>> (nI 5 &&& 31) &&& 1 = 0
  · rw [if_pos h5] at h
    obtain rfl := inj 5 (by omega) h
    exact ⟨fun j hj => by match j, hj with | 0, _ => exact h0 | 1, _ => exact h1 | 2, _ => exact h2 | 3, _ => exact h3 | 4, _ => exact h4, h5⟩
  rw [if_neg h5] at h
  by_cases h6 : u >>> (nI 6 &&& 31) &&& 1 = 0
  · rw [if_pos h6] at h
    obtain rfl := inj 6 (by omega) h
    exact ⟨fun j hj => by match j, hj with | 0, _ => exact h0 | 1, _ => exact h1 | 2, _ => exact h2 | 3, _ => exact h3 | 4, _ => exact h4 | 5, _ => exact h5, h6⟩
  rw [if_neg h6] at h
  by_cases h7 : u >>> (nI 7 &&& 31) &&& 1 = 0
  · rw [if_pos h7] at h
    obtain rfl := inj 7 (by omega) h
    exact ⟨fun j hj => by match j, hj with | 0, _ => exact h0 | 1, _ => exact h1 | 2, _ => exact h2 | 3, _ => exact h3 | 4, _ => exact h4 | 5, _ => exact h5 | 6, _ => exact h6, h7⟩
  rw [if_neg h7] at h
  have := inj 8 (by omega) h
  omega
theorem all_sum {n : Nat} : ∀ {B : List bT}, (∀ q ∈ B, q.1 < n) → sN (fun c => outL c B) n = allL B
  | [], _ => sN_0 n
  | q :: B, h => by
    have ih := all_sum (n := n) (B := B) (fun p hp => h p (List.mem_cons_of_mem _ hp))
    have e : sN (fun c => outL c (q :: B)) n = sN (fun c => if q.1 = c then q.2.2 else 0) n + sN (fun c => outL c B) n := sN_add _ _ n
    rw [e, ih, sN_one, if_pos (h q List.mem_cons_self)]
    rfl
