/-! hangers that are out, as the reference keeps them: a ring of 64 days for each customer -/
def rgL (c k : Nat) : List bT → Nat
  | [] => 0
  | q :: B => (if q.1 = c ∧ q.2.1 % 64 = k then q.2.2 else 0) + rgL c k B
/-- a sum of numbers -/
def sN (g : Nat → Nat) : Nat → Nat
  | 0 => 0
  | n + 1 => sN g n + g n
theorem sN_congr {g h : Nat → Nat} : ∀ {n : Nat}, (∀ i, i < n → g i = h i) → sN g n = sN h n
  | 0, _ => rfl
  | n + 1, e => by simp only [sN]; rw [sN_congr (fun i hi => e i (by omega)), e n (by omega)]
theorem sN_add (g h : Nat → Nat) : ∀ n, sN (fun i => g i + h i) n = sN g n + sN h n
  | 0 => rfl
  | n + 1 => by simp only [sN]; rw [sN_add g h n]; omega
theorem sN_0 : ∀ n, sN (fun _ => 0) n = 0
  | 0 => rfl
  | n + 1 => by simp only [sN]; rw [sN_0 n]
theorem sN_one (x j : Nat) : ∀ n, sN (fun k => if j = k then x else 0) n = if j < n then x else 0
  | 0 => by simp [sN]
  | n + 1 => by
    simp only [sN]
    rw [sN_one x j n]
    by_cases h : j < n
    · rw [if_pos h, if_neg (by omega), if_pos (by omega)]; omega
    · by_cases h2 : j = n
      · rw [if_neg h, if_pos h2, if_pos (by omega)]; omega
      · rw [if_neg h, if_neg h2, if_neg (by omega)]
theorem smI_nI {g : Nat → Nat} : ∀ n, smI (fun i => nI (g i)) n = nI (sN g n)
  | 0 => rfl
  | n + 1 => by simp only [smI, sN]; rw [smI_nI n, nI_add]
theorem rg_sum (c : Nat) : ∀ B : List bT, sN (fun k => rgL c k B) 64 = outL c B
  | [] => sN_0 64
  | q :: B => by
    have e : sN (fun k => rgL c k (q :: B)) 64 = sN (fun k => (if q.1 = c ∧ q.2.1 % 64 = k then q.2.2 else 0)) 64 + sN (fun k => rgL c k B) 64 := sN_add _ _ 64
    rw [e, rg_sum c B]
    simp only [outL]
    by_cases h : q.1 = c
    · simp only [h, true_and, if_true]
      rw [sN_one, if_pos (Nat.mod_lt _ (by decide))]
    · simp only [h, false_and, if_false]
      rw [sN_0]
theorem rg_le (c k : Nat) : ∀ B : List bT, rgL c k B ≤ outL c B
  | [] => Nat.le_refl _
  | q :: B => by
    have := rg_le c k B
    simp only [rgL, outL]
    by_cases h : q.1 = c
    · by_cases h2 : q.2.1 % 64 = k
      · simp only [h, h2, and_self, if_true]; omega
      · simp only [h, h2, and_false, if_true, if_false]; omega
    · simp only [h, false_and, if_false]; omega
theorem out_le (c : Nat) : ∀ B : List bT, outL c B ≤ allL B
  | [] => Nat.le_refl _
  | q :: B => by
    have := out_le c B
    simp only [outL, allL]
    split <;> omega
theorem all_le {n : Nat} : ∀ B : List bT, (∀ q ∈ B, q.2.2 ≤ n) → allL B ≤ n * B.length
  | [], _ => Nat.le_refl _
  | q :: B, h => by
    have := all_le B (fun q hq => h q (List.mem_cons_of_mem _ hq))
    have := h q List.mem_cons_self
    simp only [allL, List.length_cons, Nat.mul_add]
    omega
theorem rg_drop (c k : Nat) : ∀ B : List bT, rgL c k (dropE B) = rgL c k B
  | [] => rfl
  | q :: B => by
    have ih := rg_drop c k B
    unfold dropE at ih ⊢
    rw [List.filter_cons]
    by_cases h : 0 < q.2.2
    · rw [if_pos (by simpa using h)]
      simp only [rgL]; rw [ih]
    · rw [if_neg (by simpa using h)]
      have h0 : q.2.2 = 0 := by omega
      simp only [rgL, h0, ih]
      split <;> omega
theorem tk_zero (c : Nat) : ∀ B : List bT, tkL c 0 B = B
  | [] => rfl
  | q :: B => by
    simp only [tkL]
    rw [Nat.zero_min, Nat.sub_zero, Nat.sub_zero, tk_zero c B]
    split <;> rfl
theorem rg_tk_ne {c c' : Nat} (h : c' ≠ c) (k : Nat) : ∀ (g : Nat) (B : List bT), rgL c' k (tkL c g B) = rgL c' k B
  | _, [] => rfl
  | g, q :: B => by
    simp only [tkL]
    by_cases hq : q.1 = c
    · rw [if_pos hq]
      have hn : ¬ q.1 = c' := fun e => h (e.symm.trans hq)
      simp only [rgL, hn, false_and, if_false]
      rw [rg_tk_ne h k _ B]
    · rw [if_neg hq]
      simp only [rgL]
      rw [rg_tk_ne h k _ B]
theorem tk_two (c : Nat) : ∀ (a b : Nat) (B : List bT), a ≤ outL c B → tkL c (a + b) B = tkL c b (tkL c a B)
  | _, _, [], _ => rfl
  | a, b, q :: B, h => by
    simp only [outL] at h
    by_cases hq : q.1 = c
    · simp only [hq, if_true] at h
      simp only [tkL, hq, if_true]
      by_cases ha : a ≤ q.2.2
      · have e1 : min a q.2.2 = a := Nat.min_eq_left ha
        rw [e1, Nat.sub_self, tk_zero]
        have e2 : a + b - min (a + b) q.2.2 = b - min b (q.2.2 - a) := by omega
        rw [e2]
        congr 3
        omega
      · have e1 : min a q.2.2 = q.2.2 := Nat.min_eq_right (by omega)
        have e2 : min (a + b) q.2.2 = q.2.2 := Nat.min_eq_right (by omega)
        rw [e1, e2, Nat.sub_self, Nat.min_zero, Nat.sub_zero, Nat.sub_zero]
        rw [show a + b - q.2.2 = (a - q.2.2) + b by omega, tk_two c (a - q.2.2) b B (by omega)]
    · simp only [hq, if_false] at h
      simp only [tkL, hq, if_false]
      rw [tk_two c a b B (by omega)]
/-- days that are near, in their order -/
def NR (D : Nat) (B : List bT) : Prop := (∀ q ∈ B, q.2.1 ≤ D ∧ D ≤ q.2.1 + 62) ∧ B.Pairwise (fun p q => p.2.1 ≤ q.2.1)
theorem NR.tl {D : Nat} {q : bT} {B : List bT} (h : NR D (q :: B)) : NR D B := ⟨fun p hp => h.1 p (List.mem_cons_of_mem _ hp), (List.pairwise_cons.mp h.2).2⟩
theorem rg_none {c k : Nat} : ∀ {B : List bT}, (∀ q ∈ B, q.1 = c → 0 < q.2.2 → q.2.1 % 64 ≠ k) → rgL c k B = 0
  | [], _ => rfl
  | q :: B, h => by
    have ih := rg_none (B := B) (fun p hp => h p (List.mem_cons_of_mem _ hp))
    have h1 := h q List.mem_cons_self
    simp only [rgL]
    rw [ih]
    by_cases e : q.1 = c ∧ q.2.1 % 64 = k
    · rw [if_pos e]
      have := h1 e.1
      by_cases hz : 0 < q.2.2
      · exact absurd e.2 (this hz)
      · omega
    · rw [if_neg e]
/-- of a customer's hangers those of the first day are taken -/
theorem rg_tk {D c d0 : Nat} (hd : d0 ≤ D ∧ D ≤ d0 + 62) : ∀ (g : Nat) (B : List bT), NR D B → (∀ q ∈ B, q.1 = c → 0 < q.2.2 → d0 ≤ q.2.1) → g ≤ rgL c (d0 % 64) B → ∀ k, rgL c k (tkL c g B) = if k = d0 % 64 then rgL c k B - g else rgL c k B
  | g, [], _, _, _, k => by
    simp only [tkL, rgL]; split <;> omega
  | g, q :: B, hN, hQ, hg, k => by
    have hQ' : ∀ p ∈ B, p.1 = c → 0 < p.2.2 → d0 ≤ p.2.1 := fun p hp => hQ p (List.mem_cons_of_mem _ hp)
    have hq0 := hN.1 q List.mem_cons_self
    by_cases hq : q.1 = c
    · by_cases hp : q.2.2 = 0
      · simp only [rgL, hp] at hg
        have hg' : g ≤ rgL c (d0 % 64) B := by
          split at hg <;> omega
        have ih := rg_tk hd g B hN.tl hQ' hg' k
        simp only [tkL, hq, if_true, rgL, hp, Nat.min_zero, Nat.sub_zero, true_and]
        rw [ih]
        split <;> split <;> omega
      · have hd1 := hQ q List.mem_cons_self hq (by omega)
        by_cases hdd : q.2.1 = d0
        · simp only [rgL, hq, hdd, true_and, if_true] at hg
          by_cases hgq : g ≤ q.2.2
          · simp only [tkL, hq, if_true, rgL, hdd, true_and]
            rw [Nat.min_eq_left hgq, Nat.sub_self, tk_zero]
            by_cases hk : d0 % 64 = k
            · rw [if_pos hk, if_pos hk, if_pos hk.symm]; omega
            · rw [if_neg hk, if_neg hk, if_neg (fun e => hk e.symm)]
          · have ih := rg_tk hd (g - q.2.2) B hN.tl hQ' (by omega) k
            simp only [tkL, hq, if_true, rgL, hdd, true_and]
            rw [Nat.min_eq_right (by omega), Nat.sub_self, ih]
            by_cases hk : d0 % 64 = k
            · rw [if_pos hk, if_pos hk, if_pos hk.symm, if_pos hk.symm]
              subst hk
              omega
            · rw [if_neg hk, if_neg hk, if_neg (fun e => hk e.symm), if_neg (fun e => hk e.symm)]
        · have hlt : d0 < q.2.1 := by omega
          have hz : rgL c (d0 % 64) (q :: B) = 0 := by
            refine rg_none (fun p hp _ _ => ?_)
            have hp0 := hN.1 p hp
            have hle : q.2.1 ≤ p.2.1 := by
              rcases List.mem_cons.mp hp with rfl | hp
              · exact Nat.le_refl _
              · exact (List.pairwise_cons.mp hN.2).1 p hp
            omega
          have hg0 : g = 0 := by omega
          subst hg0
          rw [tk_zero]
          split <;> omega
    · have hg' : g ≤ rgL c (d0 % 64) B := by
        simp only [rgL, hq, false_and, if_false] at hg; omega
      have ih := rg_tk hd g B hN.tl hQ' hg' k
      simp only [tkL, hq, if_false, rgL, false_and]
      rw [ih]
      split <;> omega
/-- the first place of a ring, from the oldest on, that holds something -/
def olF (r : Nat → Nat) (D : Nat) : Nat → Option Nat
  | 0 => none
  | a + 1 => if 0 < r ((D + 64 - a) % 64) then some ((D + 64 - a) % 64) else olF r D a
theorem olF_none {r : Nat → Nat} {D : Nat} : ∀ {n : Nat}, olF r D n = none → ∀ a, a < n → r ((D + 64 - a) % 64) = 0
  | 0, _, a, h => by omega
  | n + 1, h, a, ha => by
    simp only [olF] at h
    split at h
    · cases h
    · rename_i h0
      by_cases e : a = n
      · subst e; omega
      · exact olF_none h a (by omega)
theorem olF_some {r : Nat → Nat} {D k : Nat} : ∀ {n : Nat}, olF r D n = some k → ∃ a, a < n ∧ k = (D + 64 - a) % 64 ∧ 0 < r k ∧ ∀ b, a < b → b < n → r ((D + 64 - b) % 64) = 0
  | 0, h => by cases h
  | n + 1, h => by
    simp only [olF] at h
    split at h
    · rename_i h0
      cases h
      exact ⟨n, by omega, rfl, h0, fun b h1 h2 => by omega⟩
    · rename_i h0
      obtain ⟨a, h1, h2, h3, h4⟩ := olF_some h
      refine ⟨a, by omega, h2, h3, fun b hb1 hb2 => ?_⟩
      by_cases e : b = n
      · subst e; omega
      · exact h4 b hb1 (by omega)
theorem ol_all {D c : Nat} {B : List bT} (hN : NR D B) (h : ∀ a, a < 64 → rgL c ((D + 64 - a) % 64) B = 0) : outL c B = 0 := by
  rw [← rg_sum c B, sN_congr (h := fun _ => 0) (fun k hk => ?_), sN_0]
  have := h ((D + 64 - k) % 64) (by omega)
  rwa [show (D + 64 - (D + 64 - k) % 64) % 64 = k by omega] at this
/-- the oldest of a customer's -/
theorem ol_ok {D c k : Nat} {B : List bT} (hN : NR D B) (h : olF (fun k => rgL c k B) D 64 = some k) : ∃ d0, (d0 ≤ D ∧ D ≤ d0 + 62) ∧ k = d0 % 64 ∧ 0 < rgL c k B ∧ ∀ q ∈ B, q.1 = c → 0 < q.2.2 → d0 ≤ q.2.1 := by
  obtain ⟨a, h1, h2, h3, h4⟩ := olF_some h
  have hpos : ∃ q ∈ B, q.1 = c ∧ 0 < q.2.2 ∧ q.2.1 % 64 = k := by
    apply Classical.byContradiction
    intro hn
    have hz := rg_none (c := c) (k := k) (B := B) (fun q hq e1 e2 e3 => hn ⟨q, hq, e1, e2, e3⟩)
    omega
  obtain ⟨q, hq, e1, e2, e3⟩ := hpos
  have hqd := hN.1 q hq
  refine ⟨q.2.1, hqd, e3.symm, h3, fun p hp p1 p2 => ?_⟩
  apply Classical.byContradiction
  intro hlt
  have hpd := hN.1 p hp
  have h5 := h4 (D - p.2.1) (by omega) (by omega)
  have hle : 0 < rgL c (p.2.1 % 64) B := by
    have : ∀ {B : List bT}, p ∈ B → p.2.2 ≤ rgL c (p.2.1 % 64) B := by
      intro B
      induction B with
      | nil => intro h; cases h
      | cons x B ih =>
        intro h
        simp only [rgL]
        rcases List.mem_cons.mp h with rfl | h
        · rw [if_pos ⟨p1, rfl⟩]; omega
        · have := ih h; omega
    have := this hp
    omega
  rw [show (D + 64 - (D - p.2.1)) % 64 = p.2.1 % 64 by omega] at h5
  omega
section RI
variable {T : Nat → Nat → Int32} {P : Nat → Nat → Nat} {f : Nat → Int32} {c D : Nat} {B : List bT} {r : Nat → Nat}
theorem r_outTo (hc : c < 10) : X 141 0 [.ref 366, .int (nI c), .long 0, .long 0] [] (H (upA T 367 f) P) = some (some (.int (smI (fun k => f (54 + 64 * c + k)) 64)), H (upA T 367 f) P) := by
  have hstep : ∀ i, i < 64 → X 141 4 [.ref 366, .int (nI c), .int (smI (fun k => f (54 + 64 * c + k)) i), .int (nI i)] [] (H (upA T 367 f) P) = X 141 4 [.ref 366, .int (nI c), .int (smI (fun k => f (54 + 64 * c + k)) (i + 1)), .int (nI (i + 1))] [] (H (upA T 367 f) P) := by
    intro i hi
    rw [x141_4]
    simp +decide only [x141_0, x141_1, x141_2, x141_3, x141_5, x141_7, x141_10, x141_11, x141_11N, x141_12, x141_15, x141_17, x141_19, x141_20, x141_21, x141_22, x141_23, x141_24, x141_25, x141_26, x141_27, x141_30, x141_33, x141_34, aft_some, aft_void, Option.bind_some, Option.toList_some, Option.toList_none, List.cons_append, List.nil_append, if_true, if_false, ↓reduceIte, eq_self, z366_o, ↓z366_0, ↓z366_0p, ↓z366_1, ↓z366_2, ↓z366_3, ↓z366_4, ↓z366_4p, ↓z366_5, ↓z366_6, ↓z366_6p0, ↓z366_6p1, ↓z366_7, ↓z366_8, ↓z366_8p, ↓z366_9, ↓z366_9p, ↓z366_10, ↓z366_10p0, ↓z366_10p1, ↓z366_11, ↓z366_12, ↓z366_12p, ↓sg0, ↓sg1, ↓sg2, ↓sg3, ↓sg4, ↓sg5, ↓sg6, ↓sg7, ↓sg8, ↓sg9, ↓sg10, ↓sg11, ↓sg12, ↓sg13, ↓sg14, ↓sg15, ↓sg16, ↓sg17, ↓ss0, ↓ss1, ↓ss2, ↓ss3, ↓ss4, ↓ss5, ↓ss6, ↓ss7, ↓ss8, ↓ss9, ↓ss10, ↓ss11, ↓ss12, ↓ss13, ↓ss14, ↓ss15, ↓ss16, ↓ss17, show nI i < 64 from nI_lt hi (by decide), ixO (y := nI i) rfl, ↓s_g (show 54 + 64 * c + i < 912 by omega), nI_1, smI]
  simp +decide only [x141_0, x141_1, x141_2, x141_3, x141_5, x141_7, x141_10, x141_11, x141_11N, x141_12, x141_15, x141_17, x141_19, x141_20, x141_21, x141_22, x141_23, x141_24, x141_25, x141_26, x141_27, x141_30, x141_33, x141_34, aft_some, aft_void, Option.bind_some, Option.toList_some, Option.toList_none, List.cons_append, List.nil_append, if_true, if_false, ↓reduceIte, eq_self]
  rw [show X 141 4 [.ref 366, .int (nI c), .int 0, .int 0] [] (H (upA T 367 f) P) = _ from loop_up (fun i => X 141 4 [.ref 366, .int (nI c), .int (smI (fun k => f (54 + 64 * c + k)) i), .int (nI i)] [] (H (upA T 367 f) P)) 64 hstep, x141_4]
  simp +decide only [x141_0, x141_1, x141_2, x141_3, x141_5, x141_7, x141_10, x141_11, x141_11N, x141_12, x141_15, x141_17, x141_19, x141_20, x141_21, x141_22, x141_23, x141_24, x141_25, x141_26, x141_27, x141_30, x141_33, x141_34, aft_some, aft_void, Option.bind_some, Option.toList_some, Option.toList_none, List.cons_append, List.nil_append, if_true, if_false, ↓reduceIte, eq_self, show nI 64 = 64 from rfl]
theorem r_oldest (hc : c < 10) (h4 : f 4 = nI D) (hD : D ≤ 10100) (hr : ∀ k, k < 64 → f (54 + 64 * c + k) = nI (r k) ∧ r k < 2 ^ 31) : X 142 0 [.ref 366, .int (nI c), .long 0, .long 0] [] (H (upA T 367 f) P) = some (some (.int (match olF r D 64 with
    | some k => nI k
    | none => -5)), H (upA T 367 f) P) := by
  have key : ∀ m, m ≤ 64 → ∀ v3, X 142 3 [.ref 366, .int (nI c), .int (nI m - 1), v3] [] (H (upA T 367 f) P) = some (some (.int (match olF r D m with
    | some k => nI k
    | none => -5)), H (upA T 367 f) P) := by
    intro m
    induction m with
    | zero =>
      intro _ v3
      rw [x142_3]
      simp +decide only [x142_0, x142_2, x142_4, x142_7, x142_7N, x142_8, x142_11, x142_12, x142_13, x142_15, x142_16, x142_17, x142_18, x142_20, x142_21, x142_22, x142_22N, x142_23, x142_26, x142_28, x142_30, x142_31, x142_32, x142_33, x142_34, x142_35, x142_36, x142_39, x142_40, x142_41, x142_44, x142_47, x142_49, aft_some, aft_void, Option.bind_some, Option.toList_some, Option.toList_none, List.cons_append, List.nil_append, if_true, if_false, ↓reduceIte, eq_self, show nI 0 - 1 = -1 from rfl, olF]
    | succ m ih =>
      intro hm v3
      have k1 : nI D + 64 = nI (D + 64) := nI_add _ 64
      have k2 : nI (D + 64) - nI m = nI (D + 64 - m) := nI_sub (by omega)
      have k3 : nI (D + 64 - m) - nI (D + 64 - m) / 64 * 64 = nI ((D + 64 - m) % 64) := nI_modp (b := 64) (by omega) (by decide) (by decide)
      have hlt : (D + 64 - m) % 64 < 64 := Nat.mod_lt _ (by decide)
      obtain ⟨g1, g2⟩ := hr _ hlt
      have hp : (0 < nI (r ((D + 64 - m) % 64))) = (0 < r ((D + 64 - m) % 64)) := nI_posn g2
      have hnn : ¬ nI m < 0 := nI_pos (by omega)
      rw [nI_pred, x142_3]
      by_cases c0 : 0 < r ((D + 64 - m) % 64)
      · simp +decide only [x142_0, x142_2, x142_4, x142_7, x142_7N, x142_8, x142_11, x142_12, x142_13, x142_15, x142_16, x142_17, x142_18, x142_20, x142_21, x142_22, x142_22N, x142_23, x142_26, x142_28, x142_30, x142_31, x142_32, x142_33, x142_34, x142_35, x142_36, x142_39, x142_40, x142_41, x142_44, x142_47, x142_49, aft_some, aft_void, Option.bind_some, Option.toList_some, Option.toList_none, List.cons_append, List.nil_append, if_true, if_false, ↓reduceIte, eq_self, z366_o, ↓z366_0, ↓z366_0p, ↓z366_1, ↓z366_2, ↓z366_3, ↓z366_4, ↓z366_4p, ↓z366_5, ↓z366_6, ↓z366_6p0, ↓z366_6p1, ↓z366_7, ↓z366_8, ↓z366_8p, ↓z366_9, ↓z366_9p, ↓z366_10, ↓z366_10p0, ↓z366_10p1, ↓z366_11, ↓z366_12, ↓z366_12p, ↓sg0, ↓sg1, ↓sg2, ↓sg3, ↓sg4, ↓sg5, ↓sg6, ↓sg7, ↓sg8, ↓sg9, ↓sg10, ↓sg11, ↓sg12, ↓sg13, ↓sg14, ↓sg15, ↓sg16, ↓sg17, ↓ss0, ↓ss1, ↓ss2, ↓ss3, ↓ss4, ↓ss5, ↓ss6, ↓ss7, ↓ss8, ↓ss9, ↓ss10, ↓ss11, ↓ss12, ↓ss13, ↓ss14, ↓ss15, ↓ss16, ↓ss17, hnn, h4, k1, k2, k3, ixO (y := nI ((D + 64 - m) % 64)) rfl, ↓s_g (show 54 + 64 * c + (D + 64 - m) % 64 < 912 by omega), g1, hp, c0, olF]
      · have hneg : nI m + -1 = nI m - 1 := (Int32.sub_eq_add_neg _ _).symm
        simp +decide only [x142_0, x142_2, x142_4, x142_7, x142_7N, x142_8, x142_11, x142_12, x142_13, x142_15, x142_16, x142_17, x142_18, x142_20, x142_21, x142_22, x142_22N, x142_23, x142_26, x142_28, x142_30, x142_31, x142_32, x142_33, x142_34, x142_35, x142_36, x142_39, x142_40, x142_41, x142_44, x142_47, x142_49, aft_some, aft_void, Option.bind_some, Option.toList_some, Option.toList_none, List.cons_append, List.nil_append, if_true, if_false, ↓reduceIte, eq_self, z366_o, ↓z366_0, ↓z366_0p, ↓z366_1, ↓z366_2, ↓z366_3, ↓z366_4, ↓z366_4p, ↓z366_5, ↓z366_6, ↓z366_6p0, ↓z366_6p1, ↓z366_7, ↓z366_8, ↓z366_8p, ↓z366_9, ↓z366_9p, ↓z366_10, ↓z366_10p0, ↓z366_10p1, ↓z366_11, ↓z366_12, ↓z366_12p, ↓sg0, ↓sg1, ↓sg2, ↓sg3, ↓sg4, ↓sg5, ↓sg6, ↓sg7, ↓sg8, ↓sg9, ↓sg10, ↓sg11, ↓sg12, ↓sg13, ↓sg14, ↓sg15, ↓sg16, ↓sg17, ↓ss0, ↓ss1, ↓ss2, ↓ss3, ↓ss4, ↓ss5, ↓ss6, ↓ss7, ↓ss8, ↓ss9, ↓ss10, ↓ss11, ↓ss12, ↓ss13, ↓ss14, ↓ss15, ↓ss16, ↓ss17, hnn, h4, k1, k2, k3, ixO (y := nI ((D + 64 - m) % 64)) rfl, ↓s_g (show 54 + 64 * c + (D + 64 - m) % 64 < 912 by omega), g1, hp, c0, olF, hneg]
        exact ih (by omega) _
  have e := key 64 (Nat.le_refl _) (.long 0)
  rw [show nI 64 - 1 = 63 from rfl] at e
  simp +decide only [x142_0, x142_2, x142_4, x142_7, x142_7N, x142_8, x142_11, x142_12, x142_13, x142_15, x142_16, x142_17, x142_18, x142_20, x142_21, x142_22, x142_22N, x142_23, x142_26, x142_28, x142_30, x142_31, x142_32, x142_33, x142_34, x142_35, x142_36, x142_39, x142_40, x142_41, x142_44, x142_47, x142_49, aft_some, aft_void, Option.bind_some, Option.toList_some, Option.toList_none, List.cons_append, List.nil_append, if_true, if_false, ↓reduceIte, eq_self]
  exact e
theorem r_ageOf {k : Nat} (h4 : f 4 = nI D) (hD : D ≤ 10100) (hk : k < 64) : X 143 0 [.ref 366, .int (nI k)] [] (H (upA T 367 f) P) = some (some (.int (nI ((D + 64 - k) % 64))), H (upA T 367 f) P) := by
  have k1 : nI k - nI k / 64 * 64 = nI (k % 64) := nI_modp (b := 64) (by omega) (by decide) (by decide)
  rw [Nat.mod_eq_of_lt hk] at k1
  have k2 : nI D - nI k + 12800 = nI (D + 12800 - k) := by
    rw [show (12800 : Int32) = nI 12800 from rfl, ← nI_sub (show k ≤ D + 12800 by omega), ← nI_add]
    grind
  have k3 : nI (D + 12800 - k) - nI (D + 12800 - k) / 64 * 64 = nI ((D + 12800 - k) % 64) := nI_modp (b := 64) (by omega) (by decide) (by decide)
  rw [show (D + 12800 - k) % 64 = (D + 64 - k) % 64 by omega] at k3
  simp +decide only [x143_0, x143_0N, x143_1, x143_4, x143_5, x143_6, x143_7, x143_9, x143_10, x143_11, x143_14, x143_15, x143_17, x143_18, aft_some, aft_void, Option.bind_some, Option.toList_some, Option.toList_none, List.cons_append, List.nil_append, if_true, if_false, ↓reduceIte, eq_self, z366_o, ↓z366_0, ↓z366_0p, ↓z366_1, ↓z366_2, ↓z366_3, ↓z366_4, ↓z366_4p, ↓z366_5, ↓z366_6, ↓z366_6p0, ↓z366_6p1, ↓z366_7, ↓z366_8, ↓z366_8p, ↓z366_9, ↓z366_9p, ↓z366_10, ↓z366_10p0, ↓z366_10p1, ↓z366_11, ↓z366_12, ↓z366_12p, ↓sg0, ↓sg1, ↓sg2, ↓sg3, ↓sg4, ↓sg5, ↓sg6, ↓sg7, ↓sg8, ↓sg9, ↓sg10, ↓sg11, ↓sg12, ↓sg13, ↓sg14, ↓sg15, ↓sg16, ↓sg17, ↓ss0, ↓ss1, ↓ss2, ↓ss3, ↓ss4, ↓ss5, ↓ss6, ↓ss7, ↓ss8, ↓ss9, ↓ss10, ↓ss11, ↓ss12, ↓ss13, ↓ss14, ↓ss15, ↓ss16, ↓ss17, h4, k1, k2, k3]
end RI
