/-! the baskets' own methods, the rest -/
theorem nl0 : nI 0 = 0 := rfl
theorem nl1 : nI 1 = 1 := rfl
theorem nl2 : nI 2 = 2 := rfl
theorem nl3 : nI 3 = 3 := rfl
/-- the baskets' cells are apart -/
theorem isK_apart {b c : Nat} (hb : isK b) (hc : isK c) (h : b ≠ c) : ∀ x y : Nat, x < 4 → y < 4 → b + x ≠ c + y := by
  obtain ⟨o, i, ho, hi, rfl⟩ := hb
  obtain ⟨q, j, hq, hj, rfl⟩ := hc
  intro x y hx hy
  rcases ho with rfl | rfl | rfl | rfl | rfl | rfl | rfl <;> rcases hq with rfl | rfl | rfl | rfl | rfl | rfl | rfl <;> omega
def dgt (f : Nat → Int32) : Int32 := (((0 * 10 + f 0) * 10 + f 1) * 10 + f 2) * 10 + f 3
def nhI (f : Nat → Int32) : Int32 := 0 + f 0 + f 1 + f 2
/-- ready: all its pieces are ironed -/
def rdP (T : Nat → Nat → Int32) (b : Nat) : Prop := ¬ T (b + 2) 0 < T (b + 1) 0 ∧ ¬ T (b + 2) 1 < T (b + 1) 1 ∧ ¬ T (b + 2) 2 < T (b + 1) 2 ∧ ¬ T (b + 2) 3 < T (b + 1) 3
noncomputable def rdI (T : Nat → Nat → Int32) (b : Nat) : Int32 := if T (b + 2) 0 < T (b + 1) 0 then 0 else if T (b + 2) 1 < T (b + 1) 1 then 0 else if T (b + 2) 2 < T (b + 1) 2 then 0 else if T (b + 2) 3 < T (b + 1) 3 then 0 else 1
def prI (T : Nat → Nat → Int32) (b : Nat) : Int32 := 0 + T (b + 1) 0 * ((mnI (T b 3) 0 + 1) / 2) + T (b + 1) 1 * ((mnI (T b 3) 1 + 1) / 2) + T (b + 1) 2 * ((mnI (T b 3) 2 + 1) / 2) + T (b + 1) 3 * ((mnI (T b 3) 3 + 1) / 2)
/-- the lowest kind that can be ironed now; g: is a hanger there -/
def lkI (T : Nat → Nat → Int32) (b : Nat) (g : Int32) : Int32 := if 0 < opI T b 0 ∧ ¬ g = 0 then 0 else if 0 < opI T b 1 ∧ ¬ g = 0 then 1 else if 0 < opI T b 2 ∧ ¬ g = 0 then 2 else if 0 < opI T b 3 then 3 else -5
section BK2
variable {T : Nat → Nat → Int32} {P : Nat → Nat → Nat} {a b : Nat} {h : List hC}
theorem c_asDigits (hs : shapes[a]? = some (.inr (0, 4))) : X 3 0 [.ref a, .long 0, .long 0] [] (H T P) = some (some (.int (dgt (T a))), H T P) := by
  simp +decide only [x3_0, x3_1, x3_2, x3_3, x3_4, x3_5, x3_6, x3_9, x3_10, x3_12, x3_13, x3_14, x3_15, x3_16, x3_17, x3_18, x3_21, x3_24, x3_25, aft_some, aft_void, Option.bind_some, Option.toList_some, Option.toList_none, List.cons_append, List.nil_append, if_true, if_false, ↓reduceIte, eq_self, ↓b_gi hs (show 0 < 2 by decide), cl0, cl1, cl2, cl3, Int32.reduceAdd]
  rfl
theorem c_needing (hs : shapes[a]? = some (.inr (0, 4))) : X 14 0 [.ref a, .long 0, .long 0] [] (H T P) = some (some (.int (nhI (T a))), H T P) := by
  simp +decide only [x14_0, x14_1, x14_2, x14_3, x14_4, x14_5, x14_6, x14_9, x14_10, x14_13, x14_14, x14_15, x14_16, x14_17, x14_18, x14_19, x14_20, x14_21, x14_24, x14_27, x14_28, aft_some, aft_void, Option.bind_some, Option.toList_some, Option.toList_none, List.cons_append, List.nil_append, if_true, if_false, ↓reduceIte, eq_self, ↓b_st (show (3 : Nat) < 4 by decide), ↓b_gi hs (show 0 < 2 by decide), cl0, cl1, cl2, cl3, Int32.reduceAdd, sArr]
  simp only [nhI, Int32.one_mul, Int32.zero_mul, Int32.add_zero]
theorem c_isReady (hb : isK b) : X 12 0 [.ref b, .long 0] [] (H T P) = some (some (.int (rdI T b)), H T P) := by
  simp +decide only [x12_0, x12_1, x12_2, x12_3, x12_4, x12_7, x12_8, x12_11, x12_12, x12_13, x12_14, x12_17, x12_18, x12_19, x12_22, x12_23, x12_24, x12_27, x12_30, x12_31, aft_some, aft_void, Option.bind_some, Option.toList_some, Option.toList_none, List.cons_append, List.nil_append, if_true, if_false, ↓reduceIte, eq_self, fK_o hb, ↓fK_0 hb, ↓fK_0p hb, ↓fK_1 hb, ↓fK_1p hb, ↓fK_2 hb, ↓fK_2p hb, ↓fK_3 hb, ↓fK_3p hb, ↓fK_4 hb, ↓fK_4p hb, ↓fK_5 hb, ↓fK_6 hb, ↓fK_7 hb, ↓fK1_g hb, ↓fK1_s hb, ↓fK2_g hb, ↓fK2_s hb, ↓fK3_g hb, ↓fK3_s hb, cl0, cl1, cl2, cl3, Int32.reduceAdd, or_true, true_or]
  unfold rdI
  repeat' split
  all_goals rfl
theorem rdI_1 : rdI T b = 1 ↔ rdP T b := by
  unfold rdI rdP
  repeat' split
  all_goals simp_all
theorem rdI_01 : rdI T b = 0 ∨ rdI T b = 1 := by
  unfold rdI
  repeat' split
  all_goals simp
theorem c_price (hb : isK b) : X 13 0 [.ref b, .long 0, .long 0] [] (H T P) = some (some (.int (prI T b)), H T P) := by
  have m0 := c_minutes (T := T) (P := P) hb 0 (by decide)
  have m1 := c_minutes (T := T) (P := P) hb 1 (by decide)
  have m2 := c_minutes (T := T) (P := P) hb 2 (by decide)
  have m3 := c_minutes (T := T) (P := P) hb 3 (by decide)
  simp only [nl0, nl1, nl2, nl3] at m0 m1 m2 m3
  simp +decide only [x13_0, x13_1, x13_2, x13_3, x13_4, x13_5, x13_6, x13_9, x13_10, x13_11, x13_14, x13_15, x13_16, x13_17, x13_18, x13_21, x13_22, x13_23, x13_24, x13_25, x13_26, x13_27, x13_28, x13_31, x13_34, x13_35, aft_some, aft_void, Option.bind_some, Option.toList_some, Option.toList_none, List.cons_append, List.nil_append, if_true, if_false, ↓reduceIte, eq_self, fK_o hb, ↓fK_0 hb, ↓fK_0p hb, ↓fK_1 hb, ↓fK_1p hb, ↓fK_2 hb, ↓fK_2p hb, ↓fK_3 hb, ↓fK_3p hb, ↓fK_4 hb, ↓fK_4p hb, ↓fK_5 hb, ↓fK_6 hb, ↓fK_7 hb, ↓fK1_g hb, ↓fK1_s hb, ↓fK2_g hb, ↓fK2_s hb, ↓fK3_g hb, ↓fK3_s hb, m0, m1, m2, m3, cl0, cl1, cl2, cl3, Int32.reduceAdd]
  rfl
theorem c_lowest (hb : isK b) (g : Int32) : X 10 0 [.ref b, .int g, .long 0] [] (H T P) = some (some (.int (lkI T b g)), H T P) := by
  have e0 := c_open (T := T) (P := P) hb 0 (by decide)
  have e1 := c_open (T := T) (P := P) hb 1 (by decide)
  have e2 := c_open (T := T) (P := P) hb 2 (by decide)
  have e3 := c_open (T := T) (P := P) hb 3 (by decide)
  have t0 := c_takesHanger (T := T) (P := P) 0 (by decide)
  have t1 := c_takesHanger (T := T) (P := P) 1 (by decide)
  have t2 := c_takesHanger (T := T) (P := P) 2 (by decide)
  have t3 := c_takesHanger (T := T) (P := P) 3 (by decide)
  simp only [nl0, nl1, nl2, nl3] at e0 e1 e2 e3 t0 t1 t2 t3
  simp +decide only [x10_0, x10_1, x10_2, x10_3, x10_4, x10_7, x10_8, x10_9, x10_12, x10_15, x10_16, x10_19, x10_20, x10_23, x10_26, x10_27, x10_28, x10_31, x10_34, x10_36, aft_some, aft_void, Option.bind_some, Option.toList_some, Option.toList_none, List.cons_append, List.nil_append, if_true, if_false, ↓reduceIte, eq_self, fK_o hb, e0, e1, e2, e3, t0, t1, t2, t3, Int32.reduceAdd]
  unfold lkI
  by_cases hg : g = 0
  · simp only [hg, not_true_eq_false, and_false, if_false, if_true]
    by_cases h0 : 0 < opI T b 0 <;> by_cases h1 : 0 < opI T b 1 <;> by_cases h2 : 0 < opI T b 2 <;> by_cases h3 : 0 < opI T b 3 <;> simp only [h0, h1, h2, h3, if_true, if_false]
  · simp only [hg, not_false_eq_true, and_true, if_false]
    by_cases h0 : 0 < opI T b 0 <;> by_cases h1 : 0 < opI T b 1 <;> by_cases h2 : 0 < opI T b 2 <;> by_cases h3 : 0 < opI T b 3 <;> simp only [h0, h1, h2, h3, if_true, if_false]
theorem c_misses (hb : isK b) (k : Nat) (hk : k < 4) (d : Int32) : X 11 0 [.ref b, .int (nI k), .int d] [] (H T P) = some (some (.int (if 0 < T (b + 3) k ∧ dgI (T b 3) k = d then 1 else 0)), H T P) := by
  simp +decide only [x11_0, x11_1, x11_4, x11_5, x11_6, x11_9, x11_10, x11_11, x11_14, x11_15, x11_18, x11_19, x11_22, x11_23, aft_some, aft_void, Option.bind_some, Option.toList_some, Option.toList_none, List.cons_append, List.nil_append, if_true, if_false, ↓reduceIte, eq_self, fK_o hb, ↓fK_0 hb, ↓fK_0p hb, ↓fK_1 hb, ↓fK_1p hb, ↓fK_2 hb, ↓fK_2p hb, ↓fK_3 hb, ↓fK_3p hb, ↓fK_4 hb, ↓fK_4p hb, ↓fK_5 hb, ↓fK_6 hb, ↓fK_7 hb, ↓fK1_g hb, ↓fK1_s hb, ↓fK2_g hb, ↓fK2_s hb, ↓fK3_g hb, ↓fK3_s hb, c_degree hb k hk, okx_nI hk (show (4 : Nat) < 2 ^ 31 by decide), nI_clamp (show k < 2 ^ 31 by omega), or_true, true_or]
  by_cases h1 : 0 < T (b + 3) k <;> by_cases h2 : dgI (T b 3) k = d <;> simp [h1, h2]
/-- a decimal digit as the machine takes it -/
def digI (d : Int32) (k : Nat) : Int32 := match k with
  | 0 => d / 1000 - d / 1000 / 10 * 10
  | 1 => d / 100 - d / 100 / 10 * 10
  | 2 => d / 10 - d / 10 / 10 * 10
  | _ => d / 1 - d / 1 / 10 * 10
theorem c_fill (hb : isK b) (d : Int32) : ∃ T', X 2 0 [.ref b, .int d, .long 0] [] (H T P) = some (none, H T' P) ∧ (∀ q, q ≠ b + 1 → q ≠ b + 2 → q ≠ b + 3 → T' q = T q) ∧ ∀ k, k < 4 → T' (b + 1) k = digI d k ∧ T' (b + 2) k = 0 ∧ T' (b + 3) k = 0 := by
  refine ⟨_, by
    simp +decide only [x2_0, x2_1, x2_2, x2_3, x2_4, x2_7, x2_8, x2_11, x2_12, x2_13, x2_16, x2_17, x2_18, x2_19, x2_21, x2_22, x2_23, x2_24, x2_27, x2_28, x2_29, x2_30, x2_31, x2_34, x2_35, x2_36, x2_37, x2_40, x2_43, aft_some, aft_void, Option.bind_some, Option.toList_some, Option.toList_none, List.cons_append, List.nil_append, if_true, if_false, ↓reduceIte, eq_self, fK_o hb, ↓fK_0 hb, ↓fK_0p hb, ↓fK_1 hb, ↓fK_1p hb, ↓fK_2 hb, ↓fK_2p hb, ↓fK_3 hb, ↓fK_3p hb, ↓fK_4 hb, ↓fK_4p hb, ↓fK_5 hb, ↓fK_6 hb, ↓fK_7 hb, ↓fK1_g hb, ↓fK1_s hb, ↓fK2_g hb, ↓fK2_s hb, ↓fK3_g hb, ↓fK3_s hb, ↓b_st (show (1 : Nat) < 4 by decide), cl0, cl1, cl2, cl3, Int32.reduceAdd, sArr]
    rfl, ?_, ?_⟩
  · intro q h1 h2 h3
    simp only [upA, h1, h2, h3, if_false]
  · intro k hk
    match k, hk with
    | 0, _ => simp [upA, digI]
    | 1, _ => simp [upA, digI]
    | 2, _ => simp [upA, digI]
    | 3, _ => simp [upA, digI]
end BK2
