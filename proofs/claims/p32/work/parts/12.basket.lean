/-! small numbers, loops, and the baskets' own methods -/
theorem okx_nI {i n : Nat} (h : i < n) (hn : n < 2 ^ 31) : okx (nI i) n = true := by
  simp only [okx, Bool.and_eq_true, decide_eq_true_eq]
  exact ⟨nI_pos' (by omega), by rw [nI_clamp (by omega)]; exact h⟩
theorem nI_lit (n : Nat) : (OfNat.ofNat n : Int32) = nI n := rfl
theorem cl0 : (0 : Int32).toNatClampNeg = 0 := by decide
theorem cl1 : (1 : Int32).toNatClampNeg = 1 := by decide
theorem cl2 : (2 : Int32).toNatClampNeg = 2 := by decide
theorem cl3 : (3 : Int32).toNatClampNeg = 3 := by decide
theorem cl4 : (4 : Int32).toNatClampNeg = 4 := by decide
/-- a loop whose turns change nothing but the state: its first state has the answer of its last -/
theorem loop_up {α : Type} (F : Nat → α) (k : Nat) (hs : ∀ i, i < k → F i = F (i + 1)) : F 0 = F k := by
  induction k with
  | zero => rfl
  | succ k ih => rw [ih (fun i hi => hs i (by omega)), hs k (by omega)]
theorem loop_at {α : Type} (F : Nat → α) (k j : Nat) (hj : j ≤ k) (hs : ∀ i, i < k → F i = F (i + 1)) : F j = F k := by
  have h1 := loop_up F j (fun i hi => hs i (by omega))
  have h2 := loop_up F k hs
  rw [← h1, h2]
/-- minutes of a piece -/
def mnI (s : Int32) (k : Nat) : Int32 := match k with
  | 0 => 5 + s
  | 1 => 4 + s
  | 2 => 6
  | _ => 8
def dgI (s : Int32) (k : Nat) : Int32 := match k with
  | 0 => s
  | 1 => s
  | _ => 0
section BK
variable {T : Nat → Nat → Int32} {P : Nat → Nat → Nat} {b : Nat}
theorem c_takesStarch (k : Nat) (hk : k < 4) : X 4 0 [.int (nI k)] [] (H T P) = some (some (.int (if k < 2 then 1 else 0)), H T P) := by
  match k, hk with
  | 0, _ => simp +decide only [x4_0, x4_3, x4_4, x4_5, x4_8, x4_9, x4_12, x4_13, aft_some, aft_void, Option.bind_some, Option.toList_some, Option.toList_none, List.cons_append, List.nil_append, if_true, if_false, ↓reduceIte, eq_self, show nI 0 = 0 from rfl, ↓b_st (show (2 : Nat) < 4 by decide), cl0, sArr]
  | 1, _ => simp +decide only [x4_0, x4_3, x4_4, x4_5, x4_8, x4_9, x4_12, x4_13, aft_some, aft_void, Option.bind_some, Option.toList_some, Option.toList_none, List.cons_append, List.nil_append, if_true, if_false, ↓reduceIte, eq_self, show nI 1 = 1 from rfl, ↓b_st (show (2 : Nat) < 4 by decide), cl1, sArr]
  | 2, _ => simp +decide only [x4_0, x4_3, x4_4, x4_5, x4_8, x4_9, x4_12, x4_13, aft_some, aft_void, Option.bind_some, Option.toList_some, Option.toList_none, List.cons_append, List.nil_append, if_true, if_false, ↓reduceIte, eq_self, show nI 2 = 2 from rfl, ↓b_st (show (2 : Nat) < 4 by decide), cl2, sArr]
  | 3, _ => simp +decide only [x4_0, x4_3, x4_4, x4_5, x4_8, x4_9, x4_12, x4_13, aft_some, aft_void, Option.bind_some, Option.toList_some, Option.toList_none, List.cons_append, List.nil_append, if_true, if_false, ↓reduceIte, eq_self, show nI 3 = 3 from rfl, ↓b_st (show (2 : Nat) < 4 by decide), cl3, sArr]
theorem c_takesHanger (k : Nat) (hk : k < 4) : X 5 0 [.int (nI k)] [] (H T P) = some (some (.int (if k < 3 then 1 else 0)), H T P) := by
  match k, hk with
  | 0, _ => simp +decide only [x5_0, x5_3, x5_4, x5_5, x5_8, x5_9, x5_12, x5_13, aft_some, aft_void, Option.bind_some, Option.toList_some, Option.toList_none, List.cons_append, List.nil_append, if_true, if_false, ↓reduceIte, eq_self, show nI 0 = 0 from rfl, ↓b_st (show (3 : Nat) < 4 by decide), cl0, sArr]
  | 1, _ => simp +decide only [x5_0, x5_3, x5_4, x5_5, x5_8, x5_9, x5_12, x5_13, aft_some, aft_void, Option.bind_some, Option.toList_some, Option.toList_none, List.cons_append, List.nil_append, if_true, if_false, ↓reduceIte, eq_self, show nI 1 = 1 from rfl, ↓b_st (show (3 : Nat) < 4 by decide), cl1, sArr]
  | 2, _ => simp +decide only [x5_0, x5_3, x5_4, x5_5, x5_8, x5_9, x5_12, x5_13, aft_some, aft_void, Option.bind_some, Option.toList_some, Option.toList_none, List.cons_append, List.nil_append, if_true, if_false, ↓reduceIte, eq_self, show nI 2 = 2 from rfl, ↓b_st (show (3 : Nat) < 4 by decide), cl2, sArr]
  | 3, _ => simp +decide only [x5_0, x5_3, x5_4, x5_5, x5_8, x5_9, x5_12, x5_13, aft_some, aft_void, Option.bind_some, Option.toList_some, Option.toList_none, List.cons_append, List.nil_append, if_true, if_false, ↓reduceIte, eq_self, show nI 3 = 3 from rfl, ↓b_st (show (3 : Nat) < 4 by decide), cl3, sArr]
theorem c_degree (hb : isK b) (k : Nat) (hk : k < 4) : X 6 0 [.ref b, .int (nI k)] [] (H T P) = some (some (.int (dgI (T b 3) k)), H T P) := by
  match k, hk with
  | 0, hk => simp +decide only [x6_0, x6_1, x6_4, x6_7, x6_8, x6_11, x6_14, x6_15, aft_some, aft_void, Option.bind_some, Option.toList_some, Option.toList_none, List.cons_append, List.nil_append, if_true, if_false, ↓reduceIte, eq_self, c_takesStarch 0 hk, fK_o hb, ↓fK_0 hb, ↓fK_0p hb, ↓fK_1 hb, ↓fK_1p hb, ↓fK_2 hb, ↓fK_2p hb, ↓fK_3 hb, ↓fK_3p hb, ↓fK_4 hb, ↓fK_4p hb, ↓fK_5 hb, ↓fK_6 hb, ↓fK_7 hb, ↓fK1_g hb, ↓fK1_s hb, ↓fK2_g hb, ↓fK2_s hb, ↓fK3_g hb, ↓fK3_s hb, dgI]
  | 1, hk => simp +decide only [x6_0, x6_1, x6_4, x6_7, x6_8, x6_11, x6_14, x6_15, aft_some, aft_void, Option.bind_some, Option.toList_some, Option.toList_none, List.cons_append, List.nil_append, if_true, if_false, ↓reduceIte, eq_self, c_takesStarch 1 hk, fK_o hb, ↓fK_0 hb, ↓fK_0p hb, ↓fK_1 hb, ↓fK_1p hb, ↓fK_2 hb, ↓fK_2p hb, ↓fK_3 hb, ↓fK_3p hb, ↓fK_4 hb, ↓fK_4p hb, ↓fK_5 hb, ↓fK_6 hb, ↓fK_7 hb, ↓fK1_g hb, ↓fK1_s hb, ↓fK2_g hb, ↓fK2_s hb, ↓fK3_g hb, ↓fK3_s hb, dgI]
  | 2, hk => simp +decide only [x6_0, x6_1, x6_4, x6_7, x6_8, x6_11, x6_14, x6_15, aft_some, aft_void, Option.bind_some, Option.toList_some, Option.toList_none, List.cons_append, List.nil_append, if_true, if_false, ↓reduceIte, eq_self, c_takesStarch 2 hk, fK_o hb, ↓fK_0 hb, ↓fK_0p hb, ↓fK_1 hb, ↓fK_1p hb, ↓fK_2 hb, ↓fK_2p hb, ↓fK_3 hb, ↓fK_3p hb, ↓fK_4 hb, ↓fK_4p hb, ↓fK_5 hb, ↓fK_6 hb, ↓fK_7 hb, ↓fK1_g hb, ↓fK1_s hb, ↓fK2_g hb, ↓fK2_s hb, ↓fK3_g hb, ↓fK3_s hb, dgI]
  | 3, hk => simp +decide only [x6_0, x6_1, x6_4, x6_7, x6_8, x6_11, x6_14, x6_15, aft_some, aft_void, Option.bind_some, Option.toList_some, Option.toList_none, List.cons_append, List.nil_append, if_true, if_false, ↓reduceIte, eq_self, c_takesStarch 3 hk, fK_o hb, ↓fK_0 hb, ↓fK_0p hb, ↓fK_1 hb, ↓fK_1p hb, ↓fK_2 hb, ↓fK_2p hb, ↓fK_3 hb, ↓fK_3p hb, ↓fK_4 hb, ↓fK_4p hb, ↓fK_5 hb, ↓fK_6 hb, ↓fK_7 hb, ↓fK1_g hb, ↓fK1_s hb, ↓fK2_g hb, ↓fK2_s hb, ↓fK3_g hb, ↓fK3_s hb, dgI]
theorem c_minutes (hb : isK b) (k : Nat) (hk : k < 4) : X 7 0 [.ref b, .int (nI k)] [] (H T P) = some (some (.int (mnI (T b 3) k)), H T P) := by
  simp only [x7_0, x7_3, x7_4, x7_5, x7_8, x7_9, x7_10, x7_11, x7_14, x7_15, x7_16, aft_some, aft_void, Option.bind_some, Option.toList_some, Option.toList_none, List.cons_append, List.nil_append, if_true, if_false, ↓reduceIte, eq_self, fK_o hb, ↓fK_0 hb, ↓fK_0p hb, ↓fK_1 hb, ↓fK_1p hb, ↓fK_2 hb, ↓fK_2p hb, ↓fK_3 hb, ↓fK_3p hb, ↓fK_4 hb, ↓fK_4p hb, ↓fK_5 hb, ↓fK_6 hb, ↓fK_7 hb, ↓fK1_g hb, ↓fK1_s hb, ↓fK2_g hb, ↓fK2_s hb, ↓fK3_g hb, ↓fK3_s hb, ↓b_st (show (0 : Nat) < 4 by decide), ↓b_st (show (2 : Nat) < 4 by decide), okx_nI hk (show (4 : Nat) < 2 ^ 31 by decide), nI_clamp (show k < 2 ^ 31 by omega)]
  match k, hk with
  | 0, _ => simp only [sArr, mnI, Int32.one_mul]
  | 1, _ => simp only [sArr, mnI, Int32.one_mul]
  | 2, _ => simp only [sArr, mnI, Int32.zero_mul, Int32.add_zero]
  | 3, _ => simp only [sArr, mnI, Int32.zero_mul, Int32.add_zero]
/-- pieces of a kind that are neither ironed nor missed -/
abbrev opI (T : Nat → Nat → Int32) (b k : Nat) : Int32 := T (b + 1) k - T (b + 2) k - T (b + 3) k
theorem c_open (hb : isK b) (k : Nat) (hk : k < 4) : X 8 0 [.ref b, .int (nI k)] [] (H T P) = some (some (.int (opI T b k)), H T P) := by
  simp only [x8_0, x8_1, x8_4, x8_5, x8_6, x8_7, x8_10, x8_11, x8_12, x8_13, x8_14, x8_17, x8_18, x8_19, x8_20, aft_some, aft_void, Option.bind_some, Option.toList_some, Option.toList_none, List.cons_append, List.nil_append, if_true, if_false, ↓reduceIte, eq_self, fK_o hb, ↓fK_0 hb, ↓fK_0p hb, ↓fK_1 hb, ↓fK_1p hb, ↓fK_2 hb, ↓fK_2p hb, ↓fK_3 hb, ↓fK_3p hb, ↓fK_4 hb, ↓fK_4p hb, ↓fK_5 hb, ↓fK_6 hb, ↓fK_7 hb, ↓fK1_g hb, ↓fK1_s hb, ↓fK2_g hb, ↓fK2_s hb, ↓fK3_g hb, ↓fK3_s hb, okx_nI hk (show (4 : Nat) < 2 ^ 31 by decide), nI_clamp (show k < 2 ^ 31 by omega)]
def omI (T : Nat → Nat → Int32) (b : Nat) : Int32 := 0 + opI T b 0 * mnI (T b 3) 0 + opI T b 1 * mnI (T b 3) 1 + opI T b 2 * mnI (T b 3) 2 + opI T b 3 * mnI (T b 3) 3
theorem c_openMinutes (hb : isK b) : X 9 0 [.ref b, .long 0, .long 0] [] (H T P) = some (some (.int (omI T b)), H T P) := by
  have e0 := c_open (T := T) (P := P) hb 0 (by decide)
  have e1 := c_open (T := T) (P := P) hb 1 (by decide)
  have e2 := c_open (T := T) (P := P) hb 2 (by decide)
  have e3 := c_open (T := T) (P := P) hb 3 (by decide)
  have m0 := c_minutes (T := T) (P := P) hb 0 (by decide)
  have m1 := c_minutes (T := T) (P := P) hb 1 (by decide)
  have m2 := c_minutes (T := T) (P := P) hb 2 (by decide)
  have m3 := c_minutes (T := T) (P := P) hb 3 (by decide)
  simp only [show nI 0 = 0 from rfl, show nI 1 = 1 from rfl, show nI 2 = 2 from rfl, show nI 3 = 3 from rfl] at e0 e1 e2 e3 m0 m1 m2 m3
  simp +decide only [x9_0, x9_1, x9_2, x9_3, x9_4, x9_5, x9_6, x9_9, x9_10, x9_11, x9_12, x9_15, x9_16, x9_17, x9_20, x9_21, x9_22, x9_23, x9_26, x9_29, x9_30, aft_some, aft_void, Option.bind_some, Option.toList_some, Option.toList_none, List.cons_append, List.nil_append, if_true, if_false, ↓reduceIte, eq_self, fK_o hb, e0, e1, e2, e3, m0, m1, m2, m3, Int32.reduceAdd]
  rfl
end BK
