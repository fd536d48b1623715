/-! the parts of a state: customers, hangers out, lost pieces, board, book: their small methods -/
section PT
variable {T : Nat → Nat → Int32} {P : Nat → Nat → Nat} {o q n : Nat} {x y z : Int32}
/-- Customers.copyFrom -/
theorem c_cuCopy (ho : isB o) (hq : isB q) (hne : o ≠ q) (hn : T (q + 3) 0 = nI n) (h10 : n ≤ 10) : ∃ T', X 32 0 [.ref (o + 3), .ref (q + 3)] [] (H T P) = some (none, H T' P) ∧
    (∀ a, a ≠ o + 3 → a ≠ o + 4 → a ≠ o + 5 → a ≠ o + 6 → T' a = T a) ∧ T' (o + 3) 0 = nI n ∧ ∀ i, i < n → T' (o + 4) i = T (q + 4) i ∧ T' (o + 5) i = T (q + 5) i ∧ T' (o + 6) i = T (q + 6) i := by
  refine ⟨_, by
    simp +decide only [x32_0, x32_1, x32_1N, x32_2, x32_5, x32_8, x32_8N, x32_9, x32_12, x32_13, x32_14, x32_17, x32_18, x32_19, x32_22, x32_25, x32_25N, x32_26, x32_29, x32_30, x32_31, x32_34, x32_35, x32_36, x32_39, x32_42, x32_42N, x32_43, x32_46, x32_47, x32_48, x32_51, x32_52, x32_53, x32_56, x32_59, aft_some, aft_void, Option.bind_some, Option.toList_some, Option.toList_none, List.cons_append, List.nil_append, if_true, if_false, ↓reduceIte, eq_self, f3_o ho, ↓f3_0 ho, ↓f3_0p ho, ↓f3_1 ho, ↓f3_2 ho, ↓f3_3 ho, ↓f4_g ho, ↓f4_s ho, ↓f5_g ho, ↓f5_s ho, ↓f6_g ho, ↓f6_s ho, f3_o hq, ↓f3_0 hq, ↓f3_0p hq, ↓f3_1 hq, ↓f3_2 hq, ↓f3_3 hq, ↓f4_g hq, ↓f4_s hq, ↓f5_g hq, ↓f5_s hq, ↓f6_g hq, ↓f6_s hq, upA_s, u_oo, u_o0, u_0o, u_n, u_ap ho hq hne, hn, ↓g_cp0 (q4 hq) (q4 ho) (show nI n = nI n from rfl) h10 h10 (by omega), ↓g_cp0 (q5 hq) (q5 ho) (show nI n = nI n from rfl) h10 h10 (by omega), ↓g_cp0 (q6 hq) (q6 ho) (show nI n = nI n from rfl) h10 h10 (by omega)]
    rfl, ?_, ?_, ?_⟩
  · intro a h3 h4 h5 h6
    simp only [upA_n _ _ h3, upA_n _ _ h4, upA_n _ _ h5, upA_n _ _ h6]
  · simp +decide only [upA_s, u_oo]
  · intro i hi
    simp +decide only [upA_s, u_oo, cpy0 hi, and_self]
/-- HangersOut.copyFrom -/
theorem c_ouCopy (ho : isB o) (hq : isB q) (hne : o ≠ q) (hn : T (q + 41) 3 = nI n) (h10 : n ≤ 99) : ∃ T', X 39 0 [.ref (o + 41), .ref (q + 41)] [] (H T P) = some (none, H T' P) ∧
    (∀ a, a ≠ o + 41 → a ≠ o + 42 → a ≠ o + 43 → a ≠ o + 44 → T' a = T a) ∧ T' (o + 41) 3 = nI n ∧ ∀ i, i < n → T' (o + 42) i = T (q + 42) i ∧ T' (o + 43) i = T (q + 43) i ∧ T' (o + 44) i = T (q + 44) i := by
  refine ⟨_, by
    simp +decide only [x39_0, x39_1, x39_1N, x39_2, x39_5, x39_8, x39_8N, x39_9, x39_12, x39_13, x39_14, x39_17, x39_18, x39_19, x39_22, x39_25, x39_25N, x39_26, x39_29, x39_30, x39_31, x39_34, x39_35, x39_36, x39_39, x39_42, x39_42N, x39_43, x39_46, x39_47, x39_48, x39_51, x39_52, x39_53, x39_56, x39_59, aft_some, aft_void, Option.bind_some, Option.toList_some, Option.toList_none, List.cons_append, List.nil_append, if_true, if_false, ↓reduceIte, eq_self, f41_o ho, ↓f41_0 ho, ↓f41_1 ho, ↓f41_2 ho, ↓f41_3 ho, ↓f41_3p ho, ↓f42_g ho, ↓f42_s ho, ↓f43_g ho, ↓f43_s ho, ↓f44_g ho, ↓f44_s ho, f41_o hq, ↓f41_0 hq, ↓f41_1 hq, ↓f41_2 hq, ↓f41_3 hq, ↓f41_3p hq, ↓f42_g hq, ↓f42_s hq, ↓f43_g hq, ↓f43_s hq, ↓f44_g hq, ↓f44_s hq, upA_s, u_oo, u_o0, u_0o, u_n, u_ap ho hq hne, hn, ↓g_cp0 (q42 hq) (q42 ho) (show nI n = nI n from rfl) h10 h10 (by omega), ↓g_cp0 (q43 hq) (q43 ho) (show nI n = nI n from rfl) h10 h10 (by omega), ↓g_cp0 (q44 hq) (q44 ho) (show nI n = nI n from rfl) h10 h10 (by omega)]
    rfl, ?_, ?_, ?_⟩
  · intro a h3 h4 h5 h6
    simp only [upA_n _ _ h3, upA_n _ _ h4, upA_n _ _ h5, upA_n _ _ h6]
  · simp +decide only [upA_s, u_oo]
  · intro i hi
    simp +decide only [upA_s, u_oo, cpy0 hi, and_self]
/-- PinlessPieces.copyFrom -/
theorem c_piCopy (ho : isB o) (hq : isB q) (hne : o ≠ q) (hn : T (q + 45) 2 = nI n) (h10 : n ≤ 20) : ∃ T', X 56 0 [.ref (o + 45), .ref (q + 45)] [] (H T P) = some (none, H T' P) ∧
    (∀ a, a ≠ o + 45 → a ≠ o + 46 → a ≠ o + 47 → T' a = T a) ∧ T' (o + 45) 2 = nI n ∧ ∀ i, i < n → T' (o + 46) i = T (q + 46) i ∧ T' (o + 47) i = T (q + 47) i := by
  refine ⟨_, by
    simp +decide only [x56_0, x56_1, x56_1N, x56_2, x56_5, x56_8, x56_8N, x56_9, x56_12, x56_13, x56_14, x56_17, x56_18, x56_19, x56_22, x56_25, x56_25N, x56_26, x56_29, x56_30, x56_31, x56_34, x56_35, x56_36, x56_39, x56_42, aft_some, aft_void, Option.bind_some, Option.toList_some, Option.toList_none, List.cons_append, List.nil_append, if_true, if_false, ↓reduceIte, eq_self, f45_o ho, ↓f45_0 ho, ↓f45_1 ho, ↓f45_2 ho, ↓f45_2p ho, ↓f46_g ho, ↓f46_s ho, ↓f47_g ho, ↓f47_s ho, f45_o hq, ↓f45_0 hq, ↓f45_1 hq, ↓f45_2 hq, ↓f45_2p hq, ↓f46_g hq, ↓f46_s hq, ↓f47_g hq, ↓f47_s hq, upA_s, u_oo, u_o0, u_0o, u_n, u_ap ho hq hne, hn, ↓g_cp0 (q46 hq) (q46 ho) (show nI n = nI n from rfl) h10 h10 (by omega), ↓g_cp0 (q47 hq) (q47 ho) (show nI n = nI n from rfl) h10 h10 (by omega)]
    rfl, ?_, ?_, ?_⟩
  · intro a h3 h4 h5
    simp only [upA_n _ _ h3, upA_n _ _ h4, upA_n _ _ h5]
  · simp +decide only [upA_s, u_oo]
  · intro i hi
    simp +decide only [upA_s, u_oo, cpy0 hi, and_self]
/-- Board.copyFrom -/
theorem c_boCopy (ho : isB o) (hq : isB q) (hne : o ≠ q) : ∃ T', X 30 0 [.ref (o + 48), .ref (q + 48)] [] (H T P) = some (none, H T' P) ∧
    (∀ a, a ≠ o + 48 → T' a = T a) ∧ ∀ k, k < 4 → T' (o + 48) k = T (q + 48) k := by
  refine ⟨_, by
    simp +decide only [x30_0, x30_1, x30_1N, x30_2, x30_5, x30_8, x30_9, x30_9N, x30_10, x30_13, x30_16, x30_17, x30_17N, x30_18, x30_21, x30_24, x30_25, x30_25N, x30_26, x30_29, x30_32, aft_some, aft_void, Option.bind_some, Option.toList_some, Option.toList_none, List.cons_append, List.nil_append, if_true, if_false, ↓reduceIte, eq_self, f48_o ho, ↓f48_0 ho, ↓f48_0p ho, ↓f48_1 ho, ↓f48_1p ho, ↓f48_2 ho, ↓f48_2p ho, ↓f48_3 ho, ↓f48_3p ho, f48_o hq, ↓f48_0 hq, ↓f48_0p hq, ↓f48_1 hq, ↓f48_1p hq, ↓f48_2 hq, ↓f48_2p hq, ↓f48_3 hq, ↓f48_3p hq, upA_s, u_oo, u_o0, u_0o, u_n, u_ap ho hq hne]
    rfl, ?_, ?_⟩
  · intro a h3
    simp only [upA_n _ _ h3]
  · intro k hk
    match k, hk with
    | 0, _ => simp [upA]
    | 1, _ => simp [upA]
    | 2, _ => simp [upA]
    | 3, _ => simp [upA]
/-- Journal.copyFrom -/
theorem c_joCopy (ho : isB o) (hq : isB q) (hne : o ≠ q) : ∃ T', X 52 0 [.ref (o + 49), .ref (q + 49)] [] (H T P) = some (none, H T' P) ∧
    (∀ a, a ≠ o + 49 → a ≠ o + 50 → T' a = T a) ∧ T' (o + 49) 1 = T (q + 49) 1 ∧ T' (o + 49) 2 = T (q + 49) 2 ∧ ∀ k, k < 40 → T' (o + 50) k = T (q + 50) k := by
  refine ⟨_, by
    simp +decide only [x52_0, x52_1, x52_1N, x52_2, x52_5, x52_8, x52_9, x52_9N, x52_10, x52_13, x52_16, x52_16N, x52_17, x52_20, x52_21, x52_22, x52_25, x52_26, x52_28, x52_31, aft_some, aft_void, Option.bind_some, Option.toList_some, Option.toList_none, List.cons_append, List.nil_append, if_true, if_false, ↓reduceIte, eq_self, f49_o ho, ↓f49_0 ho, ↓f49_1 ho, ↓f49_1p ho, ↓f49_2 ho, ↓f49_2p ho, ↓f50_g ho, ↓f50_s ho, f49_o hq, ↓f49_0 hq, ↓f49_1 hq, ↓f49_1p hq, ↓f49_2 hq, ↓f49_2p hq, ↓f50_g hq, ↓f50_s hq, upA_s, u_oo, u_o0, u_0o, u_n, u_ap ho hq hne, ↓g_cp0 (q50 hq) (q50 ho) (show (40 : Int32) = nI 40 from rfl) (Nat.le_refl 40) (Nat.le_refl 40) (by decide)]
    rfl, ?_, ?_, ?_, ?_⟩
  · intro a h3 h4
    simp only [upA_n _ _ h3, upA_n _ _ h4]
  · simp +decide [upA]
  · simp +decide [upA]
  · intro k hk
    simp +decide only [upA_s, u_oo, cpy0 hk]
/-- Customers: has, enter, the sums -/
theorem c_has (ho : isB o) : X 33 0 [.ref (o + 3), .int x] [] (H T P) = some (some (.int (if x < 0 then 0 else if x < T (o + 3) 0 then 1 else 0)), H T P) := by
  simp +decide only [x33_0, x33_1, x33_4, x33_5, x33_6, x33_9, x33_12, x33_13, x33_16, x33_17, aft_some, aft_void, Option.bind_some, Option.toList_some, Option.toList_none, List.cons_append, List.nil_append, if_true, if_false, ↓reduceIte, eq_self, f3_o ho, ↓f3_0 ho, ↓f3_0p ho, ↓f3_1 ho, ↓f3_2 ho, ↓f3_3 ho, ↓f4_g ho, ↓f4_s ho, ↓f5_g ho, ↓f5_s ho, ↓f6_g ho, ↓f6_s ho, or_true, true_or]
  repeat' split
  all_goals rfl
theorem c_enter (ho : isB o) (hn : T (o + 3) 0 = nI n) (h10 : n < 10) : ∃ T', X 34 0 [.ref (o + 3), .int x, .long 0] [] (H T P) = some (some (.int (nI n)), H T' P) ∧
    (∀ a, a ≠ o + 3 → a ≠ o + 4 → a ≠ o + 5 → a ≠ o + 6 → T' a = T a) ∧ T' (o + 3) 0 = nI (n + 1) ∧ (∀ i, i < n → T' (o + 4) i = T (o + 4) i ∧ T' (o + 5) i = T (o + 5) i ∧ T' (o + 6) i = T (o + 6) i) ∧ T' (o + 4) n = x ∧ T' (o + 5) n = 0 ∧ T' (o + 6) n = 0 := by
  refine ⟨_, by
    simp +decide only [x34_0, x34_1, x34_4, x34_5, x34_6, x34_9, x34_10, x34_11, x34_12, x34_13, x34_16, x34_17, x34_18, x34_19, x34_20, x34_23, x34_24, x34_25, x34_26, x34_27, x34_28, x34_31, x34_32, x34_33, x34_36, x34_37, aft_some, aft_void, Option.bind_some, Option.toList_some, Option.toList_none, List.cons_append, List.nil_append, if_true, if_false, ↓reduceIte, eq_self, f3_o ho, ↓f3_0 ho, ↓f3_0p ho, ↓f3_1 ho, ↓f3_2 ho, ↓f3_3 ho, ↓f4_g ho, ↓f4_s ho, ↓f5_g ho, ↓f5_s ho, ↓f6_g ho, ↓f6_s ho, upA_s, u_oo, u_o0, u_0o, u_n, hn, okx_nI h10 (show (10 : Nat) < 2 ^ 31 by decide), nI_clamp (show n < 2 ^ 31 by omega), nI_1]
    rfl, ?_, ?_, ?_, ?_⟩
  · intro a h3 h4 h5 h6
    simp only [upA_n _ _ h3, upA_n _ _ h4, upA_n _ _ h5, upA_n _ _ h6]
  · simp +decide only [upA_s, u_oo]
  · intro i hi
    have hin : i ≠ n := by omega
    simp +decide only [upA_s, u_oo, upA_n _ _ hin, and_self]
  · simp +decide only [upA_s, u_oo, and_self]
def smI (f : Nat → Int32) : Nat → Int32
  | 0 => 0
  | n + 1 => smI f n + f n
theorem c_sumOf {a : Nat} (ho : isB o) (hs : shapes[a]? = some (.inr (0, 10))) (hn : T (o + 3) 0 = nI n) (h10 : n ≤ 10) : X 37 0 [.ref (o + 3), .ref a, .long 0, .long 0] [] (H T P) = some (some (.int (smI (T a) n)), H T P) := by
  have hstep : ∀ i, i < n → X 37 4 [.ref (o + 3), .ref a, .int (smI (T a) i), .int (nI i)] [] (H T P) = X 37 4 [.ref (o + 3), .ref a, .int (smI (T a) (i + 1)), .int (nI (i + 1))] [] (H T P) := by
    intro i hi
    rw [x37_4]
    simp +decide only [x37_0, x37_1, x37_2, x37_3, x37_5, x37_6, x37_9, x37_12, x37_13, x37_13N, x37_14, x37_15, x37_16, x37_17, x37_18, x37_21, x37_24, x37_25, aft_some, aft_void, Option.bind_some, Option.toList_some, Option.toList_none, List.cons_append, List.nil_append, if_true, if_false, ↓reduceIte, eq_self, f3_o ho, ↓f3_0 ho, ↓f3_0p ho, ↓f3_1 ho, ↓f3_2 ho, ↓f3_3 ho, ↓f4_g ho, ↓f4_s ho, ↓f5_g ho, ↓f5_s ho, ↓f6_g ho, ↓f6_s ho, hn, nI_lt hi (show n < 2 ^ 31 by omega), ↓b_gi hs (show 0 < 2 by decide), okx_nI (show i < 10 by omega) (show (10 : Nat) < 2 ^ 31 by decide), nI_clamp (show i < 2 ^ 31 by omega), nI_1, smI]
  simp +decide only [x37_0, x37_1, x37_2, x37_3, x37_5, x37_6, x37_9, x37_12, x37_13, x37_13N, x37_14, x37_15, x37_16, x37_17, x37_18, x37_21, x37_24, x37_25, aft_some, aft_void, Option.bind_some, Option.toList_some, Option.toList_none, List.cons_append, List.nil_append, if_true, if_false, ↓reduceIte, eq_self]
  rw [show X 37 4 [.ref (o + 3), .ref a, .int 0, .int 0] [] (H T P) = _ from loop_up (fun i => X 37 4 [.ref (o + 3), .ref a, .int (smI (T a) i), .int (nI i)] [] (H T P)) n hstep, x37_4]
  simp +decide only [x37_0, x37_1, x37_2, x37_3, x37_5, x37_6, x37_9, x37_12, x37_13, x37_13N, x37_14, x37_15, x37_16, x37_17, x37_18, x37_21, x37_24, x37_25, aft_some, aft_void, Option.bind_some, Option.toList_some, Option.toList_none, List.cons_append, List.nil_append, if_true, if_false, ↓reduceIte, eq_self, f3_o ho, ↓f3_0 ho, ↓f3_0p ho, ↓f3_1 ho, ↓f3_2 ho, ↓f3_3 ho, ↓f4_g ho, ↓f4_s ho, ↓f5_g ho, ↓f5_s ho, ↓f6_g ho, ↓f6_s ho, hn, nI_nlt (Nat.le_refl n) (show n < 2 ^ 31 by omega)]
theorem c_owed (ho : isB o) (hn : T (o + 3) 0 = nI n) (h10 : n ≤ 10) : X 35 0 [.ref (o + 3)] [] (H T P) = some (some (.int (smI (T (o + 5)) n)), H T P) := by
  simp +decide only [x35_0, x35_1, x35_2, x35_5, x35_8, aft_some, aft_void, Option.bind_some, Option.toList_some, Option.toList_none, List.cons_append, List.nil_append, if_true, if_false, ↓reduceIte, eq_self, f3_o ho, ↓f3_0 ho, ↓f3_0p ho, ↓f3_1 ho, ↓f3_2 ho, ↓f3_3 ho, ↓f4_g ho, ↓f4_s ho, ↓f5_g ho, ↓f5_s ho, ↓f6_g ho, ↓f6_s ho, ↓aft_of (c_sumOf ho (q5 ho) hn h10)]
theorem c_paidAll (ho : isB o) (hn : T (o + 3) 0 = nI n) (h10 : n ≤ 10) : X 36 0 [.ref (o + 3)] [] (H T P) = some (some (.int (smI (T (o + 6)) n)), H T P) := by
  simp +decide only [x36_0, x36_1, x36_2, x36_5, x36_8, aft_some, aft_void, Option.bind_some, Option.toList_some, Option.toList_none, List.cons_append, List.nil_append, if_true, if_false, ↓reduceIte, eq_self, f3_o ho, ↓f3_0 ho, ↓f3_0p ho, ↓f3_1 ho, ↓f3_2 ho, ↓f3_3 ho, ↓f4_g ho, ↓f4_s ho, ↓f5_g ho, ↓f5_s ho, ↓f6_g ho, ↓f6_s ho, ↓aft_of (c_sumOf ho (q6 ho) hn h10)]
end PT
