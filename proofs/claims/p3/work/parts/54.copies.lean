/-! the reference's copying loops -/
theorem cp_rec1 {T : Nat → Nat → Int32} {P : Nat → Nat → Nat} : ∃ U, X 131 10 [.ref 366, .int (nI 0)] [] (H T P) = X 131 10 [.ref 366, .int (nI 2736)] [] (H U P) ∧ (∀ a, a ≠ 369 → U a = T a) ∧ (∀ k, k < 2736 → U 369 (k) = T 369 (k + 912)) ∧ ∀ k, (k < 0 ∨ 0 + 2736 ≤ k) → U 369 k = T 369 k := by
  obtain ⟨U, e, i1, i2, i3⟩ := loop_ex (fun i U => X 131 10 [.ref 366, .int (nI i)] [] (H U P)) (fun i U => (∀ a, a ≠ 369 → U a = T a) ∧ (∀ k, k < i → U 369 (k) = T 369 (k + 912)) ∧ ∀ k, (k < 0 ∨ 0 + i ≤ k) → U 369 k = T 369 k) 2736 T ⟨fun _ _ => rfl, fun k hk => absurd hk (Nat.not_lt_zero k), fun _ _ => rfl⟩ (by
    intro i U hi ⟨i1, i2, i3⟩
    refine ⟨up1 U 369 (i) (T 369 (i + 912)), ?_, fun a ha => ?_, fun k hk => ?_, fun k hk => ?_⟩
    · have hlt : nI i < 2736 := nI_lt hi (by decide)
      have hx : nI i + 912 = nI (i + 912) := nI_add _ 912
      have hs : U 369 (i + 912) = T 369 (i + 912) := i3 (i + 912) (by omega)
      show X 131 10 [.ref 366, .int (nI i)] [] (H U P) = _
      rw [x131_10]
      simp +decide only [x131_0, x131_0N, x131_1, x131_4, x131_5, x131_8, x131_9, x131_11, x131_14, x131_17, x131_17N, x131_18, x131_21, x131_22, x131_22N, x131_23, x131_26, x131_27, x131_30, x131_31, x131_32, x131_33, x131_36, x131_39, x131_39N, x131_40, x131_41, x131_44, x131_45, x131_46, x131_49, x131_50, x131_51, x131_52, x131_55, x131_58, x131_58N, x131_59, x131_62, x131_65, x131_65N, x131_66, x131_69, x131_70, x131_71, x131_72, x131_72N, x131_73, x131_76, x131_77, x131_78, x131_79, x131_82, x131_85, x131_85N, x131_86, x131_87, x131_90, x131_91, x131_92, x131_95, aft_some, aft_void, Option.bind_some, Option.toList_some, Option.toList_none, List.cons_append, List.nil_append, if_true, if_false, ↓reduceIte, eq_self, z366_o, ↓z366_0, ↓z366_0p, ↓z366_1, ↓z366_2, ↓z366_3, ↓z366_4, ↓z366_4p, ↓z366_5, ↓z366_6, ↓z366_6p0, ↓z366_6p1, ↓z366_7, ↓z366_8, ↓z366_8p, ↓z366_9, ↓z366_9p, ↓z366_10, ↓z366_10p0, ↓z366_10p1, ↓z366_11, ↓z366_12, ↓z366_12p, ↓sg0, ↓sg1, ↓sg2, ↓sg3, ↓sg4, ↓sg5, ↓sg6, ↓sg7, ↓sg8, ↓sg9, ↓sg10, ↓sg11, ↓sg12, ↓sg13, ↓sg14, ↓sg15, ↓sg16, ↓sg17, ↓ss0, ↓ss1, ↓ss2, ↓ss3, ↓ss4, ↓ss5, ↓ss6, ↓ss7, ↓ss8, ↓ss9, ↓ss10, ↓ss11, ↓ss12, ↓ss13, ↓ss14, ↓ss15, ↓ss16, ↓ss17, hlt, ↓a369_g (show i + 912 < 3648 by omega), ↓a369_s (show i < 3648 by omega), hs, nI_1, hx]
    · rw [up1_n ha]; exact i1 a ha
    · rw [up1_s]
      unfold upA
      by_cases e : k = i
      · rw [if_pos (by rw [e]), e]
      · rw [if_neg (by omega)]; exact i2 k (by omega)
    · rw [up1_s, upA_n _ _ (by omega)]; exact i3 k (by omega))
  exact ⟨U, e, i1, i2, i3⟩
theorem cp_rec2 {T : Nat → Nat → Int32} {P : Nat → Nat → Nat} {j : Nat} (hj : T 366 4 = nI j) (hj4 : j < 4) : ∃ U, X 131 51 [.ref 366, .int (nI 0)] [] (H T P) = X 131 51 [.ref 366, .int (nI 912)] [] (H U P) ∧ (∀ a, a ≠ 369 → U a = T a) ∧ (∀ k, k < 912 → U 369 (912 * j + k) = T 367 (k)) ∧ ∀ k, (k < 912 * j ∨ 912 * j + 912 ≤ k) → U 369 k = T 369 k := by
  obtain ⟨U, e, i1, i2, i3⟩ := loop_ex (fun i U => X 131 51 [.ref 366, .int (nI i)] [] (H U P)) (fun i U => (∀ a, a ≠ 369 → U a = T a) ∧ (∀ k, k < i → U 369 (912 * j + k) = T 367 (k)) ∧ ∀ k, (k < 912 * j ∨ 912 * j + i ≤ k) → U 369 k = T 369 k) 912 T ⟨fun _ _ => rfl, fun k hk => absurd hk (Nat.not_lt_zero k), fun _ _ => rfl⟩ (by
    intro i U hi ⟨i1, i2, i3⟩
    refine ⟨up1 U 369 (912 * j + i) (T 367 (i)), ?_, fun a ha => ?_, fun k hk => ?_, fun k hk => ?_⟩
    · have hlt : nI i < 912 := nI_lt hi (by decide)
      have hx : 912 * nI j + nI i = nI (912 * j + i) := by
        rw [show (912 : Int32) = nI 912 from rfl, nI_mul, nI_add]
      have h36 : U 366 4 = nI j := (congrFun (i1 366 (by decide)) 4).trans hj
      have hs : U 367 (i) = T 367 (i) := congrFun (i1 367 (by decide)) _
      show X 131 51 [.ref 366, .int (nI i)] [] (H U P) = _
      rw [x131_51]
      simp +decide only [x131_0, x131_0N, x131_1, x131_4, x131_5, x131_8, x131_9, x131_10, x131_11, x131_14, x131_17, x131_17N, x131_18, x131_21, x131_22, x131_22N, x131_23, x131_26, x131_27, x131_30, x131_31, x131_32, x131_33, x131_36, x131_39, x131_39N, x131_40, x131_41, x131_44, x131_45, x131_46, x131_49, x131_50, x131_52, x131_55, x131_58, x131_58N, x131_59, x131_62, x131_65, x131_65N, x131_66, x131_69, x131_70, x131_71, x131_72, x131_72N, x131_73, x131_76, x131_77, x131_78, x131_79, x131_82, x131_85, x131_85N, x131_86, x131_87, x131_90, x131_91, x131_92, x131_95, aft_some, aft_void, Option.bind_some, Option.toList_some, Option.toList_none, List.cons_append, List.nil_append, if_true, if_false, ↓reduceIte, eq_self, z366_o, ↓z366_0, ↓z366_0p, ↓z366_1, ↓z366_2, ↓z366_3, ↓z366_4, ↓z366_4p, ↓z366_5, ↓z366_6, ↓z366_6p0, ↓z366_6p1, ↓z366_7, ↓z366_8, ↓z366_8p, ↓z366_9, ↓z366_9p, ↓z366_10, ↓z366_10p0, ↓z366_10p1, ↓z366_11, ↓z366_12, ↓z366_12p, ↓sg0, ↓sg1, ↓sg2, ↓sg3, ↓sg4, ↓sg5, ↓sg6, ↓sg7, ↓sg8, ↓sg9, ↓sg10, ↓sg11, ↓sg12, ↓sg13, ↓sg14, ↓sg15, ↓sg16, ↓sg17, ↓ss0, ↓ss1, ↓ss2, ↓ss3, ↓ss4, ↓ss5, ↓ss6, ↓ss7, ↓ss8, ↓ss9, ↓ss10, ↓ss11, ↓ss12, ↓ss13, ↓ss14, ↓ss15, ↓ss16, ↓ss17, hlt, ↓a367_g (show i < 912 by omega), ↓a369_s (show 912 * j + i < 3648 by omega), hs, nI_1, hx, h36]
    · rw [up1_n ha]; exact i1 a ha
    · rw [up1_s]
      unfold upA
      by_cases e : k = i
      · rw [if_pos (by rw [e]), e]
      · rw [if_neg (by omega)]; exact i2 k (by omega)
    · rw [up1_s, upA_n _ _ (by omega)]; exact i3 k (by omega))
  exact ⟨U, e, i1, i2, i3⟩
theorem cp_undo {T : Nat → Nat → Int32} {P : Nat → Nat → Nat} {j : Nat} (hj : T 366 4 = nI j) (hj4 : j < 4) : ∃ U, X 184 27 [.ref 366, .int (nI 0)] [] (H T P) = X 184 27 [.ref 366, .int (nI 912)] [] (H U P) ∧ (∀ a, a ≠ 367 → U a = T a) ∧ (∀ k, k < 912 → U 367 (k) = T 369 (912 * j + k)) ∧ ∀ k, (k < 0 ∨ 0 + 912 ≤ k) → U 367 k = T 367 k := by
  obtain ⟨U, e, i1, i2, i3⟩ := loop_ex (fun i U => X 184 27 [.ref 366, .int (nI i)] [] (H U P)) (fun i U => (∀ a, a ≠ 367 → U a = T a) ∧ (∀ k, k < i → U 367 (k) = T 369 (912 * j + k)) ∧ ∀ k, (k < 0 ∨ 0 + i ≤ k) → U 367 k = T 367 k) 912 T ⟨fun _ _ => rfl, fun k hk => absurd hk (Nat.not_lt_zero k), fun _ _ => rfl⟩ (by
    intro i U hi ⟨i1, i2, i3⟩
    refine ⟨up1 U 367 (i) (T 369 (912 * j + i)), ?_, fun a ha => ?_, fun k hk => ?_, fun k hk => ?_⟩
    · have hlt : nI i < 912 := nI_lt hi (by decide)
      have hx : 912 * nI j + nI i = nI (912 * j + i) := by
        rw [show (912 : Int32) = nI 912 from rfl, nI_mul, nI_add]
      have h36 : U 366 4 = nI j := (congrFun (i1 366 (by decide)) 4).trans hj
      have hs : U 369 (912 * j + i) = T 369 (912 * j + i) := congrFun (i1 369 (by decide)) _
      show X 184 27 [.ref 366, .int (nI i)] [] (H U P) = _
      rw [x184_27]
      simp +decide only [x184_0, x184_0N, x184_1, x184_2, x184_5, x184_5N, x184_6, x184_9, x184_12, x184_14, x184_15, x184_15N, x184_16, x184_17, x184_20, x184_21, x184_22, x184_25, x184_26, x184_28, x184_31, x184_34, x184_34N, x184_35, x184_38, x184_39, x184_39N, x184_40, x184_43, x184_46, x184_46N, x184_47, x184_50, x184_51, x184_52, x184_53, x184_54, x184_55, x184_58, x184_61, x184_61N, x184_62, x184_65, aft_some, aft_void, Option.bind_some, Option.toList_some, Option.toList_none, List.cons_append, List.nil_append, if_true, if_false, ↓reduceIte, eq_self, z366_o, ↓z366_0, ↓z366_0p, ↓z366_1, ↓z366_2, ↓z366_3, ↓z366_4, ↓z366_4p, ↓z366_5, ↓z366_6, ↓z366_6p0, ↓z366_6p1, ↓z366_7, ↓z366_8, ↓z366_8p, ↓z366_9, ↓z366_9p, ↓z366_10, ↓z366_10p0, ↓z366_10p1, ↓z366_11, ↓z366_12, ↓z366_12p, ↓sg0, ↓sg1, ↓sg2, ↓sg3, ↓sg4, ↓sg5, ↓sg6, ↓sg7, ↓sg8, ↓sg9, ↓sg10, ↓sg11, ↓sg12, ↓sg13, ↓sg14, ↓sg15, ↓sg16, ↓sg17, ↓ss0, ↓ss1, ↓ss2, ↓ss3, ↓ss4, ↓ss5, ↓ss6, ↓ss7, ↓ss8, ↓ss9, ↓ss10, ↓ss11, ↓ss12, ↓ss13, ↓ss14, ↓ss15, ↓ss16, ↓ss17, hlt, ↓a369_g (show 912 * j + i < 3648 by omega), ↓a367_s (show i < 912 by omega), hs, nI_1, hx, h36]
    · rw [up1_n ha]; exact i1 a ha
    · rw [up1_s]
      unfold upA
      by_cases e : k = i
      · rw [if_pos (by rw [e]), e]
      · rw [if_neg (by omega)]; exact i2 k (by omega)
    · rw [up1_s, upA_n _ _ (by omega)]; exact i3 k (by omega))
  exact ⟨U, e, i1, i2, i3⟩
theorem cp_keep {T : Nat → Nat → Int32} {P : Nat → Nat → Nat} : ∃ U, X 185 7 [.ref 366, .int (nI 0)] [] (H T P) = X 185 7 [.ref 366, .int (nI 912)] [] (H U P) ∧ (∀ a, a ≠ 370 → U a = T a) ∧ (∀ k, k < 912 → U 370 (k) = T 367 (k)) ∧ ∀ k, (k < 0 ∨ 0 + 912 ≤ k) → U 370 k = T 370 k := by
  obtain ⟨U, e, i1, i2, i3⟩ := loop_ex (fun i U => X 185 7 [.ref 366, .int (nI i)] [] (H U P)) (fun i U => (∀ a, a ≠ 370 → U a = T a) ∧ (∀ k, k < i → U 370 (k) = T 367 (k)) ∧ ∀ k, (k < 0 ∨ 0 + i ≤ k) → U 370 k = T 370 k) 912 T ⟨fun _ _ => rfl, fun k hk => absurd hk (Nat.not_lt_zero k), fun _ _ => rfl⟩ (by
    intro i U hi ⟨i1, i2, i3⟩
    refine ⟨up1 U 370 (i) (T 367 (i)), ?_, fun a ha => ?_, fun k hk => ?_, fun k hk => ?_⟩
    · have hlt : nI i < 912 := nI_lt hi (by decide)
      have hs : U 367 (i) = T 367 (i) := congrFun (i1 367 (by decide)) _
      show X 185 7 [.ref 366, .int (nI i)] [] (H U P) = _
      rw [x185_7]
      simp +decide only [x185_0, x185_0N, x185_1, x185_2, x185_5, x185_6, x185_8, x185_11, x185_14, x185_14N, x185_15, x185_18, x185_19, x185_19N, x185_20, x185_23, x185_24, x185_25, x185_26, x185_29, x185_32, x185_32N, x185_33, x185_34, x185_37, x185_37N, x185_38, x185_41, x185_42, x185_43, aft_some, aft_void, Option.bind_some, Option.toList_some, Option.toList_none, List.cons_append, List.nil_append, if_true, if_false, ↓reduceIte, eq_self, z366_o, ↓z366_0, ↓z366_0p, ↓z366_1, ↓z366_2, ↓z366_3, ↓z366_4, ↓z366_4p, ↓z366_5, ↓z366_6, ↓z366_6p0, ↓z366_6p1, ↓z366_7, ↓z366_8, ↓z366_8p, ↓z366_9, ↓z366_9p, ↓z366_10, ↓z366_10p0, ↓z366_10p1, ↓z366_11, ↓z366_12, ↓z366_12p, ↓sg0, ↓sg1, ↓sg2, ↓sg3, ↓sg4, ↓sg5, ↓sg6, ↓sg7, ↓sg8, ↓sg9, ↓sg10, ↓sg11, ↓sg12, ↓sg13, ↓sg14, ↓sg15, ↓sg16, ↓sg17, ↓ss0, ↓ss1, ↓ss2, ↓ss3, ↓ss4, ↓ss5, ↓ss6, ↓ss7, ↓ss8, ↓ss9, ↓ss10, ↓ss11, ↓ss12, ↓ss13, ↓ss14, ↓ss15, ↓ss16, ↓ss17, hlt, ↓a367_g (show i < 912 by omega), ↓a370_s (show i < 912 by omega), hs, nI_1]
    · rw [up1_n ha]; exact i1 a ha
    · rw [up1_s]
      unfold upA
      by_cases e : k = i
      · rw [if_pos (by rw [e]), e]
      · rw [if_neg (by omega)]; exact i2 k (by omega)
    · rw [up1_s, upA_n _ _ (by omega)]; exact i3 k (by omega))
  exact ⟨U, e, i1, i2, i3⟩
theorem cp_rest {T : Nat → Nat → Int32} {P : Nat → Nat → Nat} : ∃ U, X 186 21 [.ref 366, .int (nI 0)] [] (H T P) = X 186 21 [.ref 366, .int (nI 912)] [] (H U P) ∧ (∀ a, a ≠ 367 → U a = T a) ∧ (∀ k, k < 912 → U 367 (k) = T 370 (k)) ∧ ∀ k, (k < 0 ∨ 0 + 912 ≤ k) → U 367 k = T 367 k := by
  obtain ⟨U, e, i1, i2, i3⟩ := loop_ex (fun i U => X 186 21 [.ref 366, .int (nI i)] [] (H U P)) (fun i U => (∀ a, a ≠ 367 → U a = T a) ∧ (∀ k, k < i → U 367 (k) = T 370 (k)) ∧ ∀ k, (k < 0 ∨ 0 + i ≤ k) → U 367 k = T 367 k) 912 T ⟨fun _ _ => rfl, fun k hk => absurd hk (Nat.not_lt_zero k), fun _ _ => rfl⟩ (by
    intro i U hi ⟨i1, i2, i3⟩
    refine ⟨up1 U 367 (i) (T 370 (i)), ?_, fun a ha => ?_, fun k hk => ?_, fun k hk => ?_⟩
    · have hlt : nI i < 912 := nI_lt hi (by decide)
      have hs : U 370 (i) = T 370 (i) := congrFun (i1 370 (by decide)) _
      show X 186 21 [.ref 366, .int (nI i)] [] (H U P) = _
      rw [x186_21]
      simp +decide only [x186_0, x186_0N, x186_1, x186_2, x186_5, x186_5N, x186_6, x186_9, x186_12, x186_14, x186_15, x186_15N, x186_16, x186_19, x186_20, x186_22, x186_25, x186_28, x186_28N, x186_29, x186_32, x186_33, x186_33N, x186_34, x186_37, x186_38, x186_39, x186_40, x186_43, x186_46, x186_46N, x186_47, x186_50, x186_51, x186_52, aft_some, aft_void, Option.bind_some, Option.toList_some, Option.toList_none, List.cons_append, List.nil_append, if_true, if_false, ↓reduceIte, eq_self, z366_o, ↓z366_0, ↓z366_0p, ↓z366_1, ↓z366_2, ↓z366_3, ↓z366_4, ↓z366_4p, ↓z366_5, ↓z366_6, ↓z366_6p0, ↓z366_6p1, ↓z366_7, ↓z366_8, ↓z366_8p, ↓z366_9, ↓z366_9p, ↓z366_10, ↓z366_10p0, ↓z366_10p1, ↓z366_11, ↓z366_12, ↓z366_12p, ↓sg0, ↓sg1, ↓sg2, ↓sg3, ↓sg4, ↓sg5, ↓sg6, ↓sg7, ↓sg8, ↓sg9, ↓sg10, ↓sg11, ↓sg12, ↓sg13, ↓sg14, ↓sg15, ↓sg16, ↓sg17, ↓ss0, ↓ss1, ↓ss2, ↓ss3, ↓ss4, ↓ss5, ↓ss6, ↓ss7, ↓ss8, ↓ss9, ↓ss10, ↓ss11, ↓ss12, ↓ss13, ↓ss14, ↓ss15, ↓ss16, ↓ss17, hlt, ↓a370_g (show i < 912 by omega), ↓a367_s (show i < 912 by omega), hs, nI_1]
    · rw [up1_n ha]; exact i1 a ha
    · rw [up1_s]
      unfold upA
      by_cases e : k = i
      · rw [if_pos (by rw [e]), e]
      · rw [if_neg (by omega)]; exact i2 k (by omega)
    · rw [up1_s, upA_n _ _ (by omega)]; exact i3 k (by omega))
  exact ⟨U, e, i1, i2, i3⟩
theorem cp_bsk {T : Nat → Nat → Int32} {P : Nat → Nat → Nat} {v1 v2 : Value} {j : Nat} (hj : T 366 4 = nI (j + 1)) (hj4 : j < 4) : ∃ U, X 152 153 [.ref 366, v1, v2, .int (nI 0)] [] (H T P) = X 152 153 [.ref 366, v1, v2, .int (nI 912)] [] (H U P) ∧ (∀ a, a ≠ 369 → U a = T a) ∧ (∀ k, k < 912 → U 369 (912 * j + k) = T 368 (k)) ∧ ∀ k, (k < 912 * j ∨ 912 * j + 912 ≤ k) → U 369 k = T 369 k := by
  obtain ⟨U, e, i1, i2, i3⟩ := loop_ex (fun i U => X 152 153 [.ref 366, v1, v2, .int (nI i)] [] (H U P)) (fun i U => (∀ a, a ≠ 369 → U a = T a) ∧ (∀ k, k < i → U 369 (912 * j + k) = T 368 (k)) ∧ ∀ k, (k < 912 * j ∨ 912 * j + i ≤ k) → U 369 k = T 369 k) 912 T ⟨fun _ _ => rfl, fun k hk => absurd hk (Nat.not_lt_zero k), fun _ _ => rfl⟩ (by
    intro i U hi ⟨i1, i2, i3⟩
    refine ⟨up1 U 369 (912 * j + i) (T 368 (i)), ?_, fun a ha => ?_, fun k hk => ?_, fun k hk => ?_⟩
    · have hlt : nI i < 912 := nI_lt hi (by decide)
      have hx : 912 * nI j + nI i = nI (912 * j + i) := by
        rw [show (912 : Int32) = nI 912 from rfl, nI_mul, nI_add]
      have h36 : U 366 4 = nI (j + 1) := (congrFun (i1 366 (by decide)) 4).trans hj
      have hs : U 368 (i) = T 368 (i) := congrFun (i1 368 (by decide)) _
      show X 152 153 [.ref 366, v1, v2, .int (nI i)] [] (H U P) = _
      rw [x152_153]
      simp +decide only [x152_0, x152_0N, x152_1, x152_2, x152_5, x152_5N, x152_6, x152_9, x152_10, x152_11, x152_13, x152_16, x152_18, x152_19, x152_20, x152_21, x152_21N, x152_22, x152_25, x152_26, x152_27, x152_28, x152_29, x152_30, x152_30N, x152_31, x152_34, x152_37, x152_38, x152_41, x152_41N, x152_42, x152_42N, x152_43, x152_46, x152_47, x152_48, x152_49, x152_50, x152_50N, x152_51, x152_54, x152_55, x152_56, x152_57, x152_58, x152_59, x152_60, x152_60N, x152_61, x152_64, x152_65, x152_66, x152_67, x152_68, x152_69, x152_70, x152_70N, x152_71, x152_74, x152_75, x152_76, x152_77, x152_78, x152_79, x152_80, x152_83, x152_84, x152_85, x152_88, x152_88N, x152_89, x152_89N, x152_90, x152_93, x152_94, x152_95, x152_96, x152_97, x152_97N, x152_98, x152_101, x152_102, x152_103, x152_104, x152_105, x152_106, x152_107, x152_107N, x152_108, x152_111, x152_112, x152_113, x152_114, x152_115, x152_116, x152_117, x152_117N, x152_118, x152_121, x152_122, x152_123, x152_124, x152_125, x152_126, x152_127, x152_130, x152_131, x152_134, x152_137, x152_138, x152_141, x152_141N, x152_142, x152_145, x152_146, x152_147, x152_147N, x152_148, x152_151, x152_152, x152_154, x152_157, x152_160, x152_160N, x152_161, x152_164, x152_167, x152_167N, x152_168, x152_171, x152_172, x152_173, x152_174, x152_175, x152_176, x152_176N, x152_177, x152_180, x152_181, x152_182, x152_183, x152_186, x152_189, x152_189N, x152_190, x152_193, aft_some, aft_void, Option.bind_some, Option.toList_some, Option.toList_none, List.cons_append, List.nil_append, if_true, if_false, ↓reduceIte, eq_self, z366_o, ↓z366_0, ↓z366_0p, ↓z366_1, ↓z366_2, ↓z366_3, ↓z366_4, ↓z366_4p, ↓z366_5, ↓z366_6, ↓z366_6p0, ↓z366_6p1, ↓z366_7, ↓z366_8, ↓z366_8p, ↓z366_9, ↓z366_9p, ↓z366_10, ↓z366_10p0, ↓z366_10p1, ↓z366_11, ↓z366_12, ↓z366_12p, ↓sg0, ↓sg1, ↓sg2, ↓sg3, ↓sg4, ↓sg5, ↓sg6, ↓sg7, ↓sg8, ↓sg9, ↓sg10, ↓sg11, ↓sg12, ↓sg13, ↓sg14, ↓sg15, ↓sg16, ↓sg17, ↓ss0, ↓ss1, ↓ss2, ↓ss3, ↓ss4, ↓ss5, ↓ss6, ↓ss7, ↓ss8, ↓ss9, ↓ss10, ↓ss11, ↓ss12, ↓ss13, ↓ss14, ↓ss15, ↓ss16, ↓ss17, hlt, ↓a368_g (show i < 912 by omega), ↓a369_s (show 912 * j + i < 3648 by omega), hs, nI_1, hx, h36, nI_pred]
    · rw [up1_n ha]; exact i1 a ha
    · rw [up1_s]
      unfold upA
      by_cases e : k = i
      · rw [if_pos (by rw [e]), e]
      · rw [if_neg (by omega)]; exact i2 k (by omega)
    · rw [up1_s, upA_n _ _ (by omega)]; exact i3 k (by omega))
  exact ⟨U, e, i1, i2, i3⟩
section RC2
variable {T : Nat → Nat → Int32} {P : Nat → Nat → Nat} {n : Nat} {L : List uT} {u : uT}
/-- a state goes into the history -/
theorem r_records (h4 : T 366 4 = nI n) (hn : n ≤ 4) : ∃ U, X 131 0 [.ref 366, .long 0] [] (H T P) = some (none, H U P) ∧ (∀ a, a ≠ 366 → a ≠ 369 → U a = T a) ∧ (∀ k, k ≠ 4 → U 366 k = T 366 k) ∧ U 366 4 = nI (min (n + 1) 4) ∧ (∀ k, k < 912 → U 369 (912 * min n 3 + k) = T 367 k) ∧ ∀ j, j < min n 3 → ∀ k, k < 912 → U 369 (912 * j + k) = if n = 4 then T 369 (912 * (j + 1) + k) else T 369 (912 * j + k) := by
  have e5 : ∀ k, k ≤ 4 → (k = 4 → False) → (nI k = 4) = False := fun k hk h => by
    rw [show (4 : Int32) = nI 4 from rfl, nI_inj (by omega) (by decide)]; exact eq_false h
  have hmul : ∀ {j i : Nat}, 912 * nI j + nI i = nI (912 * j + i) := fun {j i} => by
    rw [show (912 : Int32) = nI 912 from rfl, nI_mul, nI_add]
  by_cases c : n = 4
  · subst c
    have h4 : T 366 4 = 4 := h4
    obtain ⟨U1, e1, f1, g1, k1⟩ := cp_rec1 (T := T) (P := P)
    have e1 : X 131 10 [.ref 366, .int 0] [] (H T P) = X 131 10 [.ref 366, .int 2736] [] (H U1 P) := e1
    have h41 : U1 366 4 = 4 := by rw [f1 366 (by decide)]; exact h4
    obtain ⟨U2, e2, f2, g2, k2⟩ := cp_rec2 (T := up1 U1 366 4 3) (P := P) (j := 3) (by rw [up1_s]; exact upA_s _ _ _) (by decide)
    have e2 : X 131 51 [.ref 366, .int 0] [] (H (up1 U1 366 4 3) P) = X 131 51 [.ref 366, .int 912] [] (H U2 P) := e2
    have h42 : U2 366 4 = 3 := by rw [f2 366 (by decide), up1_s]; exact upA_s _ _ _
    refine ⟨up1 U2 366 4 4, ?_, fun a ha hb => ?_, fun k hk => ?_, ?_, fun k hk => ?_, fun j hj k hk => ?_⟩
    · simp +decide only [x131_0, x131_0N, x131_1, x131_4, x131_5, x131_8, x131_9, x131_11, x131_14, x131_17, x131_17N, x131_18, x131_21, x131_22, x131_22N, x131_23, x131_26, x131_27, x131_30, x131_31, x131_32, x131_33, x131_36, x131_39, x131_39N, x131_40, x131_41, x131_44, x131_45, x131_46, x131_49, x131_50, x131_52, x131_55, x131_58, x131_58N, x131_59, x131_62, x131_65, x131_65N, x131_66, x131_69, x131_70, x131_71, x131_72, x131_72N, x131_73, x131_76, x131_77, x131_78, x131_79, x131_82, x131_85, x131_85N, x131_86, x131_87, x131_90, x131_91, x131_92, x131_95, aft_some, aft_void, Option.bind_some, Option.toList_some, Option.toList_none, List.cons_append, List.nil_append, if_true, if_false, ↓reduceIte, eq_self, z366_o, ↓z366_0, ↓z366_0p, ↓z366_1, ↓z366_2, ↓z366_3, ↓z366_4, ↓z366_4p, ↓z366_5, ↓z366_6, ↓z366_6p0, ↓z366_6p1, ↓z366_7, ↓z366_8, ↓z366_8p, ↓z366_9, ↓z366_9p, ↓z366_10, ↓z366_10p0, ↓z366_10p1, ↓z366_11, ↓z366_12, ↓z366_12p, ↓sg0, ↓sg1, ↓sg2, ↓sg3, ↓sg4, ↓sg5, ↓sg6, ↓sg7, ↓sg8, ↓sg9, ↓sg10, ↓sg11, ↓sg12, ↓sg13, ↓sg14, ↓sg15, ↓sg16, ↓sg17, ↓ss0, ↓ss1, ↓ss2, ↓ss3, ↓ss4, ↓ss5, ↓ss6, ↓ss7, ↓ss8, ↓ss9, ↓ss10, ↓ss11, ↓ss12, ↓ss13, ↓ss14, ↓ss15, ↓ss16, ↓ss17, h4]
      rw [e1, x131_10]
      simp +decide only [x131_0, x131_0N, x131_1, x131_4, x131_5, x131_8, x131_9, x131_11, x131_14, x131_17, x131_17N, x131_18, x131_21, x131_22, x131_22N, x131_23, x131_26, x131_27, x131_30, x131_31, x131_32, x131_33, x131_36, x131_39, x131_39N, x131_40, x131_41, x131_44, x131_45, x131_46, x131_49, x131_50, x131_52, x131_55, x131_58, x131_58N, x131_59, x131_62, x131_65, x131_65N, x131_66, x131_69, x131_70, x131_71, x131_72, x131_72N, x131_73, x131_76, x131_77, x131_78, x131_79, x131_82, x131_85, x131_85N, x131_86, x131_87, x131_90, x131_91, x131_92, x131_95, aft_some, aft_void, Option.bind_some, Option.toList_some, Option.toList_none, List.cons_append, List.nil_append, if_true, if_false, ↓reduceIte, eq_self, z366_o, ↓z366_0, ↓z366_0p, ↓z366_1, ↓z366_2, ↓z366_3, ↓z366_4, ↓z366_4p, ↓z366_5, ↓z366_6, ↓z366_6p0, ↓z366_6p1, ↓z366_7, ↓z366_8, ↓z366_8p, ↓z366_9, ↓z366_9p, ↓z366_10, ↓z366_10p0, ↓z366_10p1, ↓z366_11, ↓z366_12, ↓z366_12p, ↓sg0, ↓sg1, ↓sg2, ↓sg3, ↓sg4, ↓sg5, ↓sg6, ↓sg7, ↓sg8, ↓sg9, ↓sg10, ↓sg11, ↓sg12, ↓sg13, ↓sg14, ↓sg15, ↓sg16, ↓sg17, ↓ss0, ↓ss1, ↓ss2, ↓ss3, ↓ss4, ↓ss5, ↓ss6, ↓ss7, ↓ss8, ↓ss9, ↓ss10, ↓ss11, ↓ss12, ↓ss13, ↓ss14, ↓ss15, ↓ss16, ↓ss17, h41, Int32.reduceSub]
      rw [e2, x131_51]
      simp +decide only [x131_0, x131_0N, x131_1, x131_4, x131_5, x131_8, x131_9, x131_11, x131_14, x131_17, x131_17N, x131_18, x131_21, x131_22, x131_22N, x131_23, x131_26, x131_27, x131_30, x131_31, x131_32, x131_33, x131_36, x131_39, x131_39N, x131_40, x131_41, x131_44, x131_45, x131_46, x131_49, x131_50, x131_52, x131_55, x131_58, x131_58N, x131_59, x131_62, x131_65, x131_65N, x131_66, x131_69, x131_70, x131_71, x131_72, x131_72N, x131_73, x131_76, x131_77, x131_78, x131_79, x131_82, x131_85, x131_85N, x131_86, x131_87, x131_90, x131_91, x131_92, x131_95, aft_some, aft_void, Option.bind_some, Option.toList_some, Option.toList_none, List.cons_append, List.nil_append, if_true, if_false, ↓reduceIte, eq_self, z366_o, ↓z366_0, ↓z366_0p, ↓z366_1, ↓z366_2, ↓z366_3, ↓z366_4, ↓z366_4p, ↓z366_5, ↓z366_6, ↓z366_6p0, ↓z366_6p1, ↓z366_7, ↓z366_8, ↓z366_8p, ↓z366_9, ↓z366_9p, ↓z366_10, ↓z366_10p0, ↓z366_10p1, ↓z366_11, ↓z366_12, ↓z366_12p, ↓sg0, ↓sg1, ↓sg2, ↓sg3, ↓sg4, ↓sg5, ↓sg6, ↓sg7, ↓sg8, ↓sg9, ↓sg10, ↓sg11, ↓sg12, ↓sg13, ↓sg14, ↓sg15, ↓sg16, ↓sg17, ↓ss0, ↓ss1, ↓ss2, ↓ss3, ↓ss4, ↓ss5, ↓ss6, ↓ss7, ↓ss8, ↓ss9, ↓ss10, ↓ss11, ↓ss12, ↓ss13, ↓ss14, ↓ss15, ↓ss16, ↓ss17, h42, Int32.reduceAdd]
    · rw [up1_n ha, f2 a hb, up1_n ha, f1 a hb]
    · rw [up1_s, upA_n _ _ hk, f2 366 (by decide), up1_s, upA_n _ _ hk, f1 366 (by decide)]
    · rw [up1_s]; exact upA_s _ _ _
    · rw [up1_n (by decide)]
      have := g2 k hk
      rw [up1_n (by decide), f1 367 (by decide)] at this
      exact this
    · have hj3 : j < 3 := hj
      rw [up1_n (by decide), k2 _ (by omega), up1_n (by decide), g1 _ (by omega), if_pos rfl]
      congr 1; omega
  · have hc := e5 n hn c
    obtain ⟨U2, e2, f2, g2, k2⟩ := cp_rec2 (T := T) (P := P) (j := n) h4 (by omega)
    have e2 : X 131 51 [.ref 366, .int 0] [] (H T P) = X 131 51 [.ref 366, .int 912] [] (H U2 P) := e2
    have h42 : U2 366 4 = nI n := by rw [f2 366 (by decide)]; exact h4
    refine ⟨up1 U2 366 4 (nI (n + 1)), ?_, fun a ha hb => ?_, fun k hk => ?_, ?_, fun k hk => ?_, fun j hj k hk => ?_⟩
    · simp +decide only [x131_0, x131_0N, x131_1, x131_4, x131_5, x131_8, x131_9, x131_11, x131_14, x131_17, x131_17N, x131_18, x131_21, x131_22, x131_22N, x131_23, x131_26, x131_27, x131_30, x131_31, x131_32, x131_33, x131_36, x131_39, x131_39N, x131_40, x131_41, x131_44, x131_45, x131_46, x131_49, x131_50, x131_52, x131_55, x131_58, x131_58N, x131_59, x131_62, x131_65, x131_65N, x131_66, x131_69, x131_70, x131_71, x131_72, x131_72N, x131_73, x131_76, x131_77, x131_78, x131_79, x131_82, x131_85, x131_85N, x131_86, x131_87, x131_90, x131_91, x131_92, x131_95, aft_some, aft_void, Option.bind_some, Option.toList_some, Option.toList_none, List.cons_append, List.nil_append, if_true, if_false, ↓reduceIte, eq_self, z366_o, ↓z366_0, ↓z366_0p, ↓z366_1, ↓z366_2, ↓z366_3, ↓z366_4, ↓z366_4p, ↓z366_5, ↓z366_6, ↓z366_6p0, ↓z366_6p1, ↓z366_7, ↓z366_8, ↓z366_8p, ↓z366_9, ↓z366_9p, ↓z366_10, ↓z366_10p0, ↓z366_10p1, ↓z366_11, ↓z366_12, ↓z366_12p, ↓sg0, ↓sg1, ↓sg2, ↓sg3, ↓sg4, ↓sg5, ↓sg6, ↓sg7, ↓sg8, ↓sg9, ↓sg10, ↓sg11, ↓sg12, ↓sg13, ↓sg14, ↓sg15, ↓sg16, ↓sg17, ↓ss0, ↓ss1, ↓ss2, ↓ss3, ↓ss4, ↓ss5, ↓ss6, ↓ss7, ↓ss8, ↓ss9, ↓ss10, ↓ss11, ↓ss12, ↓ss13, ↓ss14, ↓ss15, ↓ss16, ↓ss17, h4, hc]
      rw [e2, x131_51]
      simp +decide only [x131_0, x131_0N, x131_1, x131_4, x131_5, x131_8, x131_9, x131_11, x131_14, x131_17, x131_17N, x131_18, x131_21, x131_22, x131_22N, x131_23, x131_26, x131_27, x131_30, x131_31, x131_32, x131_33, x131_36, x131_39, x131_39N, x131_40, x131_41, x131_44, x131_45, x131_46, x131_49, x131_50, x131_52, x131_55, x131_58, x131_58N, x131_59, x131_62, x131_65, x131_65N, x131_66, x131_69, x131_70, x131_71, x131_72, x131_72N, x131_73, x131_76, x131_77, x131_78, x131_79, x131_82, x131_85, x131_85N, x131_86, x131_87, x131_90, x131_91, x131_92, x131_95, aft_some, aft_void, Option.bind_some, Option.toList_some, Option.toList_none, List.cons_append, List.nil_append, if_true, if_false, ↓reduceIte, eq_self, z366_o, ↓z366_0, ↓z366_0p, ↓z366_1, ↓z366_2, ↓z366_3, ↓z366_4, ↓z366_4p, ↓z366_5, ↓z366_6, ↓z366_6p0, ↓z366_6p1, ↓z366_7, ↓z366_8, ↓z366_8p, ↓z366_9, ↓z366_9p, ↓z366_10, ↓z366_10p0, ↓z366_10p1, ↓z366_11, ↓z366_12, ↓z366_12p, ↓sg0, ↓sg1, ↓sg2, ↓sg3, ↓sg4, ↓sg5, ↓sg6, ↓sg7, ↓sg8, ↓sg9, ↓sg10, ↓sg11, ↓sg12, ↓sg13, ↓sg14, ↓sg15, ↓sg16, ↓sg17, ↓ss0, ↓ss1, ↓ss2, ↓ss3, ↓ss4, ↓ss5, ↓ss6, ↓ss7, ↓ss8, ↓ss9, ↓ss10, ↓ss11, ↓ss12, ↓ss13, ↓ss14, ↓ss15, ↓ss16, ↓ss17, h42, nI_1]
    · rw [up1_n ha, f2 a hb]
    · rw [up1_s, upA_n _ _ hk, f2 366 (by decide)]
    · rw [up1_s, Nat.min_eq_left (by omega)]; exact upA_s _ _ _
    · rw [up1_n (by decide), Nat.min_eq_left (by omega)]; exact g2 k hk
    · rw [up1_n (by decide), if_neg c]; exact k2 _ (by omega)
/-- what holds besides the state in s -/
theorem hR.push (h : hR T L) (hL : ∀ v ∈ L, WFu v) (hu : sU (T 367) u) (hw : WFu u) : ∃ U, X 131 0 [.ref 366, .long 0] [] (H T P) = some (none, H U P) ∧ (∀ a, a ≠ 366 → a ≠ 369 → U a = T a) ∧ (∀ k, k ≠ 4 → U 366 k = T 366 k) ∧ hR U ((u :: L).take 4) := by
  obtain ⟨h1, h2, h3⟩ := h
  obtain ⟨U, e, f1, f2, f4, g1, g2⟩ := r_records (P := P) h1 h2
  refine ⟨U, e, f1, f2, ?_, ?_, ?_⟩
  · rw [f4, List.length_take, List.length_cons, Nat.min_comm]
  · rw [List.length_take]; exact Nat.min_le_left _ _
  · intro g v hg
    have hg4 : g < 4 := by
      have := (List.getElem?_eq_some_iff.mp hg).1
      rw [List.length_take] at this; omega
    have hl : ((u :: L).take 4).length = min (L.length + 1) 4 := by rw [List.length_take, List.length_cons, Nat.min_comm]
    rw [hl]
    rw [List.getElem?_take_of_lt hg4] at hg
    cases g with
    | zero =>
      cases hg
      refine sU.same hu hw (fun k hk => ?_)
      have := g1 k hk
      rw [show min (L.length + 1) 4 - 1 - 0 = min L.length 3 by omega]
      exact this
    | succ g =>
      rw [List.getElem?_cons_succ] at hg
      have hgl := (List.getElem?_eq_some_iff.mp hg).1
      have hv : v ∈ L := List.mem_of_getElem? hg
      refine sU.same (h3 g v hg) (hL v hv) (fun k hk => ?_)
      have := g2 (min (L.length + 1) 4 - 1 - (g + 1)) (by omega) k hk
      show U 369 (912 * (min (L.length + 1) 4 - 1 - (g + 1)) + k) = _
      rw [this]
      by_cases c : L.length = 4
      · rw [if_pos c]
        show _ = T 369 (912 * (L.length - 1 - g) + k)
        congr 2; omega
      · rw [if_neg c]
        show _ = T 369 (912 * (L.length - 1 - g) + k)
        congr 2; omega
end RC2
