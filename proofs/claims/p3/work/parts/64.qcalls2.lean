/-! the reference's set, letters, undo, keep, restore, basket, iron, pass -/
section QB
variable {T : Nat → Nat → Int32} {P : Nat → Nat → Nat} {f : Nat → Int32} {s : gT} {x y z w : Int32}
theorem RQ.of {j : Nat} {A : List Value} {a : Int32 × gT} {U : Nat → Nat → Int32} (e : X j 0 A [] (H (upA T 367 f) P) = some (some (.int a.1), H U P)) (fr : ∀ a, a < 366 → U a = T a) (hc : CF U (U 367) a.2) : RQ T P f j A a := ⟨U, U 367, by rw [upA_self]; exact e, fr, hc⟩
theorem r_mostOf {h0 : List hC} : X 170 0 [.int w] [] h0 = some (some (.int (hiI w)), h0) := by
  unfold hiI
  by_cases c0 : w = 0
  · simp +decide only [x170_0, x170_1, x170_4, x170_5, x170_8, x170_9, x170_10, x170_13, x170_15, x170_18, x170_19, x170_20, x170_23, x170_25, x170_28, x170_30, aft_some, aft_void, Option.bind_some, Option.toList_some, Option.toList_none, List.cons_append, List.nil_append, if_true, if_false, ↓reduceIte, eq_self, c0]
  by_cases c1 : w = 1
  · simp +decide only [x170_0, x170_1, x170_4, x170_5, x170_8, x170_9, x170_10, x170_13, x170_15, x170_18, x170_19, x170_20, x170_23, x170_25, x170_28, x170_30, aft_some, aft_void, Option.bind_some, Option.toList_some, Option.toList_none, List.cons_append, List.nil_append, if_true, if_false, ↓reduceIte, eq_self, c0, c1]
  by_cases c2 : w = 2
  · simp +decide only [x170_0, x170_1, x170_4, x170_5, x170_8, x170_9, x170_10, x170_13, x170_15, x170_18, x170_19, x170_20, x170_23, x170_25, x170_28, x170_30, aft_some, aft_void, Option.bind_some, Option.toList_some, Option.toList_none, List.cons_append, List.nil_append, if_true, if_false, ↓reduceIte, eq_self, c0, c1, c2]
  simp +decide only [x170_0, x170_1, x170_4, x170_5, x170_8, x170_9, x170_10, x170_13, x170_15, x170_18, x170_19, x170_20, x170_23, x170_25, x170_28, x170_30, aft_some, aft_void, Option.bind_some, Option.toList_some, Option.toList_none, List.cons_append, List.nil_append, if_true, if_false, ↓reduceIte, eq_self, c0, c1, c2]
theorem q_set (h : CF T f s) (hw : WG s) (w v : Int32) : RQ T P f 171 [.ref 366, .int w, .int v, .long 0] (gSet w v s) := by
  have t0 := thr (f := f) h.1.1
  have hs := h.2
  obtain ⟨⟨a1, ⟨a2, a3, a4, a5⟩, ⟨a6, a7, a8⟩, a9, ⟨a10, a11, a12⟩, a13, a14⟩, hC, hO, hK, hL, hJ⟩ := id hs
  unfold gSet
  by_cases c1 : inI w 0 3 = 0
  · rw [if_pos c1]
    exact ⟨T, f, by simp +decide only [x171_0, x171_0N, x171_1, x171_2, x171_5, x171_6, x171_7, x171_8, x171_11, x171_14, x171_15, x171_16, x171_17, x171_20, x171_21, x171_24, x171_25, x171_26, x171_29, x171_32, x171_35, x171_37, x171_38, x171_38N, x171_39, x171_42, x171_43, x171_44, x171_45, x171_46, x171_47, x171_50, x171_52, x171_53, x171_53N, x171_54, x171_57, x171_57N, x171_58, x171_61, x171_62, x171_63, x171_64, x171_65, aft_some, aft_void, Option.bind_some, Option.toList_some, Option.toList_none, List.cons_append, List.nil_append, if_true, if_false, ↓reduceIte, eq_self, z366_o, ↓z366_0, ↓z366_0p, ↓z366_1, ↓z366_2, ↓z366_3, ↓z366_4, ↓z366_4p, ↓z366_5, ↓z366_6, ↓z366_6p0, ↓z366_6p1, ↓z366_7, ↓z366_8, ↓z366_8p, ↓z366_9, ↓z366_9p, ↓z366_10, ↓z366_10p0, ↓z366_10p1, ↓z366_11, ↓z366_12, ↓z366_12p, ↓sg0, ↓sg1, ↓sg2, ↓sg3, ↓sg4, ↓sg5, ↓sg6, ↓sg7, ↓sg8, ↓sg9, ↓sg10, ↓sg11, ↓sg12, ↓sg13, ↓sg14, ↓sg15, ↓sg16, ↓sg17, ↓ss0, ↓ss1, ↓ss2, ↓ss3, ↓ss4, ↓ss5, ↓ss6, ↓ss7, ↓ss8, ↓ss9, ↓ss10, ↓ss11, ↓ss12, ↓ss13, ↓ss14, ↓ss15, ↓ss16, ↓ss17, t0, ↓aft_of (r_in), c1], fun _ _ => rfl, h⟩
  rw [if_neg c1]
  by_cases c2 : inI v (loI w) (hiI w) = 0
  · rw [if_pos c2]
    refine ⟨T, f, ?_, fun _ _ => rfl, h⟩
    by_cases c : w = 2
    · subst c
      rw [show loI 2 = 1 from rfl] at c2
      simp +decide only [x171_0, x171_0N, x171_1, x171_2, x171_5, x171_6, x171_7, x171_8, x171_11, x171_14, x171_15, x171_16, x171_17, x171_20, x171_21, x171_24, x171_25, x171_26, x171_29, x171_32, x171_35, x171_37, x171_38, x171_38N, x171_39, x171_42, x171_43, x171_44, x171_45, x171_46, x171_47, x171_50, x171_52, x171_53, x171_53N, x171_54, x171_57, x171_57N, x171_58, x171_61, x171_62, x171_63, x171_64, x171_65, aft_some, aft_void, Option.bind_some, Option.toList_some, Option.toList_none, List.cons_append, List.nil_append, if_true, if_false, ↓reduceIte, eq_self, z366_o, ↓z366_0, ↓z366_0p, ↓z366_1, ↓z366_2, ↓z366_3, ↓z366_4, ↓z366_4p, ↓z366_5, ↓z366_6, ↓z366_6p0, ↓z366_6p1, ↓z366_7, ↓z366_8, ↓z366_8p, ↓z366_9, ↓z366_9p, ↓z366_10, ↓z366_10p0, ↓z366_10p1, ↓z366_11, ↓z366_12, ↓z366_12p, ↓sg0, ↓sg1, ↓sg2, ↓sg3, ↓sg4, ↓sg5, ↓sg6, ↓sg7, ↓sg8, ↓sg9, ↓sg10, ↓sg11, ↓sg12, ↓sg13, ↓sg14, ↓sg15, ↓sg16, ↓sg17, ↓ss0, ↓ss1, ↓ss2, ↓ss3, ↓ss4, ↓ss5, ↓ss6, ↓ss7, ↓ss8, ↓ss9, ↓ss10, ↓ss11, ↓ss12, ↓ss13, ↓ss14, ↓ss15, ↓ss16, ↓ss17, t0, ↓aft_of (r_in), ↓aft_of (r_mostOf), c1, c2]
    · rw [show loI w = 0 from if_neg c] at c2
      simp +decide only [x171_0, x171_0N, x171_1, x171_2, x171_5, x171_6, x171_7, x171_8, x171_11, x171_14, x171_15, x171_16, x171_17, x171_20, x171_21, x171_24, x171_25, x171_26, x171_29, x171_32, x171_35, x171_37, x171_38, x171_38N, x171_39, x171_42, x171_43, x171_44, x171_45, x171_46, x171_47, x171_50, x171_52, x171_53, x171_53N, x171_54, x171_57, x171_57N, x171_58, x171_61, x171_62, x171_63, x171_64, x171_65, aft_some, aft_void, Option.bind_some, Option.toList_some, Option.toList_none, List.cons_append, List.nil_append, if_true, if_false, ↓reduceIte, eq_self, z366_o, ↓z366_0, ↓z366_0p, ↓z366_1, ↓z366_2, ↓z366_3, ↓z366_4, ↓z366_4p, ↓z366_5, ↓z366_6, ↓z366_6p0, ↓z366_6p1, ↓z366_7, ↓z366_8, ↓z366_8p, ↓z366_9, ↓z366_9p, ↓z366_10, ↓z366_10p0, ↓z366_10p1, ↓z366_11, ↓z366_12, ↓z366_12p, ↓sg0, ↓sg1, ↓sg2, ↓sg3, ↓sg4, ↓sg5, ↓sg6, ↓sg7, ↓sg8, ↓sg9, ↓sg10, ↓sg11, ↓sg12, ↓sg13, ↓sg14, ↓sg15, ↓sg16, ↓sg17, ↓ss0, ↓ss1, ↓ss2, ↓ss3, ↓ss4, ↓ss5, ↓ss6, ↓ss7, ↓ss8, ↓ss9, ↓ss10, ↓ss11, ↓ss12, ↓ss13, ↓ss14, ↓ss15, ↓ss16, ↓ss17, t0, ↓aft_of (r_in), ↓aft_of (r_mostOf), c1, c, c2]
  rw [if_neg c2]
  obtain ⟨k, hk, rfl⟩ := inI_ex (n := 3) (by decide) c1
  have cl := nI_clamp (show k < 2 ^ 31 by omega)
  rw [cl]
  have hv : f k = s.1.1.2.1 1 k := a1 k (by omega)
  have bd : X 171 0 [.ref 366, .int (nI k), .int v, .long 0] [] (H (upA T 367 f) P) = X 171 38 [.ref 366, .int (nI k), .int v, .long 0] [] (H (upA T 367 f) P) := by
    by_cases c : nI k = 2
    · have c2 := c2
      rw [show loI (nI k) = 1 from if_pos c] at c2
      rw [c] at c1 c2 ⊢
      simp +decide only [x171_0, x171_0N, x171_1, x171_2, x171_5, x171_6, x171_7, x171_8, x171_11, x171_14, x171_15, x171_16, x171_17, x171_20, x171_21, x171_24, x171_25, x171_26, x171_29, x171_32, x171_35, x171_37, x171_39, x171_42, x171_43, x171_44, x171_45, x171_46, x171_47, x171_50, x171_52, x171_53, x171_53N, x171_54, x171_57, x171_57N, x171_58, x171_61, x171_62, x171_63, x171_64, x171_65, aft_some, aft_void, Option.bind_some, Option.toList_some, Option.toList_none, List.cons_append, List.nil_append, if_true, if_false, ↓reduceIte, eq_self, z366_o, ↓z366_0, ↓z366_0p, ↓z366_1, ↓z366_2, ↓z366_3, ↓z366_4, ↓z366_4p, ↓z366_5, ↓z366_6, ↓z366_6p0, ↓z366_6p1, ↓z366_7, ↓z366_8, ↓z366_8p, ↓z366_9, ↓z366_9p, ↓z366_10, ↓z366_10p0, ↓z366_10p1, ↓z366_11, ↓z366_12, ↓z366_12p, ↓sg0, ↓sg1, ↓sg2, ↓sg3, ↓sg4, ↓sg5, ↓sg6, ↓sg7, ↓sg8, ↓sg9, ↓sg10, ↓sg11, ↓sg12, ↓sg13, ↓sg14, ↓sg15, ↓sg16, ↓sg17, ↓ss0, ↓ss1, ↓ss2, ↓ss3, ↓ss4, ↓ss5, ↓ss6, ↓ss7, ↓ss8, ↓ss9, ↓ss10, ↓ss11, ↓ss12, ↓ss13, ↓ss14, ↓ss15, ↓ss16, ↓ss17, t0, ↓aft_of (r_in), ↓aft_of (r_mostOf), c1, c2]
    · have c2 := c2
      rw [show loI (nI k) = 0 from if_neg c] at c2
      simp +decide only [x171_0, x171_0N, x171_1, x171_2, x171_5, x171_6, x171_7, x171_8, x171_11, x171_14, x171_15, x171_16, x171_17, x171_20, x171_21, x171_24, x171_25, x171_26, x171_29, x171_32, x171_35, x171_37, x171_39, x171_42, x171_43, x171_44, x171_45, x171_46, x171_47, x171_50, x171_52, x171_53, x171_53N, x171_54, x171_57, x171_57N, x171_58, x171_61, x171_62, x171_63, x171_64, x171_65, aft_some, aft_void, Option.bind_some, Option.toList_some, Option.toList_none, List.cons_append, List.nil_append, if_true, if_false, ↓reduceIte, eq_self, z366_o, ↓z366_0, ↓z366_0p, ↓z366_1, ↓z366_2, ↓z366_3, ↓z366_4, ↓z366_4p, ↓z366_5, ↓z366_6, ↓z366_6p0, ↓z366_6p1, ↓z366_7, ↓z366_8, ↓z366_8p, ↓z366_9, ↓z366_9p, ↓z366_10, ↓z366_10p0, ↓z366_10p1, ↓z366_11, ↓z366_12, ↓z366_12p, ↓sg0, ↓sg1, ↓sg2, ↓sg3, ↓sg4, ↓sg5, ↓sg6, ↓sg7, ↓sg8, ↓sg9, ↓sg10, ↓sg11, ↓sg12, ↓sg13, ↓sg14, ↓sg15, ↓sg16, ↓sg17, ↓ss0, ↓ss1, ↓ss2, ↓ss3, ↓ss4, ↓ss5, ↓ss6, ↓ss7, ↓ss8, ↓ss9, ↓ss10, ↓ss11, ↓ss12, ↓ss13, ↓ss14, ↓ss15, ↓ss16, ↓ss17, t0, ↓aft_of (r_in), ↓aft_of (r_mostOf), c1, c, c2]
  by_cases c3 : s.1.1.2.1 1 k = v
  · rw [if_pos c3]
    refine ⟨T, f, ?_, fun _ _ => rfl, h⟩
    rw [bd]
    simp +decide only [x171_0, x171_0N, x171_1, x171_2, x171_5, x171_6, x171_7, x171_8, x171_11, x171_14, x171_15, x171_16, x171_17, x171_20, x171_21, x171_24, x171_25, x171_26, x171_29, x171_32, x171_35, x171_37, x171_38, x171_38N, x171_39, x171_42, x171_43, x171_44, x171_45, x171_46, x171_47, x171_50, x171_52, x171_53, x171_53N, x171_54, x171_57, x171_57N, x171_58, x171_61, x171_62, x171_63, x171_64, x171_65, aft_some, aft_void, Option.bind_some, Option.toList_some, Option.toList_none, List.cons_append, List.nil_append, if_true, if_false, ↓reduceIte, eq_self, z366_o, ↓z366_0, ↓z366_0p, ↓z366_1, ↓z366_2, ↓z366_3, ↓z366_4, ↓z366_4p, ↓z366_5, ↓z366_6, ↓z366_6p0, ↓z366_6p1, ↓z366_7, ↓z366_8, ↓z366_8p, ↓z366_9, ↓z366_9p, ↓z366_10, ↓z366_10p0, ↓z366_10p1, ↓z366_11, ↓z366_12, ↓z366_12p, ↓sg0, ↓sg1, ↓sg2, ↓sg3, ↓sg4, ↓sg5, ↓sg6, ↓sg7, ↓sg8, ↓sg9, ↓sg10, ↓sg11, ↓sg12, ↓sg13, ↓sg14, ↓sg15, ↓sg16, ↓sg17, ↓ss0, ↓ss1, ↓ss2, ↓ss3, ↓ss4, ↓ss5, ↓ss6, ↓ss7, ↓ss8, ↓ss9, ↓ss10, ↓ss11, ↓ss12, ↓ss13, ↓ss14, ↓ss15, ↓ss16, ↓ss17, ↓s_g (show k < 912 by omega), hv, c3]
  rw [if_neg c3]
  obtain ⟨U, e, fr, -, hU⟩ := h.push (P := P) hw
  refine ⟨U, upA f k v, ?_, fun a ha => fr a (by omega) (by omega), hU.now ?_⟩
  · rw [bd]
    simp +decide only [x171_0, x171_0N, x171_1, x171_2, x171_5, x171_6, x171_7, x171_8, x171_11, x171_14, x171_15, x171_16, x171_17, x171_20, x171_21, x171_24, x171_25, x171_26, x171_29, x171_32, x171_35, x171_37, x171_38, x171_38N, x171_39, x171_42, x171_43, x171_44, x171_45, x171_46, x171_47, x171_50, x171_52, x171_53, x171_53N, x171_54, x171_57, x171_57N, x171_58, x171_61, x171_62, x171_63, x171_64, x171_65, aft_some, aft_void, Option.bind_some, Option.toList_some, Option.toList_none, List.cons_append, List.nil_append, if_true, if_false, ↓reduceIte, eq_self, z366_o, ↓z366_0, ↓z366_0p, ↓z366_1, ↓z366_2, ↓z366_3, ↓z366_4, ↓z366_4p, ↓z366_5, ↓z366_6, ↓z366_6p0, ↓z366_6p1, ↓z366_7, ↓z366_8, ↓z366_8p, ↓z366_9, ↓z366_9p, ↓z366_10, ↓z366_10p0, ↓z366_10p1, ↓z366_11, ↓z366_12, ↓z366_12p, ↓sg0, ↓sg1, ↓sg2, ↓sg3, ↓sg4, ↓sg5, ↓sg6, ↓sg7, ↓sg8, ↓sg9, ↓sg10, ↓sg11, ↓sg12, ↓sg13, ↓sg14, ↓sg15, ↓sg16, ↓sg17, ↓ss0, ↓ss1, ↓ss2, ↓ss3, ↓ss4, ↓ss5, ↓ss6, ↓ss7, ↓ss8, ↓ss9, ↓ss10, ↓ss11, ↓ss12, ↓ss13, ↓ss14, ↓ss15, ↓ss16, ↓ss17, ↓s_g (show k < 912 by omega), ↓s_s (show k < 912 by omega), hv, c3, ↓aft_of (e)]
  have n : ∀ a, a ≠ k → upA f k v a = f a := fun a ha => upA_n _ _ ha
  have vn : ∀ r, r ≠ 1 → up1 s.1.1.2.1 1 k v r = s.1.1.2.1 r := fun r hr => up1_n hr
  refine sR.rows (W := up1 s.1.1.2.1 1 k v) hs hw.1.1.1.2.2.2.1 hw.1.1.1.2.2.2.2.1 hw.1.1.1.2.2.2.2.2 (fun j hj => ?_) ⟨n 4 (by omega), n 5 (by omega), n 6 (by omega), n 10 (by omega), n 16 (by omega), n 17 (by omega)⟩ ?_ (n 8 (by omega)) ?_ ?_ (fun j hj => n _ (by omega)) (fun d hd => ?_) ?_ (fun c hc => ⟨n _ (by omega), ?_, n _ (by omega)⟩) (fun a ha => n a (by omega)) (vn 48 (by decide)) (vn 4 (by decide)) (vn 6 (by decide)) (vn 46 (by decide)) (vn 47 (by decide))
  · rw [up1_s]
    by_cases e : j = k
    · rw [e, upA_s, upA_s]
    · rw [n _ e, upA_n _ _ e]; exact a1 j hj
  · rw [n 7 (by omega), vn 0 (by decide)]; exact a5
  · rw [n 9 (by omega), vn 0 (by decide)]; exact a7
  · rw [n 15 (by omega), vn 0 (by decide)]; exact a10
  · rw [n _ (by omega), vn 2 (by decide)]; exact a13 d hd
  · rw [vn 0 (by decide)]
  · rw [n _ (by omega), vn 5 (by decide)]; exact (hC c hc).2.1
theorem q_type (h : CF T f s) (c : Int32) : RQ T P f 172 [.ref 366, .int c] (gType c s) := by
  have t0 := thr (f := f) h.1.1
  obtain ⟨⟨h0, hk, hh, x8, x60, xt⟩, hs⟩ := id h
  obtain ⟨u, k, L, n, t⟩ := s
  have x8 : T 366 8 = nI n := x8
  have x60 : n ≤ 60 := x60
  have xt : ∀ i, i < n → T 371 i = t i := xt
  have e60 : (nI n = 60) = (n = 60) := by rw [show (60 : Int32) = nI 60 from rfl, nI_inj (by omega) (by decide)]
  have x8' : upA T 367 f 366 8 = nI n := by rw [upA_n _ _ (by decide)]; exact x8
  by_cases c1 : n < 60
  · have e : gType c (u, k, L, n, t) = (nI (n + 1), u, k, L, n + 1, upA t n c) := if_pos c1
    rw [e]
    have c60 : (n = 60) = False := eq_false (by omega)
    have k1 : nI n + 1 = nI (n + 1) := nI_add _ 1
    have y8 : up1 (upA T 367 f) 371 n c 366 8 = nI n := by rw [up1_n (by decide)]; exact x8'
    refine RQ.of (U := up1 (up1 (upA T 367 f) 371 n c) 366 8 (nI (n + 1))) ?_ (fun a ha => ?_) ⟨⟨?_, ?_, ?_, ?_, ?_, fun i hi => ?_⟩, ?_⟩
    · simp +decide only [x172_0, x172_0N, x172_1, x172_2, x172_5, x172_5N, x172_6, x172_9, x172_11, x172_14, x172_16, x172_17, x172_17N, x172_18, x172_21, x172_21N, x172_22, x172_25, x172_26, x172_27, x172_27N, x172_28, x172_29, x172_32, x172_33, x172_34, x172_37, x172_37N, x172_38, x172_41, aft_some, aft_void, Option.bind_some, Option.toList_some, Option.toList_none, List.cons_append, List.nil_append, if_true, if_false, ↓reduceIte, eq_self, z366_o, ↓z366_0, ↓z366_0p, ↓z366_1, ↓z366_2, ↓z366_3, ↓z366_4, ↓z366_4p, ↓z366_5, ↓z366_6, ↓z366_6p0, ↓z366_6p1, ↓z366_7, ↓z366_8, ↓z366_8p, ↓z366_9, ↓z366_9p, ↓z366_10, ↓z366_10p0, ↓z366_10p1, ↓z366_11, ↓z366_12, ↓z366_12p, ↓sg0, ↓sg1, ↓sg2, ↓sg3, ↓sg4, ↓sg5, ↓sg6, ↓sg7, ↓sg8, ↓sg9, ↓sg10, ↓sg11, ↓sg12, ↓sg13, ↓sg14, ↓sg15, ↓sg16, ↓sg17, ↓ss0, ↓ss1, ↓ss2, ↓ss3, ↓ss4, ↓ss5, ↓ss6, ↓ss7, ↓ss8, ↓ss9, ↓ss10, ↓ss11, ↓ss12, ↓ss13, ↓ss14, ↓ss15, ↓ss16, ↓ss17, t0, upA_s, u_n, x8', e60, c60, ↓a371_s c1, y8, k1]
    · rw [up1_n (by omega), up1_n (by omega), upA_n _ _ (by omega)]
    · rw [up1_s, upA_n _ _ (by decide), up1_n (by decide), upA_n _ _ (by decide)]; exact h0
    · have g6 : up1 (up1 (upA T 367 f) 371 n c) 366 8 (nI (n + 1)) 366 6 = T 366 6 := by rw [up1_s, upA_n _ _ (by decide), up1_n (by decide), upA_n _ _ (by decide)]
      have g370 : up1 (up1 (upA T 367 f) 371 n c) 366 8 (nI (n + 1)) 370 = T 370 := by rw [up1_n (by decide), up1_n (by decide), upA_n _ _ (by decide)]
      cases k with
      | none => exact g6.trans hk
      | some v => exact ⟨g6.trans hk.1, by rw [g370]; exact hk.2⟩
    · exact hR.same hh (by rw [up1_s, upA_n _ _ (by decide), up1_n (by decide), upA_n _ _ (by decide)]) (by rw [up1_n (by decide), up1_n (by decide), upA_n _ _ (by decide)])
    · rw [up1_s, upA_s]
    · show n + 1 ≤ 60
      omega
    · have hi : i < n + 1 := hi
      rw [up1_n (by decide), up1_s, upA_n _ _ (show 371 ≠ 367 by decide)]
      show upA (T 371) n c i = upA t n c i
      by_cases e : i = n
      · rw [e, upA_s, upA_s]
      · rw [upA_n _ _ e, upA_n _ _ e]; exact xt i (by omega)
    · rw [up1_n (by decide), up1_n (by decide), upA_s]; exact hs
  · have e : gType c (u, k, L, n, t) = (-3, u, k, L, n, t) := if_neg c1
    rw [e]
    have c60 : (n = 60) = True := eq_true (by omega)
    exact ⟨T, f, by simp +decide only [x172_0, x172_0N, x172_1, x172_2, x172_5, x172_5N, x172_6, x172_9, x172_11, x172_14, x172_16, x172_17, x172_17N, x172_18, x172_21, x172_21N, x172_22, x172_25, x172_26, x172_27, x172_27N, x172_28, x172_29, x172_32, x172_33, x172_34, x172_37, x172_37N, x172_38, x172_41, aft_some, aft_void, Option.bind_some, Option.toList_some, Option.toList_none, List.cons_append, List.nil_append, if_true, if_false, ↓reduceIte, eq_self, z366_o, ↓z366_0, ↓z366_0p, ↓z366_1, ↓z366_2, ↓z366_3, ↓z366_4, ↓z366_4p, ↓z366_5, ↓z366_6, ↓z366_6p0, ↓z366_6p1, ↓z366_7, ↓z366_8, ↓z366_8p, ↓z366_9, ↓z366_9p, ↓z366_10, ↓z366_10p0, ↓z366_10p1, ↓z366_11, ↓z366_12, ↓z366_12p, ↓sg0, ↓sg1, ↓sg2, ↓sg3, ↓sg4, ↓sg5, ↓sg6, ↓sg7, ↓sg8, ↓sg9, ↓sg10, ↓sg11, ↓sg12, ↓sg13, ↓sg14, ↓sg15, ↓sg16, ↓sg17, ↓ss0, ↓ss1, ↓ss2, ↓ss3, ↓ss4, ↓ss5, ↓ss6, ↓ss7, ↓ss8, ↓ss9, ↓ss10, ↓ss11, ↓ss12, ↓ss13, ↓ss14, ↓ss15, ↓ss16, ↓ss17, t0, x8', e60, c60], fun _ _ => rfl, h⟩
theorem q_clear (h : CF T f s) : RQ T P f 173 [.ref 366, .long 0] (gClear s) := by
  have t0 := thr (f := f) h.1.1
  obtain ⟨⟨h0, hk, hh, x8, x60, xt⟩, hs⟩ := id h
  have x8' : upA T 367 f 366 8 = nI s.2.2.2.1 := by rw [upA_n _ _ (by decide)]; exact x8
  refine RQ.of (U := up1 (upA T 367 f) 366 8 0) ?_ (fun a ha => ?_) ⟨⟨?_, ?_, ?_, ?_, ?_, fun i hi => absurd hi (Nat.not_lt_zero i)⟩, ?_⟩
  · unfold gClear
    simp +decide only [x173_0, x173_0N, x173_1, x173_2, x173_5, x173_5N, x173_6, x173_9, x173_10, x173_10N, x173_11, x173_12, x173_15, x173_16, aft_some, aft_void, Option.bind_some, Option.toList_some, Option.toList_none, List.cons_append, List.nil_append, if_true, if_false, ↓reduceIte, eq_self, z366_o, ↓z366_0, ↓z366_0p, ↓z366_1, ↓z366_2, ↓z366_3, ↓z366_4, ↓z366_4p, ↓z366_5, ↓z366_6, ↓z366_6p0, ↓z366_6p1, ↓z366_7, ↓z366_8, ↓z366_8p, ↓z366_9, ↓z366_9p, ↓z366_10, ↓z366_10p0, ↓z366_10p1, ↓z366_11, ↓z366_12, ↓z366_12p, ↓sg0, ↓sg1, ↓sg2, ↓sg3, ↓sg4, ↓sg5, ↓sg6, ↓sg7, ↓sg8, ↓sg9, ↓sg10, ↓sg11, ↓sg12, ↓sg13, ↓sg14, ↓sg15, ↓sg16, ↓sg17, ↓ss0, ↓ss1, ↓ss2, ↓ss3, ↓ss4, ↓ss5, ↓ss6, ↓ss7, ↓ss8, ↓ss9, ↓ss10, ↓ss11, ↓ss12, ↓ss13, ↓ss14, ↓ss15, ↓ss16, ↓ss17, t0, x8']
  · rw [up1_n (by omega), upA_n _ _ (by omega)]
  · rw [up1_s, upA_n _ _ (by decide), upA_n _ _ (by decide)]; exact h0
  · have g6 : up1 (upA T 367 f) 366 8 0 366 6 = T 366 6 := by rw [up1_s, upA_n _ _ (by decide), upA_n _ _ (by decide)]
    have g370 : up1 (upA T 367 f) 366 8 0 370 = T 370 := by rw [up1_n (by decide), upA_n _ _ (by decide)]
    show kR _ s.2.1
    cases hq : s.2.1 with
    | none => rw [hq] at hk; exact g6.trans hk
    | some v => rw [hq] at hk; exact ⟨g6.trans hk.1, by rw [g370]; exact hk.2⟩
  · exact hR.same hh (by rw [up1_s, upA_n _ _ (by decide), upA_n _ _ (by decide)]) (by rw [up1_n (by decide), upA_n _ _ (by decide)])
  · rw [up1_s, upA_s]; rfl
  · exact Nat.zero_le _
  · rw [up1_n (by decide), upA_s]; exact hs
theorem q_undo (h : CF T f s) (hw : WG s) : RQ T P f 184 [.ref 366, .long 0] (gUndo s) := by
  have t0 := thr (f := f) h.1.1
  obtain ⟨⟨h0, hk, hh, hx⟩, hs⟩ := id h
  obtain ⟨u, k, L, t⟩ := s
  cases L with
  | nil =>
    have h4 : upA T 367 f 366 4 = 0 := by rw [upA_n _ _ (by decide)]; exact hh.1
    exact ⟨T, f, by
      unfold gUndo
      simp +decide only [x184_0, x184_0N, x184_1, x184_2, x184_5, x184_5N, x184_6, x184_9, x184_12, x184_14, x184_15, x184_15N, x184_16, x184_17, x184_20, x184_21, x184_22, x184_25, x184_26, x184_27, x184_28, x184_31, x184_34, x184_34N, x184_35, x184_38, x184_39, x184_39N, x184_40, x184_43, x184_46, x184_46N, x184_47, x184_50, x184_51, x184_52, x184_53, x184_54, x184_55, x184_58, x184_61, x184_61N, x184_62, x184_65, aft_some, aft_void, Option.bind_some, Option.toList_some, Option.toList_none, List.cons_append, List.nil_append, if_true, if_false, ↓reduceIte, eq_self, z366_o, ↓z366_0, ↓z366_0p, ↓z366_1, ↓z366_2, ↓z366_3, ↓z366_4, ↓z366_4p, ↓z366_5, ↓z366_6, ↓z366_6p0, ↓z366_6p1, ↓z366_7, ↓z366_8, ↓z366_8p, ↓z366_9, ↓z366_9p, ↓z366_10, ↓z366_10p0, ↓z366_10p1, ↓z366_11, ↓z366_12, ↓z366_12p, ↓sg0, ↓sg1, ↓sg2, ↓sg3, ↓sg4, ↓sg5, ↓sg6, ↓sg7, ↓sg8, ↓sg9, ↓sg10, ↓sg11, ↓sg12, ↓sg13, ↓sg14, ↓sg15, ↓sg16, ↓sg17, ↓ss0, ↓ss1, ↓ss2, ↓ss3, ↓ss4, ↓ss5, ↓ss6, ↓ss7, ↓ss8, ↓ss9, ↓ss10, ↓ss11, ↓ss12, ↓ss13, ↓ss14, ↓ss15, ↓ss16, ↓ss17, t0, h4], fun _ _ => rfl, h⟩
  | cons v L =>
    have h4 : upA T 367 f 366 4 = nI (L.length + 1) := by rw [upA_n _ _ (by decide)]; exact hh.1
    have hl : L.length + 1 ≤ 4 := hh.2.1
    have hne : (nI (L.length + 1) = 0) = False := by
      rw [show (0 : Int32) = nI 0 from rfl, nI_inj (by omega) (by decide)]; exact eq_false (by omega)
    have kp : nI (L.length + 1) - 1 = nI L.length := nI_pred _
    have g4 : up1 (upA T 367 f) 366 4 (nI L.length) 366 4 = nI L.length := by rw [up1_s, upA_s]
    obtain ⟨U, e, f1, g1, -⟩ := cp_undo (T := up1 (upA T 367 f) 366 4 (nI L.length)) (P := P) g4 (by omega)
    have e : X 184 27 [.ref 366, .int 0] [] (H (up1 (upA T 367 f) 366 4 (nI L.length)) P) = X 184 27 [.ref 366, .int 912] [] (H U P) := e
    have u4 : U 366 4 = nI L.length := by rw [f1 366 (by decide)]; exact g4
    have n366 : ∀ j, j ≠ 4 → U 366 j = T 366 j := fun j hj => by rw [f1 366 (by decide), up1_s, upA_n _ _ hj, upA_n _ _ (by decide)]
    have n1 : ∀ a, a ≠ 366 → a ≠ 367 → U a = T a := fun a q1 q2 => by rw [f1 a q2, up1_n q1, upA_n _ _ q2]
    refine RQ.of (U := U) ?_ (fun a ha => n1 a (by omega) (by omega)) ⟨⟨?_, ?_, ⟨?_, ?_, fun g w hg => ?_⟩, ?_⟩, ?_⟩
    · unfold gUndo
      simp +decide only [x184_0, x184_0N, x184_1, x184_2, x184_5, x184_5N, x184_6, x184_9, x184_12, x184_14, x184_15, x184_15N, x184_16, x184_17, x184_20, x184_21, x184_22, x184_25, x184_26, x184_28, x184_31, x184_34, x184_34N, x184_35, x184_38, x184_39, x184_39N, x184_40, x184_43, x184_46, x184_46N, x184_47, x184_50, x184_51, x184_52, x184_53, x184_54, x184_55, x184_58, x184_61, x184_61N, x184_62, x184_65, aft_some, aft_void, Option.bind_some, Option.toList_some, Option.toList_none, List.cons_append, List.nil_append, if_true, if_false, ↓reduceIte, eq_self, z366_o, ↓z366_0, ↓z366_0p, ↓z366_1, ↓z366_2, ↓z366_3, ↓z366_4, ↓z366_4p, ↓z366_5, ↓z366_6, ↓z366_6p0, ↓z366_6p1, ↓z366_7, ↓z366_8, ↓z366_8p, ↓z366_9, ↓z366_9p, ↓z366_10, ↓z366_10p0, ↓z366_10p1, ↓z366_11, ↓z366_12, ↓z366_12p, ↓sg0, ↓sg1, ↓sg2, ↓sg3, ↓sg4, ↓sg5, ↓sg6, ↓sg7, ↓sg8, ↓sg9, ↓sg10, ↓sg11, ↓sg12, ↓sg13, ↓sg14, ↓sg15, ↓sg16, ↓sg17, ↓ss0, ↓ss1, ↓ss2, ↓ss3, ↓ss4, ↓ss5, ↓ss6, ↓ss7, ↓ss8, ↓ss9, ↓ss10, ↓ss11, ↓ss12, ↓ss13, ↓ss14, ↓ss15, ↓ss16, ↓ss17, t0, h4, hne, kp]
      rw [e, x184_27]
      simp +decide only [x184_0, x184_0N, x184_1, x184_2, x184_5, x184_5N, x184_6, x184_9, x184_12, x184_14, x184_15, x184_15N, x184_16, x184_17, x184_20, x184_21, x184_22, x184_25, x184_26, x184_28, x184_31, x184_34, x184_34N, x184_35, x184_38, x184_39, x184_39N, x184_40, x184_43, x184_46, x184_46N, x184_47, x184_50, x184_51, x184_52, x184_53, x184_54, x184_55, x184_58, x184_61, x184_61N, x184_62, x184_65, aft_some, aft_void, Option.bind_some, Option.toList_some, Option.toList_none, List.cons_append, List.nil_append, if_true, if_false, ↓reduceIte, eq_self, z366_o, ↓z366_0, ↓z366_0p, ↓z366_1, ↓z366_2, ↓z366_3, ↓z366_4, ↓z366_4p, ↓z366_5, ↓z366_6, ↓z366_6p0, ↓z366_6p1, ↓z366_7, ↓z366_8, ↓z366_8p, ↓z366_9, ↓z366_9p, ↓z366_10, ↓z366_10p0, ↓z366_10p1, ↓z366_11, ↓z366_12, ↓z366_12p, ↓sg0, ↓sg1, ↓sg2, ↓sg3, ↓sg4, ↓sg5, ↓sg6, ↓sg7, ↓sg8, ↓sg9, ↓sg10, ↓sg11, ↓sg12, ↓sg13, ↓sg14, ↓sg15, ↓sg16, ↓sg17, ↓ss0, ↓ss1, ↓ss2, ↓ss3, ↓ss4, ↓ss5, ↓ss6, ↓ss7, ↓ss8, ↓ss9, ↓ss10, ↓ss11, ↓ss12, ↓ss13, ↓ss14, ↓ss15, ↓ss16, ↓ss17, u4]
    · rw [n366 0 (by decide)]; exact h0
    · exact kR.same hk hw.2.2 (n366 6 (by decide)) (fun j _ => by rw [n1 370 (by decide) (by decide)])
    · exact u4
    · show L.length ≤ 4; omega
    · have := hh.2.2 (g + 1) w (by rw [List.getElem?_cons_succ]; exact hg)
      rw [n1 369 (by decide) (by decide)]
      have e2 : (v :: L).length - 1 - (g + 1) = L.length - 1 - g := by rw [List.length_cons]; omega
      rw [e2] at this
      exact this
    · exact hx.same (n366 8 (by decide)) (n1 371 (by decide) (by decide))
    · have h1 := hh.2.2 0 v rfl
      refine sU.same h1 (hw.2.1 v List.mem_cons_self) (fun j hj => ?_)
      rw [g1 j hj, up1_n (by decide), upA_n _ _ (by decide)]
      show _ = T 369 (912 * ((v :: L).length - 1 - 0) + j)
      congr 2
theorem q_keep (h : CF T f s) (hw : WG s) : RQ T P f 185 [.ref 366, .long 0] (gKeep s) := by
  have t0 := thr (f := f) h.1.1
  obtain ⟨⟨h0, hk, hh, hx⟩, hs⟩ := id h
  obtain ⟨U, e, f1, g1, -⟩ := cp_keep (T := upA T 367 f) (P := P)
  have e : X 185 7 [.ref 366, .int 0] [] (H (upA T 367 f) P) = X 185 7 [.ref 366, .int 912] [] (H U P) := e
  have hU : U 367 = f := by rw [f1 367 (by decide), upA_s]
  have n1 : ∀ a, a ≠ 370 → a ≠ 367 → U a = T a := fun a q1 q2 => by rw [f1 a q1, upA_n _ _ q2]
  obtain ⟨W, hW⟩ : ∃ W, W = up1 U 366 6 1 := ⟨_, rfl⟩
  have hW7 : W 367 = f := by rw [hW, up1_n (by decide)]; exact hU
  have hWf : upA W 367 f = W := by rw [← hW7]; exact upA_self _ _
  have n366 : ∀ j, j ≠ 6 → W 366 j = T 366 j := fun j hj => by rw [hW, up1_s, upA_n _ _ hj, n1 366 (by decide) (by decide)]
  have nW : ∀ a, a ≠ 366 → a ≠ 370 → a ≠ 367 → W a = T a := fun a q1 q2 q3 => by rw [hW, up1_n q1]; exact n1 a q2 q3
  have h4 : f 4 = nI (s.1.1.1 0) := hs.1.d
  refine RQ.of (U := W) ?_ (fun a ha => nW a (by omega) (by omega) (by omega)) ⟨⟨?_, ⟨?_, ?_⟩, ?_, ?_⟩, ?_⟩
  · unfold gKeep
    simp +decide only [x185_0, x185_0N, x185_1, x185_2, x185_5, x185_6, x185_8, x185_11, x185_14, x185_14N, x185_15, x185_18, x185_19, x185_19N, x185_20, x185_23, x185_24, x185_25, x185_26, x185_29, x185_32, x185_32N, x185_33, x185_34, x185_37, x185_37N, x185_38, x185_41, x185_42, x185_43, aft_some, aft_void, Option.bind_some, Option.toList_some, Option.toList_none, List.cons_append, List.nil_append, if_true, if_false, ↓reduceIte, eq_self, z366_o, ↓z366_0, ↓z366_0p, ↓z366_1, ↓z366_2, ↓z366_3, ↓z366_4, ↓z366_4p, ↓z366_5, ↓z366_6, ↓z366_6p0, ↓z366_6p1, ↓z366_7, ↓z366_8, ↓z366_8p, ↓z366_9, ↓z366_9p, ↓z366_10, ↓z366_10p0, ↓z366_10p1, ↓z366_11, ↓z366_12, ↓z366_12p, ↓sg0, ↓sg1, ↓sg2, ↓sg3, ↓sg4, ↓sg5, ↓sg6, ↓sg7, ↓sg8, ↓sg9, ↓sg10, ↓sg11, ↓sg12, ↓sg13, ↓sg14, ↓sg15, ↓sg16, ↓sg17, ↓ss0, ↓ss1, ↓ss2, ↓ss3, ↓ss4, ↓ss5, ↓ss6, ↓ss7, ↓ss8, ↓ss9, ↓ss10, ↓ss11, ↓ss12, ↓ss13, ↓ss14, ↓ss15, ↓ss16, ↓ss17, t0]
    rw [e, x185_7]
    simp +decide only [x185_0, x185_0N, x185_1, x185_2, x185_5, x185_6, x185_8, x185_11, x185_14, x185_14N, x185_15, x185_18, x185_19, x185_19N, x185_20, x185_23, x185_24, x185_25, x185_26, x185_29, x185_32, x185_32N, x185_33, x185_34, x185_37, x185_37N, x185_38, x185_41, x185_42, x185_43, aft_some, aft_void, Option.bind_some, Option.toList_some, Option.toList_none, List.cons_append, List.nil_append, if_true, if_false, ↓reduceIte, eq_self, z366_o, ↓z366_0, ↓z366_0p, ↓z366_1, ↓z366_2, ↓z366_3, ↓z366_4, ↓z366_4p, ↓z366_5, ↓z366_6, ↓z366_6p0, ↓z366_6p1, ↓z366_7, ↓z366_8, ↓z366_8p, ↓z366_9, ↓z366_9p, ↓z366_10, ↓z366_10p0, ↓z366_10p1, ↓z366_11, ↓z366_12, ↓z366_12p, ↓sg0, ↓sg1, ↓sg2, ↓sg3, ↓sg4, ↓sg5, ↓sg6, ↓sg7, ↓sg8, ↓sg9, ↓sg10, ↓sg11, ↓sg12, ↓sg13, ↓sg14, ↓sg15, ↓sg16, ↓sg17, ↓ss0, ↓ss1, ↓ss2, ↓ss3, ↓ss4, ↓ss5, ↓ss6, ↓ss7, ↓ss8, ↓ss9, ↓ss10, ↓ss11, ↓ss12, ↓ss13, ↓ss14, ↓ss15, ↓ss16, ↓ss17]
    rw [← hW, ← hWf]
    simp +decide only [x185_0, x185_0N, x185_1, x185_2, x185_5, x185_6, x185_8, x185_11, x185_14, x185_14N, x185_15, x185_18, x185_19, x185_19N, x185_20, x185_23, x185_24, x185_25, x185_26, x185_29, x185_32, x185_32N, x185_33, x185_34, x185_37, x185_37N, x185_38, x185_41, x185_42, x185_43, aft_some, aft_void, Option.bind_some, Option.toList_some, Option.toList_none, List.cons_append, List.nil_append, if_true, if_false, ↓reduceIte, eq_self, z366_o, ↓z366_0, ↓z366_0p, ↓z366_1, ↓z366_2, ↓z366_3, ↓z366_4, ↓z366_4p, ↓z366_5, ↓z366_6, ↓z366_6p0, ↓z366_6p1, ↓z366_7, ↓z366_8, ↓z366_8p, ↓z366_9, ↓z366_9p, ↓z366_10, ↓z366_10p0, ↓z366_10p1, ↓z366_11, ↓z366_12, ↓z366_12p, ↓sg0, ↓sg1, ↓sg2, ↓sg3, ↓sg4, ↓sg5, ↓sg6, ↓sg7, ↓sg8, ↓sg9, ↓sg10, ↓sg11, ↓sg12, ↓sg13, ↓sg14, ↓sg15, ↓sg16, ↓sg17, ↓ss0, ↓ss1, ↓ss2, ↓ss3, ↓ss4, ↓ss5, ↓ss6, ↓ss7, ↓ss8, ↓ss9, ↓ss10, ↓ss11, ↓ss12, ↓ss13, ↓ss14, ↓ss15, ↓ss16, ↓ss17, h4]
  · rw [n366 0 (by decide)]; exact h0
  · rw [hW, up1_s, upA_s]
  · refine sU.same hs hw.1 (fun j hj => ?_)
    rw [hW, up1_n (by decide), g1 j hj, upA_s]
  · exact hh.same (n366 4 (by decide)) (nW 369 (by decide) (by decide) (by decide))
  · exact hx.same (n366 8 (by decide)) (nW 371 (by decide) (by decide) (by decide))
  · rw [hW7]; exact hs
theorem q_rest (h : CF T f s) (hw : WG s) : RQ T P f 186 [.ref 366, .long 0] (gRest s) := by
  have t0 := thr (f := f) h.1.1
  obtain ⟨⟨h0, hk, hh, hx⟩, hs⟩ := id h
  obtain ⟨u, k, L, t⟩ := s
  cases k with
  | none =>
    have h6 : upA T 367 f 366 6 = 0 := by rw [upA_n _ _ (by decide)]; exact hk
    exact ⟨T, f, by
      unfold gRest
      simp +decide only [x186_0, x186_0N, x186_1, x186_2, x186_5, x186_5N, x186_6, x186_9, x186_12, x186_14, x186_15, x186_15N, x186_16, x186_19, x186_20, x186_21, x186_22, x186_25, x186_28, x186_28N, x186_29, x186_32, x186_33, x186_33N, x186_34, x186_37, x186_38, x186_39, x186_40, x186_43, x186_46, x186_46N, x186_47, x186_50, x186_51, x186_52, aft_some, aft_void, Option.bind_some, Option.toList_some, Option.toList_none, List.cons_append, List.nil_append, if_true, if_false, ↓reduceIte, eq_self, z366_o, ↓z366_0, ↓z366_0p, ↓z366_1, ↓z366_2, ↓z366_3, ↓z366_4, ↓z366_4p, ↓z366_5, ↓z366_6, ↓z366_6p0, ↓z366_6p1, ↓z366_7, ↓z366_8, ↓z366_8p, ↓z366_9, ↓z366_9p, ↓z366_10, ↓z366_10p0, ↓z366_10p1, ↓z366_11, ↓z366_12, ↓z366_12p, ↓sg0, ↓sg1, ↓sg2, ↓sg3, ↓sg4, ↓sg5, ↓sg6, ↓sg7, ↓sg8, ↓sg9, ↓sg10, ↓sg11, ↓sg12, ↓sg13, ↓sg14, ↓sg15, ↓sg16, ↓sg17, ↓ss0, ↓ss1, ↓ss2, ↓ss3, ↓ss4, ↓ss5, ↓ss6, ↓ss7, ↓ss8, ↓ss9, ↓ss10, ↓ss11, ↓ss12, ↓ss13, ↓ss14, ↓ss15, ↓ss16, ↓ss17, t0, h6], fun _ _ => rfl, h⟩
  | some v =>
    have h6 : upA T 367 f 366 6 = 1 := by rw [upA_n _ _ (by decide)]; exact hk.1
    obtain ⟨U, e, fr, -, hU⟩ := h.push (P := P) hw
    obtain ⟨⟨p0, pk, ph, px⟩, -⟩ := hU
    obtain ⟨W, e2, f2, g2, -⟩ := cp_rest (T := upA U 367 f) (P := P)
    have e2 : X 186 21 [.ref 366, .int 0] [] (H (upA U 367 f) P) = X 186 21 [.ref 366, .int 912] [] (H W P) := e2
    have nW : ∀ a, a ≠ 367 → W a = U a := fun a q => by rw [f2 a q, upA_n _ _ q]
    have hs' : sU (W 367) v := sU.same pk.2 (hw.2.2 v rfl) (fun j hj => by rw [g2 j hj, upA_n _ _ (by decide)])
    have hWf : upA W 367 (W 367) = W := upA_self _ _
    have h4 : W 367 4 = nI (v.1.1 0) := hs'.1.d
    refine RQ.of (U := W) ?_ (fun a ha => by rw [nW a (by omega)]; exact fr a (by omega) (by omega)) ⟨⟨?_, ⟨?_, ?_⟩, ?_, ?_⟩, hs'⟩
    · unfold gRest
      simp +decide only [x186_0, x186_0N, x186_1, x186_2, x186_5, x186_5N, x186_6, x186_9, x186_12, x186_14, x186_15, x186_15N, x186_16, x186_19, x186_20, x186_22, x186_25, x186_28, x186_28N, x186_29, x186_32, x186_33, x186_33N, x186_34, x186_37, x186_38, x186_39, x186_40, x186_43, x186_46, x186_46N, x186_47, x186_50, x186_51, x186_52, aft_some, aft_void, Option.bind_some, Option.toList_some, Option.toList_none, List.cons_append, List.nil_append, if_true, if_false, ↓reduceIte, eq_self, z366_o, ↓z366_0, ↓z366_0p, ↓z366_1, ↓z366_2, ↓z366_3, ↓z366_4, ↓z366_4p, ↓z366_5, ↓z366_6, ↓z366_6p0, ↓z366_6p1, ↓z366_7, ↓z366_8, ↓z366_8p, ↓z366_9, ↓z366_9p, ↓z366_10, ↓z366_10p0, ↓z366_10p1, ↓z366_11, ↓z366_12, ↓z366_12p, ↓sg0, ↓sg1, ↓sg2, ↓sg3, ↓sg4, ↓sg5, ↓sg6, ↓sg7, ↓sg8, ↓sg9, ↓sg10, ↓sg11, ↓sg12, ↓sg13, ↓sg14, ↓sg15, ↓sg16, ↓sg17, ↓ss0, ↓ss1, ↓ss2, ↓ss3, ↓ss4, ↓ss5, ↓ss6, ↓ss7, ↓ss8, ↓ss9, ↓ss10, ↓ss11, ↓ss12, ↓ss13, ↓ss14, ↓ss15, ↓ss16, ↓ss17, t0, h6, ↓aft_of (e)]
      rw [e2, x186_21]
      simp +decide only [x186_0, x186_0N, x186_1, x186_2, x186_5, x186_5N, x186_6, x186_9, x186_12, x186_14, x186_15, x186_15N, x186_16, x186_19, x186_20, x186_22, x186_25, x186_28, x186_28N, x186_29, x186_32, x186_33, x186_33N, x186_34, x186_37, x186_38, x186_39, x186_40, x186_43, x186_46, x186_46N, x186_47, x186_50, x186_51, x186_52, aft_some, aft_void, Option.bind_some, Option.toList_some, Option.toList_none, List.cons_append, List.nil_append, if_true, if_false, ↓reduceIte, eq_self, z366_o, ↓z366_0, ↓z366_0p, ↓z366_1, ↓z366_2, ↓z366_3, ↓z366_4, ↓z366_4p, ↓z366_5, ↓z366_6, ↓z366_6p0, ↓z366_6p1, ↓z366_7, ↓z366_8, ↓z366_8p, ↓z366_9, ↓z366_9p, ↓z366_10, ↓z366_10p0, ↓z366_10p1, ↓z366_11, ↓z366_12, ↓z366_12p, ↓sg0, ↓sg1, ↓sg2, ↓sg3, ↓sg4, ↓sg5, ↓sg6, ↓sg7, ↓sg8, ↓sg9, ↓sg10, ↓sg11, ↓sg12, ↓sg13, ↓sg14, ↓sg15, ↓sg16, ↓sg17, ↓ss0, ↓ss1, ↓ss2, ↓ss3, ↓ss4, ↓ss5, ↓ss6, ↓ss7, ↓ss8, ↓ss9, ↓ss10, ↓ss11, ↓ss12, ↓ss13, ↓ss14, ↓ss15, ↓ss16, ↓ss17]
      rw [← hWf]
      simp +decide only [x186_0, x186_0N, x186_1, x186_2, x186_5, x186_5N, x186_6, x186_9, x186_12, x186_14, x186_15, x186_15N, x186_16, x186_19, x186_20, x186_22, x186_25, x186_28, x186_28N, x186_29, x186_32, x186_33, x186_33N, x186_34, x186_37, x186_38, x186_39, x186_40, x186_43, x186_46, x186_46N, x186_47, x186_50, x186_51, x186_52, aft_some, aft_void, Option.bind_some, Option.toList_some, Option.toList_none, List.cons_append, List.nil_append, if_true, if_false, ↓reduceIte, eq_self, z366_o, ↓z366_0, ↓z366_0p, ↓z366_1, ↓z366_2, ↓z366_3, ↓z366_4, ↓z366_4p, ↓z366_5, ↓z366_6, ↓z366_6p0, ↓z366_6p1, ↓z366_7, ↓z366_8, ↓z366_8p, ↓z366_9, ↓z366_9p, ↓z366_10, ↓z366_10p0, ↓z366_10p1, ↓z366_11, ↓z366_12, ↓z366_12p, ↓sg0, ↓sg1, ↓sg2, ↓sg3, ↓sg4, ↓sg5, ↓sg6, ↓sg7, ↓sg8, ↓sg9, ↓sg10, ↓sg11, ↓sg12, ↓sg13, ↓sg14, ↓sg15, ↓sg16, ↓sg17, ↓ss0, ↓ss1, ↓ss2, ↓ss3, ↓ss4, ↓ss5, ↓ss6, ↓ss7, ↓ss8, ↓ss9, ↓ss10, ↓ss11, ↓ss12, ↓ss13, ↓ss14, ↓ss15, ↓ss16, ↓ss17, h4]
    · rw [nW 366 (by decide)]; exact p0
    · rw [nW 366 (by decide)]; exact pk.1
    · rw [nW 370 (by decide)]; exact pk.2
    · exact ph.same (by rw [nW 366 (by decide)]) (nW 369 (by decide))
    · exact px.same (by rw [nW 366 (by decide)]) (nW 371 (by decide))
theorem q_bask (h : CF T f s) (hw : WG s) (c p st g : Int32) : RQ T P f 151 [.ref 366, .int c, .int p, .int st, .int g, .long 0] (gBask c p st g s) := by
  have t0 := thr (f := f) h.1.1
  have er := r_refuses (T := T) (P := P) (x := c) (y := p) (z := st) (w := g) h.2 hw.1.1
  unfold gBask
  by_cases c1 : rfU s.1 c p st g < 0
  · rw [if_pos c1]
    have hne : (rfI (s.1.1.1 1) s.1.1.2.2.1 s.1.2.length (s.1.1.1 2) c p st g = 0) = False := eq_false (fun e => by
      have c1 : rfI (s.1.1.1 1) s.1.1.2.2.1 s.1.2.length (s.1.1.1 2) c p st g < 0 := c1
      rw [e] at c1
      exact absurd c1 (by decide))
    exact ⟨T, f, by simp +decide only [x151_0, x151_0N, x151_1, x151_2, x151_5, x151_5N, x151_6, x151_7, x151_8, x151_9, x151_11, x151_14, x151_16, x151_18, x151_21, x151_23, x151_24, x151_24N, x151_25, x151_28, x151_28N, x151_29, x151_30, x151_31, x151_32, x151_34, x151_37, aft_some, aft_void, Option.bind_some, Option.toList_some, Option.toList_none, List.cons_append, List.nil_append, if_true, if_false, ↓reduceIte, eq_self, z366_o, ↓z366_0, ↓z366_0p, ↓z366_1, ↓z366_2, ↓z366_3, ↓z366_4, ↓z366_4p, ↓z366_5, ↓z366_6, ↓z366_6p0, ↓z366_6p1, ↓z366_7, ↓z366_8, ↓z366_8p, ↓z366_9, ↓z366_9p, ↓z366_10, ↓z366_10p0, ↓z366_10p1, ↓z366_11, ↓z366_12, ↓z366_12p, ↓sg0, ↓sg1, ↓sg2, ↓sg3, ↓sg4, ↓sg5, ↓sg6, ↓sg7, ↓sg8, ↓sg9, ↓sg10, ↓sg11, ↓sg12, ↓sg13, ↓sg14, ↓sg15, ↓sg16, ↓sg17, ↓ss0, ↓ss1, ↓ss2, ↓ss3, ↓ss4, ↓ss5, ↓ss6, ↓ss7, ↓ss8, ↓ss9, ↓ss10, ↓ss11, ↓ss12, ↓ss13, ↓ss14, ↓ss15, ↓ss16, ↓ss17, t0, ↓aft_of (er), hne], fun _ _ => rfl, h⟩
  rw [if_neg c1]
  obtain ⟨e0, k, m, y, z, hk, rfl, hm, rfl, hy, rfl, hz, hzo, rfl, h8, h99⟩ := rf_ok hw.1 c1
  have e0 : rfI (s.1.1.1 1) s.1.1.2.2.1 s.1.2.length (s.1.1.1 2) (nI k) (nI m) (nI y) (nI z) = 0 := e0
  rw [e0] at er
  obtain ⟨U, e, fr, -, hU⟩ := h.push (P := P) hw
  have hN1 := hw.1.1.1.2.1
  obtain ⟨f', ec, hs'⟩ := r_comes (T := U) (P := P) (st := nI y) h.2 hw.1.1 hm hk h8 h99 hzo
  rw [nI_clamp (show k < 2 ^ 31 by omega), nI_clamp (show z < 2 ^ 31 by omega)]
  exact ⟨U, f', by simp +decide only [x151_0, x151_0N, x151_1, x151_2, x151_5, x151_5N, x151_6, x151_7, x151_8, x151_9, x151_11, x151_14, x151_16, x151_18, x151_21, x151_23, x151_24, x151_24N, x151_25, x151_28, x151_28N, x151_29, x151_30, x151_31, x151_32, x151_34, x151_37, aft_some, aft_void, Option.bind_some, Option.toList_some, Option.toList_none, List.cons_append, List.nil_append, if_true, if_false, ↓reduceIte, eq_self, z366_o, ↓z366_0, ↓z366_0p, ↓z366_1, ↓z366_2, ↓z366_3, ↓z366_4, ↓z366_4p, ↓z366_5, ↓z366_6, ↓z366_6p0, ↓z366_6p1, ↓z366_7, ↓z366_8, ↓z366_8p, ↓z366_9, ↓z366_9p, ↓z366_10, ↓z366_10p0, ↓z366_10p1, ↓z366_11, ↓z366_12, ↓z366_12p, ↓sg0, ↓sg1, ↓sg2, ↓sg3, ↓sg4, ↓sg5, ↓sg6, ↓sg7, ↓sg8, ↓sg9, ↓sg10, ↓sg11, ↓sg12, ↓sg13, ↓sg14, ↓sg15, ↓sg16, ↓sg17, ↓ss0, ↓ss1, ↓ss2, ↓ss3, ↓ss4, ↓ss5, ↓ss6, ↓ss7, ↓ss8, ↓ss9, ↓ss10, ↓ss11, ↓ss12, ↓ss13, ↓ss14, ↓ss15, ↓ss16, ↓ss17, t0, ↓aft_of (er), ↓aft_of (e), ↓aft_of (ec)], fun a ha => fr a (by omega) (by omega), hU.now hs'⟩
theorem q_iron (h : CF T f s) (hw : WG s) (m : Int32) : RQ T P f 163 [.ref 366, .int m] (gIron m s) := by
  have t0 := thr (f := f) h.1.1
  unfold gIron
  by_cases c1 : inI m 1 600 = 0
  · rw [if_pos c1]
    exact ⟨T, f, by simp +decide only [x163_0, x163_0N, x163_1, x163_2, x163_5, x163_6, x163_7, x163_10, x163_13, x163_16, x163_18, x163_19, x163_19N, x163_20, x163_23, x163_23N, x163_24, x163_25, x163_28, aft_some, aft_void, Option.bind_some, Option.toList_some, Option.toList_none, List.cons_append, List.nil_append, if_true, if_false, ↓reduceIte, eq_self, z366_o, ↓z366_0, ↓z366_0p, ↓z366_1, ↓z366_2, ↓z366_3, ↓z366_4, ↓z366_4p, ↓z366_5, ↓z366_6, ↓z366_6p0, ↓z366_6p1, ↓z366_7, ↓z366_8, ↓z366_8p, ↓z366_9, ↓z366_9p, ↓z366_10, ↓z366_10p0, ↓z366_10p1, ↓z366_11, ↓z366_12, ↓z366_12p, ↓sg0, ↓sg1, ↓sg2, ↓sg3, ↓sg4, ↓sg5, ↓sg6, ↓sg7, ↓sg8, ↓sg9, ↓sg10, ↓sg11, ↓sg12, ↓sg13, ↓sg14, ↓sg15, ↓sg16, ↓sg17, ↓ss0, ↓ss1, ↓ss2, ↓ss3, ↓ss4, ↓ss5, ↓ss6, ↓ss7, ↓ss8, ↓ss9, ↓ss10, ↓ss11, ↓ss12, ↓ss13, ↓ss14, ↓ss15, ↓ss16, ↓ss17, t0, ↓aft_of (r_in), c1], fun _ _ => rfl, h⟩
  rw [if_neg c1]
  obtain ⟨U, e, fr, -, hU⟩ := h.push (P := P) hw
  obtain ⟨f', ei, hs', -⟩ := r_irons (T := U) (P := P) (m := m) h.2 hw.1.1
  exact ⟨U, f', by simp +decide only [x163_0, x163_0N, x163_1, x163_2, x163_5, x163_6, x163_7, x163_10, x163_13, x163_16, x163_18, x163_19, x163_19N, x163_20, x163_23, x163_23N, x163_24, x163_25, x163_28, aft_some, aft_void, Option.bind_some, Option.toList_some, Option.toList_none, List.cons_append, List.nil_append, if_true, if_false, ↓reduceIte, eq_self, z366_o, ↓z366_0, ↓z366_0p, ↓z366_1, ↓z366_2, ↓z366_3, ↓z366_4, ↓z366_4p, ↓z366_5, ↓z366_6, ↓z366_6p0, ↓z366_6p1, ↓z366_7, ↓z366_8, ↓z366_8p, ↓z366_9, ↓z366_9p, ↓z366_10, ↓z366_10p0, ↓z366_10p1, ↓z366_11, ↓z366_12, ↓z366_12p, ↓sg0, ↓sg1, ↓sg2, ↓sg3, ↓sg4, ↓sg5, ↓sg6, ↓sg7, ↓sg8, ↓sg9, ↓sg10, ↓sg11, ↓sg12, ↓sg13, ↓sg14, ↓sg15, ↓sg16, ↓sg17, ↓ss0, ↓ss1, ↓ss2, ↓ss3, ↓ss4, ↓ss5, ↓ss6, ↓ss7, ↓ss8, ↓ss9, ↓ss10, ↓ss11, ↓ss12, ↓ss13, ↓ss14, ↓ss15, ↓ss16, ↓ss17, t0, ↓aft_of (r_in), c1, ↓aft_of (e), ↓aft_of (ei)], fun a ha => fr a (by omega) (by omega), hU.now hs'⟩
theorem q_pass (h : CF T f s) (hw : WG s) (d : Int32) : RQ T P f 167 [.ref 366, .int d, .long 0, .long 0] (gPass d s) := by
  have t0 := thr (f := f) h.1.1
  have h4 : f 4 = nI (s.1.1.1 0) := h.2.1.d
  unfold gPass
  by_cases c1 : inI d 1 99 = 0
  · rw [if_pos c1]
    exact ⟨T, f, by simp +decide only [x167_0, x167_0N, x167_1, x167_2, x167_5, x167_6, x167_7, x167_9, x167_12, x167_15, x167_17, x167_18, x167_18N, x167_19, x167_22, x167_23, x167_24, x167_25, x167_26, x167_29, x167_32, x167_34, x167_35, x167_35N, x167_36, x167_39, x167_40, x167_41, x167_42, x167_43, x167_44, x167_45, x167_48, x167_49, x167_49N, x167_50, x167_53, x167_54, x167_55, x167_58, x167_61, x167_62, aft_some, aft_void, Option.bind_some, Option.toList_some, Option.toList_none, List.cons_append, List.nil_append, if_true, if_false, ↓reduceIte, eq_self, z366_o, ↓z366_0, ↓z366_0p, ↓z366_1, ↓z366_2, ↓z366_3, ↓z366_4, ↓z366_4p, ↓z366_5, ↓z366_6, ↓z366_6p0, ↓z366_6p1, ↓z366_7, ↓z366_8, ↓z366_8p, ↓z366_9, ↓z366_9p, ↓z366_10, ↓z366_10p0, ↓z366_10p1, ↓z366_11, ↓z366_12, ↓z366_12p, ↓sg0, ↓sg1, ↓sg2, ↓sg3, ↓sg4, ↓sg5, ↓sg6, ↓sg7, ↓sg8, ↓sg9, ↓sg10, ↓sg11, ↓sg12, ↓sg13, ↓sg14, ↓sg15, ↓sg16, ↓sg17, ↓ss0, ↓ss1, ↓ss2, ↓ss3, ↓ss4, ↓ss5, ↓ss6, ↓ss7, ↓ss8, ↓ss9, ↓ss10, ↓ss11, ↓ss12, ↓ss13, ↓ss14, ↓ss15, ↓ss16, ↓ss17, t0, ↓aft_of (r_in), c1], fun _ _ => rfl, h⟩
  rw [if_neg c1]
  by_cases c2 : 9999 < nI (s.1.1.1 0) + d
  · rw [if_pos c2]
    exact ⟨T, f, by simp +decide only [x167_0, x167_0N, x167_1, x167_2, x167_5, x167_6, x167_7, x167_9, x167_12, x167_15, x167_17, x167_18, x167_18N, x167_19, x167_22, x167_23, x167_24, x167_25, x167_26, x167_29, x167_32, x167_34, x167_35, x167_35N, x167_36, x167_39, x167_40, x167_41, x167_42, x167_43, x167_44, x167_45, x167_48, x167_49, x167_49N, x167_50, x167_53, x167_54, x167_55, x167_58, x167_61, x167_62, aft_some, aft_void, Option.bind_some, Option.toList_some, Option.toList_none, List.cons_append, List.nil_append, if_true, if_false, ↓reduceIte, eq_self, z366_o, ↓z366_0, ↓z366_0p, ↓z366_1, ↓z366_2, ↓z366_3, ↓z366_4, ↓z366_4p, ↓z366_5, ↓z366_6, ↓z366_6p0, ↓z366_6p1, ↓z366_7, ↓z366_8, ↓z366_8p, ↓z366_9, ↓z366_9p, ↓z366_10, ↓z366_10p0, ↓z366_10p1, ↓z366_11, ↓z366_12, ↓z366_12p, ↓sg0, ↓sg1, ↓sg2, ↓sg3, ↓sg4, ↓sg5, ↓sg6, ↓sg7, ↓sg8, ↓sg9, ↓sg10, ↓sg11, ↓sg12, ↓sg13, ↓sg14, ↓sg15, ↓sg16, ↓sg17, ↓ss0, ↓ss1, ↓ss2, ↓ss3, ↓ss4, ↓ss5, ↓ss6, ↓ss7, ↓ss8, ↓ss9, ↓ss10, ↓ss11, ↓ss12, ↓ss13, ↓ss14, ↓ss15, ↓ss16, ↓ss17, t0, ↓aft_of (r_in), c1, h4, c2], fun _ _ => rfl, h⟩
  rw [if_neg c2]
  obtain ⟨n, hn1, hn, rfl⟩ := inI_ex2 (m := 1) (n := 99) (by decide) (by decide) c1
  have h99 : s.1.1.1 0 + n ≤ 9999 := by
    have := hw.1.2
    rw [nI_add, show (9999 : Int32) = nI 9999 from rfl, nI_ltp (by decide) (by omega)] at c2
    omega
  rw [nI_clamp (show n < 2 ^ 31 by omega)]
  obtain ⟨U, e, fr, -, hU⟩ := h.push (P := P) hw
  obtain ⟨G, e2, i3, i4, i5⟩ := loop_ex (fun i (G : Nat → Int32) => X 167 43 [.ref 366, .int (nI n), .int (psT i s.1), .int (nI i)] [] (H (upA U 367 G) P))
    (fun i G => sU G (psU i s.1) ∧ WF (psU i s.1).1.1 (psU i s.1).1.2.1 (psU i s.1).2 (psU i s.1).1.2.2.1 ∧ (psU i s.1).1.1 0 = s.1.1.1 0 + i) n f ⟨h.2, hw.1.1, rfl⟩ (by
      intro i G hi ⟨j3, j4, j5⟩
      obtain ⟨G', e3, c3⟩ := r_goesBy (T := U) (P := P) j3 j4 (by omega)
      have e3 : X 166 0 [.ref 366, .long 0, .long 0, .long 0, .long 0] [] (H (upA U 367 G) P) = some (some (.int (nI ((psU i s.1).2.length - (dyU (psU i s.1)).2.length))), H (upA U 367 G') P) := e3
      refine ⟨G', ?_, c3, WF_day j4 (show (psU i s.1).1.1 0 < 10100 by omega), ?_⟩
      · show X 167 43 [.ref 366, .int (nI n), .int (psT i s.1), .int (nI i)] [] (H (upA U 367 G) P) = _
        rw [x167_43]
        simp +decide only [x167_0, x167_0N, x167_1, x167_2, x167_5, x167_6, x167_7, x167_9, x167_12, x167_15, x167_17, x167_18, x167_18N, x167_19, x167_22, x167_23, x167_24, x167_25, x167_26, x167_29, x167_32, x167_34, x167_35, x167_35N, x167_36, x167_39, x167_40, x167_41, x167_42, x167_44, x167_45, x167_48, x167_49, x167_49N, x167_50, x167_53, x167_54, x167_55, x167_58, x167_61, x167_62, aft_some, aft_void, Option.bind_some, Option.toList_some, Option.toList_none, List.cons_append, List.nil_append, if_true, if_false, ↓reduceIte, eq_self, z366_o, ↓z366_0, ↓z366_0p, ↓z366_1, ↓z366_2, ↓z366_3, ↓z366_4, ↓z366_4p, ↓z366_5, ↓z366_6, ↓z366_6p0, ↓z366_6p1, ↓z366_7, ↓z366_8, ↓z366_8p, ↓z366_9, ↓z366_9p, ↓z366_10, ↓z366_10p0, ↓z366_10p1, ↓z366_11, ↓z366_12, ↓z366_12p, ↓sg0, ↓sg1, ↓sg2, ↓sg3, ↓sg4, ↓sg5, ↓sg6, ↓sg7, ↓sg8, ↓sg9, ↓sg10, ↓sg11, ↓sg12, ↓sg13, ↓sg14, ↓sg15, ↓sg16, ↓sg17, ↓ss0, ↓ss1, ↓ss2, ↓ss3, ↓ss4, ↓ss5, ↓ss6, ↓ss7, ↓ss8, ↓ss9, ↓ss10, ↓ss11, ↓ss12, ↓ss13, ↓ss14, ↓ss15, ↓ss16, ↓ss17, nI_lt hi (show n < 2 ^ 31 by omega), ↓aft_of (e3), nI_1, psT]
      · show (dyU (psU i s.1)).1.1 0 = _
        rw [dy_day, j5]; omega)
  have e2 : X 167 43 [.ref 366, .int (nI n), .int 0, .int 0] [] (H (upA U 367 f) P) = X 167 43 [.ref 366, .int (nI n), .int (psT n s.1), .int (nI n)] [] (H (upA U 367 G) P) := e2
  refine ⟨U, G, ?_, fun a ha => fr a (by omega) (by omega), hU.now i3⟩
  simp +decide only [x167_0, x167_0N, x167_1, x167_2, x167_5, x167_6, x167_7, x167_9, x167_12, x167_15, x167_17, x167_18, x167_18N, x167_19, x167_22, x167_23, x167_24, x167_25, x167_26, x167_29, x167_32, x167_34, x167_35, x167_35N, x167_36, x167_39, x167_40, x167_41, x167_42, x167_44, x167_45, x167_48, x167_49, x167_49N, x167_50, x167_53, x167_54, x167_55, x167_58, x167_61, x167_62, aft_some, aft_void, Option.bind_some, Option.toList_some, Option.toList_none, List.cons_append, List.nil_append, if_true, if_false, ↓reduceIte, eq_self, z366_o, ↓z366_0, ↓z366_0p, ↓z366_1, ↓z366_2, ↓z366_3, ↓z366_4, ↓z366_4p, ↓z366_5, ↓z366_6, ↓z366_6p0, ↓z366_6p1, ↓z366_7, ↓z366_8, ↓z366_8p, ↓z366_9, ↓z366_9p, ↓z366_10, ↓z366_10p0, ↓z366_10p1, ↓z366_11, ↓z366_12, ↓z366_12p, ↓sg0, ↓sg1, ↓sg2, ↓sg3, ↓sg4, ↓sg5, ↓sg6, ↓sg7, ↓sg8, ↓sg9, ↓sg10, ↓sg11, ↓sg12, ↓sg13, ↓sg14, ↓sg15, ↓sg16, ↓sg17, ↓ss0, ↓ss1, ↓ss2, ↓ss3, ↓ss4, ↓ss5, ↓ss6, ↓ss7, ↓ss8, ↓ss9, ↓ss10, ↓ss11, ↓ss12, ↓ss13, ↓ss14, ↓ss15, ↓ss16, ↓ss17, t0, ↓aft_of (r_in), c1, h4, c2, ↓aft_of (e)]
  rw [e2, x167_43]
  simp +decide only [x167_0, x167_0N, x167_1, x167_2, x167_5, x167_6, x167_7, x167_9, x167_12, x167_15, x167_17, x167_18, x167_18N, x167_19, x167_22, x167_23, x167_24, x167_25, x167_26, x167_29, x167_32, x167_34, x167_35, x167_35N, x167_36, x167_39, x167_40, x167_41, x167_42, x167_44, x167_45, x167_48, x167_49, x167_49N, x167_50, x167_53, x167_54, x167_55, x167_58, x167_61, x167_62, aft_some, aft_void, Option.bind_some, Option.toList_some, Option.toList_none, List.cons_append, List.nil_append, if_true, if_false, ↓reduceIte, eq_self, nI_nlt (Nat.le_refl n) (show n < 2 ^ 31 by omega)]
end QB
