/-! the reference's pins, book, refusals -/
theorem fp_spec {u : Int32} {p : Nat} (hp : p < 8) (h : fpI u = nI p) : (∀ j, j < p → ¬ u >>> (nI j &&& 31) &&& 1 = 0) ∧ u >>> (nI p &&& 31) &&& 1 = 0 := by
  have e : fpI u = if u >>> (nI 0 &&& 31) &&& 1 = 0 then nI 0 else if u >>> (nI 1 &&& 31) &&& 1 = 0 then nI 1 else if u >>> (nI 2 &&& 31) &&& 1 = 0 then nI 2 else if u >>> (nI 3 &&& 31) &&& 1 = 0 then nI 3 else if u >>> (nI 4 &&& 31) &&& 1 = 0 then nI 4 else if u >>> (nI 5 &&& 31) &&& 1 = 0 then nI 5 else if u >>> (nI 6 &&& 31) &&& 1 = 0 then nI 6 else if u >>> (nI 7 &&& 31) &&& 1 = 0 then nI 7 else nI 8 := rfl
  rw [e] at h
  have inj : ∀ q : Nat, q ≤ 8 → nI q = nI p → q = p := fun q hq hh => by rwa [nI_inj (by omega) (by omega)] at hh
  by_cases h0 : u >>> (nI 0 &&& 31) &&& 1 = 0
  · rw [if_pos h0] at h
    obtain rfl := inj 0 (by omega) h
    exact ⟨fun j hj => by omega, h0⟩
  rw [if_neg h0] at h
  by_cases h1 : u >>> (nI 1 &&& 31) &&& 1 = 0
  · rw [if_pos h1] at h
    obtain rfl := inj 1 (by omega) h
    exact ⟨fun j hj => by match j, hj with | 0, _ => exact h0, h1⟩
  rw [if_neg h1] at h
  by_cases h2 : u >>> (nI 2 &&& 31) &&& 1 = 0
  · rw [if_pos h2] at h
    obtain rfl := inj 2 (by omega) h
    exact ⟨fun j hj => by match j, hj with | 0, _ => exact h0 | 1, _ => exact h1, h2⟩
  rw [if_neg h2] at h
  by_cases h3 : u >>> (nI 3 &&& 31) &&& 1 = 0
  · rw [if_pos h3] at h
    obtain rfl := inj 3 (by omega) h
    exact ⟨fun j hj => by match j, hj with | 0, _ => exact h0 | 1, _ => exact h1 | 2, _ => exact h2, h3⟩
  rw [if_neg h3] at h
  by_cases h4 : u >>> (nI 4 &&& 31) &&& 1 = 0
  · rw [if_pos h4] at h
    obtain rfl := inj 4 (by omega) h
    exact ⟨fun j hj => by match j, hj with | 0, _ => exact h0 | 1, _ => exact h1 | 2, _ => exact h2 | 3, _ => exact h3, h4⟩
  rw [if_neg h4] at h
  by_cases h5 : u >>> (nI 5 &&& 31) &&& 1 = 0
  · rw [if_pos h5] at h
    obtain rfl := inj 5 (by omega) h
    exact ⟨fun j hj => by match j, hj with | 0, _ => exact h0 | 1, _ => exact h1 | 2, _ => exact h2 | 3, _ => exact h3 | 4, _ => exact h4, h5⟩
  rw [if_neg h5] at h
  by_cases h6 : u >>> (nI 6 &&& 31) &&& 1 = 0
  · rw [if_pos h6] at h
    obtain rfl := inj 6 (by omega) h
    exact ⟨fun j hj => by match j, hj with | 0, _ => exact h0 | 1, _ => exact h1 | 2, _ => exact h2 | 3, _ => exact h3 | 4, _ => exact h4 | 5, _ => exact h5, h6⟩
  rw [if_neg h6] at h
  by_cases h7 : u >>> (nI 7 &&& 31) &&& 1 = 0
  · rw [if_pos h7] at h
    obtain rfl := inj 7 (by omega) h
    exact ⟨fun j hj => by match j, hj with | 0, _ => exact h0 | 1, _ => exact h1 | 2, _ => exact h2 | 3, _ => exact h3 | 4, _ => exact h4 | 5, _ => exact h5 | 6, _ => exact h6, h7⟩
  rw [if_neg h7] at h
  have := inj 8 (by omega) h
  omega
abbrev bkF (g : Nat → Int32) (m : Nat) (e x y : Int32) : Nat → Int32 := upA (upA (upA (upA (upA g (870 + 4 * m) e) (870 + 4 * m + 1) (g 4)) (870 + 4 * m + 2) x) (870 + 4 * m + 3) y) 17 (nI (m + 1))
section BO
variable {T : Nat → Nat → Int32} {P : Nat → Nat → Nat} {f : Nat → Int32} {N : Nat → Nat} {V : Nat → Nat → Int32} {K : List kT} {B : List bT} {R : Nat → Nat → Int32} {x y z w e : Int32} {n : Nat}
theorem r_freePin (h16 : f 16 = nI K.length) (h8 : K.length < 8) (hK : ∀ i, i < K.length → f (694 + 17 * i + 3) = gK K i 0 2) (hq : ∀ i, i < K.length → ∃ q, q < 8 ∧ gK K i 0 2 = nI q) : X 149 0 [.ref 366, .long 0, .long 0] [] (H (upA T 367 f) P) = some (some (.int (fpI (usI (fun i => gK K i 0 2) K.length))), H (upA T 367 f) P) := by
  have hstep : ∀ i, i < K.length → X 149 4 [.ref 366, .int (usI (fun i => gK K i 0 2) i), .int (nI i)] [] (H (upA T 367 f) P) = X 149 4 [.ref 366, .int (usI (fun i => gK K i 0 2) (i + 1)), .int (nI (i + 1))] [] (H (upA T 367 f) P) := by
    intro i hi
    have e := r_of (T := T) (P := P) (f := f) (i := i) (w := 3) (y := 3) rfl (show i < 8 by omega) (by decide)
    rw [hK i hi] at e
    rw [x149_4]
    simp +decide only [x149_0, x149_1, x149_2, x149_3, x149_5, x149_5N, x149_6, x149_9, x149_11, x149_12, x149_15, x149_16, x149_17, x149_17N, x149_18, x149_19, x149_20, x149_23, x149_24, x149_25, x149_26, x149_29, x149_32, x149_33, x149_35, x149_36, x149_37, x149_38, x149_39, x149_40, x149_43, x149_46, x149_49, x149_50, aft_some, aft_void, Option.bind_some, Option.toList_some, Option.toList_none, List.cons_append, List.nil_append, if_true, if_false, ↓reduceIte, eq_self, z366_o, ↓z366_0, ↓z366_0p, ↓z366_1, ↓z366_2, ↓z366_3, ↓z366_4, ↓z366_4p, ↓z366_5, ↓z366_6, ↓z366_6p0, ↓z366_6p1, ↓z366_7, ↓z366_8, ↓z366_8p, ↓z366_9, ↓z366_9p, ↓z366_10, ↓z366_10p0, ↓z366_10p1, ↓z366_11, ↓z366_12, ↓z366_12p, ↓sg0, ↓sg1, ↓sg2, ↓sg3, ↓sg4, ↓sg5, ↓sg6, ↓sg7, ↓sg8, ↓sg9, ↓sg10, ↓sg11, ↓sg12, ↓sg13, ↓sg14, ↓sg15, ↓sg16, ↓sg17, ↓ss0, ↓ss1, ↓ss2, ↓ss3, ↓ss4, ↓ss5, ↓ss6, ↓ss7, ↓ss8, ↓ss9, ↓ss10, ↓ss11, ↓ss12, ↓ss13, ↓ss14, ↓ss15, ↓ss16, ↓ss17, h16, nI_lt hi (show K.length < 2 ^ 31 by omega), ↓aft_of (e), nI_1, usI]
  simp +decide only [x149_0, x149_1, x149_2, x149_3, x149_5, x149_5N, x149_6, x149_9, x149_11, x149_12, x149_15, x149_16, x149_17, x149_17N, x149_18, x149_19, x149_20, x149_23, x149_24, x149_25, x149_26, x149_29, x149_32, x149_33, x149_35, x149_36, x149_37, x149_38, x149_39, x149_40, x149_43, x149_46, x149_49, x149_50, aft_some, aft_void, Option.bind_some, Option.toList_some, Option.toList_none, List.cons_append, List.nil_append, if_true, if_false, ↓reduceIte, eq_self]
  rw [show X 149 4 [.ref 366, .int 0, .int 0] [] (H (upA T 367 f) P) = _ from loop_up (fun i => X 149 4 [.ref 366, .int (usI (fun i => gK K i 0 2) i), .int (nI i)] [] (H (upA T 367 f) P)) K.length hstep, x149_4]
  obtain ⟨m, hm, em, hpc⟩ := us_small hq
  obtain ⟨p, hp, ep⟩ := fp_small m hm (by omega)
  rw [em, ep]
  obtain ⟨g1, g2⟩ := fp_spec hp ep
  have hs2 : ∀ j, j < p → X 149 34 [.ref 366, .int (nI m), .int (nI j)] [] (H (upA T 367 f) P) = X 149 34 [.ref 366, .int (nI m), .int (nI (j + 1))] [] (H (upA T 367 f) P) := by
    intro j hj
    have e1 : nI m >>> (nI j &&& 31) &&& 1 = 1 := by
      rcases and1 (nI m >>> (nI j &&& 31)) with q | q
      · exact absurd q (g1 j hj)
      · exact q
    rw [x149_34]
    simp +decide only [x149_0, x149_1, x149_2, x149_3, x149_5, x149_5N, x149_6, x149_9, x149_11, x149_12, x149_15, x149_16, x149_17, x149_17N, x149_18, x149_19, x149_20, x149_23, x149_24, x149_25, x149_26, x149_29, x149_32, x149_33, x149_35, x149_36, x149_37, x149_38, x149_39, x149_40, x149_43, x149_46, x149_49, x149_50, aft_some, aft_void, Option.bind_some, Option.toList_some, Option.toList_none, List.cons_append, List.nil_append, if_true, if_false, ↓reduceIte, eq_self, e1, nI_1]
  simp +decide only [x149_0, x149_1, x149_2, x149_3, x149_5, x149_5N, x149_6, x149_9, x149_11, x149_12, x149_15, x149_16, x149_17, x149_17N, x149_18, x149_19, x149_20, x149_23, x149_24, x149_25, x149_26, x149_29, x149_32, x149_33, x149_35, x149_36, x149_37, x149_38, x149_39, x149_40, x149_43, x149_46, x149_49, x149_50, aft_some, aft_void, Option.bind_some, Option.toList_some, Option.toList_none, List.cons_append, List.nil_append, if_true, if_false, ↓reduceIte, eq_self, z366_o, ↓z366_0, ↓z366_0p, ↓z366_1, ↓z366_2, ↓z366_3, ↓z366_4, ↓z366_4p, ↓z366_5, ↓z366_6, ↓z366_6p0, ↓z366_6p1, ↓z366_7, ↓z366_8, ↓z366_8p, ↓z366_9, ↓z366_9p, ↓z366_10, ↓z366_10p0, ↓z366_10p1, ↓z366_11, ↓z366_12, ↓z366_12p, ↓sg0, ↓sg1, ↓sg2, ↓sg3, ↓sg4, ↓sg5, ↓sg6, ↓sg7, ↓sg8, ↓sg9, ↓sg10, ↓sg11, ↓sg12, ↓sg13, ↓sg14, ↓sg15, ↓sg16, ↓sg17, ↓ss0, ↓ss1, ↓ss2, ↓ss3, ↓ss4, ↓ss5, ↓ss6, ↓ss7, ↓ss8, ↓ss9, ↓ss10, ↓ss11, ↓ss12, ↓ss13, ↓ss14, ↓ss15, ↓ss16, ↓ss17, h16, nI_nlt (Nat.le_refl K.length) (show K.length < 2 ^ 31 by omega)]
  rw [show X 149 34 [.ref 366, .int (nI m), .int 0] [] (H (upA T 367 f) P) = _ from loop_up (fun j => X 149 34 [.ref 366, .int (nI m), .int (nI j)] [] (H (upA T 367 f) P)) p hs2, x149_34]
  simp +decide only [x149_0, x149_1, x149_2, x149_3, x149_5, x149_5N, x149_6, x149_9, x149_11, x149_12, x149_15, x149_16, x149_17, x149_17N, x149_18, x149_19, x149_20, x149_23, x149_24, x149_25, x149_26, x149_29, x149_32, x149_33, x149_35, x149_36, x149_37, x149_38, x149_39, x149_40, x149_43, x149_46, x149_49, x149_50, aft_some, aft_void, Option.bind_some, Option.toList_some, Option.toList_none, List.cons_append, List.nil_append, if_true, if_false, ↓reduceIte, eq_self, g2]
/-- an event goes into the book -/
theorem r_books (h17 : f 17 = nI n) (h10 : n ≤ 10) (hJ : sJ f n R) : ∃ f', X 134 0 [.ref 366, .int e, .int x, .int y, .long 0] [] (H (upA T 367 f) P) = some (none, H (upA T 367 f') P) ∧ (∀ a, a ≠ 17 → (a < 870 ∨ 910 ≤ a) → f' a = f a) ∧ f' 17 = nI (min (n + 1) 10) ∧ sJ f' (min (n + 1) 10) (wrB R e (f 4) x y) := by
  have e1 : ∀ m : Nat, m ≤ 9 → 870 + 4 * nI m = nI (870 + 4 * m) := fun m hm => by
    rw [show (870 : Int32) = nI 870 from rfl, show (4 : Int32) = nI 4 from rfl, nI_mul, nI_add]
  have ea : ∀ a b : Nat, nI a + nI b = nI (a + b) := nI_add
  have tail : ∀ (g : Nat → Int32) (m : Nat) (v : Value), m ≤ 9 → g 17 = nI m → X 134 63 [.ref 366, .int e, .int x, .int y, v] [] (H (upA T 367 g) P) = some (none, H (upA T 367 (upA (upA (upA (upA (upA g (870 + 4 * m) e) (870 + 4 * m + 1) (g 4)) (870 + 4 * m + 2) x) (870 + 4 * m + 3) y) 17 (nI (m + 1)))) P) := by
    intro g m v hm hg
    have k1 : nI (870 + 4 * m) + 1 = nI (870 + 4 * m + 1) := nI_add _ 1
    have k2 : nI (870 + 4 * m) + 2 = nI (870 + 4 * m + 2) := nI_add _ 2
    have k3 : nI (870 + 4 * m) + 3 = nI (870 + 4 * m + 3) := nI_add _ 3
    have r4 : upA g (870 + 4 * m) e 4 = g 4 := upA_n _ _ (by omega)
    have r17 : upA (upA (upA (upA g (870 + 4 * m) e) (870 + 4 * m + 1) (g 4)) (870 + 4 * m + 2) x) (870 + 4 * m + 3) y 17 = nI m := by
      rw [upA_n _ _ (by omega), upA_n _ _ (by omega), upA_n _ _ (by omega), upA_n _ _ (by omega)]; exact hg
    have k4 : nI m + 1 = nI (m + 1) := nI_add _ 1
    simp +decide only [x134_0, x134_0N, x134_1, x134_4, x134_6, x134_7, x134_9, x134_12, x134_13, x134_17, x134_19, x134_22, x134_22N, x134_23, x134_26, x134_29, x134_31, x134_32, x134_32N, x134_33, x134_36, x134_39, x134_41, x134_42, x134_43, x134_44, x134_45, x134_46, x134_49, x134_52, x134_52N, x134_53, x134_56, x134_58, x134_59, x134_60, x134_61, x134_62, x134_63, x134_66, x134_67, x134_67N, x134_68, x134_71, x134_73, x134_74, x134_75, x134_76, x134_78, x134_78N, x134_79, x134_82, x134_84, x134_85, x134_86, x134_86N, x134_87, x134_90, x134_92, x134_93, x134_94, x134_94N, x134_95, x134_98, x134_99, x134_100, x134_101, x134_101N, x134_102, x134_105, x134_107, x134_108, x134_109, x134_110, x134_111, x134_111N, x134_112, x134_115, x134_117, x134_118, x134_119, x134_120, x134_121, x134_121N, x134_122, x134_125, x134_127, x134_128, x134_129, x134_130, x134_131, x134_132, aft_some, aft_void, Option.bind_some, Option.toList_some, Option.toList_none, List.cons_append, List.nil_append, if_true, if_false, ↓reduceIte, eq_self, z366_o, ↓z366_0, ↓z366_0p, ↓z366_1, ↓z366_2, ↓z366_3, ↓z366_4, ↓z366_4p, ↓z366_5, ↓z366_6, ↓z366_6p0, ↓z366_6p1, ↓z366_7, ↓z366_8, ↓z366_8p, ↓z366_9, ↓z366_9p, ↓z366_10, ↓z366_10p0, ↓z366_10p1, ↓z366_11, ↓z366_12, ↓z366_12p, ↓sg0, ↓sg1, ↓sg2, ↓sg3, ↓sg4, ↓sg5, ↓sg6, ↓sg7, ↓sg8, ↓sg9, ↓sg10, ↓sg11, ↓sg12, ↓sg13, ↓sg14, ↓sg15, ↓sg16, ↓sg17, ↓ss0, ↓ss1, ↓ss2, ↓ss3, ↓ss4, ↓ss5, ↓ss6, ↓ss7, ↓ss8, ↓ss9, ↓ss10, ↓ss11, ↓ss12, ↓ss13, ↓ss14, ↓ss15, ↓ss16, ↓ss17, hg, e1 m hm, k1, k2, k3, ↓s_s (show 870 + 4 * m < 912 by omega), ↓s_s (show 870 + 4 * m + 1 < 912 by omega), ↓s_s (show 870 + 4 * m + 2 < 912 by omega), ↓s_s (show 870 + 4 * m + 3 < 912 by omega), r4, r17, k4]
  have rd : ∀ (g : Nat → Int32) (m : Nat) (a : Nat) (v : Int32), (a < 870 + 4 * m ∨ 870 + 4 * m + 3 < a) → a ≠ 17 → upA (upA (upA (upA (upA g (870 + 4 * m) e) (870 + 4 * m + 1) (g 4)) (870 + 4 * m + 2) x) (870 + 4 * m + 3) y) 17 v a = g a := by
    intro g m a v h1 h2
    rw [upA_n _ _ h2, upA_n _ _ (by omega), upA_n _ _ (by omega), upA_n _ _ (by omega), upA_n _ _ (by omega)]
  have rw4 : ∀ (g : Nat → Int32) (m : Nat) (v : Int32) (R' : Nat → Nat → Int32), g 4 = f 4 → ∀ k, k < 4 → upA (upA (upA (upA (upA g (870 + 4 * m) e) (870 + 4 * m + 1) (g 4)) (870 + 4 * m + 2) x) (870 + 4 * m + 3) y) 17 v (870 + 4 * m + k) = wrB R' e (f 4) x y 0 k := by
    intro g m v R' h4 k hk
    rw [upA_n _ _ (by omega)]
    match k, hk with
    | 0, _ => rw [upA_n _ _ (by omega), upA_n _ _ (by omega), upA_n _ _ (by omega)]; exact upA_s _ _ _
    | 1, _ => rw [upA_n _ _ (by omega), upA_n _ _ (by omega), upA_s]; exact h4
    | 2, _ => rw [upA_n _ _ (by omega), upA_s]; rfl
    | 3, _ => rw [upA_s]; rfl
  by_cases c : n = 10
  · subst c
    have h17 : f 17 = 10 := h17
    obtain ⟨g, eg, i1, i2⟩ := loop_ex (fun i (g : Nat → Int32) => X 134 15 [.ref 366, .int e, .int x, .int y, .int (nI i)] [] (H (upA T 367 g) P)) (fun i g => (∀ a, (a < 870 ∨ 870 + i ≤ a) → g a = f a) ∧ ∀ k, k < i → g (870 + k) = f (870 + k + 4)) 36 f ⟨fun _ _ => rfl, fun k hk => absurd hk (Nat.not_lt_zero k)⟩ (by
      intro i g hi ⟨i1, i2⟩
      refine ⟨upA g (870 + i) (f (870 + i + 4)), ?_, fun a ha => ?_, fun k hk => ?_⟩
      · have hlt : nI i < 36 := nI_lt hi (by decide)
        have k1 : 870 + nI i = nI (870 + i) := nI_add 870 i
        have k2 : nI (870 + i) + 4 = nI (870 + i + 4) := nI_add _ 4
        have hs : g (870 + i + 4) = f (870 + i + 4) := i1 _ (by omega)
        show X 134 15 [.ref 366, .int e, .int x, .int y, .int (nI i)] [] (H (upA T 367 g) P) = _
        rw [x134_15]
        simp +decide only [x134_0, x134_0N, x134_1, x134_4, x134_6, x134_7, x134_9, x134_12, x134_13, x134_17, x134_19, x134_22, x134_22N, x134_23, x134_26, x134_29, x134_31, x134_32, x134_32N, x134_33, x134_36, x134_39, x134_41, x134_42, x134_43, x134_44, x134_45, x134_46, x134_49, x134_52, x134_52N, x134_53, x134_56, x134_58, x134_59, x134_60, x134_61, x134_62, x134_63, x134_66, x134_67, x134_67N, x134_68, x134_71, x134_73, x134_74, x134_75, x134_76, x134_78, x134_78N, x134_79, x134_82, x134_84, x134_85, x134_86, x134_86N, x134_87, x134_90, x134_92, x134_93, x134_94, x134_94N, x134_95, x134_98, x134_99, x134_100, x134_101, x134_101N, x134_102, x134_105, x134_107, x134_108, x134_109, x134_110, x134_111, x134_111N, x134_112, x134_115, x134_117, x134_118, x134_119, x134_120, x134_121, x134_121N, x134_122, x134_125, x134_127, x134_128, x134_129, x134_130, x134_131, x134_132, aft_some, aft_void, Option.bind_some, Option.toList_some, Option.toList_none, List.cons_append, List.nil_append, if_true, if_false, ↓reduceIte, eq_self, z366_o, ↓z366_0, ↓z366_0p, ↓z366_1, ↓z366_2, ↓z366_3, ↓z366_4, ↓z366_4p, ↓z366_5, ↓z366_6, ↓z366_6p0, ↓z366_6p1, ↓z366_7, ↓z366_8, ↓z366_8p, ↓z366_9, ↓z366_9p, ↓z366_10, ↓z366_10p0, ↓z366_10p1, ↓z366_11, ↓z366_12, ↓z366_12p, ↓sg0, ↓sg1, ↓sg2, ↓sg3, ↓sg4, ↓sg5, ↓sg6, ↓sg7, ↓sg8, ↓sg9, ↓sg10, ↓sg11, ↓sg12, ↓sg13, ↓sg14, ↓sg15, ↓sg16, ↓sg17, ↓ss0, ↓ss1, ↓ss2, ↓ss3, ↓ss4, ↓ss5, ↓ss6, ↓ss7, ↓ss8, ↓ss9, ↓ss10, ↓ss11, ↓ss12, ↓ss13, ↓ss14, ↓ss15, ↓ss16, ↓ss17, hlt, k1, k2, ↓s_g (show 870 + i + 4 < 912 by omega), ↓s_s (show 870 + i < 912 by omega), hs, nI_1]
      · rw [upA_n _ _ (by omega)]; exact i1 a (by omega)
      · by_cases q : k = i
        · rw [q, upA_s]
        · rw [upA_n _ _ (by omega)]; exact i2 k (by omega))
    have eg : X 134 15 [.ref 366, .int e, .int x, .int y, .int 0] [] (H (upA T 367 f) P) = X 134 15 [.ref 366, .int e, .int x, .int y, .int 36] [] (H (upA T 367 g) P) := eg
    have g17 : g 17 = 10 := by rw [i1 17 (by decide)]; exact h17
    have g4 : upA g 17 9 4 = f 4 := by rw [upA_n _ _ (by decide)]; exact i1 4 (by decide)
    have et := tail (upA g 17 9) 9 (.int 36) (by decide) (upA_s _ _ _)
    refine ⟨bkF (upA g 17 9) 9 e x y, ?_, fun a ha hb => ?_, upA_s _ _ _, fun j hj k hk => ?_⟩
    rotate_left
    · show upA _ 17 _ a = _
      rw [rd _ 9 a _ (by omega) ha, upA_n _ _ ha]; exact i1 a (by omega)
    · have hj : j < 10 := hj
      cases j with
      | zero => exact rw4 (upA g 17 9) 9 _ R g4 k hk
      | succ j =>
        show upA _ 17 _ (870 + 4 * (10 - 1 - (j + 1)) + k) = R j k
        rw [rd (upA g 17 9) 9 _ _ (by omega) (by omega), upA_n _ _ (by omega), show 870 + 4 * (10 - 1 - (j + 1)) + k = 870 + (4 * (10 - 1 - (j + 1)) + k) by omega, i2 _ (by omega), ← hJ j (by omega) k hk]
        congr 1; omega
    · simp +decide only [x134_0, x134_0N, x134_1, x134_4, x134_6, x134_7, x134_9, x134_12, x134_13, x134_17, x134_19, x134_22, x134_22N, x134_23, x134_26, x134_29, x134_31, x134_32, x134_32N, x134_33, x134_36, x134_39, x134_41, x134_42, x134_43, x134_44, x134_45, x134_46, x134_49, x134_52, x134_52N, x134_53, x134_56, x134_58, x134_59, x134_60, x134_61, x134_62, x134_66, x134_67, x134_67N, x134_68, x134_71, x134_73, x134_74, x134_75, x134_76, x134_78, x134_78N, x134_79, x134_82, x134_84, x134_85, x134_86, x134_86N, x134_87, x134_90, x134_92, x134_93, x134_94, x134_94N, x134_95, x134_98, x134_99, x134_100, x134_101, x134_101N, x134_102, x134_105, x134_107, x134_108, x134_109, x134_110, x134_111, x134_111N, x134_112, x134_115, x134_117, x134_118, x134_119, x134_120, x134_121, x134_121N, x134_122, x134_125, x134_127, x134_128, x134_129, x134_130, x134_131, x134_132, aft_some, aft_void, Option.bind_some, Option.toList_some, Option.toList_none, List.cons_append, List.nil_append, if_true, if_false, ↓reduceIte, eq_self, z366_o, ↓z366_0, ↓z366_0p, ↓z366_1, ↓z366_2, ↓z366_3, ↓z366_4, ↓z366_4p, ↓z366_5, ↓z366_6, ↓z366_6p0, ↓z366_6p1, ↓z366_7, ↓z366_8, ↓z366_8p, ↓z366_9, ↓z366_9p, ↓z366_10, ↓z366_10p0, ↓z366_10p1, ↓z366_11, ↓z366_12, ↓z366_12p, ↓sg0, ↓sg1, ↓sg2, ↓sg3, ↓sg4, ↓sg5, ↓sg6, ↓sg7, ↓sg8, ↓sg9, ↓sg10, ↓sg11, ↓sg12, ↓sg13, ↓sg14, ↓sg15, ↓sg16, ↓sg17, ↓ss0, ↓ss1, ↓ss2, ↓ss3, ↓ss4, ↓ss5, ↓ss6, ↓ss7, ↓ss8, ↓ss9, ↓ss10, ↓ss11, ↓ss12, ↓ss13, ↓ss14, ↓ss15, ↓ss16, ↓ss17, h17]
      rw [eg, x134_15]
      simp +decide only [x134_0, x134_0N, x134_1, x134_4, x134_6, x134_7, x134_9, x134_12, x134_13, x134_17, x134_19, x134_22, x134_22N, x134_23, x134_26, x134_29, x134_31, x134_32, x134_32N, x134_33, x134_36, x134_39, x134_41, x134_42, x134_43, x134_44, x134_45, x134_46, x134_49, x134_52, x134_52N, x134_53, x134_56, x134_58, x134_59, x134_60, x134_61, x134_62, x134_66, x134_67, x134_67N, x134_68, x134_71, x134_73, x134_74, x134_75, x134_76, x134_78, x134_78N, x134_79, x134_82, x134_84, x134_85, x134_86, x134_86N, x134_87, x134_90, x134_92, x134_93, x134_94, x134_94N, x134_95, x134_98, x134_99, x134_100, x134_101, x134_101N, x134_102, x134_105, x134_107, x134_108, x134_109, x134_110, x134_111, x134_111N, x134_112, x134_115, x134_117, x134_118, x134_119, x134_120, x134_121, x134_121N, x134_122, x134_125, x134_127, x134_128, x134_129, x134_130, x134_131, x134_132, aft_some, aft_void, Option.bind_some, Option.toList_some, Option.toList_none, List.cons_append, List.nil_append, if_true, if_false, ↓reduceIte, eq_self, z366_o, ↓z366_0, ↓z366_0p, ↓z366_1, ↓z366_2, ↓z366_3, ↓z366_4, ↓z366_4p, ↓z366_5, ↓z366_6, ↓z366_6p0, ↓z366_6p1, ↓z366_7, ↓z366_8, ↓z366_8p, ↓z366_9, ↓z366_9p, ↓z366_10, ↓z366_10p0, ↓z366_10p1, ↓z366_11, ↓z366_12, ↓z366_12p, ↓sg0, ↓sg1, ↓sg2, ↓sg3, ↓sg4, ↓sg5, ↓sg6, ↓sg7, ↓sg8, ↓sg9, ↓sg10, ↓sg11, ↓sg12, ↓sg13, ↓sg14, ↓sg15, ↓sg16, ↓sg17, ↓ss0, ↓ss1, ↓ss2, ↓ss3, ↓ss4, ↓ss5, ↓ss6, ↓ss7, ↓ss8, ↓ss9, ↓ss10, ↓ss11, ↓ss12, ↓ss13, ↓ss14, ↓ss15, ↓ss16, ↓ss17, g17, Int32.reduceSub]
      exact et
  · have hc : (nI n = 10) = False := by
      rw [show (10 : Int32) = nI 10 from rfl, nI_inj (by omega) (by decide)]; exact eq_false c
    have et := tail f n (.long 0) (by omega) h17
    have hmn : min (n + 1) 10 = n + 1 := by omega
    rw [hmn]
    refine ⟨bkF f n e x y, ?_, fun a ha hb => ?_, upA_s _ _ _, fun j hj k hk => ?_⟩
    rotate_left
    · exact rd f n a _ (by omega) ha
    · cases j with
      | zero => exact rw4 f n _ R rfl k hk
      | succ j =>
        show upA _ 17 _ (870 + 4 * (n + 1 - 1 - (j + 1)) + k) = R j k
        rw [rd f n _ _ (by omega) (by omega), ← hJ j (by omega) k hk]
        congr 1; omega
    · simp +decide only [x134_0, x134_0N, x134_1, x134_4, x134_6, x134_7, x134_9, x134_12, x134_13, x134_17, x134_19, x134_22, x134_22N, x134_23, x134_26, x134_29, x134_31, x134_32, x134_32N, x134_33, x134_36, x134_39, x134_41, x134_42, x134_43, x134_44, x134_45, x134_46, x134_49, x134_52, x134_52N, x134_53, x134_56, x134_58, x134_59, x134_60, x134_61, x134_62, x134_66, x134_67, x134_67N, x134_68, x134_71, x134_73, x134_74, x134_75, x134_76, x134_78, x134_78N, x134_79, x134_82, x134_84, x134_85, x134_86, x134_86N, x134_87, x134_90, x134_92, x134_93, x134_94, x134_94N, x134_95, x134_98, x134_99, x134_100, x134_101, x134_101N, x134_102, x134_105, x134_107, x134_108, x134_109, x134_110, x134_111, x134_111N, x134_112, x134_115, x134_117, x134_118, x134_119, x134_120, x134_121, x134_121N, x134_122, x134_125, x134_127, x134_128, x134_129, x134_130, x134_131, x134_132, aft_some, aft_void, Option.bind_some, Option.toList_some, Option.toList_none, List.cons_append, List.nil_append, if_true, if_false, ↓reduceIte, eq_self, z366_o, ↓z366_0, ↓z366_0p, ↓z366_1, ↓z366_2, ↓z366_3, ↓z366_4, ↓z366_4p, ↓z366_5, ↓z366_6, ↓z366_6p0, ↓z366_6p1, ↓z366_7, ↓z366_8, ↓z366_8p, ↓z366_9, ↓z366_9p, ↓z366_10, ↓z366_10p0, ↓z366_10p1, ↓z366_11, ↓z366_12, ↓z366_12p, ↓sg0, ↓sg1, ↓sg2, ↓sg3, ↓sg4, ↓sg5, ↓sg6, ↓sg7, ↓sg8, ↓sg9, ↓sg10, ↓sg11, ↓sg12, ↓sg13, ↓sg14, ↓sg15, ↓sg16, ↓sg17, ↓ss0, ↓ss1, ↓ss2, ↓ss3, ↓ss4, ↓ss5, ↓ss6, ↓ss7, ↓ss8, ↓ss9, ↓ss10, ↓ss11, ↓ss12, ↓ss13, ↓ss14, ↓ss15, ↓ss16, ↓ss17, h17, hc]
      exact et
theorem in_lt (hn : n < 2 ^ 31) : inI x 0 (nI n - 1) = if x < 0 then 0 else if x < nI n then 1 else 0 := by
  unfold inI
  by_cases h0 : x < 0
  · rw [if_pos h0, if_pos h0]
  · rw [if_neg h0, if_neg h0]
    obtain ⟨j, hj, rfl⟩ := nI_of h0
    have e : nI n - 1 < nI j ↔ ¬ (j < n) := by
      cases n with
      | zero =>
        refine ⟨fun _ => by omega, fun _ => ?_⟩
        rw [Int32.lt_iff_toInt_lt, nI_toInt hj, show (nI 0 - 1 : Int32).toInt = -1 from by decide]
        omega
      | succ n =>
        rw [nI_pred, nI_ltp (by omega) hj]
        omega
    have e2 : nI j < nI n ↔ j < n := by rw [nI_ltp hj (by omega)]
    by_cases q : j < n
    · rw [if_neg (fun z => (e.mp z) q), if_pos (e2.mpr q)]
    · rw [if_pos (e.mpr q), if_neg (fun z => q (e2.mp z))]
theorem cust_in (hn : n ≤ 10) : inI x 0 (nI n - 1) = if x < 0 then 0 else if x < nI n then 1 else 0 := in_lt (by omega)
theorem r_refuses (h : sR f N V K B R) (hw : WF N V K B) : X 148 0 [.ref 366, .int x, .int y, .int z, .int w] [] (H (upA T 367 f) P) = some (some (.int (rfI (N 1) B K.length (N 2) x y z w)), H (upA T 367 f) P) := by
  have hN1 : N 1 ≤ 10 := hw.1.2.1
  have hN2 : N 2 ≤ 99 := hw.1.2.2.1
  have h8 : K.length ≤ 8 := hw.1.2.2.2.1
  have h16 := h.1.n
  have h6 : f 6 = nI (N 2) := h.1.2.1.2.2.1
  have ec := r_isCust (T := T) (P := P) (f := f) (x := x)
  rw [show f 5 = nI (N 1) from h.1.2.1.2.1, cust_in hN1] at ec
  have e8 : (nI K.length = 8) = (K.length = 8) := by rw [show (8 : Int32) = nI 8 from rfl, nI_inj (by omega) (by decide)]
  have e99 : (nI (N 2) = 99) = (N 2 = 99) := by rw [show (99 : Int32) = nI 99 from rfl, nI_inj (by omega) (by decide)]
  unfold rfI
  by_cases c0 : x < 0
  · simp only [c0, if_true] at ec ⊢
    simp +decide only [x148_0, x148_0N, x148_1, x148_2, x148_5, x148_8, x148_9, x148_10, x148_11, x148_12, x148_15, x148_18, x148_21, x148_22, x148_23, x148_24, x148_27, x148_30, x148_32, x148_33, x148_35, x148_38, x148_41, x148_43, x148_44, x148_44N, x148_45, x148_46, x148_49, x148_51, x148_54, x148_56, x148_57, x148_57N, x148_58, x148_61, x148_63, x148_64, x148_66, x148_69, x148_69N, x148_70, x148_73, x148_75, x148_76, x148_78, x148_81, x148_83, x148_86, x148_87, aft_some, aft_void, Option.bind_some, Option.toList_some, Option.toList_none, List.cons_append, List.nil_append, if_true, if_false, ↓reduceIte, eq_self, z366_o, ↓z366_0, ↓z366_0p, ↓z366_1, ↓z366_2, ↓z366_3, ↓z366_4, ↓z366_4p, ↓z366_5, ↓z366_6, ↓z366_6p0, ↓z366_6p1, ↓z366_7, ↓z366_8, ↓z366_8p, ↓z366_9, ↓z366_9p, ↓z366_10, ↓z366_10p0, ↓z366_10p1, ↓z366_11, ↓z366_12, ↓z366_12p, ↓sg0, ↓sg1, ↓sg2, ↓sg3, ↓sg4, ↓sg5, ↓sg6, ↓sg7, ↓sg8, ↓sg9, ↓sg10, ↓sg11, ↓sg12, ↓sg13, ↓sg14, ↓sg15, ↓sg16, ↓sg17, ↓ss0, ↓ss1, ↓ss2, ↓ss3, ↓ss4, ↓ss5, ↓ss6, ↓ss7, ↓ss8, ↓ss9, ↓ss10, ↓ss11, ↓ss12, ↓ss13, ↓ss14, ↓ss15, ↓ss16, ↓ss17, ↓aft_of (ec)]
  · by_cases c1 : x < nI (N 1)
    · obtain ⟨c, hc, rfl⟩ := nI_ex c0 (by omega) c1
      have ho := r_outTo (T := T) (P := P) (f := f) (show c < 10 by omega)
      rw [smI_congr (fun k hk => h.2.2.1 c (by omega) k hk), smI_nI, rg_sum] at ho
      simp only [c0, c1, if_true, if_false] at ec ⊢
      rw [nI_clamp (by omega)]
      by_cases y1 : y < 1
      · simp +decide only [x148_0, x148_0N, x148_1, x148_2, x148_5, x148_8, x148_9, x148_10, x148_11, x148_12, x148_15, x148_18, x148_21, x148_22, x148_23, x148_24, x148_27, x148_30, x148_32, x148_33, x148_35, x148_38, x148_41, x148_43, x148_44, x148_44N, x148_45, x148_46, x148_49, x148_51, x148_54, x148_56, x148_57, x148_57N, x148_58, x148_61, x148_63, x148_64, x148_66, x148_69, x148_69N, x148_70, x148_73, x148_75, x148_76, x148_78, x148_81, x148_83, x148_86, x148_87, aft_some, aft_void, Option.bind_some, Option.toList_some, Option.toList_none, List.cons_append, List.nil_append, if_true, if_false, ↓reduceIte, eq_self, z366_o, ↓z366_0, ↓z366_0p, ↓z366_1, ↓z366_2, ↓z366_3, ↓z366_4, ↓z366_4p, ↓z366_5, ↓z366_6, ↓z366_6p0, ↓z366_6p1, ↓z366_7, ↓z366_8, ↓z366_8p, ↓z366_9, ↓z366_9p, ↓z366_10, ↓z366_10p0, ↓z366_10p1, ↓z366_11, ↓z366_12, ↓z366_12p, ↓sg0, ↓sg1, ↓sg2, ↓sg3, ↓sg4, ↓sg5, ↓sg6, ↓sg7, ↓sg8, ↓sg9, ↓sg10, ↓sg11, ↓sg12, ↓sg13, ↓sg14, ↓sg15, ↓sg16, ↓sg17, ↓ss0, ↓ss1, ↓ss2, ↓ss3, ↓ss4, ↓ss5, ↓ss6, ↓ss7, ↓ss8, ↓ss9, ↓ss10, ↓ss11, ↓ss12, ↓ss13, ↓ss14, ↓ss15, ↓ss16, ↓ss17, ↓aft_of (ec), ↓aft_of (r_in), inI, y1, true_or]
      by_cases y2 : 9999 < y
      · simp +decide only [x148_0, x148_0N, x148_1, x148_2, x148_5, x148_8, x148_9, x148_10, x148_11, x148_12, x148_15, x148_18, x148_21, x148_22, x148_23, x148_24, x148_27, x148_30, x148_32, x148_33, x148_35, x148_38, x148_41, x148_43, x148_44, x148_44N, x148_45, x148_46, x148_49, x148_51, x148_54, x148_56, x148_57, x148_57N, x148_58, x148_61, x148_63, x148_64, x148_66, x148_69, x148_69N, x148_70, x148_73, x148_75, x148_76, x148_78, x148_81, x148_83, x148_86, x148_87, aft_some, aft_void, Option.bind_some, Option.toList_some, Option.toList_none, List.cons_append, List.nil_append, if_true, if_false, ↓reduceIte, eq_self, z366_o, ↓z366_0, ↓z366_0p, ↓z366_1, ↓z366_2, ↓z366_3, ↓z366_4, ↓z366_4p, ↓z366_5, ↓z366_6, ↓z366_6p0, ↓z366_6p1, ↓z366_7, ↓z366_8, ↓z366_8p, ↓z366_9, ↓z366_9p, ↓z366_10, ↓z366_10p0, ↓z366_10p1, ↓z366_11, ↓z366_12, ↓z366_12p, ↓sg0, ↓sg1, ↓sg2, ↓sg3, ↓sg4, ↓sg5, ↓sg6, ↓sg7, ↓sg8, ↓sg9, ↓sg10, ↓sg11, ↓sg12, ↓sg13, ↓sg14, ↓sg15, ↓sg16, ↓sg17, ↓ss0, ↓ss1, ↓ss2, ↓ss3, ↓ss4, ↓ss5, ↓ss6, ↓ss7, ↓ss8, ↓ss9, ↓ss10, ↓ss11, ↓ss12, ↓ss13, ↓ss14, ↓ss15, ↓ss16, ↓ss17, ↓aft_of (ec), ↓aft_of (r_in), inI, y1, y2, true_or, or_true]
      by_cases z1 : z < 0
      · simp +decide only [x148_0, x148_0N, x148_1, x148_2, x148_5, x148_8, x148_9, x148_10, x148_11, x148_12, x148_15, x148_18, x148_21, x148_22, x148_23, x148_24, x148_27, x148_30, x148_32, x148_33, x148_35, x148_38, x148_41, x148_43, x148_44, x148_44N, x148_45, x148_46, x148_49, x148_51, x148_54, x148_56, x148_57, x148_57N, x148_58, x148_61, x148_63, x148_64, x148_66, x148_69, x148_69N, x148_70, x148_73, x148_75, x148_76, x148_78, x148_81, x148_83, x148_86, x148_87, aft_some, aft_void, Option.bind_some, Option.toList_some, Option.toList_none, List.cons_append, List.nil_append, if_true, if_false, ↓reduceIte, eq_self, z366_o, ↓z366_0, ↓z366_0p, ↓z366_1, ↓z366_2, ↓z366_3, ↓z366_4, ↓z366_4p, ↓z366_5, ↓z366_6, ↓z366_6p0, ↓z366_6p1, ↓z366_7, ↓z366_8, ↓z366_8p, ↓z366_9, ↓z366_9p, ↓z366_10, ↓z366_10p0, ↓z366_10p1, ↓z366_11, ↓z366_12, ↓z366_12p, ↓sg0, ↓sg1, ↓sg2, ↓sg3, ↓sg4, ↓sg5, ↓sg6, ↓sg7, ↓sg8, ↓sg9, ↓sg10, ↓sg11, ↓sg12, ↓sg13, ↓sg14, ↓sg15, ↓sg16, ↓sg17, ↓ss0, ↓ss1, ↓ss2, ↓ss3, ↓ss4, ↓ss5, ↓ss6, ↓ss7, ↓ss8, ↓ss9, ↓ss10, ↓ss11, ↓ss12, ↓ss13, ↓ss14, ↓ss15, ↓ss16, ↓ss17, ↓aft_of (ec), ↓aft_of (r_in), inI, y1, y2, z1, true_or, or_true]
      by_cases z2 : 3 < z
      · simp +decide only [x148_0, x148_0N, x148_1, x148_2, x148_5, x148_8, x148_9, x148_10, x148_11, x148_12, x148_15, x148_18, x148_21, x148_22, x148_23, x148_24, x148_27, x148_30, x148_32, x148_33, x148_35, x148_38, x148_41, x148_43, x148_44, x148_44N, x148_45, x148_46, x148_49, x148_51, x148_54, x148_56, x148_57, x148_57N, x148_58, x148_61, x148_63, x148_64, x148_66, x148_69, x148_69N, x148_70, x148_73, x148_75, x148_76, x148_78, x148_81, x148_83, x148_86, x148_87, aft_some, aft_void, Option.bind_some, Option.toList_some, Option.toList_none, List.cons_append, List.nil_append, if_true, if_false, ↓reduceIte, eq_self, z366_o, ↓z366_0, ↓z366_0p, ↓z366_1, ↓z366_2, ↓z366_3, ↓z366_4, ↓z366_4p, ↓z366_5, ↓z366_6, ↓z366_6p0, ↓z366_6p1, ↓z366_7, ↓z366_8, ↓z366_8p, ↓z366_9, ↓z366_9p, ↓z366_10, ↓z366_10p0, ↓z366_10p1, ↓z366_11, ↓z366_12, ↓z366_12p, ↓sg0, ↓sg1, ↓sg2, ↓sg3, ↓sg4, ↓sg5, ↓sg6, ↓sg7, ↓sg8, ↓sg9, ↓sg10, ↓sg11, ↓sg12, ↓sg13, ↓sg14, ↓sg15, ↓sg16, ↓sg17, ↓ss0, ↓ss1, ↓ss2, ↓ss3, ↓ss4, ↓ss5, ↓ss6, ↓ss7, ↓ss8, ↓ss9, ↓ss10, ↓ss11, ↓ss12, ↓ss13, ↓ss14, ↓ss15, ↓ss16, ↓ss17, ↓aft_of (ec), ↓aft_of (r_in), inI, y1, y2, z1, z2, true_or, or_true]
      by_cases w1 : w < 0
      · simp +decide only [x148_0, x148_0N, x148_1, x148_2, x148_5, x148_8, x148_9, x148_10, x148_11, x148_12, x148_15, x148_18, x148_21, x148_22, x148_23, x148_24, x148_27, x148_30, x148_32, x148_33, x148_35, x148_38, x148_41, x148_43, x148_44, x148_44N, x148_45, x148_46, x148_49, x148_51, x148_54, x148_56, x148_57, x148_57N, x148_58, x148_61, x148_63, x148_64, x148_66, x148_69, x148_69N, x148_70, x148_73, x148_75, x148_76, x148_78, x148_81, x148_83, x148_86, x148_87, aft_some, aft_void, Option.bind_some, Option.toList_some, Option.toList_none, List.cons_append, List.nil_append, if_true, if_false, ↓reduceIte, eq_self, z366_o, ↓z366_0, ↓z366_0p, ↓z366_1, ↓z366_2, ↓z366_3, ↓z366_4, ↓z366_4p, ↓z366_5, ↓z366_6, ↓z366_6p0, ↓z366_6p1, ↓z366_7, ↓z366_8, ↓z366_8p, ↓z366_9, ↓z366_9p, ↓z366_10, ↓z366_10p0, ↓z366_10p1, ↓z366_11, ↓z366_12, ↓z366_12p, ↓sg0, ↓sg1, ↓sg2, ↓sg3, ↓sg4, ↓sg5, ↓sg6, ↓sg7, ↓sg8, ↓sg9, ↓sg10, ↓sg11, ↓sg12, ↓sg13, ↓sg14, ↓sg15, ↓sg16, ↓sg17, ↓ss0, ↓ss1, ↓ss2, ↓ss3, ↓ss4, ↓ss5, ↓ss6, ↓ss7, ↓ss8, ↓ss9, ↓ss10, ↓ss11, ↓ss12, ↓ss13, ↓ss14, ↓ss15, ↓ss16, ↓ss17, ↓aft_of (ec), ↓aft_of (r_in), inI, y1, y2, z1, z2, w1, true_or, or_true]
      by_cases w2 : 99 < w
      · simp +decide only [x148_0, x148_0N, x148_1, x148_2, x148_5, x148_8, x148_9, x148_10, x148_11, x148_12, x148_15, x148_18, x148_21, x148_22, x148_23, x148_24, x148_27, x148_30, x148_32, x148_33, x148_35, x148_38, x148_41, x148_43, x148_44, x148_44N, x148_45, x148_46, x148_49, x148_51, x148_54, x148_56, x148_57, x148_57N, x148_58, x148_61, x148_63, x148_64, x148_66, x148_69, x148_69N, x148_70, x148_73, x148_75, x148_76, x148_78, x148_81, x148_83, x148_86, x148_87, aft_some, aft_void, Option.bind_some, Option.toList_some, Option.toList_none, List.cons_append, List.nil_append, if_true, if_false, ↓reduceIte, eq_self, z366_o, ↓z366_0, ↓z366_0p, ↓z366_1, ↓z366_2, ↓z366_3, ↓z366_4, ↓z366_4p, ↓z366_5, ↓z366_6, ↓z366_6p0, ↓z366_6p1, ↓z366_7, ↓z366_8, ↓z366_8p, ↓z366_9, ↓z366_9p, ↓z366_10, ↓z366_10p0, ↓z366_10p1, ↓z366_11, ↓z366_12, ↓z366_12p, ↓sg0, ↓sg1, ↓sg2, ↓sg3, ↓sg4, ↓sg5, ↓sg6, ↓sg7, ↓sg8, ↓sg9, ↓sg10, ↓sg11, ↓sg12, ↓sg13, ↓sg14, ↓sg15, ↓sg16, ↓sg17, ↓ss0, ↓ss1, ↓ss2, ↓ss3, ↓ss4, ↓ss5, ↓ss6, ↓ss7, ↓ss8, ↓ss9, ↓ss10, ↓ss11, ↓ss12, ↓ss13, ↓ss14, ↓ss15, ↓ss16, ↓ss17, ↓aft_of (ec), ↓aft_of (r_in), inI, y1, y2, z1, z2, w1, w2, true_or, or_true]
      simp +decide only [x148_0, x148_0N, x148_1, x148_2, x148_5, x148_8, x148_9, x148_10, x148_11, x148_12, x148_15, x148_18, x148_21, x148_22, x148_23, x148_24, x148_27, x148_30, x148_32, x148_33, x148_35, x148_38, x148_41, x148_43, x148_44, x148_44N, x148_45, x148_46, x148_49, x148_51, x148_54, x148_56, x148_57, x148_57N, x148_58, x148_61, x148_63, x148_64, x148_66, x148_69, x148_69N, x148_70, x148_73, x148_75, x148_76, x148_78, x148_81, x148_83, x148_86, x148_87, aft_some, aft_void, Option.bind_some, Option.toList_some, Option.toList_none, List.cons_append, List.nil_append, if_true, if_false, ↓reduceIte, eq_self, z366_o, ↓z366_0, ↓z366_0p, ↓z366_1, ↓z366_2, ↓z366_3, ↓z366_4, ↓z366_4p, ↓z366_5, ↓z366_6, ↓z366_6p0, ↓z366_6p1, ↓z366_7, ↓z366_8, ↓z366_8p, ↓z366_9, ↓z366_9p, ↓z366_10, ↓z366_10p0, ↓z366_10p1, ↓z366_11, ↓z366_12, ↓z366_12p, ↓sg0, ↓sg1, ↓sg2, ↓sg3, ↓sg4, ↓sg5, ↓sg6, ↓sg7, ↓sg8, ↓sg9, ↓sg10, ↓sg11, ↓sg12, ↓sg13, ↓sg14, ↓sg15, ↓sg16, ↓sg17, ↓ss0, ↓ss1, ↓ss2, ↓ss3, ↓ss4, ↓ss5, ↓ss6, ↓ss7, ↓ss8, ↓ss9, ↓ss10, ↓ss11, ↓ss12, ↓ss13, ↓ss14, ↓ss15, ↓ss16, ↓ss17, ↓aft_of (ec), ↓aft_of (r_in), inI, y1, y2, z1, z2, w1, w2, or_false, ↓aft_of (ho), h16, h6, e8, e99]
      by_cases g1 : nI (outL c B) < w
      · simp only [g1, if_true]
      · simp only [g1, if_false]
        by_cases g2 : K.length = 8
        · simp +decide only [g2, if_true, if_false, false_and]
        · have g2' : K.length < 8 := by omega
          by_cases g3 : N 2 = 99
          · simp +decide only [g2, g2', g3, if_true, if_false, and_false]
          · have g3' : N 2 < 99 := by omega
            simp +decide only [g2, g2', g3, g3', if_true, if_false, and_self]
    · simp only [c0, c1, if_false] at ec ⊢
      simp +decide only [x148_0, x148_0N, x148_1, x148_2, x148_5, x148_8, x148_9, x148_10, x148_11, x148_12, x148_15, x148_18, x148_21, x148_22, x148_23, x148_24, x148_27, x148_30, x148_32, x148_33, x148_35, x148_38, x148_41, x148_43, x148_44, x148_44N, x148_45, x148_46, x148_49, x148_51, x148_54, x148_56, x148_57, x148_57N, x148_58, x148_61, x148_63, x148_64, x148_66, x148_69, x148_69N, x148_70, x148_73, x148_75, x148_76, x148_78, x148_81, x148_83, x148_86, x148_87, aft_some, aft_void, Option.bind_some, Option.toList_some, Option.toList_none, List.cons_append, List.nil_append, if_true, if_false, ↓reduceIte, eq_self, z366_o, ↓z366_0, ↓z366_0p, ↓z366_1, ↓z366_2, ↓z366_3, ↓z366_4, ↓z366_4p, ↓z366_5, ↓z366_6, ↓z366_6p0, ↓z366_6p1, ↓z366_7, ↓z366_8, ↓z366_8p, ↓z366_9, ↓z366_9p, ↓z366_10, ↓z366_10p0, ↓z366_10p1, ↓z366_11, ↓z366_12, ↓z366_12p, ↓sg0, ↓sg1, ↓sg2, ↓sg3, ↓sg4, ↓sg5, ↓sg6, ↓sg7, ↓sg8, ↓sg9, ↓sg10, ↓sg11, ↓sg12, ↓sg13, ↓sg14, ↓sg15, ↓sg16, ↓sg17, ↓ss0, ↓ss1, ↓ss2, ↓ss3, ↓ss4, ↓ss5, ↓ss6, ↓ss7, ↓ss8, ↓ss9, ↓ss10, ↓ss11, ↓ss12, ↓ss13, ↓ss14, ↓ss15, ↓ss16, ↓ss17, ↓aft_of (ec)]
end BO
