/-! a basket leaves, in the reference -/
theorem gK_app_l {A L : List kT} {i : Nat} (h : i < A.length) : gK (A ++ L) i = gK A i := by
  simp [gK, List.getD_eq_getElem?_getD, List.getElem?_append_left h]
theorem gK_app_r {A L : List kT} {i : Nat} (h : A.length ≤ i) : gK (A ++ L) i = gK L (i - A.length) := by
  simp [gK, List.getD_eq_getElem?_getD, List.getElem?_append_right h]
theorem gK_app_m {A L : List kT} {b : kT} : gK (A ++ b :: L) A.length = b := by
  rw [gK_app_r (Nat.le_refl _), Nat.sub_self]; rfl
theorem rgL_app (c k : Nat) : ∀ (A B : List bT), rgL c k (A ++ B) = rgL c k A + rgL c k B
  | [], B => by simp [rgL]
  | q :: A, B => by simp only [List.cons_append, rgL, rgL_app c k A B]; omega
section LE
variable {T : Nat → Nat → Int32} {P : Nat → Nat → Nat} {f : Nat → Int32} {N : Nat → Nat} {V : Nat → Nat → Int32} {A L : List kT} {b : kT} {B : List bT} {R : Nat → Nat → Int32} {c x : Nat}
theorem r_leaves (h : sR f N V (A ++ b :: L) B R) (h8 : (A ++ b :: L).length ≤ 8) (ec : b 0 1 = nI c) (hc : c < N 1) (hN1 : N 1 ≤ 10) (hD : N 0 ≤ 10100) (h20 : N 3 ≤ 20) (h10 : N 4 ≤ 10) (hrd : ∀ k, k < 4 → b 2 k = b 1 k) (ex : nhI (b 2) = nI x) (hx : x ≤ 27) :
    ∃ f', X 165 0 [.ref 366, .int (nI A.length), .long 0, .long 0] [] (H (upA T 367 f) P) = some (none, H (upA T 367 f') P) ∧ sS f' (hoS (N, V, B, R) b) (A ++ L) := by
  obtain ⟨⟨a1, ⟨a2, a3, a4, a5⟩, ⟨a6, a7, a8⟩, a9, ⟨a10, a11, a12⟩, a13, a14⟩, hC, hO, hK, hL, hJ⟩ := id h
  have hlen : (A ++ b :: L).length = A.length + L.length + 1 := by rw [List.length_append, List.length_cons]; omega
  rw [hlen] at h8 a11
  obtain ⟨i, hi⟩ : ∃ i, i = A.length := ⟨_, rfl⟩
  have hb : bR f i b := by
    have := hK A.length (by rw [hlen]; omega)
    rw [gK_app_m] at this
    rw [hi]; exact this
  rw [← hi] at h8 a11 ⊢
  have i8 : i < 8 := by omega
  have e1 := r_of (T := T) (P := P) (f := f) (i := i) (w := 1) (y := 1) rfl i8 (by decide)
  rw [hb.1.2.1, ec] at e1
  have e2 := r_ofCust (T := T) (P := P) (f := f) (i := c) (w := 1) (y := 1) rfl (by omega) (by decide)
  have e3 := r_priceOf (T := T) (P := P) hb i8
  have l1 := r_layCust (T := T) (P := P) (f := f) (i := c) (w := 1) (y := 1) (z := f (24 + 3 * c + 1) + prK b) rfl (by omega) (by decide)
  obtain ⟨G1, hG1⟩ : ∃ G1, G1 = upA f (24 + 3 * c + 1) (f (24 + 3 * c + 1) + prK b) := ⟨_, rfl⟩
  rw [← hG1] at l1
  have n1 : ∀ a, a ≠ 24 + 3 * c + 1 → G1 a = f a := fun a ha => by rw [hG1, upA_n _ _ ha]
  have hb1 : bR G1 i b := hb.same (fun a q1 q2 => n1 a (by omega))
  have o5 := r_of (T := T) (P := P) (f := G1) (i := i) (w := 5) (y := 5) rfl i8 (by decide)
  have o6 := r_of (T := T) (P := P) (f := G1) (i := i) (w := 6) (y := 6) rfl i8 (by decide)
  have o7 := r_of (T := T) (P := P) (f := G1) (i := i) (w := 7) (y := 7) rfl i8 (by decide)
  rw [(hb1.2 0 (by decide)).1] at o5
  rw [(hb1.2 1 (by decide)).1] at o6
  rw [(hb1.2 2 (by decide)).1] at o7
  have k64 : nI (N 0) - nI (N 0) / 64 * 64 = nI (N 0 % 64) := nI_modp (b := 64) (by omega) (by decide) (by decide)
  obtain ⟨r, hr⟩ : ∃ r, r = N 0 % 64 := ⟨_, rfl⟩
  have hr64 : r < 64 := by omega
  rw [← hr] at k64
  have hix : 54 + 64 * nI c + nI r = nI (54 + 64 * c + r) := ixO rfl
  have hik : 54 + 64 * c + r < 912 := by omega
  have hG14 : G1 4 = nI (N 0) := by rw [n1 4 (by omega)]; exact a2
  have hv : G1 (54 + 64 * c + r) = nI (rgL c r B) := by rw [n1 _ (by omega)]; exact hO c (by omega) r hr64
  have hnh : b 1 0 + b 1 1 + b 1 2 = nI x := by
    rw [← ex]
    unfold nhI
    rw [hrd 0 (by decide), hrd 1 (by decide), hrd 2 (by decide), Int32.zero_add]
  obtain ⟨G2, hG2⟩ : ∃ G2, G2 = upA G1 (54 + 64 * c + r) (nI (rgL c r B + x)) := ⟨_, rfl⟩
  have n2 : ∀ a, a ≠ 24 + 3 * c + 1 → a ≠ 54 + 64 * c + r → G2 a = f a := fun a q1 q2 => by rw [hG2, upA_n _ _ q2]; exact n1 a q1
  have hb2 : bR G2 i b := hb.same (fun a q1 q2 => n2 a (by omega) (by omega))
  have o0 := r_of (T := T) (P := P) (f := G2) (i := i) (w := 0) (y := 0) rfl i8 (by decide)
  rw [hb2.1.1] at o0
  have e5 := r_priceOf (T := T) (P := P) hb2 i8
  obtain ⟨G3, e6, n3, s17, sJ3⟩ := r_books (T := T) (P := P) (f := G2) (n := N 4) (R := R) (e := 1) (x := b 0 0) (y := prK b) (by rw [n2 17 (by omega) (by omega)]; exact a12) h10 (hJ.same h10 (fun a h1 h2 => n2 a (by omega) (by omega)))
  have g24 : G2 4 = V 0 0 := by rw [n2 4 (by omega) (by omega), a2, a14]
  rw [g24] at sJ3
  obtain ⟨m, hm⟩ : ∃ m, m = i + L.length := ⟨_, rfl⟩
  have g316 : G3 16 = nI (m + 1) := by rw [n3 16 (by decide) (by decide), n2 16 (by omega) (by omega), a11, ← hm]
  have km : nI (m + 1) - 1 = nI m := nI_pred m
  obtain ⟨G4, hG4⟩ : ∃ G4, G4 = upA G3 16 (nI m) := ⟨_, rfl⟩
  have n4 : ∀ a, a ≠ 24 + 3 * c + 1 → a ≠ 54 + 64 * c + r → a ≠ 16 → a ≠ 17 → (a < 870 ∨ 910 ≤ a) → G4 a = f a := fun a q1 q2 q3 q4 q5 => by
    rw [hG4, upA_n _ _ q3, n3 a q4 q5, n2 a q1 q2]
  have g416 : G4 16 = nI m := by rw [hG4]; exact upA_s _ _ _
  have k17 : 17 * nI i = nI (17 * i) := by rw [show (17 : Int32) = nI 17 from rfl, nI_mul]
  have k17m : 17 * nI m = nI (17 * m) := by rw [show (17 : Int32) = nI 17 from rfl, nI_mul]
  obtain ⟨G5, eG5, j1, j2⟩ := loop_ex (fun q (G : Nat → Int32) => X 165 104 [.ref 366, .int (nI i), .int (nI c), .int (nI (17 * i + q))] [] (H (upA T 367 G) P)) (fun q G => (∀ a, (a < 694 + 17 * i ∨ 694 + 17 * i + q ≤ a) → G a = G4 a) ∧ ∀ z, z < q → G (694 + 17 * i + z) = G4 (694 + 17 * i + z + 17)) (17 * L.length) G4 ⟨fun _ _ => rfl, fun z hz => absurd hz (Nat.not_lt_zero z)⟩ (by
    intro q G hq ⟨j1, j2⟩
    refine ⟨upA G (694 + 17 * i + q) (G4 (694 + 17 * i + q + 17)), ?_, fun a ha => ?_, fun z hz => ?_⟩
    · have hlt : nI (17 * i + q) < nI (17 * m) := nI_lt (by omega) (by omega)
      have q1 : G 16 = nI m := by rw [j1 16 (by omega)]; exact g416
      have q2 : 694 + nI (17 * i + q) = nI (694 + 17 * i + q) := by rw [show (694 : Int32) = nI 694 from rfl, nI_add, Nat.add_assoc]
      have q3 : nI (694 + 17 * i + q) + 17 = nI (694 + 17 * i + q + 17) := nI_add _ 17
      have q4 : G (694 + 17 * i + q + 17) = G4 (694 + 17 * i + q + 17) := j1 _ (by omega)
      have q5 : nI (17 * i + q) + 1 = nI (17 * i + (q + 1)) := nI_add _ 1
      show X 165 104 [.ref 366, .int (nI i), .int (nI c), .int (nI (17 * i + q))] [] (H (upA T 367 G) P) = _
      rw [x165_104]
      simp +decide only [x165_0, x165_0N, x165_1, x165_2, x165_3, x165_6, x165_7, x165_7N, x165_8, x165_9, x165_10, x165_10N, x165_11, x165_12, x165_13, x165_16, x165_16N, x165_17, x165_18, x165_21, x165_22, x165_25, x165_25N, x165_26, x165_29, x165_31, x165_33, x165_34, x165_35, x165_36, x165_36N, x165_37, x165_40, x165_41, x165_42, x165_44, x165_45, x165_46, x165_47, x165_48, x165_48N, x165_49, x165_50, x165_51, x165_54, x165_54N, x165_55, x165_56, x165_58, x165_61, x165_62, x165_62N, x165_63, x165_64, x165_66, x165_69, x165_70, x165_71, x165_72, x165_72N, x165_73, x165_74, x165_74N, x165_75, x165_76, x165_77, x165_80, x165_80N, x165_81, x165_82, x165_85, x165_88, x165_88N, x165_89, x165_92, x165_94, x165_95, x165_96, x165_97, x165_98, x165_99, x165_101, x165_102, x165_103, x165_105, x165_107, x165_107N, x165_108, x165_111, x165_113, x165_114, x165_115, x165_118, x165_118N, x165_119, x165_122, x165_125, x165_126, x165_127, x165_127N, x165_128, x165_131, x165_134, x165_135, x165_136, x165_138, x165_139, x165_140, x165_141, x165_144, x165_147, x165_148, x165_150, x165_152, x165_155, x165_155N, x165_156, x165_156N, x165_157, x165_160, x165_162, x165_163, x165_164, x165_165, x165_168, x165_171, x165_174, aft_some, aft_void, Option.bind_some, Option.toList_some, Option.toList_none, List.cons_append, List.nil_append, if_true, if_false, ↓reduceIte, eq_self, z366_o, ↓z366_0, ↓z366_0p, ↓z366_1, ↓z366_2, ↓z366_3, ↓z366_4, ↓z366_4p, ↓z366_5, ↓z366_6, ↓z366_6p0, ↓z366_6p1, ↓z366_7, ↓z366_8, ↓z366_8p, ↓z366_9, ↓z366_9p, ↓z366_10, ↓z366_10p0, ↓z366_10p1, ↓z366_11, ↓z366_12, ↓z366_12p, ↓sg0, ↓sg1, ↓sg2, ↓sg3, ↓sg4, ↓sg5, ↓sg6, ↓sg7, ↓sg8, ↓sg9, ↓sg10, ↓sg11, ↓sg12, ↓sg13, ↓sg14, ↓sg15, ↓sg16, ↓sg17, ↓ss0, ↓ss1, ↓ss2, ↓ss3, ↓ss4, ↓ss5, ↓ss6, ↓ss7, ↓ss8, ↓ss9, ↓ss10, ↓ss11, ↓ss12, ↓ss13, ↓ss14, ↓ss15, ↓ss16, ↓ss17, q1, k17m, hlt, q2, q3, ↓s_g (show 694 + 17 * i + q + 17 < 912 by omega), ↓s_s (show 694 + 17 * i + q < 912 by omega), q4, q5]
    · rw [upA_n _ _ (by omega)]; exact j1 a (by omega)
    · by_cases e : z = q
      · rw [e, upA_s]
      · rw [upA_n _ _ (by omega)]; exact j2 z (by omega))
  have eG5 : X 165 104 [.ref 366, .int (nI i), .int (nI c), .int (nI (17 * i))] [] (H (upA T 367 G4) P) = X 165 104 [.ref 366, .int (nI i), .int (nI c), .int (nI (17 * m))] [] (H (upA T 367 G5) P) := by
    rw [show 17 * m = 17 * i + 17 * L.length by omega]; exact eG5
  have g516 : G5 16 = nI m := by rw [j1 16 (by omega)]; exact g416
  obtain ⟨G6, eG6, j3⟩ := loop_ex (fun q (G : Nat → Int32) => X 165 149 [.ref 366, .int (nI i), .int (nI c), .int (nI q)] [] (H (upA T 367 G) P)) (fun q G => ∀ a, (a < 694 + 17 * m ∨ 694 + 17 * m + 17 ≤ a) → G a = G5 a) 17 G5 (fun _ _ => rfl) (by
    intro q G hq j3
    refine ⟨upA G (694 + 17 * m + q) 0, ?_, fun a ha => ?_⟩
    · have hlt : nI q < 17 := nI_lt hq (by decide)
      have q1 : G 16 = nI m := by rw [j3 16 (by omega)]; exact g516
      have ly := r_lay (T := T) (P := P) (f := G) (i := m) (w := q) (y := nI q) (z := 0) rfl (by omega) hq
      show X 165 149 [.ref 366, .int (nI i), .int (nI c), .int (nI q)] [] (H (upA T 367 G) P) = _
      rw [x165_149]
      simp +decide only [x165_0, x165_0N, x165_1, x165_2, x165_3, x165_6, x165_7, x165_7N, x165_8, x165_9, x165_10, x165_10N, x165_11, x165_12, x165_13, x165_16, x165_16N, x165_17, x165_18, x165_21, x165_22, x165_25, x165_25N, x165_26, x165_29, x165_31, x165_33, x165_34, x165_35, x165_36, x165_36N, x165_37, x165_40, x165_41, x165_42, x165_44, x165_45, x165_46, x165_47, x165_48, x165_48N, x165_49, x165_50, x165_51, x165_54, x165_54N, x165_55, x165_56, x165_58, x165_61, x165_62, x165_62N, x165_63, x165_64, x165_66, x165_69, x165_70, x165_71, x165_72, x165_72N, x165_73, x165_74, x165_74N, x165_75, x165_76, x165_77, x165_80, x165_80N, x165_81, x165_82, x165_85, x165_88, x165_88N, x165_89, x165_92, x165_94, x165_95, x165_96, x165_97, x165_98, x165_99, x165_101, x165_102, x165_103, x165_105, x165_107, x165_107N, x165_108, x165_111, x165_113, x165_114, x165_115, x165_118, x165_118N, x165_119, x165_122, x165_125, x165_126, x165_127, x165_127N, x165_128, x165_131, x165_134, x165_135, x165_136, x165_138, x165_139, x165_140, x165_141, x165_144, x165_147, x165_148, x165_150, x165_152, x165_155, x165_155N, x165_156, x165_156N, x165_157, x165_160, x165_162, x165_163, x165_164, x165_165, x165_168, x165_171, x165_174, aft_some, aft_void, Option.bind_some, Option.toList_some, Option.toList_none, List.cons_append, List.nil_append, if_true, if_false, ↓reduceIte, eq_self, z366_o, ↓z366_0, ↓z366_0p, ↓z366_1, ↓z366_2, ↓z366_3, ↓z366_4, ↓z366_4p, ↓z366_5, ↓z366_6, ↓z366_6p0, ↓z366_6p1, ↓z366_7, ↓z366_8, ↓z366_8p, ↓z366_9, ↓z366_9p, ↓z366_10, ↓z366_10p0, ↓z366_10p1, ↓z366_11, ↓z366_12, ↓z366_12p, ↓sg0, ↓sg1, ↓sg2, ↓sg3, ↓sg4, ↓sg5, ↓sg6, ↓sg7, ↓sg8, ↓sg9, ↓sg10, ↓sg11, ↓sg12, ↓sg13, ↓sg14, ↓sg15, ↓sg16, ↓sg17, ↓ss0, ↓ss1, ↓ss2, ↓ss3, ↓ss4, ↓ss5, ↓ss6, ↓ss7, ↓ss8, ↓ss9, ↓ss10, ↓ss11, ↓ss12, ↓ss13, ↓ss14, ↓ss15, ↓ss16, ↓ss17, q1, hlt, ↓aft_of (ly), nI_1]
    · rw [upA_n _ _ (by omega)]; exact j3 a ha)
  have eG6 : X 165 149 [.ref 366, .int (nI i), .int (nI c), .int 0] [] (H (upA T 367 G5) P) = X 165 149 [.ref 366, .int (nI i), .int (nI c), .int 17] [] (H (upA T 367 G6) P) := eG6
  have nLo : ∀ a, a < 694 → G6 a = G4 a := fun a ha => by rw [j3 a (by omega), j1 a (by omega)]
  have nHi : ∀ a, 830 ≤ a → G6 a = G4 a := fun a ha => by rw [j3 a (by omega), j1 a (by omega)]
  have nAll : ∀ a, a ≠ 24 + 3 * c + 1 → a ≠ 54 + 64 * c + r → a ≠ 16 → a ≠ 17 → (a < 694 ∨ (830 ≤ a ∧ a < 870)) → G6 a = f a := fun a q1 q2 q3 q4 q5 => by
    rcases q5 with q5 | q5
    · rw [nLo a q5, n4 a q1 q2 q3 q4 (by omega)]
    · rw [nHi a q5.1, n4 a q1 q2 q3 q4 (by omega)]
  have hcu : cuK b = c := by unfold cuK; rw [ec, nI_clamp (by omega)]
  have hnx : (nhI (b 2)).toNatClampNeg = x := by rw [ex, nI_clamp (by omega)]
  have v5 : hoV V b 5 = upA (V 5) c (V 5 c + prK b) := by
    show up1 V 5 (cuK b) _ 5 = _
    rw [up1_s, hcu]
  have vn : ∀ r, r ≠ 5 → hoV V b r = V r := fun r h5 => up1_n h5
  have hn : ∀ r, r ≠ 4 → hoN N r = N r := fun r hr => upA_n _ _ hr
  have hho : ∀ c' k, rgL c' k (hoB N B b) = rgL c' k B + if c = c' ∧ r = k then x else 0 := by
    intro c' k
    show rgL c' k (if 0 < (nhI (b 2)).toNatClampNeg then B ++ [(cuK b, N 0, (nhI (b 2)).toNatClampNeg)] else B) = _
    rw [hnx, hcu]
    by_cases z : 0 < x
    · rw [if_pos z, rgL_app]
      simp only [rgL, hr, Nat.add_zero]
    · rw [if_neg z]
      have : x = 0 := by omega
      subst this
      split <;> rfl
  refine ⟨G6, ?_, ⟨fun j hj => ?_, ⟨?_, ?_, ?_, ?_⟩, ⟨?_, ?_, ?_⟩, fun j hj => ?_, ⟨?_, ?_, ?_⟩, fun d hd => ?_, ?_⟩, ?_, ?_, ?_, ?_, ?_⟩
  · simp +decide only [x165_0, x165_0N, x165_1, x165_2, x165_3, x165_6, x165_7, x165_7N, x165_8, x165_9, x165_10, x165_10N, x165_11, x165_12, x165_13, x165_16, x165_16N, x165_17, x165_18, x165_21, x165_22, x165_25, x165_25N, x165_26, x165_29, x165_31, x165_33, x165_34, x165_35, x165_36, x165_36N, x165_37, x165_40, x165_41, x165_42, x165_44, x165_45, x165_46, x165_47, x165_48, x165_48N, x165_49, x165_50, x165_51, x165_54, x165_54N, x165_55, x165_56, x165_58, x165_61, x165_62, x165_62N, x165_63, x165_64, x165_66, x165_69, x165_70, x165_71, x165_72, x165_72N, x165_73, x165_74, x165_74N, x165_75, x165_76, x165_77, x165_80, x165_80N, x165_81, x165_82, x165_85, x165_88, x165_88N, x165_89, x165_92, x165_94, x165_95, x165_96, x165_97, x165_98, x165_99, x165_101, x165_102, x165_103, x165_105, x165_107, x165_107N, x165_108, x165_111, x165_113, x165_114, x165_115, x165_118, x165_118N, x165_119, x165_122, x165_125, x165_126, x165_127, x165_127N, x165_128, x165_131, x165_134, x165_135, x165_136, x165_138, x165_139, x165_140, x165_141, x165_144, x165_147, x165_148, x165_150, x165_152, x165_155, x165_155N, x165_156, x165_156N, x165_157, x165_160, x165_162, x165_163, x165_164, x165_165, x165_168, x165_171, x165_174, aft_some, aft_void, Option.bind_some, Option.toList_some, Option.toList_none, List.cons_append, List.nil_append, if_true, if_false, ↓reduceIte, eq_self, z366_o, ↓z366_0, ↓z366_0p, ↓z366_1, ↓z366_2, ↓z366_3, ↓z366_4, ↓z366_4p, ↓z366_5, ↓z366_6, ↓z366_6p0, ↓z366_6p1, ↓z366_7, ↓z366_8, ↓z366_8p, ↓z366_9, ↓z366_9p, ↓z366_10, ↓z366_10p0, ↓z366_10p1, ↓z366_11, ↓z366_12, ↓z366_12p, ↓sg0, ↓sg1, ↓sg2, ↓sg3, ↓sg4, ↓sg5, ↓sg6, ↓sg7, ↓sg8, ↓sg9, ↓sg10, ↓sg11, ↓sg12, ↓sg13, ↓sg14, ↓sg15, ↓sg16, ↓sg17, ↓ss0, ↓ss1, ↓ss2, ↓ss3, ↓ss4, ↓ss5, ↓ss6, ↓ss7, ↓ss8, ↓ss9, ↓ss10, ↓ss11, ↓ss12, ↓ss13, ↓ss14, ↓ss15, ↓ss16, ↓ss17, ↓aft_of (e1), ↓aft_of (e2), ↓aft_of (e3), ↓aft_of (l1), hG14, k64, hix, ↓s_g hik, ↓s_s hik, hv, ↓aft_of (o5), ↓aft_of (o6), ↓aft_of (o7), hnh, nI_add, ← hG2, ↓aft_of (o0), ↓aft_of (e5), ↓aft_of (e6), g316, km, ← hG4, k17]
    rw [eG5, x165_104]
    simp +decide only [x165_0, x165_0N, x165_1, x165_2, x165_3, x165_6, x165_7, x165_7N, x165_8, x165_9, x165_10, x165_10N, x165_11, x165_12, x165_13, x165_16, x165_16N, x165_17, x165_18, x165_21, x165_22, x165_25, x165_25N, x165_26, x165_29, x165_31, x165_33, x165_34, x165_35, x165_36, x165_36N, x165_37, x165_40, x165_41, x165_42, x165_44, x165_45, x165_46, x165_47, x165_48, x165_48N, x165_49, x165_50, x165_51, x165_54, x165_54N, x165_55, x165_56, x165_58, x165_61, x165_62, x165_62N, x165_63, x165_64, x165_66, x165_69, x165_70, x165_71, x165_72, x165_72N, x165_73, x165_74, x165_74N, x165_75, x165_76, x165_77, x165_80, x165_80N, x165_81, x165_82, x165_85, x165_88, x165_88N, x165_89, x165_92, x165_94, x165_95, x165_96, x165_97, x165_98, x165_99, x165_101, x165_102, x165_103, x165_105, x165_107, x165_107N, x165_108, x165_111, x165_113, x165_114, x165_115, x165_118, x165_118N, x165_119, x165_122, x165_125, x165_126, x165_127, x165_127N, x165_128, x165_131, x165_134, x165_135, x165_136, x165_138, x165_139, x165_140, x165_141, x165_144, x165_147, x165_148, x165_150, x165_152, x165_155, x165_155N, x165_156, x165_156N, x165_157, x165_160, x165_162, x165_163, x165_164, x165_165, x165_168, x165_171, x165_174, aft_some, aft_void, Option.bind_some, Option.toList_some, Option.toList_none, List.cons_append, List.nil_append, if_true, if_false, ↓reduceIte, eq_self, z366_o, ↓z366_0, ↓z366_0p, ↓z366_1, ↓z366_2, ↓z366_3, ↓z366_4, ↓z366_4p, ↓z366_5, ↓z366_6, ↓z366_6p0, ↓z366_6p1, ↓z366_7, ↓z366_8, ↓z366_8p, ↓z366_9, ↓z366_9p, ↓z366_10, ↓z366_10p0, ↓z366_10p1, ↓z366_11, ↓z366_12, ↓z366_12p, ↓sg0, ↓sg1, ↓sg2, ↓sg3, ↓sg4, ↓sg5, ↓sg6, ↓sg7, ↓sg8, ↓sg9, ↓sg10, ↓sg11, ↓sg12, ↓sg13, ↓sg14, ↓sg15, ↓sg16, ↓sg17, ↓ss0, ↓ss1, ↓ss2, ↓ss3, ↓ss4, ↓ss5, ↓ss6, ↓ss7, ↓ss8, ↓ss9, ↓ss10, ↓ss11, ↓ss12, ↓ss13, ↓ss14, ↓ss15, ↓ss16, ↓ss17, g516, k17m, nI_nlt (Nat.le_refl (17 * m)) (show 17 * m < 2 ^ 31 by omega)]
    rw [eG6, x165_149]
    simp +decide only [x165_0, x165_0N, x165_1, x165_2, x165_3, x165_6, x165_7, x165_7N, x165_8, x165_9, x165_10, x165_10N, x165_11, x165_12, x165_13, x165_16, x165_16N, x165_17, x165_18, x165_21, x165_22, x165_25, x165_25N, x165_26, x165_29, x165_31, x165_33, x165_34, x165_35, x165_36, x165_36N, x165_37, x165_40, x165_41, x165_42, x165_44, x165_45, x165_46, x165_47, x165_48, x165_48N, x165_49, x165_50, x165_51, x165_54, x165_54N, x165_55, x165_56, x165_58, x165_61, x165_62, x165_62N, x165_63, x165_64, x165_66, x165_69, x165_70, x165_71, x165_72, x165_72N, x165_73, x165_74, x165_74N, x165_75, x165_76, x165_77, x165_80, x165_80N, x165_81, x165_82, x165_85, x165_88, x165_88N, x165_89, x165_92, x165_94, x165_95, x165_96, x165_97, x165_98, x165_99, x165_101, x165_102, x165_103, x165_105, x165_107, x165_107N, x165_108, x165_111, x165_113, x165_114, x165_115, x165_118, x165_118N, x165_119, x165_122, x165_125, x165_126, x165_127, x165_127N, x165_128, x165_131, x165_134, x165_135, x165_136, x165_138, x165_139, x165_140, x165_141, x165_144, x165_147, x165_148, x165_150, x165_152, x165_155, x165_155N, x165_156, x165_156N, x165_157, x165_160, x165_162, x165_163, x165_164, x165_165, x165_168, x165_171, x165_174, aft_some, aft_void, Option.bind_some, Option.toList_some, Option.toList_none, List.cons_append, List.nil_append, if_true, if_false, ↓reduceIte, eq_self]
  · show G6 j = hoV V b 1 j
    rw [nAll j (by omega) (by omega) (by omega) (by omega) (by omega), vn 1 (by decide)]; exact a1 j hj
  · show G6 4 = nI (hoN N 0)
    rw [nAll 4 (by omega) (by omega) (by decide) (by decide) (by decide), hn 0 (by decide)]; exact a2
  · show G6 5 = nI (hoN N 1)
    rw [nAll 5 (by omega) (by omega) (by decide) (by decide) (by decide), hn 1 (by decide)]; exact a3
  · show G6 6 = nI (hoN N 2)
    rw [nAll 6 (by omega) (by omega) (by decide) (by decide) (by decide), hn 2 (by decide)]; exact a4
  · show G6 7 = hoV V b 0 1
    rw [nAll 7 (by omega) (by omega) (by decide) (by decide) (by decide), vn 0 (by decide)]; exact a5
  · show G6 8 = smI (hoV V b 6) (hoN N 1)
    rw [nAll 8 (by omega) (by omega) (by decide) (by decide) (by decide), vn 6 (by decide), hn 1 (by decide)]; exact a6
  · show G6 9 = hoV V b 0 2
    rw [nAll 9 (by omega) (by omega) (by decide) (by decide) (by decide), vn 0 (by decide)]; exact a7
  · show G6 10 = nI (hoN N 3)
    rw [nAll 10 (by omega) (by omega) (by decide) (by decide) (by decide), hn 3 (by decide)]; exact a8
  · show G6 (11 + j) = hoV V b 48 j
    rw [nAll _ (by omega) (by omega) (by omega) (by omega) (by omega), vn 48 (by decide)]; exact a9 j hj
  · show G6 15 = hoV V b 0 3
    rw [nAll 15 (by omega) (by omega) (by decide) (by decide) (by decide), vn 0 (by decide)]; exact a10
  · rw [nLo 16 (by decide), g416, List.length_append, hm, hi]
  · show G6 17 = nI (hoN N 4)
    rw [nLo 17 (by decide), hG4, upA_n _ _ (by decide), s17, show hoN N 4 = min (N 4 + 1) 10 from upA_s _ _ _]
  · show G6 (18 + d) = hoV V b 2 d
    rw [nAll _ (by omega) (by omega) (by omega) (by omega) (by omega), vn 2 (by decide)]; exact a13 d hd
  · show hoV V b 0 0 = nI (hoN N 0)
    rw [vn 0 (by decide), hn 0 (by decide)]; exact a14
  · intro c' hc'
    show (c' < hoN N 1 → G6 _ = hoV V b 4 c') ∧ G6 _ = (if c' < hoN N 1 then hoV V b 5 c' else 0) ∧ G6 _ = (if c' < hoN N 1 then hoV V b 6 c' else 0)
    rw [hn 1 (by decide), vn 4 (by decide), v5, vn 6 (by decide)]
    obtain ⟨q1, q2, q3⟩ := hC c' hc'
    refine ⟨fun hl => ?_, ?_, ?_⟩
    · rw [nAll _ (by omega) (by omega) (by omega) (by omega) (by omega)]; exact q1 hl
    · by_cases e : c' = c
      · subst e
        rw [if_pos hc, upA_s, nLo _ (by omega), hG4, upA_n _ _ (by omega), n3 _ (by omega) (by omega), hG2, upA_n _ _ (by omega), hG1, upA_s, q2, if_pos hc]
      · rw [upA_n _ _ e, nAll _ (by omega) (by omega) (by omega) (by omega) (by omega)]; exact q2
    · rw [nAll _ (by omega) (by omega) (by omega) (by omega) (by omega)]; exact q3
  · intro c' hc' k hk
    show G6 _ = nI (rgL c' k (hoB N B b))
    rw [hho]
    by_cases e : c = c' ∧ r = k
    · obtain ⟨rfl, rfl⟩ := e
      rw [if_pos ⟨rfl, rfl⟩, nLo _ (by omega), hG4, upA_n _ _ (by omega), n3 _ (by omega) (by omega), hG2, upA_s]
    · rw [if_neg e, Nat.add_zero, nAll _ (by omega) (by omega) (by omega) (by omega) (by omega)]
      exact hO c' hc' k hk
  · intro j hj
    rw [List.length_append] at hj
    by_cases e : j < A.length
    · rw [gK_app_l e]
      have hj1 := hK j (by rw [hlen]; omega)
      rw [gK_app_l e] at hj1
      exact hj1.same (fun a h1 h2 => by rw [j3 a (by omega), j1 a (by omega), n4 a (by omega) (by omega) (by omega) (by omega) (by omega)])
    · rw [gK_app_r (by omega)]
      have hj1 := hK (j + 1) (by rw [hlen]; omega)
      rw [gK_app_r (by omega), show j + 1 - A.length = (j - A.length) + 1 by omega] at hj1
      have hg : gK (b :: L) (j - A.length + 1) = gK L (j - A.length) := rfl
      rw [hg] at hj1
      have hsh : ∀ w, w < 17 → G6 (694 + 17 * j + w) = f (694 + 17 * (j + 1) + w) := fun w hw => by
        rw [j3 _ (by omega)]
        have := j2 (17 * (j - i) + w) (by omega)
        rw [show 694 + 17 * i + (17 * (j - i) + w) = 694 + 17 * j + w by omega] at this
        rw [this, n4 _ (by omega) (by omega) (by omega) (by omega) (by omega)]
        congr 1; omega
      obtain ⟨⟨b1, b2, b3, b4, b5⟩, b6⟩ := hj1
      refine ⟨⟨(hsh 0 (by decide)).trans b1, (hsh 1 (by decide)).trans b2, (hsh 2 (by decide)).trans b3, (hsh 3 (by decide)).trans b4, (hsh 4 (by decide)).trans b5⟩, fun k hk => ?_⟩
      obtain ⟨t1, t2, t3⟩ := b6 k hk
      exact ⟨(hsh (5 + k) (by omega)).trans t1, (hsh (9 + k) (by omega)).trans t2, (hsh (13 + k) (by omega)).trans t3⟩
  · show sL G6 (hoN N 3) (hoV V b)
    rw [hn 3 (by decide)]
    intro j hj
    rw [vn 46 (by decide), vn 47 (by decide)]
    exact hL.same h20 (fun a h1 h2 => nAll a (by omega) (by omega) (by omega) (by omega) (by omega)) j hj
  · show sJ G6 (hoN N 4) _
    rw [show hoN N 4 = min (N 4 + 1) 10 from upA_s _ _ _]
    exact sJ3.same (by omega) (fun a h1 h2 => by rw [nHi a (by omega), hG4, upA_n _ _ (by omega)])
end LE
