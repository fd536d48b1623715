/-! hangers that are paid, in the reference -/
abbrev sS (f : Nat → Int32) (s : sT) (K : List kT) : Prop := sR f s.1 s.2.1 K s.2.2.1 s.2.2.2
/-- the age of a place of the ring -/
abbrev agN (D k : Nat) : Nat := (D + 64 - k) % 64
theorem rg_zero {D g c k : Nat} (hk : k < 64) : ∀ {B : List bT}, NR D B → rgL c k (zeroL (D - g) c B) = if g < agN D k then 0 else rgL c k B
  | [], _ => by simp only [zeroL, List.map_nil, rgL]; split <;> rfl
  | q :: B, hN => by
    have ih := rg_zero (g := g) (c := c) hk hN.tl
    have hq := hN.1 q List.mem_cons_self
    have ez : zeroL (D - g) c (q :: B) = (if q.1 = c ∧ q.2.1 < D - g then (q.1, q.2.1, 0) else q) :: zeroL (D - g) c B := rfl
    rw [ez]
    by_cases h1 : q.1 = c ∧ q.2.1 < D - g
    · rw [if_pos h1]
      simp only [rgL]
      rw [ih]
      by_cases h2 : q.1 = c ∧ q.2.1 % 64 = k
      · have ha : g < agN D k := by show g < (D + 64 - k) % 64; omega
        rw [if_pos h2, if_pos ha, if_pos ha]
      · rw [if_neg h2, if_neg h2]
        split <;> omega
    · rw [if_neg h1]
      simp only [rgL]
      rw [ih]
      by_cases h2 : q.1 = c ∧ q.2.1 % 64 = k
      · have ha : ¬ g < agN D k := by
          intro z
          have z : g < (D + 64 - k) % 64 := z
          exact h1 ⟨h2.1, by omega⟩
        rw [if_neg ha, if_neg ha]
      · rw [if_neg h2]
        split <;> omega
theorem rg_zero_n {l0 c c' k : Nat} (h : c' ≠ c) : ∀ {B : List bT}, rgL c' k (zeroL l0 c B) = rgL c' k B
  | [] => rfl
  | q :: B => by
    have ih := rg_zero_n (l0 := l0) (k := k) h (B := B)
    have ez : zeroL l0 c (q :: B) = (if q.1 = c ∧ q.2.1 < l0 then (q.1, q.2.1, 0) else q) :: zeroL l0 c B := rfl
    rw [ez]
    by_cases h1 : q.1 = c ∧ q.2.1 < l0
    · rw [if_pos h1]
      have hn : ¬ q.1 = c' := fun e => h (e.symm.trans h1.1)
      simp only [rgL, hn, false_and, if_false]
      rw [ih]
    · rw [if_neg h1]
      simp only [rgL]
      rw [ih]
theorem old_sum {D g c : Nat} : ∀ {B : List bT}, NR D B → oldL (D - g) c B = sN (fun k => if g < agN D k then rgL c k B else 0) 64
  | [], _ => by
    rw [sN_congr (h := fun _ => 0) (fun k _ => by simp only [rgL]; split <;> rfl), sN_0]
    rfl
  | q :: B, hN => by
    have ih := old_sum (g := g) (c := c) hN.tl
    have hq := hN.1 q List.mem_cons_self
    have e : sN (fun k => if g < agN D k then rgL c k (q :: B) else 0) 64 = sN (fun k => if q.2.1 % 64 = k then (if q.1 = c ∧ g < agN D (q.2.1 % 64) then q.2.2 else 0) else 0) 64 + sN (fun k => if g < agN D k then rgL c k B else 0) 64 := by
      rw [← sN_add]
      refine sN_congr (fun k _ => ?_)
      simp only [rgL]
      by_cases h2 : q.2.1 % 64 = k
      · subst h2
        by_cases h1 : q.1 = c
        · by_cases h3 : g < agN D (q.2.1 % 64)
          · simp only [h1, h3, and_self, if_true]
          · simp only [h1, h3, and_false, if_true, if_false]
        · simp only [h1, false_and, if_true, if_false, Nat.zero_add]
      · simp only [h2, and_false, if_false, Nat.zero_add]
    rw [e, sN_one, if_pos (Nat.mod_lt _ (by decide)), ← ih]
    simp only [oldL]
    congr 1
    by_cases h1 : q.1 = c
    · by_cases h2 : q.2.1 < D - g
      · have : g < agN D (q.2.1 % 64) := by show g < (D + 64 - q.2.1 % 64) % 64; omega
        rw [if_pos ⟨h1, h2⟩, if_pos ⟨h1, this⟩]
      · have : ¬ g < agN D (q.2.1 % 64) := by
          intro z
          have z : g < (D + 64 - q.2.1 % 64) % 64 := z
          omega
        rw [if_neg (fun z => h2 z.2), if_neg (fun z => this z.2)]
    · rw [if_neg (fun z => h1 z.1), if_neg (fun z => h1 z.1)]
theorem old_le (l0 c : Nat) : ∀ B : List bT, oldL l0 c B ≤ allL B
  | [] => Nat.le_refl _
  | q :: B => by
    have := old_le l0 c B
    simp only [oldL, allL]
    split <;> omega
section PY
variable {T : Nat → Nat → Int32} {P : Nat → Nat → Nat} {f : Nat → Int32} {N : Nat → Nat} {V : Nat → Nat → Int32} {K : List kT} {B : List bT} {R : Nat → Nat → Int32} {c g : Nat}
theorem r_pays (h : sR f N V K B R) (hc : c < N 1) (hN1 : N 1 ≤ 10) (hD : N 0 ≤ 10100) (h8 : K.length ≤ 8) (h20 : N 3 ≤ 20) (h10 : N 4 ≤ 10) (hN : NR (N 0) B) (hA : allL B ≤ 2673) (hg : V 1 2 = nI g) (hg60 : g ≤ 60) :
    ∃ f', X 164 0 [.ref 366, .int (nI c), .long 0, .long 0] [] (H (upA T 367 f) P) = some (none, H (upA T 367 f') P) ∧ sS f' (chS (N 0 - g) (N, V, B, R) c) K := by
  obtain ⟨⟨a1, ⟨a2, a3, a4, a5⟩, ⟨a6, a7, a8⟩, a9, ⟨a10, a11, a12⟩, a13, a14⟩, hC, hO, hK, hL, hJ⟩ := id h
  have hol := out_le c B
  obtain ⟨G, eG, i1, i2⟩ := loop_ex (fun i (G : Nat → Int32) => X 164 4 [.ref 366, .int (nI c), .int (nI (sN (fun k => if g < agN (N 0) k then rgL c k B else 0) i)), .int (nI i)] [] (H (upA T 367 G) P)) (fun i G => (∀ a, (a < 54 + 64 * c ∨ 54 + 64 * c + i ≤ a) → G a = f a) ∧ ∀ k, k < i → G (54 + 64 * c + k) = nI (if g < agN (N 0) k then 0 else rgL c k B)) 64 f ⟨fun _ _ => rfl, fun k hk => absurd hk (Nat.not_lt_zero k)⟩ (by
    intro i G hi ⟨i1, i2⟩
    have hlt : nI i < 64 := nI_lt hi (by decide)
    have ea := r_ageOf (T := T) (P := P) (f := G) (D := N 0) (k := i) (by rw [i1 4 (by omega)]; exact a2) hD hi
    have e2 : G 2 = nI g := by rw [i1 2 (by omega), a1 2 (by decide), hg]
    have hag : agN (N 0) i < 64 := Nat.mod_lt _ (by decide)
    have ec : (nI g < nI (agN (N 0) i)) = (g < agN (N 0) i) := nI_ltp (by omega) (by omega)
    have hix : 54 + 64 * nI c + nI i = nI (54 + 64 * c + i) := ixO rfl
    have hik : 54 + 64 * c + i < 912 := by omega
    have hv : G (54 + 64 * c + i) = nI (rgL c i B) := by rw [i1 _ (by omega)]; exact hO c (by omega) i hi
    by_cases q : g < agN (N 0) i
    · refine ⟨upA G (54 + 64 * c + i) 0, ?_, fun a ha => ?_, fun k hk => ?_⟩
      · show X 164 4 [.ref 366, .int (nI c), .int (nI (sN (fun k => if g < agN (N 0) k then rgL c k B else 0) i)), .int (nI i)] [] (H (upA T 367 G) P) = _
        rw [x164_4]
        simp +decide only [x164_0, x164_1, x164_2, x164_3, x164_5, x164_7, x164_10, x164_10N, x164_11, x164_12, x164_15, x164_15N, x164_16, x164_19, x164_20, x164_21, x164_24, x164_25, x164_25N, x164_26, x164_29, x164_31, x164_33, x164_34, x164_35, x164_36, x164_37, x164_38, x164_39, x164_40, x164_41, x164_41N, x164_42, x164_45, x164_47, x164_49, x164_50, x164_51, x164_52, x164_53, x164_54, x164_55, x164_56, x164_59, x164_62, x164_63, x164_66, x164_66N, x164_67, x164_68, x164_69, x164_69N, x164_70, x164_71, x164_72, x164_75, x164_76, x164_76N, x164_77, x164_80, x164_81, x164_82, x164_83, x164_84, x164_87, x164_87N, x164_88, x164_89, x164_90, x164_90N, x164_91, x164_92, x164_93, x164_96, x164_97, x164_98, x164_101, x164_101N, x164_102, x164_105, x164_107, x164_108, x164_109, x164_110, x164_111, x164_112, x164_112N, x164_113, x164_114, x164_115, x164_116, x164_116N, x164_117, x164_120, x164_121, x164_122, x164_123, x164_126, aft_some, aft_void, Option.bind_some, Option.toList_some, Option.toList_none, List.cons_append, List.nil_append, if_true, if_false, ↓reduceIte, eq_self, z366_o, ↓z366_0, ↓z366_0p, ↓z366_1, ↓z366_2, ↓z366_3, ↓z366_4, ↓z366_4p, ↓z366_5, ↓z366_6, ↓z366_6p0, ↓z366_6p1, ↓z366_7, ↓z366_8, ↓z366_8p, ↓z366_9, ↓z366_9p, ↓z366_10, ↓z366_10p0, ↓z366_10p1, ↓z366_11, ↓z366_12, ↓z366_12p, ↓sg0, ↓sg1, ↓sg2, ↓sg3, ↓sg4, ↓sg5, ↓sg6, ↓sg7, ↓sg8, ↓sg9, ↓sg10, ↓sg11, ↓sg12, ↓sg13, ↓sg14, ↓sg15, ↓sg16, ↓sg17, ↓ss0, ↓ss1, ↓ss2, ↓ss3, ↓ss4, ↓ss5, ↓ss6, ↓ss7, ↓ss8, ↓ss9, ↓ss10, ↓ss11, ↓ss12, ↓ss13, ↓ss14, ↓ss15, ↓ss16, ↓ss17, hlt, ↓aft_of (ea), e2, ec, q, hix, ↓s_g hik, ↓s_s hik, hv, nI_add, nI_1, sN]
      · rw [upA_n _ _ (by omega)]; exact i1 a (by omega)
      · by_cases e : k = i
        · rw [e, upA_s, if_pos q]; rfl
        · rw [upA_n _ _ (by omega)]; exact i2 k (by omega)
    · refine ⟨G, ?_, fun a ha => i1 a (by omega), fun k hk => ?_⟩
      · show X 164 4 [.ref 366, .int (nI c), .int (nI (sN (fun k => if g < agN (N 0) k then rgL c k B else 0) i)), .int (nI i)] [] (H (upA T 367 G) P) = _
        rw [x164_4]
        simp +decide only [x164_0, x164_1, x164_2, x164_3, x164_5, x164_7, x164_10, x164_10N, x164_11, x164_12, x164_15, x164_15N, x164_16, x164_19, x164_20, x164_21, x164_24, x164_25, x164_25N, x164_26, x164_29, x164_31, x164_33, x164_34, x164_35, x164_36, x164_37, x164_38, x164_39, x164_40, x164_41, x164_41N, x164_42, x164_45, x164_47, x164_49, x164_50, x164_51, x164_52, x164_53, x164_54, x164_55, x164_56, x164_59, x164_62, x164_63, x164_66, x164_66N, x164_67, x164_68, x164_69, x164_69N, x164_70, x164_71, x164_72, x164_75, x164_76, x164_76N, x164_77, x164_80, x164_81, x164_82, x164_83, x164_84, x164_87, x164_87N, x164_88, x164_89, x164_90, x164_90N, x164_91, x164_92, x164_93, x164_96, x164_97, x164_98, x164_101, x164_101N, x164_102, x164_105, x164_107, x164_108, x164_109, x164_110, x164_111, x164_112, x164_112N, x164_113, x164_114, x164_115, x164_116, x164_116N, x164_117, x164_120, x164_121, x164_122, x164_123, x164_126, aft_some, aft_void, Option.bind_some, Option.toList_some, Option.toList_none, List.cons_append, List.nil_append, if_true, if_false, ↓reduceIte, eq_self, z366_o, ↓z366_0, ↓z366_0p, ↓z366_1, ↓z366_2, ↓z366_3, ↓z366_4, ↓z366_4p, ↓z366_5, ↓z366_6, ↓z366_6p0, ↓z366_6p1, ↓z366_7, ↓z366_8, ↓z366_8p, ↓z366_9, ↓z366_9p, ↓z366_10, ↓z366_10p0, ↓z366_10p1, ↓z366_11, ↓z366_12, ↓z366_12p, ↓sg0, ↓sg1, ↓sg2, ↓sg3, ↓sg4, ↓sg5, ↓sg6, ↓sg7, ↓sg8, ↓sg9, ↓sg10, ↓sg11, ↓sg12, ↓sg13, ↓sg14, ↓sg15, ↓sg16, ↓sg17, ↓ss0, ↓ss1, ↓ss2, ↓ss3, ↓ss4, ↓ss5, ↓ss6, ↓ss7, ↓ss8, ↓ss9, ↓ss10, ↓ss11, ↓ss12, ↓ss13, ↓ss14, ↓ss15, ↓ss16, ↓ss17, hlt, ↓aft_of (ea), e2, ec, q, nI_1, sN, Nat.add_zero]
      · by_cases e : k = i
        · rw [e, if_neg q]; exact hv
        · exact i2 k (by omega))
  rw [← old_sum hN] at eG
  have eG : X 164 4 [.ref 366, .int (nI c), .int 0, .int 0] [] (H (upA T 367 f) P) = X 164 4 [.ref 366, .int (nI c), .int (nI (oldL (N 0 - g) c B)), .int 64] [] (H (upA T 367 G) P) := eG
  have hold := old_le (N 0 - g) c B
  have nG : ∀ a, (a < 54 ∨ 694 ≤ a) → G a = f a := fun a ha => i1 a (by omega)
  have hGO : sO G (dropE (zeroL (N 0 - g) c B)) := by
    intro c' hc' k hk
    rw [rg_drop]
    by_cases e : c' = c
    · subst e; rw [i2 k hk, rg_zero hk hN]
    · rw [i1 _ (by omega), rg_zero_n e]; exact hO c' hc' k hk
  have epos : (0 < nI (oldL (N 0 - g) c B)) = (0 < oldL (N 0 - g) c B) := nI_posn (by omega)
  by_cases q : 0 < oldL (N 0 - g) c B
  · obtain ⟨x, hx⟩ : ∃ x, x = nI (oldL (N 0 - g) c B) := ⟨_, rfl⟩
    have es : chS (N 0 - g) (N, V, B, R) c = (hoN N, chV V c (oldL (N 0 - g) c B), dropE (zeroL (N 0 - g) c B), wrB R 2 (V 0 0) (nI c) (nI (oldL (N 0 - g) c B) * V 1 3)) := if_pos q
    rw [es]
    rw [← hx] at eG epos ⊢
    have e1 := r_ofCust (T := T) (P := P) (f := G) (i := c) (w := 1) (y := 1) rfl (by omega) (by decide)
    have l1 := r_layCust (T := T) (P := P) (f := G) (i := c) (w := 1) (y := 1) (z := G (24 + 3 * c + 1) + x * V 1 3) rfl (by omega) (by decide)
    obtain ⟨G1, hG1⟩ : ∃ G1, G1 = upA G (24 + 3 * c + 1) (G (24 + 3 * c + 1) + x * V 1 3) := ⟨_, rfl⟩
    rw [← hG1] at l1
    have e2 := r_ofCust (T := T) (P := P) (f := G1) (i := c) (w := 2) (y := 2) rfl (by omega) (by decide)
    have l2 := r_layCust (T := T) (P := P) (f := G1) (i := c) (w := 2) (y := 2) (z := G1 (24 + 3 * c + 2) + x) rfl (by omega) (by decide)
    obtain ⟨G2, hG2⟩ : ∃ G2, G2 = upA G1 (24 + 3 * c + 2) (G1 (24 + 3 * c + 2) + x) := ⟨_, rfl⟩
    rw [← hG2] at l2
    obtain ⟨G3, hG3⟩ : ∃ G3, G3 = upA G2 8 (G2 8 + x) := ⟨_, rfl⟩
    have n2 : ∀ a, (a < 24 + 3 * c + 1 ∨ 24 + 3 * c + 2 < a) → G2 a = G a := fun a ha => by rw [hG2, upA_n _ _ (by omega), hG1, upA_n _ _ (by omega)]
    have n3 : ∀ a, a ≠ 8 → (a < 24 + 3 * c + 1 ∨ 24 + 3 * c + 2 < a) → G3 a = G a := fun a h8 ha => by rw [hG3, upA_n _ _ h8]; exact n2 a ha
    have p0 : G 3 = V 1 3 := by rw [nG 3 (by decide)]; exact a1 3 (by decide)
    have p3 : G3 3 = V 1 3 := by rw [n3 3 (by decide) (by omega)]; exact p0
    obtain ⟨G4, e4, n4, s17, sJ4⟩ := r_books (T := T) (P := P) (f := G3) (n := N 4) (R := R) (e := 2) (x := nI c) (y := x * V 1 3) (by rw [n3 17 (by decide) (by omega), nG 17 (by decide)]; exact a12) h10 (hJ.same h10 (fun a h1 h2 => by rw [n3 a (by omega) (by omega), nG a (by omega)]))
    have g34 : G3 4 = V 0 0 := by rw [n3 4 (by decide) (by omega), nG 4 (by decide), a2, a14]
    rw [g34] at sJ4
    have nAll : ∀ a, a ≠ 8 → a ≠ 17 → (a < 24 + 3 * c + 1 ∨ 24 + 3 * c + 2 < a) → (a < 54 ∨ (694 ≤ a ∧ a < 870)) → G4 a = f a := fun a h8 h17 h1 h2 => by
      rw [n4 a h17 (by omega), n3 a h8 h1, nG a (by omega)]
    have v5 : chV V c (oldL (N 0 - g) c B) 5 = upA (V 5) c (V 5 c + x * V 1 3) := by rw [hx]; exact upA_s _ _ _
    have v6 : chV V c (oldL (N 0 - g) c B) 6 = upA (V 6) c (V 6 c + x) := by
      rw [hx]
      show upA _ 5 _ 6 = _
      rw [upA_n _ _ (by decide), upA_s]
    have vn : ∀ r, r ≠ 5 → r ≠ 6 → chV V c (oldL (N 0 - g) c B) r = V r := fun r h5 h6 => by
      show upA _ 5 _ r = _
      rw [upA_n _ _ h5, upA_n _ _ h6]
    have hn : ∀ r, r ≠ 4 → hoN N r = N r := fun r hr => upA_n _ _ hr
    refine ⟨G4, ?_, ⟨fun j hj => ?_, ⟨?_, ?_, ?_, ?_⟩, ⟨?_, ?_, ?_⟩, fun j hj => ?_, ⟨?_, ?_, ?_⟩, fun d hd => ?_, ?_⟩, ?_, ?_, ?_, ?_, ?_⟩
    · simp +decide only [x164_0, x164_1, x164_2, x164_3, x164_5, x164_7, x164_10, x164_10N, x164_11, x164_12, x164_15, x164_15N, x164_16, x164_19, x164_20, x164_21, x164_24, x164_25, x164_25N, x164_26, x164_29, x164_31, x164_33, x164_34, x164_35, x164_36, x164_37, x164_38, x164_39, x164_40, x164_41, x164_41N, x164_42, x164_45, x164_47, x164_49, x164_50, x164_51, x164_52, x164_53, x164_54, x164_55, x164_56, x164_59, x164_62, x164_63, x164_66, x164_66N, x164_67, x164_68, x164_69, x164_69N, x164_70, x164_71, x164_72, x164_75, x164_76, x164_76N, x164_77, x164_80, x164_81, x164_82, x164_83, x164_84, x164_87, x164_87N, x164_88, x164_89, x164_90, x164_90N, x164_91, x164_92, x164_93, x164_96, x164_97, x164_98, x164_101, x164_101N, x164_102, x164_105, x164_107, x164_108, x164_109, x164_110, x164_111, x164_112, x164_112N, x164_113, x164_114, x164_115, x164_116, x164_116N, x164_117, x164_120, x164_121, x164_122, x164_123, x164_126, aft_some, aft_void, Option.bind_some, Option.toList_some, Option.toList_none, List.cons_append, List.nil_append, if_true, if_false, ↓reduceIte, eq_self]
      rw [eG, x164_4]
      simp +decide only [x164_0, x164_1, x164_2, x164_3, x164_5, x164_7, x164_10, x164_10N, x164_11, x164_12, x164_15, x164_15N, x164_16, x164_19, x164_20, x164_21, x164_24, x164_25, x164_25N, x164_26, x164_29, x164_31, x164_33, x164_34, x164_35, x164_36, x164_37, x164_38, x164_39, x164_40, x164_41, x164_41N, x164_42, x164_45, x164_47, x164_49, x164_50, x164_51, x164_52, x164_53, x164_54, x164_55, x164_56, x164_59, x164_62, x164_63, x164_66, x164_66N, x164_67, x164_68, x164_69, x164_69N, x164_70, x164_71, x164_72, x164_75, x164_76, x164_76N, x164_77, x164_80, x164_81, x164_82, x164_83, x164_84, x164_87, x164_87N, x164_88, x164_89, x164_90, x164_90N, x164_91, x164_92, x164_93, x164_96, x164_97, x164_98, x164_101, x164_101N, x164_102, x164_105, x164_107, x164_108, x164_109, x164_110, x164_111, x164_112, x164_112N, x164_113, x164_114, x164_115, x164_116, x164_116N, x164_117, x164_120, x164_121, x164_122, x164_123, x164_126, aft_some, aft_void, Option.bind_some, Option.toList_some, Option.toList_none, List.cons_append, List.nil_append, if_true, if_false, ↓reduceIte, eq_self, z366_o, ↓z366_0, ↓z366_0p, ↓z366_1, ↓z366_2, ↓z366_3, ↓z366_4, ↓z366_4p, ↓z366_5, ↓z366_6, ↓z366_6p0, ↓z366_6p1, ↓z366_7, ↓z366_8, ↓z366_8p, ↓z366_9, ↓z366_9p, ↓z366_10, ↓z366_10p0, ↓z366_10p1, ↓z366_11, ↓z366_12, ↓z366_12p, ↓sg0, ↓sg1, ↓sg2, ↓sg3, ↓sg4, ↓sg5, ↓sg6, ↓sg7, ↓sg8, ↓sg9, ↓sg10, ↓sg11, ↓sg12, ↓sg13, ↓sg14, ↓sg15, ↓sg16, ↓sg17, ↓ss0, ↓ss1, ↓ss2, ↓ss3, ↓ss4, ↓ss5, ↓ss6, ↓ss7, ↓ss8, ↓ss9, ↓ss10, ↓ss11, ↓ss12, ↓ss13, ↓ss14, ↓ss15, ↓ss16, ↓ss17, epos, q, ↓aft_of (e1), p0, ↓aft_of (l1), ↓aft_of (e2), ↓aft_of (l2), ← hG3, p3, ↓aft_of (e4)]
    · show G4 j = chV V c (oldL (N 0 - g) c B) 1 j
      rw [nAll j (by omega) (by omega) (by omega) (by omega), vn 1 (by decide) (by decide)]; exact a1 j hj
    · show G4 4 = nI (hoN N 0)
      rw [nAll 4 (by decide) (by decide) (by omega) (by decide), hn 0 (by decide)]; exact a2
    · show G4 5 = nI (hoN N 1)
      rw [nAll 5 (by decide) (by decide) (by omega) (by decide), hn 1 (by decide)]; exact a3
    · show G4 6 = nI (hoN N 2)
      rw [nAll 6 (by decide) (by decide) (by omega) (by decide), hn 2 (by decide)]; exact a4
    · show G4 7 = chV V c (oldL (N 0 - g) c B) 0 1
      rw [nAll 7 (by decide) (by decide) (by omega) (by decide), vn 0 (by decide) (by decide)]; exact a5
    · show G4 8 = smI (chV V c (oldL (N 0 - g) c B) 6) (hoN N 1)
      rw [n4 8 (by decide) (by decide), hG3, upA_s, n2 8 (by omega), nG 8 (by decide), a6, v6, hn 1 (by decide), smI_set hc]
      grind
    · show G4 9 = chV V c (oldL (N 0 - g) c B) 0 2
      rw [nAll 9 (by decide) (by decide) (by omega) (by decide), vn 0 (by decide) (by decide)]; exact a7
    · show G4 10 = nI (hoN N 3)
      rw [nAll 10 (by decide) (by decide) (by omega) (by decide), hn 3 (by decide)]; exact a8
    · show G4 (11 + j) = chV V c (oldL (N 0 - g) c B) 48 j
      rw [nAll _ (by omega) (by omega) (by omega) (by omega), vn 48 (by decide) (by decide)]; exact a9 j hj
    · show G4 15 = chV V c (oldL (N 0 - g) c B) 0 3
      rw [nAll 15 (by decide) (by decide) (by omega) (by decide), vn 0 (by decide) (by decide)]; exact a10
    · rw [nAll 16 (by decide) (by decide) (by omega) (by decide)]; exact a11
    · show G4 17 = nI (hoN N 4)
      rw [s17, show hoN N 4 = min (N 4 + 1) 10 from upA_s _ _ _]
    · show G4 (18 + d) = chV V c (oldL (N 0 - g) c B) 2 d
      rw [nAll _ (by omega) (by omega) (by omega) (by omega), vn 2 (by decide) (by decide)]; exact a13 d hd
    · show chV V c (oldL (N 0 - g) c B) 0 0 = nI (hoN N 0)
      rw [vn 0 (by decide) (by decide), hn 0 (by decide)]; exact a14
    · intro c' hc'
      show (c' < hoN N 1 → G4 _ = chV V c (oldL (N 0 - g) c B) 4 c') ∧ G4 _ = (if c' < hoN N 1 then chV V c (oldL (N 0 - g) c B) 5 c' else 0) ∧ G4 _ = (if c' < hoN N 1 then chV V c (oldL (N 0 - g) c B) 6 c' else 0)
      rw [hn 1 (by decide), vn 4 (by decide) (by decide), v5, v6]
      obtain ⟨q1, q2, q3⟩ := hC c' hc'
      have k4 : ∀ a, 24 ≤ a → a < 54 → G4 a = G2 a := fun a h1 h2 => by rw [n4 a (by omega) (by omega), hG3, upA_n _ _ (by omega)]
      by_cases e : c' = c
      · subst e
        refine ⟨fun _ => ?_, ?_, ?_⟩
        · rw [nAll _ (by omega) (by omega) (by omega) (by omega)]; exact q1 hc
        · rw [if_pos hc, upA_s, k4 _ (by omega) (by omega), hG2, upA_n _ _ (by omega), hG1, upA_s, nG _ (by omega), q2, if_pos hc]
        · rw [if_pos hc, upA_s, k4 _ (by omega) (by omega), hG2, upA_s, hG1, upA_n _ _ (by omega), nG _ (by omega), q3, if_pos hc]
      · refine ⟨fun hl => ?_, ?_, ?_⟩
        · rw [nAll _ (by omega) (by omega) (by omega) (by omega)]; exact q1 hl
        · rw [upA_n _ _ e, nAll _ (by omega) (by omega) (by omega) (by omega)]; exact q2
        · rw [upA_n _ _ e, nAll _ (by omega) (by omega) (by omega) (by omega)]; exact q3
    · exact hGO.same (fun a h1 h2 => by rw [n4 a (by omega) (by omega), n3 a (by omega) (by omega)])
    · exact hK.same h8 (fun a h1 h2 => nAll a (by omega) (by omega) (by omega) (by omega))
    · show sL G4 (hoN N 3) (chV V c (oldL (N 0 - g) c B))
      rw [hn 3 (by decide)]
      intro i hi
      rw [vn 46 (by decide) (by decide), vn 47 (by decide) (by decide)]
      exact hL.same h20 (fun a h1 h2 => nAll a (by omega) (by omega) (by omega) (by omega)) i hi
    · show sJ G4 (hoN N 4) _
      rw [show hoN N 4 = min (N 4 + 1) 10 from upA_s _ _ _]
      exact sJ4
  · have es : chS (N 0 - g) (N, V, B, R) c = (N, V, dropE (zeroL (N 0 - g) c B), R) := if_neg q
    rw [es]
    refine ⟨G, ?_, ?_⟩
    · simp +decide only [x164_0, x164_1, x164_2, x164_3, x164_5, x164_7, x164_10, x164_10N, x164_11, x164_12, x164_15, x164_15N, x164_16, x164_19, x164_20, x164_21, x164_24, x164_25, x164_25N, x164_26, x164_29, x164_31, x164_33, x164_34, x164_35, x164_36, x164_37, x164_38, x164_39, x164_40, x164_41, x164_41N, x164_42, x164_45, x164_47, x164_49, x164_50, x164_51, x164_52, x164_53, x164_54, x164_55, x164_56, x164_59, x164_62, x164_63, x164_66, x164_66N, x164_67, x164_68, x164_69, x164_69N, x164_70, x164_71, x164_72, x164_75, x164_76, x164_76N, x164_77, x164_80, x164_81, x164_82, x164_83, x164_84, x164_87, x164_87N, x164_88, x164_89, x164_90, x164_90N, x164_91, x164_92, x164_93, x164_96, x164_97, x164_98, x164_101, x164_101N, x164_102, x164_105, x164_107, x164_108, x164_109, x164_110, x164_111, x164_112, x164_112N, x164_113, x164_114, x164_115, x164_116, x164_116N, x164_117, x164_120, x164_121, x164_122, x164_123, x164_126, aft_some, aft_void, Option.bind_some, Option.toList_some, Option.toList_none, List.cons_append, List.nil_append, if_true, if_false, ↓reduceIte, eq_self]
      rw [eG, x164_4]
      simp +decide only [x164_0, x164_1, x164_2, x164_3, x164_5, x164_7, x164_10, x164_10N, x164_11, x164_12, x164_15, x164_15N, x164_16, x164_19, x164_20, x164_21, x164_24, x164_25, x164_25N, x164_26, x164_29, x164_31, x164_33, x164_34, x164_35, x164_36, x164_37, x164_38, x164_39, x164_40, x164_41, x164_41N, x164_42, x164_45, x164_47, x164_49, x164_50, x164_51, x164_52, x164_53, x164_54, x164_55, x164_56, x164_59, x164_62, x164_63, x164_66, x164_66N, x164_67, x164_68, x164_69, x164_69N, x164_70, x164_71, x164_72, x164_75, x164_76, x164_76N, x164_77, x164_80, x164_81, x164_82, x164_83, x164_84, x164_87, x164_87N, x164_88, x164_89, x164_90, x164_90N, x164_91, x164_92, x164_93, x164_96, x164_97, x164_98, x164_101, x164_101N, x164_102, x164_105, x164_107, x164_108, x164_109, x164_110, x164_111, x164_112, x164_112N, x164_113, x164_114, x164_115, x164_116, x164_116N, x164_117, x164_120, x164_121, x164_122, x164_123, x164_126, aft_some, aft_void, Option.bind_some, Option.toList_some, Option.toList_none, List.cons_append, List.nil_append, if_true, if_false, ↓reduceIte, eq_self, epos, q]
    · exact ⟨h.1.same (fun a ha => nG a (by omega)), hC.same (fun a h1 h2 => nG a (by omega)), hGO, hK.same h8 (fun a h1 h2 => nG a (by omega)), hL.same h20 (fun a h1 h2 => nG a (by omega)), hJ.same h10 (fun a h1 h2 => nG a (by omega))⟩
end PY
