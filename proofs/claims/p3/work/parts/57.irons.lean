/-! the reference irons -/
theorem inV_n {V : Nat → Nat → Int32} {b : kT} {k r : Nat} (h0 : r ≠ 0) (h48 : r ≠ 48) : inV V b k r = V r := by
  unfold inV
  rw [upA_n _ _ h48, upA_n _ _ h0]
theorem inV_0 {V : Nat → Nat → Int32} {b : kT} {k : Nat} : inV V b k 0 = upA (V 0) 1 (if k < 3 then V 0 1 - 1 else V 0 1) := by
  unfold inV
  rw [upA_n _ _ (by decide), upA_s]
theorem inV_48 {V : Nat → Nat → Int32} {b : kT} {k : Nat} : inV V b k 48 0 = (@ite _ (stP V b k) (Classical.propDecidable _) (b 0 3) (V 48 0)) ∧ inV V b k 48 1 = V 48 1 + sbI V b k ∧ inV V b k 48 2 = V 48 2 + 1 ∧ inV V b k 48 3 = V 48 3 + ndI V b k := by
  unfold inV
  rw [upA_s]
  exact ⟨rfl, rfl, rfl, rfl⟩
theorem gK_set_s {K : List kT} {i : Nat} {b : kT} (hi : i < K.length) : gK (K.set i b) i = b := by
  simp [gK, List.getD_eq_getElem?_getD, hi]
theorem gK_set_n {K : List kT} {i j : Nat} {b : kT} (h : j ≠ i) : gK (K.set i b) j = gK K j := by
  simp [gK, List.getD_eq_getElem?_getD, List.getElem?_set_ne (Ne.symm h)]
/-- the array behind a piece that is ironed -/
abbrev irF (f : Nat → Int32) (p : Nat) (pot sb st nd v : Int32) : Nat → Int32 := upA (upA (upA (upA (upA (upA f 11 pot) 12 (f 12 + sb)) 7 st) 13 (f 13 + 1)) 14 (f 14 + nd)) p v
section IR
variable {T : Nat → Nat → Int32} {P : Nat → Nat → Nat} {f : Nat → Int32} {N : Nat → Nat} {V : Nat → Nat → Int32} {K : List kT} {B : List bT} {R : Nat → Nat → Int32} {x m left cnt : Int32} {i k : Nat} {w5 w6 w7 : Value}
theorem irF_n {p a : Nat} {pot sb st nd v : Int32} (h1 : a ≠ 7) (h2 : ¬ (11 ≤ a ∧ a < 15)) (hp : a ≠ p) : irF f p pot sb st nd v a = f a := by
  unfold irF
  rw [upA_n _ _ hp, upA_n _ _ (by omega), upA_n _ _ (by omega), upA_n _ _ h1, upA_n _ _ (by omega), upA_n _ _ (by omega)]
theorem irF_s {p : Nat} {pot sb st nd v : Int32} : irF f p pot sb st nd v p = v := upA_s _ _ _
theorem sR_iron (h : sR f N V K B R) (h8 : K.length ≤ 8) (h20 : N 3 ≤ 20) (h10 : N 4 ≤ 10) (hi : i < K.length) (hk : k < 4) :
    sR (irF f (694 + 17 * i + (9 + k)) (@ite _ (stP V (gK K i) k) (Classical.propDecidable _) (gK K i 0 3) (V 48 0)) (sbI V (gK K i) k) (if k < 3 then V 0 1 - 1 else V 0 1) (ndI V (gK K i) k) (gK K i 2 k + 1)) N (inV V (gK K i) k) (K.set i (inB (gK K i) k)) B R := by
  obtain ⟨⟨a1, ⟨a2, a3, a4, a5⟩, ⟨a6, a7, a8⟩, a9, ⟨a10, a11, a12⟩, a13, a14⟩, hC, hO, hK, hL, hJ⟩ := h
  have c48 := @inV_48 V (gK K i) k
  have hn : ∀ {pot sb st nd v : Int32} (a : Nat), a < 23 → irF f (694 + 17 * i + (9 + k)) pot sb st nd v a = upA (upA (upA (upA (upA f 11 pot) 12 (f 12 + sb)) 7 st) 13 (f 13 + 1)) 14 (f 14 + nd) a := fun {_ _ _ _ _} a ha => upA_n _ _ (by omega)
  refine ⟨⟨fun j hj => ?_, ⟨?_, ?_, ?_, ?_⟩, ⟨?_, ?_, ?_⟩, fun j hj => ?_, ⟨?_, ?_, ?_⟩, fun d hd => ?_, ?_⟩, ?_, ?_, ?_, ?_, ?_⟩
  · rw [irF_n (by omega) (by omega) (by omega), inV_n (by decide) (by decide)]; exact a1 j hj
  · rw [irF_n (by decide) (by decide) (by omega)]; exact a2
  · rw [irF_n (by decide) (by decide) (by omega)]; exact a3
  · rw [irF_n (by decide) (by decide) (by omega)]; exact a4
  · rw [hn 7 (by decide), inV_0, upA_s]; simp +decide only [upA_s, u_n]
  · rw [irF_n (by decide) (by decide) (by omega), inV_n (by decide) (by decide)]; exact a6
  · rw [irF_n (by decide) (by decide) (by omega), inV_0, upA_n _ _ (by decide)]; exact a7
  · rw [irF_n (by decide) (by decide) (by omega)]; exact a8
  · rw [hn _ (by omega)]
    match j, hj with
    | 0, _ => rw [c48.1]; simp +decide only [upA_s, u_n]
    | 1, _ => rw [c48.2.1, ← a9 1 (by decide)]; simp +decide only [upA_s, u_n]
    | 2, _ => rw [c48.2.2.1, ← a9 2 (by decide)]; simp +decide only [upA_s, u_n]
    | 3, _ => rw [c48.2.2.2, ← a9 3 (by decide)]; simp +decide only [upA_s, u_n]
  · rw [irF_n (by decide) (by decide) (by omega), inV_0, upA_n _ _ (by decide)]; exact a10
  · rw [irF_n (by decide) (by decide) (by omega), List.length_set]; exact a11
  · rw [irF_n (by decide) (by decide) (by omega)]; exact a12
  · rw [irF_n (by omega) (by omega) (by omega), inV_n (by decide) (by decide)]; exact a13 d hd
  · rw [inV_0, upA_n _ _ (by decide)]; exact a14
  · intro c hc
    rw [inV_n (show 4 ≠ 0 by decide) (by decide), inV_n (show 5 ≠ 0 by decide) (by decide), inV_n (show 6 ≠ 0 by decide) (by decide)]
    exact hC.same (fun a h1 h2 => irF_n (by omega) (by omega) (by omega)) c hc
  · exact hO.same (fun a h1 h2 => irF_n (by omega) (by omega) (by omega))
  · intro j hj
    rw [List.length_set] at hj
    by_cases e : j = i
    · subst e
      rw [gK_set_s hi]
      obtain ⟨⟨b1, b2, b3, b4, b5⟩, b6⟩ := hK j hj
      have hb0 : inB (gK K j) k 0 = gK K j 0 := upA_n _ _ (by decide)
      have hb1 : inB (gK K j) k 1 = gK K j 1 := upA_n _ _ (by decide)
      have hb2 : inB (gK K j) k 2 = upA (gK K j 2) k (gK K j 2 k + 1) := upA_s _ _ _
      have hb3 : inB (gK K j) k 3 = gK K j 3 := upA_n _ _ (by decide)
      refine ⟨⟨?_, ?_, ?_, ?_, ?_⟩, fun q hq => ⟨?_, ?_, ?_⟩⟩
      · rw [irF_n (by omega) (by omega) (by omega), hb0]; exact b1
      · rw [irF_n (by omega) (by omega) (by omega), hb0]; exact b2
      · rw [irF_n (by omega) (by omega) (by omega), hb0]; exact b3
      · rw [irF_n (by omega) (by omega) (by omega), hb0]; exact b4
      · rw [irF_n (by omega) (by omega) (by omega), hb0]; exact b5
      · rw [irF_n (by omega) (by omega) (by omega), hb1]; exact (b6 q hq).1
      · rw [hb2]
        by_cases e : q = k
        · subst e; rw [irF_s, upA_s]
        · rw [irF_n (by omega) (by omega) (by omega), upA_n _ _ e]; exact (b6 q hq).2.1
      · rw [irF_n (by omega) (by omega) (by omega), hb3]; exact (b6 q hq).2.2
    · rw [gK_set_n e]
      exact (hK j hj).same (fun a h1 h2 => irF_n (by omega) (by omega) (by omega))
  · intro j hj
    rw [inV_n (show 46 ≠ 0 by decide) (by decide), inV_n (show 47 ≠ 0 by decide) (by decide)]
    exact hL.same h20 (fun a h1 h2 => irF_n (by omega) (by omega) (by omega)) j hj
  · exact hJ.same h10 (fun a h1 h2 => irF_n (by omega) (by omega) (by omega))
theorem r_ironBody (h : sR f N V K B R) (hw : WF N V K B) (hi : i < K.length) (hk : k < 4) (hl : lkK (gK K i) (if 0 < V 0 1 then 1 else 0) = nI k) (hd : ¬ left < ndI V (gK K i) k) :
    ∃ f' v5 v6 v7, X 162 10 [.ref 366, .int m, .int left, .int cnt, .int (nI i), w5, w6, w7] [] (H (upA T 367 f) P) = X 162 218 [.ref 366, .int m, .int (left - ndI V (gK K i) k), .int (cnt + 1), .int (nI i), v5, v6, v7] [] (H (upA T 367 f') P) ∧ sR f' N (inV V (gK K i) k) (K.set i (inB (gK K i) k)) B R := by
  have h8 := hw.1.2.2.2.1
  have hs := sR_iron h h8 hw.1.2.2.2.2.1 hw.1.2.2.2.2.2 hi hk
  have hb := h.2.2.2.1 i hi
  have e7 : f 7 = V 0 1 := h.1.2.1.2.2.2
  have e11 : f 11 = V 48 0 := h.1.2.2.2.1 0 (by decide)
  have e1 : f 1 = V 1 1 := h.1.1 1 (by decide)
  have ek := r_kindNow (T := T) (P := P) hb (show i < 8 by omega)
  rw [e7, hl] at ek
  have em := r_minutesOf (h0 := H (upA T 367 f) P) (x := gK K i 0 3) hk
  have e2 := r_of (T := T) (P := P) (f := f) (i := i) (w := 2) (y := 2) rfl (show i < 8 by omega) (by decide)
  rw [hb.1.2.2.1] at e2
  have ni5 : (nI i = -5) = False := nI_ne5 (by omega)
  obtain ⟨g, hg⟩ : ∃ g, g = upA (upA (upA (upA (upA f 11 (@ite _ (stP V (gK K i) k) (Classical.propDecidable _) (gK K i 0 3) (V 48 0))) 12 (f 12 + sbI V (gK K i) k)) 7 (if k < 3 then V 0 1 - 1 else V 0 1)) 13 (f 13 + 1)) 14 (f 14 + ndI V (gK K i) k) := ⟨_, rfl⟩
  have hgp : g (694 + 17 * i + (9 + k)) = gK K i 2 k := by
    rw [hg, upA_n _ _ (by omega), upA_n _ _ (by omega), upA_n _ _ (by omega), upA_n _ _ (by omega), upA_n _ _ (by omega)]
    exact (hb.2 k hk).2.1
  have e9 := r_of (T := T) (P := P) (f := g) (i := i) (w := 9 + k) (y := 9 + nI k) (nI_add 9 k) (show i < 8 by omega) (by omega)
  rw [hgp] at e9
  have e9' := r_lay (T := T) (P := P) (f := g) (i := i) (w := 9 + k) (y := 9 + nI k) (z := gK K i 2 k + 1) (nI_add 9 k) (show i < 8 by omega) (by omega)
  have key : X 162 10 [.ref 366, .int m, .int left, .int cnt, .int (nI i), w5, w6, w7] [] (H (upA T 367 f) P) = X 162 218 [.ref 366, .int m, .int (left - ndI V (gK K i) k), .int (cnt + 1), .int (nI i), .int (nI k), .int (sbI V (gK K i) k), .int (ndI V (gK K i) k)] [] (H (upA T 367 (upA g (694 + 17 * i + (9 + k)) (gK K i 2 k + 1))) P) := by
    rw [hg] at e9 e9' ⊢
    rcases sb_or V (gK K i) k with ⟨q1, q2, q3⟩ | ⟨q1, q2, q3⟩
    · have qk : k < 2 := q1.1
      have qp : (gK K i 0 3 = V 48 0) = False := eq_false q1.2
      simp only [q1, if_true, q2, q3] at e9 e9' hd ⊢
      match k, qk with
      | 0, _ =>
        simp +decide only [nl0, if_true] at ek em e9 e9' hd ⊢
        simp +decide only [x162_0, x162_1, x162_2, x162_3, x162_4, x162_4N, x162_5, x162_8, x162_10, x162_12, x162_14, x162_17, x162_17N, x162_18, x162_20, x162_23, x162_25, x162_27, x162_28, x162_31, x162_31N, x162_32, x162_34, x162_35, x162_38, x162_38N, x162_39, x162_42, x162_44, x162_45, x162_48, x162_49, x162_52, x162_53, x162_55, x162_57, x162_57N, x162_58, x162_60, x162_61, x162_64, x162_67, x162_69, x162_72, x162_72N, x162_73, x162_76, x162_77, x162_78, x162_81, x162_82, x162_83, x162_85, x162_87, x162_88, x162_91, x162_92, x162_93, x162_94, x162_96, x162_97, x162_98, x162_101, x162_101N, x162_102, x162_105, x162_107, x162_109, x162_112, x162_112N, x162_113, x162_115, x162_116, x162_119, x162_122, x162_122N, x162_123, x162_126, x162_128, x162_129, x162_130, x162_130N, x162_131, x162_134, x162_136, x162_137, x162_138, x162_140, x162_143, x162_144, x162_147, x162_148, x162_149, x162_150, x162_150N, x162_151, x162_154, x162_156, x162_157, x162_158, x162_160, x162_161, x162_164, x162_165, x162_168, x162_169, x162_170, x162_171, x162_171N, x162_172, x162_175, x162_177, x162_178, x162_179, x162_180, x162_181, x162_182, x162_182N, x162_183, x162_186, x162_188, x162_189, x162_190, x162_192, x162_193, x162_194, x162_194N, x162_195, x162_197, x162_199, x162_201, x162_202, x162_202N, x162_203, x162_205, x162_207, x162_209, x162_210, x162_213, x162_214, x162_215, x162_219, x162_222, x162_224, x162_227, x162_228, aft_some, aft_void, Option.bind_some, Option.toList_some, Option.toList_none, List.cons_append, List.nil_append, if_true, if_false, ↓reduceIte, eq_self, z366_o, ↓z366_0, ↓z366_0p, ↓z366_1, ↓z366_2, ↓z366_3, ↓z366_4, ↓z366_4p, ↓z366_5, ↓z366_6, ↓z366_6p0, ↓z366_6p1, ↓z366_7, ↓z366_8, ↓z366_8p, ↓z366_9, ↓z366_9p, ↓z366_10, ↓z366_10p0, ↓z366_10p1, ↓z366_11, ↓z366_12, ↓z366_12p, ↓sg0, ↓sg1, ↓sg2, ↓sg3, ↓sg4, ↓sg5, ↓sg6, ↓sg7, ↓sg8, ↓sg9, ↓sg10, ↓sg11, ↓sg12, ↓sg13, ↓sg14, ↓sg15, ↓sg16, ↓sg17, ↓ss0, ↓ss1, ↓ss2, ↓ss3, ↓ss4, ↓ss5, ↓ss6, ↓ss7, ↓ss8, ↓ss9, ↓ss10, ↓ss11, ↓ss12, ↓ss13, ↓ss14, ↓ss15, ↓ss16, ↓ss17, upA_s, u_n, ni5, ↓aft_of (ek), ↓aft_of (em), ↓aft_of (e2), e1, e7, e11, qp, hd, ↓aft_of (e9), ↓aft_of (e9')]
      | 1, _ =>
        simp +decide only [nl1, if_true] at ek em e9 e9' hd ⊢
        simp +decide only [x162_0, x162_1, x162_2, x162_3, x162_4, x162_4N, x162_5, x162_8, x162_10, x162_12, x162_14, x162_17, x162_17N, x162_18, x162_20, x162_23, x162_25, x162_27, x162_28, x162_31, x162_31N, x162_32, x162_34, x162_35, x162_38, x162_38N, x162_39, x162_42, x162_44, x162_45, x162_48, x162_49, x162_52, x162_53, x162_55, x162_57, x162_57N, x162_58, x162_60, x162_61, x162_64, x162_67, x162_69, x162_72, x162_72N, x162_73, x162_76, x162_77, x162_78, x162_81, x162_82, x162_83, x162_85, x162_87, x162_88, x162_91, x162_92, x162_93, x162_94, x162_96, x162_97, x162_98, x162_101, x162_101N, x162_102, x162_105, x162_107, x162_109, x162_112, x162_112N, x162_113, x162_115, x162_116, x162_119, x162_122, x162_122N, x162_123, x162_126, x162_128, x162_129, x162_130, x162_130N, x162_131, x162_134, x162_136, x162_137, x162_138, x162_140, x162_143, x162_144, x162_147, x162_148, x162_149, x162_150, x162_150N, x162_151, x162_154, x162_156, x162_157, x162_158, x162_160, x162_161, x162_164, x162_165, x162_168, x162_169, x162_170, x162_171, x162_171N, x162_172, x162_175, x162_177, x162_178, x162_179, x162_180, x162_181, x162_182, x162_182N, x162_183, x162_186, x162_188, x162_189, x162_190, x162_192, x162_193, x162_194, x162_194N, x162_195, x162_197, x162_199, x162_201, x162_202, x162_202N, x162_203, x162_205, x162_207, x162_209, x162_210, x162_213, x162_214, x162_215, x162_219, x162_222, x162_224, x162_227, x162_228, aft_some, aft_void, Option.bind_some, Option.toList_some, Option.toList_none, List.cons_append, List.nil_append, if_true, if_false, ↓reduceIte, eq_self, z366_o, ↓z366_0, ↓z366_0p, ↓z366_1, ↓z366_2, ↓z366_3, ↓z366_4, ↓z366_4p, ↓z366_5, ↓z366_6, ↓z366_6p0, ↓z366_6p1, ↓z366_7, ↓z366_8, ↓z366_8p, ↓z366_9, ↓z366_9p, ↓z366_10, ↓z366_10p0, ↓z366_10p1, ↓z366_11, ↓z366_12, ↓z366_12p, ↓sg0, ↓sg1, ↓sg2, ↓sg3, ↓sg4, ↓sg5, ↓sg6, ↓sg7, ↓sg8, ↓sg9, ↓sg10, ↓sg11, ↓sg12, ↓sg13, ↓sg14, ↓sg15, ↓sg16, ↓sg17, ↓ss0, ↓ss1, ↓ss2, ↓ss3, ↓ss4, ↓ss5, ↓ss6, ↓ss7, ↓ss8, ↓ss9, ↓ss10, ↓ss11, ↓ss12, ↓ss13, ↓ss14, ↓ss15, ↓ss16, ↓ss17, upA_s, u_n, ni5, ↓aft_of (ek), ↓aft_of (em), ↓aft_of (e2), e1, e7, e11, qp, hd, ↓aft_of (e9), ↓aft_of (e9')]
    · simp only [q1, if_false, q2, q3, Int32.add_zero] at e9 e9' hd ⊢
      match k, hk with
      | 0, _ =>
        have qp : (gK K i 0 3 = V 48 0) = True := eq_true (Classical.not_not.mp (fun q => q1 ⟨by decide, q⟩))
        simp +decide only [nl0, if_true, Int32.add_zero] at ek em e9 e9' hd ⊢
        simp +decide only [x162_0, x162_1, x162_2, x162_3, x162_4, x162_4N, x162_5, x162_8, x162_10, x162_12, x162_14, x162_17, x162_17N, x162_18, x162_20, x162_23, x162_25, x162_27, x162_28, x162_31, x162_31N, x162_32, x162_34, x162_35, x162_38, x162_38N, x162_39, x162_42, x162_44, x162_45, x162_48, x162_49, x162_52, x162_53, x162_55, x162_57, x162_57N, x162_58, x162_60, x162_61, x162_64, x162_67, x162_69, x162_72, x162_72N, x162_73, x162_76, x162_77, x162_78, x162_81, x162_82, x162_83, x162_85, x162_87, x162_88, x162_91, x162_92, x162_93, x162_94, x162_96, x162_97, x162_98, x162_101, x162_101N, x162_102, x162_105, x162_107, x162_109, x162_112, x162_112N, x162_113, x162_115, x162_116, x162_119, x162_122, x162_122N, x162_123, x162_126, x162_128, x162_129, x162_130, x162_130N, x162_131, x162_134, x162_136, x162_137, x162_138, x162_140, x162_143, x162_144, x162_147, x162_148, x162_149, x162_150, x162_150N, x162_151, x162_154, x162_156, x162_157, x162_158, x162_160, x162_161, x162_164, x162_165, x162_168, x162_169, x162_170, x162_171, x162_171N, x162_172, x162_175, x162_177, x162_178, x162_179, x162_180, x162_181, x162_182, x162_182N, x162_183, x162_186, x162_188, x162_189, x162_190, x162_192, x162_193, x162_194, x162_194N, x162_195, x162_197, x162_199, x162_201, x162_202, x162_202N, x162_203, x162_205, x162_207, x162_209, x162_210, x162_213, x162_214, x162_215, x162_219, x162_222, x162_224, x162_227, x162_228, aft_some, aft_void, Option.bind_some, Option.toList_some, Option.toList_none, List.cons_append, List.nil_append, if_true, if_false, ↓reduceIte, eq_self, z366_o, ↓z366_0, ↓z366_0p, ↓z366_1, ↓z366_2, ↓z366_3, ↓z366_4, ↓z366_4p, ↓z366_5, ↓z366_6, ↓z366_6p0, ↓z366_6p1, ↓z366_7, ↓z366_8, ↓z366_8p, ↓z366_9, ↓z366_9p, ↓z366_10, ↓z366_10p0, ↓z366_10p1, ↓z366_11, ↓z366_12, ↓z366_12p, ↓sg0, ↓sg1, ↓sg2, ↓sg3, ↓sg4, ↓sg5, ↓sg6, ↓sg7, ↓sg8, ↓sg9, ↓sg10, ↓sg11, ↓sg12, ↓sg13, ↓sg14, ↓sg15, ↓sg16, ↓sg17, ↓ss0, ↓ss1, ↓ss2, ↓ss3, ↓ss4, ↓ss5, ↓ss6, ↓ss7, ↓ss8, ↓ss9, ↓ss10, ↓ss11, ↓ss12, ↓ss13, ↓ss14, ↓ss15, ↓ss16, ↓ss17, upA_s, u_n, ni5, ↓aft_of (ek), ↓aft_of (em), ↓aft_of (e2), e1, e7, e11, qp, hd, ↓aft_of (e9), ↓aft_of (e9'), Int32.add_zero]
      | 1, _ =>
        have qp : (gK K i 0 3 = V 48 0) = True := eq_true (Classical.not_not.mp (fun q => q1 ⟨by decide, q⟩))
        simp +decide only [nl1, if_true] at ek em e9 e9' hd ⊢
        simp +decide only [x162_0, x162_1, x162_2, x162_3, x162_4, x162_4N, x162_5, x162_8, x162_10, x162_12, x162_14, x162_17, x162_17N, x162_18, x162_20, x162_23, x162_25, x162_27, x162_28, x162_31, x162_31N, x162_32, x162_34, x162_35, x162_38, x162_38N, x162_39, x162_42, x162_44, x162_45, x162_48, x162_49, x162_52, x162_53, x162_55, x162_57, x162_57N, x162_58, x162_60, x162_61, x162_64, x162_67, x162_69, x162_72, x162_72N, x162_73, x162_76, x162_77, x162_78, x162_81, x162_82, x162_83, x162_85, x162_87, x162_88, x162_91, x162_92, x162_93, x162_94, x162_96, x162_97, x162_98, x162_101, x162_101N, x162_102, x162_105, x162_107, x162_109, x162_112, x162_112N, x162_113, x162_115, x162_116, x162_119, x162_122, x162_122N, x162_123, x162_126, x162_128, x162_129, x162_130, x162_130N, x162_131, x162_134, x162_136, x162_137, x162_138, x162_140, x162_143, x162_144, x162_147, x162_148, x162_149, x162_150, x162_150N, x162_151, x162_154, x162_156, x162_157, x162_158, x162_160, x162_161, x162_164, x162_165, x162_168, x162_169, x162_170, x162_171, x162_171N, x162_172, x162_175, x162_177, x162_178, x162_179, x162_180, x162_181, x162_182, x162_182N, x162_183, x162_186, x162_188, x162_189, x162_190, x162_192, x162_193, x162_194, x162_194N, x162_195, x162_197, x162_199, x162_201, x162_202, x162_202N, x162_203, x162_205, x162_207, x162_209, x162_210, x162_213, x162_214, x162_215, x162_219, x162_222, x162_224, x162_227, x162_228, aft_some, aft_void, Option.bind_some, Option.toList_some, Option.toList_none, List.cons_append, List.nil_append, if_true, if_false, ↓reduceIte, eq_self, z366_o, ↓z366_0, ↓z366_0p, ↓z366_1, ↓z366_2, ↓z366_3, ↓z366_4, ↓z366_4p, ↓z366_5, ↓z366_6, ↓z366_6p0, ↓z366_6p1, ↓z366_7, ↓z366_8, ↓z366_8p, ↓z366_9, ↓z366_9p, ↓z366_10, ↓z366_10p0, ↓z366_10p1, ↓z366_11, ↓z366_12, ↓z366_12p, ↓sg0, ↓sg1, ↓sg2, ↓sg3, ↓sg4, ↓sg5, ↓sg6, ↓sg7, ↓sg8, ↓sg9, ↓sg10, ↓sg11, ↓sg12, ↓sg13, ↓sg14, ↓sg15, ↓sg16, ↓sg17, ↓ss0, ↓ss1, ↓ss2, ↓ss3, ↓ss4, ↓ss5, ↓ss6, ↓ss7, ↓ss8, ↓ss9, ↓ss10, ↓ss11, ↓ss12, ↓ss13, ↓ss14, ↓ss15, ↓ss16, ↓ss17, upA_s, u_n, ni5, ↓aft_of (ek), ↓aft_of (em), ↓aft_of (e2), e1, e7, e11, qp, hd, ↓aft_of (e9), ↓aft_of (e9'), Int32.add_zero]
      | 2, _ =>
        simp +decide only [nl2, if_true] at ek em e9 e9' hd ⊢
        simp +decide only [x162_0, x162_1, x162_2, x162_3, x162_4, x162_4N, x162_5, x162_8, x162_10, x162_12, x162_14, x162_17, x162_17N, x162_18, x162_20, x162_23, x162_25, x162_27, x162_28, x162_31, x162_31N, x162_32, x162_34, x162_35, x162_38, x162_38N, x162_39, x162_42, x162_44, x162_45, x162_48, x162_49, x162_52, x162_53, x162_55, x162_57, x162_57N, x162_58, x162_60, x162_61, x162_64, x162_67, x162_69, x162_72, x162_72N, x162_73, x162_76, x162_77, x162_78, x162_81, x162_82, x162_83, x162_85, x162_87, x162_88, x162_91, x162_92, x162_93, x162_94, x162_96, x162_97, x162_98, x162_101, x162_101N, x162_102, x162_105, x162_107, x162_109, x162_112, x162_112N, x162_113, x162_115, x162_116, x162_119, x162_122, x162_122N, x162_123, x162_126, x162_128, x162_129, x162_130, x162_130N, x162_131, x162_134, x162_136, x162_137, x162_138, x162_140, x162_143, x162_144, x162_147, x162_148, x162_149, x162_150, x162_150N, x162_151, x162_154, x162_156, x162_157, x162_158, x162_160, x162_161, x162_164, x162_165, x162_168, x162_169, x162_170, x162_171, x162_171N, x162_172, x162_175, x162_177, x162_178, x162_179, x162_180, x162_181, x162_182, x162_182N, x162_183, x162_186, x162_188, x162_189, x162_190, x162_192, x162_193, x162_194, x162_194N, x162_195, x162_197, x162_199, x162_201, x162_202, x162_202N, x162_203, x162_205, x162_207, x162_209, x162_210, x162_213, x162_214, x162_215, x162_219, x162_222, x162_224, x162_227, x162_228, aft_some, aft_void, Option.bind_some, Option.toList_some, Option.toList_none, List.cons_append, List.nil_append, if_true, if_false, ↓reduceIte, eq_self, z366_o, ↓z366_0, ↓z366_0p, ↓z366_1, ↓z366_2, ↓z366_3, ↓z366_4, ↓z366_4p, ↓z366_5, ↓z366_6, ↓z366_6p0, ↓z366_6p1, ↓z366_7, ↓z366_8, ↓z366_8p, ↓z366_9, ↓z366_9p, ↓z366_10, ↓z366_10p0, ↓z366_10p1, ↓z366_11, ↓z366_12, ↓z366_12p, ↓sg0, ↓sg1, ↓sg2, ↓sg3, ↓sg4, ↓sg5, ↓sg6, ↓sg7, ↓sg8, ↓sg9, ↓sg10, ↓sg11, ↓sg12, ↓sg13, ↓sg14, ↓sg15, ↓sg16, ↓sg17, ↓ss0, ↓ss1, ↓ss2, ↓ss3, ↓ss4, ↓ss5, ↓ss6, ↓ss7, ↓ss8, ↓ss9, ↓ss10, ↓ss11, ↓ss12, ↓ss13, ↓ss14, ↓ss15, ↓ss16, ↓ss17, upA_s, u_n, ni5, ↓aft_of (ek), ↓aft_of (em), ↓aft_of (e2), e1, e7, e11, hd, ↓aft_of (e9), ↓aft_of (e9'), Int32.add_zero]
      | 3, _ =>
        simp +decide only [nl3, if_false] at ek em e9 e9' hd ⊢
        simp +decide only [x162_0, x162_1, x162_2, x162_3, x162_4, x162_4N, x162_5, x162_8, x162_10, x162_12, x162_14, x162_17, x162_17N, x162_18, x162_20, x162_23, x162_25, x162_27, x162_28, x162_31, x162_31N, x162_32, x162_34, x162_35, x162_38, x162_38N, x162_39, x162_42, x162_44, x162_45, x162_48, x162_49, x162_52, x162_53, x162_55, x162_57, x162_57N, x162_58, x162_60, x162_61, x162_64, x162_67, x162_69, x162_72, x162_72N, x162_73, x162_76, x162_77, x162_78, x162_81, x162_82, x162_83, x162_85, x162_87, x162_88, x162_91, x162_92, x162_93, x162_94, x162_96, x162_97, x162_98, x162_101, x162_101N, x162_102, x162_105, x162_107, x162_109, x162_112, x162_112N, x162_113, x162_115, x162_116, x162_119, x162_122, x162_122N, x162_123, x162_126, x162_128, x162_129, x162_130, x162_130N, x162_131, x162_134, x162_136, x162_137, x162_138, x162_140, x162_143, x162_144, x162_147, x162_148, x162_149, x162_150, x162_150N, x162_151, x162_154, x162_156, x162_157, x162_158, x162_160, x162_161, x162_164, x162_165, x162_168, x162_169, x162_170, x162_171, x162_171N, x162_172, x162_175, x162_177, x162_178, x162_179, x162_180, x162_181, x162_182, x162_182N, x162_183, x162_186, x162_188, x162_189, x162_190, x162_192, x162_193, x162_194, x162_194N, x162_195, x162_197, x162_199, x162_201, x162_202, x162_202N, x162_203, x162_205, x162_207, x162_209, x162_210, x162_213, x162_214, x162_215, x162_219, x162_222, x162_224, x162_227, x162_228, aft_some, aft_void, Option.bind_some, Option.toList_some, Option.toList_none, List.cons_append, List.nil_append, if_true, if_false, ↓reduceIte, eq_self, z366_o, ↓z366_0, ↓z366_0p, ↓z366_1, ↓z366_2, ↓z366_3, ↓z366_4, ↓z366_4p, ↓z366_5, ↓z366_6, ↓z366_6p0, ↓z366_6p1, ↓z366_7, ↓z366_8, ↓z366_8p, ↓z366_9, ↓z366_9p, ↓z366_10, ↓z366_10p0, ↓z366_10p1, ↓z366_11, ↓z366_12, ↓z366_12p, ↓sg0, ↓sg1, ↓sg2, ↓sg3, ↓sg4, ↓sg5, ↓sg6, ↓sg7, ↓sg8, ↓sg9, ↓sg10, ↓sg11, ↓sg12, ↓sg13, ↓sg14, ↓sg15, ↓sg16, ↓sg17, ↓ss0, ↓ss1, ↓ss2, ↓ss3, ↓ss4, ↓ss5, ↓ss6, ↓ss7, ↓ss8, ↓ss9, ↓ss10, ↓ss11, ↓ss12, ↓ss13, ↓ss14, ↓ss15, ↓ss16, ↓ss17, upA_s, u_n, ni5, ↓aft_of (ek), ↓aft_of (em), ↓aft_of (e2), e1, e7, e11, hd, ↓aft_of (e9), ↓aft_of (e9'), Int32.add_zero, Int32.sub_zero]
  rw [hg] at key
  exact ⟨_, _, _, _, key, hs⟩
/-- pieces that are open -/
def opN (b : kT) : Nat := (opK b 0).toNatClampNeg + (opK b 1).toNatClampNeg + (opK b 2).toNatClampNeg + (opK b 3).toNatClampNeg
def opL : List kT → Nat
  | [] => 0
  | b :: K => opN b + opL K
theorem opL_set {b c : kT} : ∀ {K : List kT} {i : Nat}, K[i]? = some b → opL (K.set i c) + opN b = opL K + opN c
  | [], i, h => by simp at h
  | x :: K, 0, h => by
    simp only [List.getElem?_cons_zero, Option.some.injEq] at h
    subst h
    simp only [List.set_cons_zero, opL]; omega
  | x :: K, i + 1, h => by
    rw [List.getElem?_cons_succ] at h
    have := opL_set (c := c) h
    simp only [List.set_cons_succ, opL]; omega
theorem opL_le {n : Nat} : ∀ {K : List kT}, (∀ b ∈ K, opN b ≤ n) → opL K ≤ n * K.length
  | [], _ => Nat.le_refl _
  | b :: K, h => by
    have := opL_le (K := K) (fun b hb => h b (List.mem_cons_of_mem _ hb))
    have := h b List.mem_cons_self
    simp only [opL, List.length_cons, Nat.mul_add]; omega
theorem op_nI {b : kT} {k : Nat} (h : ∃ x y z, x ≤ 9 ∧ y + z ≤ x ∧ b 1 k = nI x ∧ b 2 k = nI y ∧ b 3 k = nI z) : ∃ w, w ≤ 9 ∧ opK b k = nI w := by
  obtain ⟨x, y, z, h1, h2, e1, e2, e3⟩ := h
  refine ⟨x - y - z, by omega, ?_⟩
  unfold opK
  rw [e1, e2, e3, nI_sub (by omega), nI_sub (by omega)]
theorem WF.op (hw : WF N V K B) : opL K ≤ 288 := by
  have h8 := hw.1.2.2.2.1
  have : opL K ≤ 36 * K.length := opL_le (fun b hb => by
    obtain ⟨i, hi⟩ := List.getElem?_of_mem hb
    have h4 := (hw.2.2.2.1 i b hi).2.2.2.2
    obtain ⟨a0, b0, c0⟩ := op_nI (h4 0 (by decide))
    obtain ⟨a1, b1, c1⟩ := op_nI (h4 1 (by decide))
    obtain ⟨a2, b2, c2⟩ := op_nI (h4 2 (by decide))
    obtain ⟨a3, b3, c3⟩ := op_nI (h4 3 (by decide))
    unfold opN
    rw [c0, c1, c2, c3, nI_clamp (by omega), nI_clamp (by omega), nI_clamp (by omega), nI_clamp (by omega)]
    omega)
  omega
theorem opN_in {b : kT} {k : Nat} (hk : k < 4) (h4 : ∀ k, k < 4 → ∃ x y z, x ≤ 9 ∧ y + z ≤ x ∧ b 1 k = nI x ∧ b 2 k = nI y ∧ b 3 k = nI z) (ho : 0 < opK b k) : opN (inB b k) + 1 = opN b := by
  have hn : ∀ j, j ≠ k → opK (inB b k) j = opK b j := fun j hj => by
    unfold opK inB
    rw [upA_n _ _ (show 1 ≠ 2 by decide), upA_s, upA_n _ _ (show 3 ≠ 2 by decide), upA_n _ _ hj]
  have hs : (opK (inB b k) k).toNatClampNeg + 1 = (opK b k).toNatClampNeg := by
    obtain ⟨w, hw, e⟩ := op_nI (h4 k hk)
    have e2 : opK (inB b k) k = opK b k - 1 := by
      unfold opK inB
      rw [upA_n _ _ (show 1 ≠ 2 by decide), upA_s, upA_n _ _ (show 3 ≠ 2 by decide), upA_s]
      grind
    rw [e, nI_posn (by omega)] at ho
    rw [e2, e, nI_clamp (by omega), show (1 : Int32) = nI 1 from rfl, nI_sub (by omega), nI_clamp (by omega)]
    omega
  unfold opN
  match k, hk with
  | 0, _ => rw [hn 1 (by decide), hn 2 (by decide), hn 3 (by decide)]; omega
  | 1, _ => rw [hn 0 (by decide), hn 2 (by decide), hn 3 (by decide)]; omega
  | 2, _ => rw [hn 0 (by decide), hn 1 (by decide), hn 3 (by decide)]; omega
  | 3, _ => rw [hn 0 (by decide), hn 1 (by decide), hn 2 (by decide)]; omega
theorem r_irons (h : sR f N V K B R) (hw : WF N V K B) : ∃ f', X 162 0 [.ref 366, .int m, .long 0, .long 0, .long 0, .long 0, .long 0, .long 0] [] (H (upA T 367 f) P) = some (some (.int (nI (irS N 288 V K m).1)), H (upA T 367 f') P) ∧ sR f' N (irS N 288 V K m).2.1 (irS N 288 V K m).2.2 B R ∧ WF N (irS N 288 V K m).2.1 (irS N 288 V K m).2.2 B := by
  have key : ∀ (n d : Nat) (f : Nat → Int32) (V : Nat → Nat → Int32) (K : List kT) (left : Int32) (w5 w6 w7 : Value), opL K ≤ n → sR f N V K B R → WF N V K B → ∃ f', X 162 10 [.ref 366, .int m, .int left, .int (nI d), .int (match nxS (fun i => irK V (gK K i)) (fun i => tnK N V (gK K i)) K.length with
      | some i => nI i
      | none => -5), w5, w6, w7] [] (H (upA T 367 f) P) = some (some (.int (nI (d + (irS N n V K left).1))), H (upA T 367 f') P) ∧ sR f' N (irS N n V K left).2.1 (irS N n V K left).2.2 B R ∧ WF N (irS N n V K left).2.1 (irS N n V K left).2.2 B := by
    intro n
    induction n with
    | zero =>
      intro d f V K left w5 w6 w7 hn h hw
      have hq : nxS (fun i => irK V (gK K i)) (fun i => tnK N V (gK K i)) K.length = none := by
        cases hq : nxS (fun i => irK V (gK K i)) (fun i => tnK N V (gK K i)) K.length with
        | none => rfl
        | some i =>
          obtain ⟨hi, hir⟩ := nxS_ok hq
          obtain ⟨k, hk, hlk, hop, -⟩ := ir_kind hir
          have h1 := opN_in hk (hw.2.2.2.1 i _ (gK_at hi)).2.2.2.2 hop
          have h2 := opL_set (c := inB (gK K i) k) (gK_at hi)
          omega
      rw [hq]
      refine ⟨f, ?_, h, hw⟩
      rw [x162_10]
      simp +decide only [x162_0, x162_1, x162_2, x162_3, x162_4, x162_4N, x162_5, x162_8, x162_12, x162_14, x162_17, x162_17N, x162_18, x162_20, x162_23, x162_25, x162_27, x162_28, x162_31, x162_31N, x162_32, x162_34, x162_35, x162_38, x162_38N, x162_39, x162_42, x162_44, x162_45, x162_48, x162_49, x162_52, x162_53, x162_55, x162_57, x162_57N, x162_58, x162_60, x162_61, x162_64, x162_67, x162_69, x162_72, x162_72N, x162_73, x162_76, x162_77, x162_78, x162_81, x162_82, x162_83, x162_85, x162_87, x162_88, x162_91, x162_92, x162_93, x162_94, x162_96, x162_97, x162_98, x162_101, x162_101N, x162_102, x162_105, x162_107, x162_109, x162_112, x162_112N, x162_113, x162_115, x162_116, x162_119, x162_122, x162_122N, x162_123, x162_126, x162_128, x162_129, x162_130, x162_130N, x162_131, x162_134, x162_136, x162_137, x162_138, x162_140, x162_143, x162_144, x162_147, x162_148, x162_149, x162_150, x162_150N, x162_151, x162_154, x162_156, x162_157, x162_158, x162_160, x162_161, x162_164, x162_165, x162_168, x162_169, x162_170, x162_171, x162_171N, x162_172, x162_175, x162_177, x162_178, x162_179, x162_180, x162_181, x162_182, x162_182N, x162_183, x162_186, x162_188, x162_189, x162_190, x162_192, x162_193, x162_194, x162_194N, x162_195, x162_197, x162_199, x162_201, x162_202, x162_202N, x162_203, x162_205, x162_207, x162_209, x162_210, x162_213, x162_214, x162_215, x162_218, x162_218N, x162_219, x162_222, x162_224, x162_227, x162_228, aft_some, aft_void, Option.bind_some, Option.toList_some, Option.toList_none, List.cons_append, List.nil_append, if_true, if_false, ↓reduceIte, eq_self, irS, Nat.add_zero]
    | succ n ih =>
      intro d f V K left w5 w6 w7 hn h hw
      cases hq : nxS (fun i => irK V (gK K i)) (fun i => tnK N V (gK K i)) K.length with
      | none =>
        simp only [irS, hq]
        refine ⟨f, ?_, h, hw⟩
        rw [x162_10]
        simp +decide only [x162_0, x162_1, x162_2, x162_3, x162_4, x162_4N, x162_5, x162_8, x162_12, x162_14, x162_17, x162_17N, x162_18, x162_20, x162_23, x162_25, x162_27, x162_28, x162_31, x162_31N, x162_32, x162_34, x162_35, x162_38, x162_38N, x162_39, x162_42, x162_44, x162_45, x162_48, x162_49, x162_52, x162_53, x162_55, x162_57, x162_57N, x162_58, x162_60, x162_61, x162_64, x162_67, x162_69, x162_72, x162_72N, x162_73, x162_76, x162_77, x162_78, x162_81, x162_82, x162_83, x162_85, x162_87, x162_88, x162_91, x162_92, x162_93, x162_94, x162_96, x162_97, x162_98, x162_101, x162_101N, x162_102, x162_105, x162_107, x162_109, x162_112, x162_112N, x162_113, x162_115, x162_116, x162_119, x162_122, x162_122N, x162_123, x162_126, x162_128, x162_129, x162_130, x162_130N, x162_131, x162_134, x162_136, x162_137, x162_138, x162_140, x162_143, x162_144, x162_147, x162_148, x162_149, x162_150, x162_150N, x162_151, x162_154, x162_156, x162_157, x162_158, x162_160, x162_161, x162_164, x162_165, x162_168, x162_169, x162_170, x162_171, x162_171N, x162_172, x162_175, x162_177, x162_178, x162_179, x162_180, x162_181, x162_182, x162_182N, x162_183, x162_186, x162_188, x162_189, x162_190, x162_192, x162_193, x162_194, x162_194N, x162_195, x162_197, x162_199, x162_201, x162_202, x162_202N, x162_203, x162_205, x162_207, x162_209, x162_210, x162_213, x162_214, x162_215, x162_218, x162_218N, x162_219, x162_222, x162_224, x162_227, x162_228, aft_some, aft_void, Option.bind_some, Option.toList_some, Option.toList_none, List.cons_append, List.nil_append, if_true, if_false, ↓reduceIte, eq_self, Nat.add_zero]
      | some i =>
        obtain ⟨hi, hir⟩ := nxS_ok hq
        obtain ⟨k, hk, hlk, hop, -⟩ := ir_kind hir
        have hkd : kdN V (gK K i) = k := by unfold kdN; rw [hlk, nI_clamp (by omega)]
        have h8 := hw.1.2.2.2.1
        simp only [irS, hq, hkd]
        by_cases hl : left < ndI V (gK K i) k
        · simp only [hl, if_true]
          refine ⟨f, ?_, h, hw⟩
          have hb := h.2.2.2.1 i hi
          have e7 : f 7 = V 0 1 := h.1.2.1.2.2.2
          have e11 : f 11 = V 48 0 := h.1.2.2.2.1 0 (by decide)
          have e1 : f 1 = V 1 1 := h.1.1 1 (by decide)
          have ek := r_kindNow (T := T) (P := P) hb (show i < 8 by omega)
          rw [e7, show lkK (gK K i) (if 0 < V 0 1 then 1 else 0) = nI k from hlk] at ek
          have em := r_minutesOf (h0 := H (upA T 367 f) P) (x := gK K i 0 3) hk
          have e2 := r_of (T := T) (P := P) (f := f) (i := i) (w := 2) (y := 2) rfl (show i < 8 by omega) (by decide)
          rw [hb.1.2.2.1] at e2
          have ni5 : (nI i = -5) = False := nI_ne5 (by omega)
          rw [x162_10]
          rcases sb_or V (gK K i) k with ⟨q1, q2, q3⟩ | ⟨q1, q2, q3⟩
          · have qk : k < 2 := q1.1
            have qp : (gK K i 0 3 = V 48 0) = False := eq_false q1.2
            rw [q3] at hl
            match k, qk with
            | 0, _ =>
              simp +decide only [nl0] at ek em hl
              simp +decide only [x162_0, x162_1, x162_2, x162_3, x162_4, x162_4N, x162_5, x162_8, x162_12, x162_14, x162_17, x162_17N, x162_18, x162_20, x162_23, x162_25, x162_27, x162_28, x162_31, x162_31N, x162_32, x162_34, x162_35, x162_38, x162_38N, x162_39, x162_42, x162_44, x162_45, x162_48, x162_49, x162_52, x162_53, x162_55, x162_57, x162_57N, x162_58, x162_60, x162_61, x162_64, x162_67, x162_69, x162_72, x162_72N, x162_73, x162_76, x162_77, x162_78, x162_81, x162_82, x162_83, x162_85, x162_87, x162_88, x162_91, x162_92, x162_93, x162_94, x162_96, x162_97, x162_98, x162_101, x162_101N, x162_102, x162_105, x162_107, x162_109, x162_112, x162_112N, x162_113, x162_115, x162_116, x162_119, x162_122, x162_122N, x162_123, x162_126, x162_128, x162_129, x162_130, x162_130N, x162_131, x162_134, x162_136, x162_137, x162_138, x162_140, x162_143, x162_144, x162_147, x162_148, x162_149, x162_150, x162_150N, x162_151, x162_154, x162_156, x162_157, x162_158, x162_160, x162_161, x162_164, x162_165, x162_168, x162_169, x162_170, x162_171, x162_171N, x162_172, x162_175, x162_177, x162_178, x162_179, x162_180, x162_181, x162_182, x162_182N, x162_183, x162_186, x162_188, x162_189, x162_190, x162_192, x162_193, x162_194, x162_194N, x162_195, x162_197, x162_199, x162_201, x162_202, x162_202N, x162_203, x162_205, x162_207, x162_209, x162_210, x162_213, x162_214, x162_215, x162_218, x162_218N, x162_219, x162_222, x162_224, x162_227, x162_228, aft_some, aft_void, Option.bind_some, Option.toList_some, Option.toList_none, List.cons_append, List.nil_append, if_true, if_false, ↓reduceIte, eq_self, z366_o, ↓z366_0, ↓z366_0p, ↓z366_1, ↓z366_2, ↓z366_3, ↓z366_4, ↓z366_4p, ↓z366_5, ↓z366_6, ↓z366_6p0, ↓z366_6p1, ↓z366_7, ↓z366_8, ↓z366_8p, ↓z366_9, ↓z366_9p, ↓z366_10, ↓z366_10p0, ↓z366_10p1, ↓z366_11, ↓z366_12, ↓z366_12p, ↓sg0, ↓sg1, ↓sg2, ↓sg3, ↓sg4, ↓sg5, ↓sg6, ↓sg7, ↓sg8, ↓sg9, ↓sg10, ↓sg11, ↓sg12, ↓sg13, ↓sg14, ↓sg15, ↓sg16, ↓sg17, ↓ss0, ↓ss1, ↓ss2, ↓ss3, ↓ss4, ↓ss5, ↓ss6, ↓ss7, ↓ss8, ↓ss9, ↓ss10, ↓ss11, ↓ss12, ↓ss13, ↓ss14, ↓ss15, ↓ss16, ↓ss17, ni5, ↓aft_of (ek), ↓aft_of (em), ↓aft_of (e2), e1, e7, e11, qp, hl, Nat.add_zero]
            | 1, _ =>
              simp +decide only [nl1] at ek em hl
              simp +decide only [x162_0, x162_1, x162_2, x162_3, x162_4, x162_4N, x162_5, x162_8, x162_12, x162_14, x162_17, x162_17N, x162_18, x162_20, x162_23, x162_25, x162_27, x162_28, x162_31, x162_31N, x162_32, x162_34, x162_35, x162_38, x162_38N, x162_39, x162_42, x162_44, x162_45, x162_48, x162_49, x162_52, x162_53, x162_55, x162_57, x162_57N, x162_58, x162_60, x162_61, x162_64, x162_67, x162_69, x162_72, x162_72N, x162_73, x162_76, x162_77, x162_78, x162_81, x162_82, x162_83, x162_85, x162_87, x162_88, x162_91, x162_92, x162_93, x162_94, x162_96, x162_97, x162_98, x162_101, x162_101N, x162_102, x162_105, x162_107, x162_109, x162_112, x162_112N, x162_113, x162_115, x162_116, x162_119, x162_122, x162_122N, x162_123, x162_126, x162_128, x162_129, x162_130, x162_130N, x162_131, x162_134, x162_136, x162_137, x162_138, x162_140, x162_143, x162_144, x162_147, x162_148, x162_149, x162_150, x162_150N, x162_151, x162_154, x162_156, x162_157, x162_158, x162_160, x162_161, x162_164, x162_165, x162_168, x162_169, x162_170, x162_171, x162_171N, x162_172, x162_175, x162_177, x162_178, x162_179, x162_180, x162_181, x162_182, x162_182N, x162_183, x162_186, x162_188, x162_189, x162_190, x162_192, x162_193, x162_194, x162_194N, x162_195, x162_197, x162_199, x162_201, x162_202, x162_202N, x162_203, x162_205, x162_207, x162_209, x162_210, x162_213, x162_214, x162_215, x162_218, x162_218N, x162_219, x162_222, x162_224, x162_227, x162_228, aft_some, aft_void, Option.bind_some, Option.toList_some, Option.toList_none, List.cons_append, List.nil_append, if_true, if_false, ↓reduceIte, eq_self, z366_o, ↓z366_0, ↓z366_0p, ↓z366_1, ↓z366_2, ↓z366_3, ↓z366_4, ↓z366_4p, ↓z366_5, ↓z366_6, ↓z366_6p0, ↓z366_6p1, ↓z366_7, ↓z366_8, ↓z366_8p, ↓z366_9, ↓z366_9p, ↓z366_10, ↓z366_10p0, ↓z366_10p1, ↓z366_11, ↓z366_12, ↓z366_12p, ↓sg0, ↓sg1, ↓sg2, ↓sg3, ↓sg4, ↓sg5, ↓sg6, ↓sg7, ↓sg8, ↓sg9, ↓sg10, ↓sg11, ↓sg12, ↓sg13, ↓sg14, ↓sg15, ↓sg16, ↓sg17, ↓ss0, ↓ss1, ↓ss2, ↓ss3, ↓ss4, ↓ss5, ↓ss6, ↓ss7, ↓ss8, ↓ss9, ↓ss10, ↓ss11, ↓ss12, ↓ss13, ↓ss14, ↓ss15, ↓ss16, ↓ss17, ni5, ↓aft_of (ek), ↓aft_of (em), ↓aft_of (e2), e1, e7, e11, qp, hl, Nat.add_zero]
          · rw [q3, Int32.add_zero] at hl
            match k, hk with
            | 0, _ =>
              have qp : (gK K i 0 3 = V 48 0) = True := eq_true (Classical.not_not.mp (fun q => q1 ⟨by decide, q⟩))
              simp +decide only [nl0] at ek em hl
              simp +decide only [x162_0, x162_1, x162_2, x162_3, x162_4, x162_4N, x162_5, x162_8, x162_12, x162_14, x162_17, x162_17N, x162_18, x162_20, x162_23, x162_25, x162_27, x162_28, x162_31, x162_31N, x162_32, x162_34, x162_35, x162_38, x162_38N, x162_39, x162_42, x162_44, x162_45, x162_48, x162_49, x162_52, x162_53, x162_55, x162_57, x162_57N, x162_58, x162_60, x162_61, x162_64, x162_67, x162_69, x162_72, x162_72N, x162_73, x162_76, x162_77, x162_78, x162_81, x162_82, x162_83, x162_85, x162_87, x162_88, x162_91, x162_92, x162_93, x162_94, x162_96, x162_97, x162_98, x162_101, x162_101N, x162_102, x162_105, x162_107, x162_109, x162_112, x162_112N, x162_113, x162_115, x162_116, x162_119, x162_122, x162_122N, x162_123, x162_126, x162_128, x162_129, x162_130, x162_130N, x162_131, x162_134, x162_136, x162_137, x162_138, x162_140, x162_143, x162_144, x162_147, x162_148, x162_149, x162_150, x162_150N, x162_151, x162_154, x162_156, x162_157, x162_158, x162_160, x162_161, x162_164, x162_165, x162_168, x162_169, x162_170, x162_171, x162_171N, x162_172, x162_175, x162_177, x162_178, x162_179, x162_180, x162_181, x162_182, x162_182N, x162_183, x162_186, x162_188, x162_189, x162_190, x162_192, x162_193, x162_194, x162_194N, x162_195, x162_197, x162_199, x162_201, x162_202, x162_202N, x162_203, x162_205, x162_207, x162_209, x162_210, x162_213, x162_214, x162_215, x162_218, x162_218N, x162_219, x162_222, x162_224, x162_227, x162_228, aft_some, aft_void, Option.bind_some, Option.toList_some, Option.toList_none, List.cons_append, List.nil_append, if_true, if_false, ↓reduceIte, eq_self, z366_o, ↓z366_0, ↓z366_0p, ↓z366_1, ↓z366_2, ↓z366_3, ↓z366_4, ↓z366_4p, ↓z366_5, ↓z366_6, ↓z366_6p0, ↓z366_6p1, ↓z366_7, ↓z366_8, ↓z366_8p, ↓z366_9, ↓z366_9p, ↓z366_10, ↓z366_10p0, ↓z366_10p1, ↓z366_11, ↓z366_12, ↓z366_12p, ↓sg0, ↓sg1, ↓sg2, ↓sg3, ↓sg4, ↓sg5, ↓sg6, ↓sg7, ↓sg8, ↓sg9, ↓sg10, ↓sg11, ↓sg12, ↓sg13, ↓sg14, ↓sg15, ↓sg16, ↓sg17, ↓ss0, ↓ss1, ↓ss2, ↓ss3, ↓ss4, ↓ss5, ↓ss6, ↓ss7, ↓ss8, ↓ss9, ↓ss10, ↓ss11, ↓ss12, ↓ss13, ↓ss14, ↓ss15, ↓ss16, ↓ss17, ni5, ↓aft_of (ek), ↓aft_of (em), ↓aft_of (e2), e1, e7, e11, qp, hl, Int32.add_zero, Nat.add_zero]
            | 1, _ =>
              have qp : (gK K i 0 3 = V 48 0) = True := eq_true (Classical.not_not.mp (fun q => q1 ⟨by decide, q⟩))
              simp +decide only [nl1] at ek em hl
              simp +decide only [x162_0, x162_1, x162_2, x162_3, x162_4, x162_4N, x162_5, x162_8, x162_12, x162_14, x162_17, x162_17N, x162_18, x162_20, x162_23, x162_25, x162_27, x162_28, x162_31, x162_31N, x162_32, x162_34, x162_35, x162_38, x162_38N, x162_39, x162_42, x162_44, x162_45, x162_48, x162_49, x162_52, x162_53, x162_55, x162_57, x162_57N, x162_58, x162_60, x162_61, x162_64, x162_67, x162_69, x162_72, x162_72N, x162_73, x162_76, x162_77, x162_78, x162_81, x162_82, x162_83, x162_85, x162_87, x162_88, x162_91, x162_92, x162_93, x162_94, x162_96, x162_97, x162_98, x162_101, x162_101N, x162_102, x162_105, x162_107, x162_109, x162_112, x162_112N, x162_113, x162_115, x162_116, x162_119, x162_122, x162_122N, x162_123, x162_126, x162_128, x162_129, x162_130, x162_130N, x162_131, x162_134, x162_136, x162_137, x162_138, x162_140, x162_143, x162_144, x162_147, x162_148, x162_149, x162_150, x162_150N, x162_151, x162_154, x162_156, x162_157, x162_158, x162_160, x162_161, x162_164, x162_165, x162_168, x162_169, x162_170, x162_171, x162_171N, x162_172, x162_175, x162_177, x162_178, x162_179, x162_180, x162_181, x162_182, x162_182N, x162_183, x162_186, x162_188, x162_189, x162_190, x162_192, x162_193, x162_194, x162_194N, x162_195, x162_197, x162_199, x162_201, x162_202, x162_202N, x162_203, x162_205, x162_207, x162_209, x162_210, x162_213, x162_214, x162_215, x162_218, x162_218N, x162_219, x162_222, x162_224, x162_227, x162_228, aft_some, aft_void, Option.bind_some, Option.toList_some, Option.toList_none, List.cons_append, List.nil_append, if_true, if_false, ↓reduceIte, eq_self, z366_o, ↓z366_0, ↓z366_0p, ↓z366_1, ↓z366_2, ↓z366_3, ↓z366_4, ↓z366_4p, ↓z366_5, ↓z366_6, ↓z366_6p0, ↓z366_6p1, ↓z366_7, ↓z366_8, ↓z366_8p, ↓z366_9, ↓z366_9p, ↓z366_10, ↓z366_10p0, ↓z366_10p1, ↓z366_11, ↓z366_12, ↓z366_12p, ↓sg0, ↓sg1, ↓sg2, ↓sg3, ↓sg4, ↓sg5, ↓sg6, ↓sg7, ↓sg8, ↓sg9, ↓sg10, ↓sg11, ↓sg12, ↓sg13, ↓sg14, ↓sg15, ↓sg16, ↓sg17, ↓ss0, ↓ss1, ↓ss2, ↓ss3, ↓ss4, ↓ss5, ↓ss6, ↓ss7, ↓ss8, ↓ss9, ↓ss10, ↓ss11, ↓ss12, ↓ss13, ↓ss14, ↓ss15, ↓ss16, ↓ss17, ni5, ↓aft_of (ek), ↓aft_of (em), ↓aft_of (e2), e1, e7, e11, qp, hl, Int32.add_zero, Nat.add_zero]
            | 2, _ =>
              simp +decide only [nl2] at ek em hl
              simp +decide only [x162_0, x162_1, x162_2, x162_3, x162_4, x162_4N, x162_5, x162_8, x162_12, x162_14, x162_17, x162_17N, x162_18, x162_20, x162_23, x162_25, x162_27, x162_28, x162_31, x162_31N, x162_32, x162_34, x162_35, x162_38, x162_38N, x162_39, x162_42, x162_44, x162_45, x162_48, x162_49, x162_52, x162_53, x162_55, x162_57, x162_57N, x162_58, x162_60, x162_61, x162_64, x162_67, x162_69, x162_72, x162_72N, x162_73, x162_76, x162_77, x162_78, x162_81, x162_82, x162_83, x162_85, x162_87, x162_88, x162_91, x162_92, x162_93, x162_94, x162_96, x162_97, x162_98, x162_101, x162_101N, x162_102, x162_105, x162_107, x162_109, x162_112, x162_112N, x162_113, x162_115, x162_116, x162_119, x162_122, x162_122N, x162_123, x162_126, x162_128, x162_129, x162_130, x162_130N, x162_131, x162_134, x162_136, x162_137, x162_138, x162_140, x162_143, x162_144, x162_147, x162_148, x162_149, x162_150, x162_150N, x162_151, x162_154, x162_156, x162_157, x162_158, x162_160, x162_161, x162_164, x162_165, x162_168, x162_169, x162_170, x162_171, x162_171N, x162_172, x162_175, x162_177, x162_178, x162_179, x162_180, x162_181, x162_182, x162_182N, x162_183, x162_186, x162_188, x162_189, x162_190, x162_192, x162_193, x162_194, x162_194N, x162_195, x162_197, x162_199, x162_201, x162_202, x162_202N, x162_203, x162_205, x162_207, x162_209, x162_210, x162_213, x162_214, x162_215, x162_218, x162_218N, x162_219, x162_222, x162_224, x162_227, x162_228, aft_some, aft_void, Option.bind_some, Option.toList_some, Option.toList_none, List.cons_append, List.nil_append, if_true, if_false, ↓reduceIte, eq_self, z366_o, ↓z366_0, ↓z366_0p, ↓z366_1, ↓z366_2, ↓z366_3, ↓z366_4, ↓z366_4p, ↓z366_5, ↓z366_6, ↓z366_6p0, ↓z366_6p1, ↓z366_7, ↓z366_8, ↓z366_8p, ↓z366_9, ↓z366_9p, ↓z366_10, ↓z366_10p0, ↓z366_10p1, ↓z366_11, ↓z366_12, ↓z366_12p, ↓sg0, ↓sg1, ↓sg2, ↓sg3, ↓sg4, ↓sg5, ↓sg6, ↓sg7, ↓sg8, ↓sg9, ↓sg10, ↓sg11, ↓sg12, ↓sg13, ↓sg14, ↓sg15, ↓sg16, ↓sg17, ↓ss0, ↓ss1, ↓ss2, ↓ss3, ↓ss4, ↓ss5, ↓ss6, ↓ss7, ↓ss8, ↓ss9, ↓ss10, ↓ss11, ↓ss12, ↓ss13, ↓ss14, ↓ss15, ↓ss16, ↓ss17, ni5, ↓aft_of (ek), ↓aft_of (em), ↓aft_of (e2), e1, e7, e11, hl, Int32.add_zero, Nat.add_zero]
            | 3, _ =>
              simp +decide only [nl3] at ek em hl
              simp +decide only [x162_0, x162_1, x162_2, x162_3, x162_4, x162_4N, x162_5, x162_8, x162_12, x162_14, x162_17, x162_17N, x162_18, x162_20, x162_23, x162_25, x162_27, x162_28, x162_31, x162_31N, x162_32, x162_34, x162_35, x162_38, x162_38N, x162_39, x162_42, x162_44, x162_45, x162_48, x162_49, x162_52, x162_53, x162_55, x162_57, x162_57N, x162_58, x162_60, x162_61, x162_64, x162_67, x162_69, x162_72, x162_72N, x162_73, x162_76, x162_77, x162_78, x162_81, x162_82, x162_83, x162_85, x162_87, x162_88, x162_91, x162_92, x162_93, x162_94, x162_96, x162_97, x162_98, x162_101, x162_101N, x162_102, x162_105, x162_107, x162_109, x162_112, x162_112N, x162_113, x162_115, x162_116, x162_119, x162_122, x162_122N, x162_123, x162_126, x162_128, x162_129, x162_130, x162_130N, x162_131, x162_134, x162_136, x162_137, x162_138, x162_140, x162_143, x162_144, x162_147, x162_148, x162_149, x162_150, x162_150N, x162_151, x162_154, x162_156, x162_157, x162_158, x162_160, x162_161, x162_164, x162_165, x162_168, x162_169, x162_170, x162_171, x162_171N, x162_172, x162_175, x162_177, x162_178, x162_179, x162_180, x162_181, x162_182, x162_182N, x162_183, x162_186, x162_188, x162_189, x162_190, x162_192, x162_193, x162_194, x162_194N, x162_195, x162_197, x162_199, x162_201, x162_202, x162_202N, x162_203, x162_205, x162_207, x162_209, x162_210, x162_213, x162_214, x162_215, x162_218, x162_218N, x162_219, x162_222, x162_224, x162_227, x162_228, aft_some, aft_void, Option.bind_some, Option.toList_some, Option.toList_none, List.cons_append, List.nil_append, if_true, if_false, ↓reduceIte, eq_self, z366_o, ↓z366_0, ↓z366_0p, ↓z366_1, ↓z366_2, ↓z366_3, ↓z366_4, ↓z366_4p, ↓z366_5, ↓z366_6, ↓z366_6p0, ↓z366_6p1, ↓z366_7, ↓z366_8, ↓z366_8p, ↓z366_9, ↓z366_9p, ↓z366_10, ↓z366_10p0, ↓z366_10p1, ↓z366_11, ↓z366_12, ↓z366_12p, ↓sg0, ↓sg1, ↓sg2, ↓sg3, ↓sg4, ↓sg5, ↓sg6, ↓sg7, ↓sg8, ↓sg9, ↓sg10, ↓sg11, ↓sg12, ↓sg13, ↓sg14, ↓sg15, ↓sg16, ↓sg17, ↓ss0, ↓ss1, ↓ss2, ↓ss3, ↓ss4, ↓ss5, ↓ss6, ↓ss7, ↓ss8, ↓ss9, ↓ss10, ↓ss11, ↓ss12, ↓ss13, ↓ss14, ↓ss15, ↓ss16, ↓ss17, ni5, ↓aft_of (ek), ↓aft_of (em), ↓aft_of (e2), e1, e7, e11, hl, Int32.add_zero, Nat.add_zero]
        · obtain ⟨g, v5, v6, v7, e1, h1⟩ := r_ironBody (T := T) (P := P) (m := m) (cnt := nI d) (w5 := w5) (w6 := w6) (w7 := w7) h hw hi hk hlk hl
          have hw1 := WF_iron hw (gK_at hi) hk hop
          have hop1 := opN_in hk (hw.2.2.2.1 i _ (gK_at hi)).2.2.2.2 hop
          have hop2 := opL_set (c := inB (gK K i) k) (gK_at hi)
          have en := r_nextBasket (T := T) (P := P) h1 hw1
          simp only [hl, if_false]
          obtain ⟨f', e2, h2, w2⟩ := ih (d + 1) g _ _ (left - ndI V (gK K i) k) v5 v6 v7 (by omega) h1 hw1
          refine ⟨f', ?_, h2, w2⟩
          rw [show d + ((irS N n (inV V (gK K i) k) (K.set i (inB (gK K i) k)) (left - ndI V (gK K i) k)).1 + 1) = d + 1 + (irS N n (inV V (gK K i) k) (K.set i (inB (gK K i) k)) (left - ndI V (gK K i) k)).1 by omega, ← e2]
          show X 162 10 [.ref 366, .int m, .int left, .int (nI d), .int (nI i), w5, w6, w7] [] (H (upA T 367 f) P) = _
          rw [e1]
          simp +decide only [x162_0, x162_1, x162_2, x162_3, x162_4, x162_4N, x162_5, x162_8, x162_12, x162_14, x162_17, x162_17N, x162_18, x162_20, x162_23, x162_25, x162_27, x162_28, x162_31, x162_31N, x162_32, x162_34, x162_35, x162_38, x162_38N, x162_39, x162_42, x162_44, x162_45, x162_48, x162_49, x162_52, x162_53, x162_55, x162_57, x162_57N, x162_58, x162_60, x162_61, x162_64, x162_67, x162_69, x162_72, x162_72N, x162_73, x162_76, x162_77, x162_78, x162_81, x162_82, x162_83, x162_85, x162_87, x162_88, x162_91, x162_92, x162_93, x162_94, x162_96, x162_97, x162_98, x162_101, x162_101N, x162_102, x162_105, x162_107, x162_109, x162_112, x162_112N, x162_113, x162_115, x162_116, x162_119, x162_122, x162_122N, x162_123, x162_126, x162_128, x162_129, x162_130, x162_130N, x162_131, x162_134, x162_136, x162_137, x162_138, x162_140, x162_143, x162_144, x162_147, x162_148, x162_149, x162_150, x162_150N, x162_151, x162_154, x162_156, x162_157, x162_158, x162_160, x162_161, x162_164, x162_165, x162_168, x162_169, x162_170, x162_171, x162_171N, x162_172, x162_175, x162_177, x162_178, x162_179, x162_180, x162_181, x162_182, x162_182N, x162_183, x162_186, x162_188, x162_189, x162_190, x162_192, x162_193, x162_194, x162_194N, x162_195, x162_197, x162_199, x162_201, x162_202, x162_202N, x162_203, x162_205, x162_207, x162_209, x162_210, x162_213, x162_214, x162_215, x162_218, x162_218N, x162_219, x162_222, x162_224, x162_227, x162_228, aft_some, aft_void, Option.bind_some, Option.toList_some, Option.toList_none, List.cons_append, List.nil_append, if_true, if_false, ↓reduceIte, eq_self, z366_o, ↓z366_0, ↓z366_0p, ↓z366_1, ↓z366_2, ↓z366_3, ↓z366_4, ↓z366_4p, ↓z366_5, ↓z366_6, ↓z366_6p0, ↓z366_6p1, ↓z366_7, ↓z366_8, ↓z366_8p, ↓z366_9, ↓z366_9p, ↓z366_10, ↓z366_10p0, ↓z366_10p1, ↓z366_11, ↓z366_12, ↓z366_12p, ↓sg0, ↓sg1, ↓sg2, ↓sg3, ↓sg4, ↓sg5, ↓sg6, ↓sg7, ↓sg8, ↓sg9, ↓sg10, ↓sg11, ↓sg12, ↓sg13, ↓sg14, ↓sg15, ↓sg16, ↓sg17, ↓ss0, ↓ss1, ↓ss2, ↓ss3, ↓ss4, ↓ss5, ↓ss6, ↓ss7, ↓ss8, ↓ss9, ↓ss10, ↓ss11, ↓ss12, ↓ss13, ↓ss14, ↓ss15, ↓ss16, ↓ss17, ↓aft_of (en), nI_1]
          rfl
  have e0 := r_nextBasket (T := T) (P := P) h hw
  obtain ⟨f', e, r⟩ := key 288 0 f V K m (.long 0) (.long 0) (.long 0) hw.op h hw
  refine ⟨f', ?_, r⟩
  rw [Nat.zero_add] at e
  simp +decide only [x162_0, x162_1, x162_2, x162_3, x162_4, x162_4N, x162_5, x162_8, x162_12, x162_14, x162_17, x162_17N, x162_18, x162_20, x162_23, x162_25, x162_27, x162_28, x162_31, x162_31N, x162_32, x162_34, x162_35, x162_38, x162_38N, x162_39, x162_42, x162_44, x162_45, x162_48, x162_49, x162_52, x162_53, x162_55, x162_57, x162_57N, x162_58, x162_60, x162_61, x162_64, x162_67, x162_69, x162_72, x162_72N, x162_73, x162_76, x162_77, x162_78, x162_81, x162_82, x162_83, x162_85, x162_87, x162_88, x162_91, x162_92, x162_93, x162_94, x162_96, x162_97, x162_98, x162_101, x162_101N, x162_102, x162_105, x162_107, x162_109, x162_112, x162_112N, x162_113, x162_115, x162_116, x162_119, x162_122, x162_122N, x162_123, x162_126, x162_128, x162_129, x162_130, x162_130N, x162_131, x162_134, x162_136, x162_137, x162_138, x162_140, x162_143, x162_144, x162_147, x162_148, x162_149, x162_150, x162_150N, x162_151, x162_154, x162_156, x162_157, x162_158, x162_160, x162_161, x162_164, x162_165, x162_168, x162_169, x162_170, x162_171, x162_171N, x162_172, x162_175, x162_177, x162_178, x162_179, x162_180, x162_181, x162_182, x162_182N, x162_183, x162_186, x162_188, x162_189, x162_190, x162_192, x162_193, x162_194, x162_194N, x162_195, x162_197, x162_199, x162_201, x162_202, x162_202N, x162_203, x162_205, x162_207, x162_209, x162_210, x162_213, x162_214, x162_215, x162_218, x162_218N, x162_219, x162_222, x162_224, x162_227, x162_228, aft_some, aft_void, Option.bind_some, Option.toList_some, Option.toList_none, List.cons_append, List.nil_append, if_true, if_false, ↓reduceIte, eq_self, z366_o, ↓z366_0, ↓z366_0p, ↓z366_1, ↓z366_2, ↓z366_3, ↓z366_4, ↓z366_4p, ↓z366_5, ↓z366_6, ↓z366_6p0, ↓z366_6p1, ↓z366_7, ↓z366_8, ↓z366_8p, ↓z366_9, ↓z366_9p, ↓z366_10, ↓z366_10p0, ↓z366_10p1, ↓z366_11, ↓z366_12, ↓z366_12p, ↓sg0, ↓sg1, ↓sg2, ↓sg3, ↓sg4, ↓sg5, ↓sg6, ↓sg7, ↓sg8, ↓sg9, ↓sg10, ↓sg11, ↓sg12, ↓sg13, ↓sg14, ↓sg15, ↓sg16, ↓sg17, ↓ss0, ↓ss1, ↓ss2, ↓ss3, ↓ss4, ↓ss5, ↓ss6, ↓ss7, ↓ss8, ↓ss9, ↓ss10, ↓ss11, ↓ss12, ↓ss13, ↓ss14, ↓ss15, ↓ss16, ↓ss17, ↓aft_of (e0)]
  exact e
end IR
