/-! the law's holds: all baskets, customers, pieces; the end -/
theorem us_not0 : ∀ q, q < 8 → ∀ m, m < 256 → (∀ r, r < 8 → (nI m >>> (nI r &&& 31) &&& 1 = 0 ∧ ¬ r = q) → (nI m ||| ((1 : Int32) <<< (nI q &&& 31))) >>> (nI r &&& 31) &&& 1 = 0) := by decide +kernel
theorem us_not {f : Nat → Int32} {r : Nat} (hr : r < 8) : ∀ {n : Nat}, (∀ i, i < n → ∃ q, q < 8 ∧ f i = nI q) → (∀ i, i < n → f i ≠ nI r) → usI f n >>> (nI r &&& 31) &&& 1 = 0
  | 0, _, _ => by
    show (0 : Int32) >>> (nI r &&& 31) &&& 1 = 0
    have : ∀ r, r < 8 → (0 : Int32) >>> (nI r &&& 31) &&& 1 = 0 := by decide +kernel
    exact this r hr
  | n + 1, h, hn => by
    obtain ⟨m, hm, e, -⟩ := us_small (f := f) (n := n) (fun i hi => h i (by omega))
    obtain ⟨q, hq, eq⟩ := h n (by omega)
    have ih := us_not (f := f) hr (n := n) (fun i hi => h i (by omega)) (fun i hi => hn i (by omega))
    rw [e] at ih
    simp only [usI]
    rw [e, eq]
    refine us_not0 q hq m hm r hr ⟨ih, fun z => hn n (by omega) ?_⟩
    rw [eq, z]
theorem IP.ne {K : List kT} (h : IP K) {i j : Nat} (hi : i < K.length) (hj : j < K.length) (hne : i ≠ j) : gK K i 0 2 ≠ gK K j 0 2 := by
  have key : ∀ i j, i < j → j < K.length → gK K i 0 2 ≠ gK K j 0 2 := by
    intro i j hij hj
    have := List.pairwise_iff_getElem.mp h i j (by simpa using (show i < K.length by omega)) (by simpa using hj) hij
    rw [List.getElem_map, List.getElem_map] at this
    have e1 : gK K i = K[i] := gK_of (List.getElem?_eq_getElem (show i < K.length by omega))
    have e2 : gK K j = K[j] := gK_of (List.getElem?_eq_getElem hj)
    rw [e1, e2]
    exact this
  rcases Nat.lt_or_gt_of_ne hne with c | c
  · exact key i j c hj
  · exact (key j i c hi).symm
section HOLDS2
variable {T EE : Nat → Nat → Int32} {P : Nat → Nat → Nat} {s : gT} {n : Nat}
/-- all baskets -/
theorem ho_1 (h : CG EE T P s) (hp : IP s.1.2) (v9 v10 v11 v12 v13 v14 v15 : Value) : ∃ p w9 w10 w11 w12 w13 w14 w15, X 126 21 [.ref 0, .int 0, .int 0, .int 0, .int 0, .int 0, .int 0, .int 0, .int 0, v9, v10, v11, v12, v13, v14, v15] [] (H T P) = X 126 305 [.ref 0, .int p, .int (lsI msT s.1.2), .int (smI (fun i => nhI (gK s.1.2 i 2)) s.1.2.length), .int 0, .int 0, .int 0, .int (smI (fun i => rdK (gK s.1.2 i)) s.1.2.length), .int 0, w9, w10, w11, w12, w13, w14, w15] [] (H T P) := by
  have hw := h.wg.1
  have h8 := hw.1.1.2.2.2.1
  have k2 := k_2 h
  have hq : ∀ i, i < s.1.2.length → ∃ q, q < 8 ∧ gK s.1.2 (pU s.1 i) 0 2 = nI q := fun i hi => (hw.1.2.2.2.1 _ _ (gK_at (pO_at (t := tU s.1) hi).1)).2.1
  obtain ⟨⟨w9, w10, w11, w12, w13, w14, w15⟩, hl, -⟩ := loop_ex (fun k (v : Value × Value × Value × Value × Value × Value × Value) => X 126 21 [.ref 0, .int (usI (fun j => gK s.1.2 (pU s.1 j) 0 2) k), .int (smI (fun j => msT (gK s.1.2 (pU s.1 j))) k), .int (smI (fun j => nhI (gK s.1.2 (pU s.1 j) 2)) k), .int 0, .int 0, .int 0, .int (smI (fun j => rdK (gK s.1.2 (pU s.1 j))) k), .int (nI k), v.1, v.2.1, v.2.2.1, v.2.2.2.1, v.2.2.2.2.1, v.2.2.2.2.2.1, v.2.2.2.2.2.2] [] (H T P)) (fun _ _ => True) s.1.2.length (v9, v10, v11, v12, v13, v14, v15) trivial (by
    intro k ⟨u9, u10, u11, u12, u13, u14, u15⟩ hk _
    obtain ⟨q, hq8, eq⟩ := hq k hk
    have hpin : usI (fun j => gK s.1.2 (pU s.1 j) 0 2) k >>> (gK s.1.2 (pU s.1 k) 0 2 &&& 31) &&& 1 = 0 := by
      rw [eq]
      refine us_not hq8 (fun i hi => hq i (by omega)) (fun i hi => ?_)
      rw [← eq]
      obtain ⟨a1, a2⟩ := pO_at (t := tU s.1) (show i < s.1.2.length by omega)
      obtain ⟨b1, b2⟩ := pO_at (t := tU s.1) hk
      refine hp.ne a1 b1 (fun z => ?_)
      have z : pO (tU s.1) s.1.2.length i = pO (tU s.1) s.1.2.length k := z
      rw [z, b2] at a2
      omega
    obtain ⟨z9, z10, z11, z12, z13, z14, z15, e⟩ := ho_bask h hk hpin (mi := smI (fun j => msT (gK s.1.2 (pU s.1 j))) k) (on := smI (fun j => nhI (gK s.1.2 (pU s.1 j) 2)) k) (rd := smI (fun j => rdK (gK s.1.2 (pU s.1 j))) k) u9 u10 u11 u12 u13 u14 u15
    exact ⟨(z9, z10, z11, z12, z13, z14, z15), e, trivial⟩)
  have hl : X 126 21 [.ref 0, .int 0, .int 0, .int 0, .int 0, .int 0, .int 0, .int 0, .int 0, v9, v10, v11, v12, v13, v14, v15] [] (H T P) = X 126 21 [.ref 0, .int (usI (fun j => gK s.1.2 (pU s.1 j) 0 2) s.1.2.length), .int (smI (fun j => msT (gK s.1.2 (pU s.1 j))) s.1.2.length), .int (smI (fun j => nhI (gK s.1.2 (pU s.1 j) 2)) s.1.2.length), .int 0, .int 0, .int 0, .int (smI (fun j => rdK (gK s.1.2 (pU s.1 j))) s.1.2.length), .int (nI s.1.2.length), w9, w10, w11, w12, w13, w14, w15] [] (H T P) := hl
  have e1 : smI (fun j => msT (gK s.1.2 (pU s.1 j))) s.1.2.length = lsI msT s.1.2 := (pO_sum (tU s.1) (fun i => msT (gK s.1.2 i)) s.1.2.length).trans (sm_lsI msT s.1.2)
  have e2 : smI (fun j => nhI (gK s.1.2 (pU s.1 j) 2)) s.1.2.length = smI (fun i => nhI (gK s.1.2 i 2)) s.1.2.length := pO_sum (tU s.1) (fun i => nhI (gK s.1.2 i 2)) s.1.2.length
  have e3 : smI (fun j => rdK (gK s.1.2 (pU s.1 j))) s.1.2.length = smI (fun i => rdK (gK s.1.2 i)) s.1.2.length := pO_sum (tU s.1) (fun i => rdK (gK s.1.2 i)) s.1.2.length
  rw [e1, e2, e3] at hl
  refine ⟨usI (fun j => gK s.1.2 (pU s.1 j) 0 2) s.1.2.length, w9, w10, w11, w12, w13, w14, w15, ?_⟩
  rw [hl, x126_21]
  simp +decide only [x126_0, x126_1, x126_2, x126_3, x126_4, x126_5, x126_6, x126_7, x126_9, x126_10, x126_12, x126_13, x126_15, x126_16, x126_18, x126_19, x126_23, x126_24, x126_25, x126_28, x126_31, x126_32, x126_34, x126_37, x126_39, x126_40, x126_42, x126_43, x126_46, x126_48, x126_49, x126_51, x126_53, x126_56, x126_58, x126_61, x126_63, x126_65, x126_68, x126_69, x126_71, x126_72, x126_73, x126_74, x126_75, x126_78, x126_79, x126_80, x126_81, x126_82, x126_84, x126_85, x126_86, x126_87, x126_90, x126_92, x126_94, x126_97, x126_98, x126_100, x126_101, x126_104, x126_106, x126_107, x126_109, x126_110, x126_112, x126_113, x126_115, x126_116, x126_119, x126_121, x126_122, x126_124, x126_125, x126_127, x126_128, x126_130, x126_131, x126_134, x126_136, x126_137, x126_139, x126_140, x126_142, x126_144, x126_146, x126_147, x126_149, x126_152, x126_153, x126_154, x126_155, x126_157, x126_158, x126_159, x126_160, x126_162, x126_163, x126_166, x126_168, x126_171, x126_172, x126_173, x126_174, x126_176, x126_179, x126_181, x126_183, x126_186, x126_187, x126_190, x126_191, x126_193, x126_195, x126_197, x126_198, x126_200, x126_203, x126_205, x126_207, x126_210, x126_211, x126_214, x126_215, x126_216, x126_218, x126_219, x126_221, x126_223, x126_226, x126_227, x126_230, x126_231, x126_234, x126_235, x126_237, x126_240, x126_241, x126_243, x126_245, x126_248, x126_251, x126_252, x126_255, x126_256, x126_258, x126_261, x126_262, x126_264, x126_265, x126_268, x126_269, x126_271, x126_272, x126_275, x126_276, x126_278, x126_279, x126_282, x126_283, x126_286, x126_287, x126_290, x126_291, x126_294, x126_295, x126_296, x126_299, x126_302, x126_303, x126_307, x126_308, x126_309, x126_312, x126_315, x126_317, x126_318, x126_320, x126_321, x126_324, x126_325, x126_327, x126_329, x126_330, x126_332, x126_333, x126_336, x126_337, x126_339, x126_341, x126_342, x126_344, x126_345, x126_348, x126_349, x126_351, x126_352, x126_354, x126_355, x126_358, x126_361, x126_362, x126_365, x126_366, x126_367, x126_369, x126_370, x126_373, x126_376, x126_377, x126_380, x126_381, x126_384, x126_385, x126_386, x126_389, x126_392, x126_393, x126_395, x126_397, x126_398, x126_400, x126_403, x126_406, x126_407, x126_409, x126_410, x126_413, x126_414, x126_417, x126_418, x126_420, x126_421, x126_424, x126_427, x126_428, x126_429, x126_432, x126_435, x126_436, x126_437, x126_440, x126_441, x126_443, x126_446, x126_447, x126_448, x126_450, x126_453, x126_454, x126_455, x126_457, x126_460, x126_461, x126_463, x126_464, x126_466, x126_469, x126_470, x126_473, x126_474, x126_477, x126_478, x126_480, x126_482, x126_485, x126_486, x126_487, x126_489, x126_492, x126_495, x126_496, x126_497, x126_499, x126_502, x126_505, x126_507, x126_508, x126_510, x126_513, x126_516, x126_518, x126_519, x126_521, x126_524, x126_527, x126_529, x126_530, x126_532, x126_535, x126_538, x126_540, x126_541, x126_542, x126_545, x126_548, x126_549, x126_550, x126_553, x126_556, x126_557, x126_558, x126_561, x126_563, x126_566, x126_567, x126_568, x126_569, x126_572, x126_575, x126_577, x126_580, x126_581, x126_584, x126_585, aft_some, aft_void, Option.bind_some, Option.toList_some, Option.toList_none, List.cons_append, List.nil_append, if_true, if_false, ↓reduceIte, eq_self, z0_o, ↓z0_0, ↓z0_1, ↓z0_2, ↓z0_3, ↓z0_4, ↓z0_5, ↓z0_5p0, ↓z0_5p1, ↓aft_of (k2), nI_nlt (Nat.le_refl s.1.2.length) (show s.1.2.length < 2 ^ 31 by omega)]
theorem first_out {c : Nat} : ∀ {B : List bT}, (∀ q ∈ B, 0 < q.2.2 ∧ q.2.1 < 2 ^ 31) → ((0 < outL c B) ↔ ¬ firstL c B < 0)
  | [], _ => by
    show (0 < 0) ↔ ¬ ((-5 : Int32) < 0)
    exact ⟨fun h => absurd h (Nat.lt_irrefl 0), fun h => absurd (by decide) h⟩
  | q :: B, h => by
    have ih := first_out (c := c) (B := B) (fun p hp => h p (List.mem_cons_of_mem _ hp))
    obtain ⟨h1, h2⟩ := h q List.mem_cons_self
    simp only [outL, firstL]
    by_cases e : q.1 = c
    · rw [if_pos e, if_pos e]
      exact ⟨fun _ => nI_nn h2, fun _ => by omega⟩
    · rw [if_neg e, if_neg e, Nat.zero_add]
      exact ih
/-- all customers -/
theorem ho_2 (h : CG EE T P s) (p mi on rd : Int32) (w9 w10 w11 w12 w13 w14 w15 : Value) : X 126 305 [.ref 0, .int p, .int mi, .int on, .int 0, .int 0, .int 0, .int rd, .int 0, w9, w10, w11, w12, w13, w14, w15] [] (H T P) = X 126 395 [.ref 0, .int p, .int mi, .int on, .int (nI (allL s.1.1.2.2.1)), .int (smI (s.1.1.2.1 6) (s.1.1.1 1)), .int (smI (s.1.1.2.1 5) (s.1.1.1 1)), .int rd, .int 0, w9, w10, w11, w12, w13, w14, w15] [] (H T P) := by
  have hw := h.wg.1
  have hN1 := hw.1.1.2.1
  have k1 := k_1 h
  obtain ⟨w6, -, w7⟩ := hw.1.2.2.2.2.2.1
  have hall := all_le (n := 27) s.1.1.2.2.1 (fun q hq => (w6 q hq).2.2.2.2)
  have hN2 := hw.1.1.2.2.1
  have hN0 := hw.2
  have hstep : ∀ c, c < s.1.1.1 1 → X 126 305 [.ref 0, .int p, .int mi, .int on, .int (nI (sN (fun c => outL c s.1.1.2.2.1) c)), .int (smI (s.1.1.2.1 6) c), .int (smI (s.1.1.2.1 5) c), .int rd, .int (nI c), w9, w10, w11, w12, w13, w14, w15] [] (H T P) = X 126 305 [.ref 0, .int p, .int mi, .int on, .int (nI (sN (fun c => outL c s.1.1.2.2.1) (c + 1))), .int (smI (s.1.1.2.1 6) (c + 1)), .int (smI (s.1.1.2.1 5) (c + 1)), .int rd, .int (nI (c + 1)), w9, w10, w11, w12, w13, w14, w15] [] (H T P) := by
    intro c hc
    have hlt : nI c < nI (s.1.1.1 1) := nI_lt hc (by omega)
    have hs : hsI (s.1.1.1 1) (nI c) := ⟨nI_nn (by omega), hlt⟩
    have hcl : (nI c).toNatClampNeg = c := nI_clamp (by omega)
    have g1 : gCus (nI c) 1 s = nI (outL c s.1.1.2.2.1) := by unfold gCus; rw [if_pos hs, hcl]; rfl
    have g2 : gCus (nI c) 2 s = s.1.1.2.1 5 c := by unfold gCus; rw [if_pos hs, hcl]; rfl
    have g3 : gCus (nI c) 3 s = s.1.1.2.1 6 c := by unfold gCus; rw [if_pos hs, hcl]; rfl
    have g5 : gCus (nI c) 5 s = firstL c s.1.1.2.2.1 := by unfold gCus; rw [if_pos hs, hcl]; rfl
    have e1 := g_cus rfl h (nI c) 1
    have e2 := g_cus rfl h (nI c) 2
    have e3 := g_cus rfl h (nI c) 3
    have e5 := g_cus rfl h (nI c) 5
    rw [g1] at e1
    rw [g2] at e2
    rw [g3] at e3
    rw [g5] at e5
    have hfo := first_out (c := c) (B := s.1.1.2.2.1) (fun q hq => ⟨(w6 q hq).2.2.2.1, by have := (w6 q hq).2.1; omega⟩)
    have hol := out_le c s.1.1.2.2.1
    have hpos : (0 < nI (outL c s.1.1.2.2.1)) = (0 < outL c s.1.1.2.2.1) := nI_posn (by omega)
    show _ = X 126 305 [.ref 0, .int p, .int mi, .int on, .int (nI (sN (fun c => outL c s.1.1.2.2.1) c + outL c s.1.1.2.2.1)), .int (smI (s.1.1.2.1 6) c + s.1.1.2.1 6 c), .int (smI (s.1.1.2.1 5) c + s.1.1.2.1 5 c), .int rd, .int (nI (c + 1)), w9, w10, w11, w12, w13, w14, w15] [] (H T P)
    rw [x126_305]
    by_cases q : 0 < outL c s.1.1.2.2.1
    · have q1 := hpos.trans (eq_true q)
      have q2 := eq_false (hfo.mp q)
      simp +decide only [x126_0, x126_1, x126_2, x126_3, x126_4, x126_5, x126_6, x126_7, x126_9, x126_10, x126_12, x126_13, x126_15, x126_16, x126_18, x126_19, x126_21, x126_23, x126_24, x126_25, x126_28, x126_31, x126_32, x126_34, x126_37, x126_39, x126_40, x126_42, x126_43, x126_46, x126_48, x126_49, x126_51, x126_53, x126_56, x126_58, x126_61, x126_63, x126_65, x126_68, x126_69, x126_71, x126_72, x126_73, x126_74, x126_75, x126_78, x126_79, x126_80, x126_81, x126_82, x126_84, x126_85, x126_86, x126_87, x126_90, x126_92, x126_94, x126_97, x126_98, x126_100, x126_101, x126_104, x126_106, x126_107, x126_109, x126_110, x126_112, x126_113, x126_115, x126_116, x126_119, x126_121, x126_122, x126_124, x126_125, x126_127, x126_128, x126_130, x126_131, x126_134, x126_136, x126_137, x126_139, x126_140, x126_142, x126_144, x126_146, x126_147, x126_149, x126_152, x126_153, x126_154, x126_155, x126_157, x126_158, x126_159, x126_160, x126_162, x126_163, x126_166, x126_168, x126_171, x126_172, x126_173, x126_174, x126_176, x126_179, x126_181, x126_183, x126_186, x126_187, x126_190, x126_191, x126_193, x126_195, x126_197, x126_198, x126_200, x126_203, x126_205, x126_207, x126_210, x126_211, x126_214, x126_215, x126_216, x126_218, x126_219, x126_221, x126_223, x126_226, x126_227, x126_230, x126_231, x126_234, x126_235, x126_237, x126_240, x126_241, x126_243, x126_245, x126_248, x126_251, x126_252, x126_255, x126_256, x126_258, x126_261, x126_262, x126_264, x126_265, x126_268, x126_269, x126_271, x126_272, x126_275, x126_276, x126_278, x126_279, x126_282, x126_283, x126_286, x126_287, x126_290, x126_291, x126_294, x126_295, x126_296, x126_299, x126_302, x126_303, x126_307, x126_308, x126_309, x126_312, x126_315, x126_317, x126_318, x126_320, x126_321, x126_324, x126_325, x126_327, x126_329, x126_330, x126_332, x126_333, x126_336, x126_337, x126_339, x126_341, x126_342, x126_344, x126_345, x126_348, x126_349, x126_351, x126_352, x126_354, x126_355, x126_358, x126_361, x126_362, x126_365, x126_366, x126_367, x126_369, x126_370, x126_373, x126_376, x126_377, x126_380, x126_381, x126_384, x126_385, x126_386, x126_389, x126_393, x126_395, x126_397, x126_398, x126_400, x126_403, x126_406, x126_407, x126_409, x126_410, x126_413, x126_414, x126_417, x126_418, x126_420, x126_421, x126_424, x126_427, x126_428, x126_429, x126_432, x126_435, x126_436, x126_437, x126_440, x126_441, x126_443, x126_446, x126_447, x126_448, x126_450, x126_453, x126_454, x126_455, x126_457, x126_460, x126_461, x126_463, x126_464, x126_466, x126_469, x126_470, x126_473, x126_474, x126_477, x126_478, x126_480, x126_482, x126_485, x126_486, x126_487, x126_489, x126_492, x126_495, x126_496, x126_497, x126_499, x126_502, x126_505, x126_507, x126_508, x126_510, x126_513, x126_516, x126_518, x126_519, x126_521, x126_524, x126_527, x126_529, x126_530, x126_532, x126_535, x126_538, x126_540, x126_541, x126_542, x126_545, x126_548, x126_549, x126_550, x126_553, x126_556, x126_557, x126_558, x126_561, x126_563, x126_566, x126_567, x126_568, x126_569, x126_572, x126_575, x126_577, x126_580, x126_581, x126_584, x126_585, aft_some, aft_void, Option.bind_some, Option.toList_some, Option.toList_none, List.cons_append, List.nil_append, if_true, if_false, ↓reduceIte, eq_self, z0_o, ↓z0_0, ↓z0_1, ↓z0_2, ↓z0_3, ↓z0_4, ↓z0_5, ↓z0_5p0, ↓z0_5p1, hlt, ↓aft_of (k1), ↓aft_of (e1), ↓aft_of (e2), ↓aft_of (e3), ↓aft_of (e5), q1, q2, nI_add, nI_1]
    · have q1 := hpos.trans (eq_false q)
      have q2 : (firstL c s.1.1.2.2.1 < 0) = True := eq_true (Decidable.not_not.mp (fun z => q (hfo.mpr z)))
      simp +decide only [x126_0, x126_1, x126_2, x126_3, x126_4, x126_5, x126_6, x126_7, x126_9, x126_10, x126_12, x126_13, x126_15, x126_16, x126_18, x126_19, x126_21, x126_23, x126_24, x126_25, x126_28, x126_31, x126_32, x126_34, x126_37, x126_39, x126_40, x126_42, x126_43, x126_46, x126_48, x126_49, x126_51, x126_53, x126_56, x126_58, x126_61, x126_63, x126_65, x126_68, x126_69, x126_71, x126_72, x126_73, x126_74, x126_75, x126_78, x126_79, x126_80, x126_81, x126_82, x126_84, x126_85, x126_86, x126_87, x126_90, x126_92, x126_94, x126_97, x126_98, x126_100, x126_101, x126_104, x126_106, x126_107, x126_109, x126_110, x126_112, x126_113, x126_115, x126_116, x126_119, x126_121, x126_122, x126_124, x126_125, x126_127, x126_128, x126_130, x126_131, x126_134, x126_136, x126_137, x126_139, x126_140, x126_142, x126_144, x126_146, x126_147, x126_149, x126_152, x126_153, x126_154, x126_155, x126_157, x126_158, x126_159, x126_160, x126_162, x126_163, x126_166, x126_168, x126_171, x126_172, x126_173, x126_174, x126_176, x126_179, x126_181, x126_183, x126_186, x126_187, x126_190, x126_191, x126_193, x126_195, x126_197, x126_198, x126_200, x126_203, x126_205, x126_207, x126_210, x126_211, x126_214, x126_215, x126_216, x126_218, x126_219, x126_221, x126_223, x126_226, x126_227, x126_230, x126_231, x126_234, x126_235, x126_237, x126_240, x126_241, x126_243, x126_245, x126_248, x126_251, x126_252, x126_255, x126_256, x126_258, x126_261, x126_262, x126_264, x126_265, x126_268, x126_269, x126_271, x126_272, x126_275, x126_276, x126_278, x126_279, x126_282, x126_283, x126_286, x126_287, x126_290, x126_291, x126_294, x126_295, x126_296, x126_299, x126_302, x126_303, x126_307, x126_308, x126_309, x126_312, x126_315, x126_317, x126_318, x126_320, x126_321, x126_324, x126_325, x126_327, x126_329, x126_330, x126_332, x126_333, x126_336, x126_337, x126_339, x126_341, x126_342, x126_344, x126_345, x126_348, x126_349, x126_351, x126_352, x126_354, x126_355, x126_358, x126_361, x126_362, x126_365, x126_366, x126_367, x126_369, x126_370, x126_373, x126_376, x126_377, x126_380, x126_381, x126_384, x126_385, x126_386, x126_389, x126_393, x126_395, x126_397, x126_398, x126_400, x126_403, x126_406, x126_407, x126_409, x126_410, x126_413, x126_414, x126_417, x126_418, x126_420, x126_421, x126_424, x126_427, x126_428, x126_429, x126_432, x126_435, x126_436, x126_437, x126_440, x126_441, x126_443, x126_446, x126_447, x126_448, x126_450, x126_453, x126_454, x126_455, x126_457, x126_460, x126_461, x126_463, x126_464, x126_466, x126_469, x126_470, x126_473, x126_474, x126_477, x126_478, x126_480, x126_482, x126_485, x126_486, x126_487, x126_489, x126_492, x126_495, x126_496, x126_497, x126_499, x126_502, x126_505, x126_507, x126_508, x126_510, x126_513, x126_516, x126_518, x126_519, x126_521, x126_524, x126_527, x126_529, x126_530, x126_532, x126_535, x126_538, x126_540, x126_541, x126_542, x126_545, x126_548, x126_549, x126_550, x126_553, x126_556, x126_557, x126_558, x126_561, x126_563, x126_566, x126_567, x126_568, x126_569, x126_572, x126_575, x126_577, x126_580, x126_581, x126_584, x126_585, aft_some, aft_void, Option.bind_some, Option.toList_some, Option.toList_none, List.cons_append, List.nil_append, if_true, if_false, ↓reduceIte, eq_self, z0_o, ↓z0_0, ↓z0_1, ↓z0_2, ↓z0_3, ↓z0_4, ↓z0_5, ↓z0_5p0, ↓z0_5p1, hlt, ↓aft_of (k1), ↓aft_of (e1), ↓aft_of (e2), ↓aft_of (e3), ↓aft_of (e5), q1, q2, nI_add, nI_1]
  have hl := loop_up (fun c => X 126 305 [.ref 0, .int p, .int mi, .int on, .int (nI (sN (fun c => outL c s.1.1.2.2.1) c)), .int (smI (s.1.1.2.1 6) c), .int (smI (s.1.1.2.1 5) c), .int rd, .int (nI c), w9, w10, w11, w12, w13, w14, w15] [] (H T P)) (s.1.1.1 1) hstep
  have hl : X 126 305 [.ref 0, .int p, .int mi, .int on, .int 0, .int 0, .int 0, .int rd, .int 0, w9, w10, w11, w12, w13, w14, w15] [] (H T P) = X 126 305 [.ref 0, .int p, .int mi, .int on, .int (nI (sN (fun c => outL c s.1.1.2.2.1) (s.1.1.1 1))), .int (smI (s.1.1.2.1 6) (s.1.1.1 1)), .int (smI (s.1.1.2.1 5) (s.1.1.1 1)), .int rd, .int (nI (s.1.1.1 1)), w9, w10, w11, w12, w13, w14, w15] [] (H T P) := hl
  rw [all_sum (fun q hq => (w6 q hq).1)] at hl
  rw [hl, x126_305]
  simp +decide only [x126_0, x126_1, x126_2, x126_3, x126_4, x126_5, x126_6, x126_7, x126_9, x126_10, x126_12, x126_13, x126_15, x126_16, x126_18, x126_19, x126_21, x126_23, x126_24, x126_25, x126_28, x126_31, x126_32, x126_34, x126_37, x126_39, x126_40, x126_42, x126_43, x126_46, x126_48, x126_49, x126_51, x126_53, x126_56, x126_58, x126_61, x126_63, x126_65, x126_68, x126_69, x126_71, x126_72, x126_73, x126_74, x126_75, x126_78, x126_79, x126_80, x126_81, x126_82, x126_84, x126_85, x126_86, x126_87, x126_90, x126_92, x126_94, x126_97, x126_98, x126_100, x126_101, x126_104, x126_106, x126_107, x126_109, x126_110, x126_112, x126_113, x126_115, x126_116, x126_119, x126_121, x126_122, x126_124, x126_125, x126_127, x126_128, x126_130, x126_131, x126_134, x126_136, x126_137, x126_139, x126_140, x126_142, x126_144, x126_146, x126_147, x126_149, x126_152, x126_153, x126_154, x126_155, x126_157, x126_158, x126_159, x126_160, x126_162, x126_163, x126_166, x126_168, x126_171, x126_172, x126_173, x126_174, x126_176, x126_179, x126_181, x126_183, x126_186, x126_187, x126_190, x126_191, x126_193, x126_195, x126_197, x126_198, x126_200, x126_203, x126_205, x126_207, x126_210, x126_211, x126_214, x126_215, x126_216, x126_218, x126_219, x126_221, x126_223, x126_226, x126_227, x126_230, x126_231, x126_234, x126_235, x126_237, x126_240, x126_241, x126_243, x126_245, x126_248, x126_251, x126_252, x126_255, x126_256, x126_258, x126_261, x126_262, x126_264, x126_265, x126_268, x126_269, x126_271, x126_272, x126_275, x126_276, x126_278, x126_279, x126_282, x126_283, x126_286, x126_287, x126_290, x126_291, x126_294, x126_295, x126_296, x126_299, x126_302, x126_303, x126_307, x126_308, x126_309, x126_312, x126_315, x126_317, x126_318, x126_320, x126_321, x126_324, x126_325, x126_327, x126_329, x126_330, x126_332, x126_333, x126_336, x126_337, x126_339, x126_341, x126_342, x126_344, x126_345, x126_348, x126_349, x126_351, x126_352, x126_354, x126_355, x126_358, x126_361, x126_362, x126_365, x126_366, x126_367, x126_369, x126_370, x126_373, x126_376, x126_377, x126_380, x126_381, x126_384, x126_385, x126_386, x126_389, x126_392, x126_393, x126_397, x126_398, x126_400, x126_403, x126_406, x126_407, x126_409, x126_410, x126_413, x126_414, x126_417, x126_418, x126_420, x126_421, x126_424, x126_427, x126_428, x126_429, x126_432, x126_435, x126_436, x126_437, x126_440, x126_441, x126_443, x126_446, x126_447, x126_448, x126_450, x126_453, x126_454, x126_455, x126_457, x126_460, x126_461, x126_463, x126_464, x126_466, x126_469, x126_470, x126_473, x126_474, x126_477, x126_478, x126_480, x126_482, x126_485, x126_486, x126_487, x126_489, x126_492, x126_495, x126_496, x126_497, x126_499, x126_502, x126_505, x126_507, x126_508, x126_510, x126_513, x126_516, x126_518, x126_519, x126_521, x126_524, x126_527, x126_529, x126_530, x126_532, x126_535, x126_538, x126_540, x126_541, x126_542, x126_545, x126_548, x126_549, x126_550, x126_553, x126_556, x126_557, x126_558, x126_561, x126_563, x126_566, x126_567, x126_568, x126_569, x126_572, x126_575, x126_577, x126_580, x126_581, x126_584, x126_585, aft_some, aft_void, Option.bind_some, Option.toList_some, Option.toList_none, List.cons_append, List.nil_append, if_true, if_false, ↓reduceIte, eq_self, z0_o, ↓z0_0, ↓z0_1, ↓z0_2, ↓z0_3, ↓z0_4, ↓z0_5, ↓z0_5p0, ↓z0_5p1, ↓aft_of (k1), nI_nlt (Nat.le_refl (s.1.1.1 1)) (show s.1.1.1 1 < 2 ^ 31 by omega)]
/-- a piece without a pin can be somebody's -/
theorem lt_ms {N3 : Nat} {f g : Nat → Int32} {K : List kT} (hl : IL N3 f g K) (h20 : N3 ≤ 20) (hK : ∀ b ∈ K, BD b) (hid : ∀ b ∈ K, ¬ b 0 0 < 0) (h8 : K.length ≤ 8) {p k : Nat} (hp : p < N3) (hk : k < 4) (ek : f p = nI k) : ¬ msN k (g p) K < 1 ∧ ¬ msL k (g p) K < 0 := by
  have hc : 0 < ntL N3 f g k (g p) ∧ ntL N3 f g k (g p) ≤ N3 := by
    constructor
    · unfold ntL
      have : ∀ n, p < n → 0 < sN (fun q => if f q = nI k ∧ g q = g p then 1 else 0) n := by
        intro n
        induction n with
        | zero => intro h; omega
        | succ n ih =>
          intro h
          simp only [sN]
          by_cases e : p = n
          · subst e; rw [if_pos ⟨ek, rfl⟩]; omega
          · have := ih (by omega); omega
      exact this N3 hp
    · unfold ntL
      have : ∀ n, sN (fun q => if f q = nI k ∧ g q = g p then 1 else 0) n ≤ n := by
        intro n
        induction n with
        | zero => exact Nat.le_refl _
        | succ n ih =>
          simp only [sN]
          split <;> omega
      exact this N3
  have hne : ¬ lsI (msD k (g p)) K = 0 := by
    rw [← hl.2 k hk (g p), show (0 : Int32) = nI 0 from rfl, nI_eq (by omega) (by decide)]
    omega
  obtain ⟨b, hb, hm⟩ := lsI_ne hne
  have hms : msK k (g p) b = 1 := by
    unfold msD at hm
    unfold msK
    by_cases c : dgI (b 0 3) k = g p
    · rw [if_pos c] at hm
      obtain ⟨x, y, z, l1, l2, -, -, e3⟩ := (hK b hb).2 k hk
      rw [e3] at hm ⊢
      have hz : 0 < z := by
        rcases Nat.eq_zero_or_pos z with q | q
        · rw [q] at hm; exact absurd rfl hm
        · exact q
      rw [if_pos ⟨by rw [nI_posn (by omega)]; exact hz, c⟩]
    · rw [if_neg c] at hm
      exact absurd rfl hm
  obtain ⟨i, hi⟩ := List.mem_iff_getElem?.mp hb
  have hil := (List.getElem?_eq_some_iff.mp hi).1
  have h01 : ∀ b, msK k (g p) b = 0 ∨ msK k (g p) b = 1 := fun b => by
    unfold msK
    split
    · exact Or.inr rfl
    · exact Or.inl rfl
  constructor
  · have : ∀ n, n ≤ 8 → (∃ y, y ≤ n ∧ smI (fun i => msK k (g p) (gK K i)) n = nI y ∧ (i < n → 1 ≤ y)) := by
      intro n
      induction n with
      | zero => intro _; exact ⟨0, Nat.le_refl _, rfl, fun z => absurd z (Nat.not_lt_zero _)⟩
      | succ n ih =>
        intro hn
        obtain ⟨y, h1, h2, h3⟩ := ih (by omega)
        simp only [smI]
        rw [h2]
        rcases h01 (gK K n) with e | e
        · rw [e]
          refine ⟨y, by omega, Int32.add_zero _, fun z => ?_⟩
          by_cases q : i = n
          · subst q
            rw [gK_of hi] at e
            rw [hms] at e
            exact absurd e (by decide)
          · exact h3 (by omega)
        · rw [e]
          exact ⟨y + 1, by omega, nI_add y 1, fun _ => by omega⟩
    obtain ⟨y, h1, h2, h3⟩ := this K.length h8
    unfold msN
    rw [h2, show (1 : Int32) = nI 1 from rfl, nI_ltp (by omega) (by decide)]
    have := h3 hil
    omega
  · unfold msL
    cases hq : fstN (fun i => msK k (g p) (gK K i) = 1) 0 K.length with
    | none =>
      have : ∀ n a, fstN (fun i => msK k (g p) (gK K i) = 1) a n = none → ∀ j, a ≤ j → j < a + n → ¬ msK k (g p) (gK K j) = 1 := by
        intro n
        induction n with
        | zero => intro a _ j h1 h2; omega
        | succ n ih =>
          intro a h j h1 h2
          have h : @ite _ (msK k (g p) (gK K a) = 1) (Classical.propDecidable _) (some a) (fstN (fun i => msK k (g p) (gK K i) = 1) (a + 1) n) = none := h
          by_cases c : msK k (g p) (gK K a) = 1
          · rw [if_pos c] at h; cases h
          · rw [if_neg c] at h
            by_cases e : j = a
            · rw [e]; exact c
            · exact ih (a + 1) h j (by omega) (by omega)
      have := this _ _ hq i (Nat.zero_le _) (by omega)
      rw [gK_of hi] at this
      exact absurd hms this
    | some j =>
      have hj := (fstN_some hq).2.1
      exact hid _ (List.mem_of_getElem? (gK_at (show j < K.length by omega)))
/-- all pieces without a pin -/
theorem ho_3 (h : CG EE T P s) (hl : IL (s.1.1.1 3) (s.1.1.2.1 46) (s.1.1.2.1 47) s.1.2) (p mi on o4 o5 o6 rd : Int32) (w9 w10 w11 w12 w13 w14 w15 : Value) : X 126 395 [.ref 0, .int p, .int mi, .int on, .int o4, .int o5, .int o6, .int rd, .int 0, w9, w10, w11, w12, w13, w14, w15] [] (H T P) = X 126 435 [.ref 0, .int p, .int mi, .int on, .int o4, .int o5, .int o6, .int rd, .int (nI (s.1.1.1 3)), w9, w10, w11, w12, w13, w14, w15] [] (H T P) := by
  have hw := h.wg.1
  have h20 := hw.1.1.2.2.2.2.1
  have h99 := hw.1.1.2.2.1
  have k10 := k_10 h
  have hK : ∀ b ∈ s.1.2, BD b := fun b hb => by
    obtain ⟨i, hi⟩ := List.mem_iff_getElem?.mp hb
    exact (hw.1.2.2.2.1 i b hi).2.2.2
  have hid : ∀ b ∈ s.1.2, ¬ b 0 0 < 0 := fun b hb => by
    obtain ⟨i, hi⟩ := List.mem_iff_getElem?.mp hb
    obtain ⟨x, hx, ex⟩ := (hw.1.2.2.2.1 i b hi).2.2.1
    rw [ex]
    exact nI_nn (by omega)
  have hstep : ∀ c, c < s.1.1.1 3 → X 126 395 [.ref 0, .int p, .int mi, .int on, .int o4, .int o5, .int o6, .int rd, .int (nI c), w9, w10, w11, w12, w13, w14, w15] [] (H T P) = X 126 395 [.ref 0, .int p, .int mi, .int on, .int o4, .int o5, .int o6, .int rd, .int (nI (c + 1)), w9, w10, w11, w12, w13, w14, w15] [] (H T P) := by
    intro c hc
    have hlt : nI c < nI (s.1.1.1 3) := nI_lt hc (by omega)
    have hs : hsI (s.1.1.1 3) (nI c) := ⟨nI_nn (by omega), hlt⟩
    obtain ⟨k, hk, ek⟩ := hw.1.2.2.2.2.2.2.1 c hc
    have hcl : (nI c).toNatClampNeg = c := nI_clamp (by omega)
    have hkl : (nI k).toNatClampNeg = k := nI_clamp (by omega)
    have g2 : gLost (nI c) 2 s = msN k (s.1.1.2.1 47 c) s.1.2 := by
      unfold gLost
      rw [if_pos hs, hcl, ek, hkl]; rfl
    have g3 : gLost (nI c) 3 s = msL k (s.1.1.2.1 47 c) s.1.2 := by
      unfold gLost
      rw [if_pos hs, hcl, ek, hkl]; rfl
    obtain ⟨q1, q2⟩ := lt_ms hl h20 hK hid hw.1.1.2.2.2.1 hc hk ek
    have e2 := g_lost rfl h (nI c) 2
    have e3 := g_lost rfl h (nI c) 3
    rw [g2] at e2
    rw [g3] at e3
    rw [x126_395]
    simp +decide only [x126_0, x126_1, x126_2, x126_3, x126_4, x126_5, x126_6, x126_7, x126_9, x126_10, x126_12, x126_13, x126_15, x126_16, x126_18, x126_19, x126_21, x126_23, x126_24, x126_25, x126_28, x126_31, x126_32, x126_34, x126_37, x126_39, x126_40, x126_42, x126_43, x126_46, x126_48, x126_49, x126_51, x126_53, x126_56, x126_58, x126_61, x126_63, x126_65, x126_68, x126_69, x126_71, x126_72, x126_73, x126_74, x126_75, x126_78, x126_79, x126_80, x126_81, x126_82, x126_84, x126_85, x126_86, x126_87, x126_90, x126_92, x126_94, x126_97, x126_98, x126_100, x126_101, x126_104, x126_106, x126_107, x126_109, x126_110, x126_112, x126_113, x126_115, x126_116, x126_119, x126_121, x126_122, x126_124, x126_125, x126_127, x126_128, x126_130, x126_131, x126_134, x126_136, x126_137, x126_139, x126_140, x126_142, x126_144, x126_146, x126_147, x126_149, x126_152, x126_153, x126_154, x126_155, x126_157, x126_158, x126_159, x126_160, x126_162, x126_163, x126_166, x126_168, x126_171, x126_172, x126_173, x126_174, x126_176, x126_179, x126_181, x126_183, x126_186, x126_187, x126_190, x126_191, x126_193, x126_195, x126_197, x126_198, x126_200, x126_203, x126_205, x126_207, x126_210, x126_211, x126_214, x126_215, x126_216, x126_218, x126_219, x126_221, x126_223, x126_226, x126_227, x126_230, x126_231, x126_234, x126_235, x126_237, x126_240, x126_241, x126_243, x126_245, x126_248, x126_251, x126_252, x126_255, x126_256, x126_258, x126_261, x126_262, x126_264, x126_265, x126_268, x126_269, x126_271, x126_272, x126_275, x126_276, x126_278, x126_279, x126_282, x126_283, x126_286, x126_287, x126_290, x126_291, x126_294, x126_295, x126_296, x126_299, x126_302, x126_303, x126_305, x126_307, x126_308, x126_309, x126_312, x126_315, x126_317, x126_318, x126_320, x126_321, x126_324, x126_325, x126_327, x126_329, x126_330, x126_332, x126_333, x126_336, x126_337, x126_339, x126_341, x126_342, x126_344, x126_345, x126_348, x126_349, x126_351, x126_352, x126_354, x126_355, x126_358, x126_361, x126_362, x126_365, x126_366, x126_367, x126_369, x126_370, x126_373, x126_376, x126_377, x126_380, x126_381, x126_384, x126_385, x126_386, x126_389, x126_392, x126_393, x126_397, x126_398, x126_400, x126_403, x126_406, x126_407, x126_409, x126_410, x126_413, x126_414, x126_417, x126_418, x126_420, x126_421, x126_424, x126_427, x126_428, x126_429, x126_432, x126_436, x126_437, x126_440, x126_441, x126_443, x126_446, x126_447, x126_448, x126_450, x126_453, x126_454, x126_455, x126_457, x126_460, x126_461, x126_463, x126_464, x126_466, x126_469, x126_470, x126_473, x126_474, x126_477, x126_478, x126_480, x126_482, x126_485, x126_486, x126_487, x126_489, x126_492, x126_495, x126_496, x126_497, x126_499, x126_502, x126_505, x126_507, x126_508, x126_510, x126_513, x126_516, x126_518, x126_519, x126_521, x126_524, x126_527, x126_529, x126_530, x126_532, x126_535, x126_538, x126_540, x126_541, x126_542, x126_545, x126_548, x126_549, x126_550, x126_553, x126_556, x126_557, x126_558, x126_561, x126_563, x126_566, x126_567, x126_568, x126_569, x126_572, x126_575, x126_577, x126_580, x126_581, x126_584, x126_585, aft_some, aft_void, Option.bind_some, Option.toList_some, Option.toList_none, List.cons_append, List.nil_append, if_true, if_false, ↓reduceIte, eq_self, z0_o, ↓z0_0, ↓z0_1, ↓z0_2, ↓z0_3, ↓z0_4, ↓z0_5, ↓z0_5p0, ↓z0_5p1, hlt, ↓aft_of (k10), ↓aft_of (e2), ↓aft_of (e3), eq_false q1, eq_false q2, nI_1]
  have hl := loop_up (fun c => X 126 395 [.ref 0, .int p, .int mi, .int on, .int o4, .int o5, .int o6, .int rd, .int (nI c), w9, w10, w11, w12, w13, w14, w15] [] (H T P)) (s.1.1.1 3) hstep
  have hl : X 126 395 [.ref 0, .int p, .int mi, .int on, .int o4, .int o5, .int o6, .int rd, .int 0, w9, w10, w11, w12, w13, w14, w15] [] (H T P) = X 126 395 [.ref 0, .int p, .int mi, .int on, .int o4, .int o5, .int o6, .int rd, .int (nI (s.1.1.1 3)), w9, w10, w11, w12, w13, w14, w15] [] (H T P) := hl
  rw [hl, x126_395]
  simp +decide only [x126_0, x126_1, x126_2, x126_3, x126_4, x126_5, x126_6, x126_7, x126_9, x126_10, x126_12, x126_13, x126_15, x126_16, x126_18, x126_19, x126_21, x126_23, x126_24, x126_25, x126_28, x126_31, x126_32, x126_34, x126_37, x126_39, x126_40, x126_42, x126_43, x126_46, x126_48, x126_49, x126_51, x126_53, x126_56, x126_58, x126_61, x126_63, x126_65, x126_68, x126_69, x126_71, x126_72, x126_73, x126_74, x126_75, x126_78, x126_79, x126_80, x126_81, x126_82, x126_84, x126_85, x126_86, x126_87, x126_90, x126_92, x126_94, x126_97, x126_98, x126_100, x126_101, x126_104, x126_106, x126_107, x126_109, x126_110, x126_112, x126_113, x126_115, x126_116, x126_119, x126_121, x126_122, x126_124, x126_125, x126_127, x126_128, x126_130, x126_131, x126_134, x126_136, x126_137, x126_139, x126_140, x126_142, x126_144, x126_146, x126_147, x126_149, x126_152, x126_153, x126_154, x126_155, x126_157, x126_158, x126_159, x126_160, x126_162, x126_163, x126_166, x126_168, x126_171, x126_172, x126_173, x126_174, x126_176, x126_179, x126_181, x126_183, x126_186, x126_187, x126_190, x126_191, x126_193, x126_195, x126_197, x126_198, x126_200, x126_203, x126_205, x126_207, x126_210, x126_211, x126_214, x126_215, x126_216, x126_218, x126_219, x126_221, x126_223, x126_226, x126_227, x126_230, x126_231, x126_234, x126_235, x126_237, x126_240, x126_241, x126_243, x126_245, x126_248, x126_251, x126_252, x126_255, x126_256, x126_258, x126_261, x126_262, x126_264, x126_265, x126_268, x126_269, x126_271, x126_272, x126_275, x126_276, x126_278, x126_279, x126_282, x126_283, x126_286, x126_287, x126_290, x126_291, x126_294, x126_295, x126_296, x126_299, x126_302, x126_303, x126_305, x126_307, x126_308, x126_309, x126_312, x126_315, x126_317, x126_318, x126_320, x126_321, x126_324, x126_325, x126_327, x126_329, x126_330, x126_332, x126_333, x126_336, x126_337, x126_339, x126_341, x126_342, x126_344, x126_345, x126_348, x126_349, x126_351, x126_352, x126_354, x126_355, x126_358, x126_361, x126_362, x126_365, x126_366, x126_367, x126_369, x126_370, x126_373, x126_376, x126_377, x126_380, x126_381, x126_384, x126_385, x126_386, x126_389, x126_392, x126_393, x126_397, x126_398, x126_400, x126_403, x126_406, x126_407, x126_409, x126_410, x126_413, x126_414, x126_417, x126_418, x126_420, x126_421, x126_424, x126_427, x126_428, x126_429, x126_432, x126_436, x126_437, x126_440, x126_441, x126_443, x126_446, x126_447, x126_448, x126_450, x126_453, x126_454, x126_455, x126_457, x126_460, x126_461, x126_463, x126_464, x126_466, x126_469, x126_470, x126_473, x126_474, x126_477, x126_478, x126_480, x126_482, x126_485, x126_486, x126_487, x126_489, x126_492, x126_495, x126_496, x126_497, x126_499, x126_502, x126_505, x126_507, x126_508, x126_510, x126_513, x126_516, x126_518, x126_519, x126_521, x126_524, x126_527, x126_529, x126_530, x126_532, x126_535, x126_538, x126_540, x126_541, x126_542, x126_545, x126_548, x126_549, x126_550, x126_553, x126_556, x126_557, x126_558, x126_561, x126_563, x126_566, x126_567, x126_568, x126_569, x126_572, x126_575, x126_577, x126_580, x126_581, x126_584, x126_585, aft_some, aft_void, Option.bind_some, Option.toList_some, Option.toList_none, List.cons_append, List.nil_append, if_true, if_false, ↓reduceIte, eq_self, z0_o, ↓z0_0, ↓z0_1, ↓z0_2, ↓z0_3, ↓z0_4, ↓z0_5, ↓z0_5p0, ↓z0_5p1, ↓aft_of (k10), nI_nlt (Nat.le_refl (s.1.1.1 3)) (show s.1.1.1 3 < 2 ^ 31 by omega)]
theorem q_holds (h : CG EE T P s) (hi : IV n s.1) (hn : n < 2 ^ 31) : X 126 0 [.ref 0, .long 0, .long 0, .long 0, .long 0, .long 0, .long 0, .long 0, .long 0, .long 0, .long 0, .long 0, .long 0, .long 0, .long 0, .long 0] [] (H T P) = some (some (.int 1), H T P) := by
  have hw := h.wg.1
  have h8 := hw.1.1.2.2.2.1
  obtain ⟨⟨st, hst, est⟩, -, -, hp, hl⟩ := hi
  have k2 := k_2 h
  have k10 := k_10 h
  have k3 := g_count rfl h 3
  have k5 := g_count rfl h 5
  have k6 := g_count rfl h 6
  have k7 := g_count rfl h 7
  have k8 := g_count rfl h 8
  have k9 := g_count rfl h 9
  have k15 := g_count rfl h 15
  simp +decide only [gCount, if_true, if_false] at k3 k5 k6 k7 k8 k9 k15
  have ko := k_ord h (show s.1.2.length < 2 ^ 31 by omega)
  rw [ord_end h8] at ko
  obtain ⟨p, w9, w10, w11, w12, w13, w14, w15, e1⟩ := ho_1 h hp (.long 0) (.long 0) (.long 0) (.long 0) (.long 0) (.long 0) (.long 0)
  have e2 := ho_2 h p (lsI msT s.1.2) (smI (fun i => nhI (gK s.1.2 i 2)) s.1.2.length) (smI (fun i => rdK (gK s.1.2 i)) s.1.2.length) w9 w10 w11 w12 w13 w14 w15
  have e3 := ho_3 h hl p (lsI msT s.1.2) (smI (fun i => nhI (gK s.1.2 i 2)) s.1.2.length) (nI (allL s.1.1.2.2.1)) (smI (s.1.1.2.1 6) (s.1.1.1 1)) (smI (s.1.1.2.1 5) (s.1.1.1 1)) (smI (fun i => rdK (gK s.1.2 i)) s.1.2.length) w9 w10 w11 w12 w13 w14 w15
  have e123 := e1.trans (e2.trans e3)
  rw [hl.1] at e123
  have hbal : s.1.1.2.1 0 1 + smI (fun i => nhI (gK s.1.2 i 2)) s.1.2.length + nI (allL s.1.1.2.2.1) + smI (s.1.1.2.1 6) (s.1.1.1 1) = 60 + s.1.1.2.1 0 2 := by
    rw [hw.1.2.2.2.2.2.2.2]
    exact Int32.sub_add_cancel _ _
  have q5 : (s.1.1.2.1 0 1 < 0) = False := by rw [est]; exact eq_false (nI_nn (by omega))
  have q8 : (8 < nI s.1.2.length) = False := by rw [show (8 : Int32) = nI 8 from rfl, nI_ltp (by decide) (by omega)]; exact eq_false (by omega)
  have ef : X 126 435 [.ref 0, .int p, .int (nI (s.1.1.1 3)), .int (smI (fun i => nhI (gK s.1.2 i 2)) s.1.2.length), .int (nI (allL s.1.1.2.2.1)), .int (smI (s.1.1.2.1 6) (s.1.1.1 1)), .int (smI (s.1.1.2.1 5) (s.1.1.1 1)), .int (smI (fun i => rdK (gK s.1.2 i)) s.1.2.length), .int (nI (s.1.1.1 3)), w9, w10, w11, w12, w13, w14, w15] [] (H T P) = some (some (.int 1), H T P) := by
    obtain ⟨b5, h5⟩ : ∃ z, z = s.1.1.2.1 0 1 := ⟨_, rfl⟩
    obtain ⟨b6, h6⟩ : ∃ z, z = smI (fun i => nhI (gK s.1.2 i 2)) s.1.2.length := ⟨_, rfl⟩
    obtain ⟨b7, h7⟩ : ∃ z, z = nI (allL s.1.1.2.2.1) := ⟨_, rfl⟩
    obtain ⟨b8, h8⟩ : ∃ z, z = smI (s.1.1.2.1 6) (s.1.1.1 1) := ⟨_, rfl⟩
    obtain ⟨b9, h9⟩ : ∃ z, z = s.1.1.2.1 0 2 := ⟨_, rfl⟩
    obtain ⟨b15, h15⟩ : ∃ z, z = smI (s.1.1.2.1 5) (s.1.1.1 1) := ⟨_, rfl⟩
    obtain ⟨b3, h3⟩ : ∃ z, z = smI (fun i => rdK (gK s.1.2 i)) s.1.2.length := ⟨_, rfl⟩
    rw [← h5] at k5 hbal q5
    rw [← h6] at k6 hbal ⊢
    rw [← h7] at k7 hbal ⊢
    rw [← h8] at k8 hbal ⊢
    rw [← h9] at k9 hbal
    rw [← h15] at k15 ⊢
    rw [← h3] at k3 ⊢
    rw [x126_435]
    simp +decide only [x126_0, x126_1, x126_2, x126_3, x126_4, x126_5, x126_6, x126_7, x126_9, x126_10, x126_12, x126_13, x126_15, x126_16, x126_18, x126_19, x126_21, x126_23, x126_24, x126_25, x126_28, x126_31, x126_32, x126_34, x126_37, x126_39, x126_40, x126_42, x126_43, x126_46, x126_48, x126_49, x126_51, x126_53, x126_56, x126_58, x126_61, x126_63, x126_65, x126_68, x126_69, x126_71, x126_72, x126_73, x126_74, x126_75, x126_78, x126_79, x126_80, x126_81, x126_82, x126_84, x126_85, x126_86, x126_87, x126_90, x126_92, x126_94, x126_97, x126_98, x126_100, x126_101, x126_104, x126_106, x126_107, x126_109, x126_110, x126_112, x126_113, x126_115, x126_116, x126_119, x126_121, x126_122, x126_124, x126_125, x126_127, x126_128, x126_130, x126_131, x126_134, x126_136, x126_137, x126_139, x126_140, x126_142, x126_144, x126_146, x126_147, x126_149, x126_152, x126_153, x126_154, x126_155, x126_157, x126_158, x126_159, x126_160, x126_162, x126_163, x126_166, x126_168, x126_171, x126_172, x126_173, x126_174, x126_176, x126_179, x126_181, x126_183, x126_186, x126_187, x126_190, x126_191, x126_193, x126_195, x126_197, x126_198, x126_200, x126_203, x126_205, x126_207, x126_210, x126_211, x126_214, x126_215, x126_216, x126_218, x126_219, x126_221, x126_223, x126_226, x126_227, x126_230, x126_231, x126_234, x126_235, x126_237, x126_240, x126_241, x126_243, x126_245, x126_248, x126_251, x126_252, x126_255, x126_256, x126_258, x126_261, x126_262, x126_264, x126_265, x126_268, x126_269, x126_271, x126_272, x126_275, x126_276, x126_278, x126_279, x126_282, x126_283, x126_286, x126_287, x126_290, x126_291, x126_294, x126_295, x126_296, x126_299, x126_302, x126_303, x126_305, x126_307, x126_308, x126_309, x126_312, x126_315, x126_317, x126_318, x126_320, x126_321, x126_324, x126_325, x126_327, x126_329, x126_330, x126_332, x126_333, x126_336, x126_337, x126_339, x126_341, x126_342, x126_344, x126_345, x126_348, x126_349, x126_351, x126_352, x126_354, x126_355, x126_358, x126_361, x126_362, x126_365, x126_366, x126_367, x126_369, x126_370, x126_373, x126_376, x126_377, x126_380, x126_381, x126_384, x126_385, x126_386, x126_389, x126_392, x126_393, x126_395, x126_397, x126_398, x126_400, x126_403, x126_406, x126_407, x126_409, x126_410, x126_413, x126_414, x126_417, x126_418, x126_420, x126_421, x126_424, x126_427, x126_428, x126_429, x126_432, x126_436, x126_437, x126_440, x126_441, x126_443, x126_446, x126_447, x126_448, x126_450, x126_453, x126_454, x126_455, x126_457, x126_460, x126_461, x126_463, x126_464, x126_466, x126_469, x126_470, x126_473, x126_474, x126_477, x126_478, x126_480, x126_482, x126_485, x126_486, x126_487, x126_489, x126_492, x126_495, x126_496, x126_497, x126_499, x126_502, x126_505, x126_507, x126_508, x126_510, x126_513, x126_516, x126_518, x126_519, x126_521, x126_524, x126_527, x126_529, x126_530, x126_532, x126_535, x126_538, x126_540, x126_541, x126_542, x126_545, x126_548, x126_549, x126_550, x126_553, x126_556, x126_557, x126_558, x126_561, x126_563, x126_566, x126_567, x126_568, x126_569, x126_572, x126_575, x126_577, x126_580, x126_581, x126_584, x126_585, aft_some, aft_void, Option.bind_some, Option.toList_some, Option.toList_none, List.cons_append, List.nil_append, if_true, if_false, ↓reduceIte, eq_self, z0_o, ↓z0_0, ↓z0_1, ↓z0_2, ↓z0_3, ↓z0_4, ↓z0_5, ↓z0_5p0, ↓z0_5p1, ↓aft_of (k2), ↓aft_of (k10), ↓aft_of (k3), ↓aft_of (k5), ↓aft_of (k6), ↓aft_of (k7), ↓aft_of (k8), ↓aft_of (k9), ↓aft_of (k15), ↓aft_of (ko), hbal, q5, q8]
  rw [← ef, ← e123]
  simp +decide only [x126_0, x126_1, x126_2, x126_3, x126_4, x126_5, x126_6, x126_7, x126_9, x126_10, x126_12, x126_13, x126_15, x126_16, x126_18, x126_19, x126_23, x126_24, x126_25, x126_28, x126_31, x126_32, x126_34, x126_37, x126_39, x126_40, x126_42, x126_43, x126_46, x126_48, x126_49, x126_51, x126_53, x126_56, x126_58, x126_61, x126_63, x126_65, x126_68, x126_69, x126_71, x126_72, x126_73, x126_74, x126_75, x126_78, x126_79, x126_80, x126_81, x126_82, x126_84, x126_85, x126_86, x126_87, x126_90, x126_92, x126_94, x126_97, x126_98, x126_100, x126_101, x126_104, x126_106, x126_107, x126_109, x126_110, x126_112, x126_113, x126_115, x126_116, x126_119, x126_121, x126_122, x126_124, x126_125, x126_127, x126_128, x126_130, x126_131, x126_134, x126_136, x126_137, x126_139, x126_140, x126_142, x126_144, x126_146, x126_147, x126_149, x126_152, x126_153, x126_154, x126_155, x126_157, x126_158, x126_159, x126_160, x126_162, x126_163, x126_166, x126_168, x126_171, x126_172, x126_173, x126_174, x126_176, x126_179, x126_181, x126_183, x126_186, x126_187, x126_190, x126_191, x126_193, x126_195, x126_197, x126_198, x126_200, x126_203, x126_205, x126_207, x126_210, x126_211, x126_214, x126_215, x126_216, x126_218, x126_219, x126_221, x126_223, x126_226, x126_227, x126_230, x126_231, x126_234, x126_235, x126_237, x126_240, x126_241, x126_243, x126_245, x126_248, x126_251, x126_252, x126_255, x126_256, x126_258, x126_261, x126_262, x126_264, x126_265, x126_268, x126_269, x126_271, x126_272, x126_275, x126_276, x126_278, x126_279, x126_282, x126_283, x126_286, x126_287, x126_290, x126_291, x126_294, x126_295, x126_296, x126_299, x126_302, x126_303, x126_305, x126_307, x126_308, x126_309, x126_312, x126_315, x126_317, x126_318, x126_320, x126_321, x126_324, x126_325, x126_327, x126_329, x126_330, x126_332, x126_333, x126_336, x126_337, x126_339, x126_341, x126_342, x126_344, x126_345, x126_348, x126_349, x126_351, x126_352, x126_354, x126_355, x126_358, x126_361, x126_362, x126_365, x126_366, x126_367, x126_369, x126_370, x126_373, x126_376, x126_377, x126_380, x126_381, x126_384, x126_385, x126_386, x126_389, x126_392, x126_393, x126_395, x126_397, x126_398, x126_400, x126_403, x126_406, x126_407, x126_409, x126_410, x126_413, x126_414, x126_417, x126_418, x126_420, x126_421, x126_424, x126_427, x126_428, x126_429, x126_432, x126_435, x126_436, x126_437, x126_440, x126_441, x126_443, x126_446, x126_447, x126_448, x126_450, x126_453, x126_454, x126_455, x126_457, x126_460, x126_461, x126_463, x126_464, x126_466, x126_469, x126_470, x126_473, x126_474, x126_477, x126_478, x126_480, x126_482, x126_485, x126_486, x126_487, x126_489, x126_492, x126_495, x126_496, x126_497, x126_499, x126_502, x126_505, x126_507, x126_508, x126_510, x126_513, x126_516, x126_518, x126_519, x126_521, x126_524, x126_527, x126_529, x126_530, x126_532, x126_535, x126_538, x126_540, x126_541, x126_542, x126_545, x126_548, x126_549, x126_550, x126_553, x126_556, x126_557, x126_558, x126_561, x126_563, x126_566, x126_567, x126_568, x126_569, x126_572, x126_575, x126_577, x126_580, x126_581, x126_584, x126_585, aft_some, aft_void, Option.bind_some, Option.toList_some, Option.toList_none, List.cons_append, List.nil_append, if_true, if_false, ↓reduceIte, eq_self]
end HOLDS2
