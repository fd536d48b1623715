/-! ironing -/
def stP (V : Nat → Nat → Int32) (b : kT) (k : Nat) : Prop := k < 2 ∧ ¬ b 0 3 = V 48 0
noncomputable def sbI (V : Nat → Nat → Int32) (b : kT) (k : Nat) : Int32 := @ite _ (stP V b k) (Classical.propDecidable _) 1 0
noncomputable def ndI (V : Nat → Nat → Int32) (b : kT) (k : Nat) : Int32 := mnI (b 0 3) k + @ite _ (stP V b k) (Classical.propDecidable _) (V 1 1) 0
/-- a piece of the kind k of b is ironed -/
noncomputable def inV (V : Nat → Nat → Int32) (b : kT) (k : Nat) : Nat → Nat → Int32 := upA (upA V 0 (upA (V 0) 1 (if k < 3 then V 0 1 - 1 else V 0 1))) 48 (fun j => match j with
  | 0 => @ite _ (stP V b k) (Classical.propDecidable _) (b 0 3) (V 48 0)
  | 1 => V 48 1 + sbI V b k
  | 2 => V 48 2 + 1
  | 3 => V 48 3 + ndI V b k
  | j + 4 => V 48 (j + 4))
def inB (b : kT) (k : Nat) : kT := upA b 2 (upA (b 2) k (b 2 k + 1))
theorem lkK_or (b : kT) (g : Int32) : lkK b g = -5 ∨ ∃ k, k < 4 ∧ lkK b g = nI k ∧ 0 < opK b k ∧ (k < 3 → ¬ g = 0) := by
  unfold lkK
  by_cases h0 : 0 < opK b 0 ∧ ¬ g = 0
  · rw [if_pos h0]; exact Or.inr ⟨0, by decide, rfl, h0.1, fun _ => h0.2⟩
  rw [if_neg h0]
  by_cases h1 : 0 < opK b 1 ∧ ¬ g = 0
  · rw [if_pos h1]; exact Or.inr ⟨1, by decide, rfl, h1.1, fun _ => h1.2⟩
  rw [if_neg h1]
  by_cases h2 : 0 < opK b 2 ∧ ¬ g = 0
  · rw [if_pos h2]; exact Or.inr ⟨2, by decide, rfl, h2.1, fun _ => h2.2⟩
  rw [if_neg h2]
  by_cases h3 : 0 < opK b 3
  · rw [if_pos h3]; exact Or.inr ⟨3, by decide, rfl, h3, fun q => absurd q (by decide)⟩
  rw [if_neg h3]; exact Or.inl rfl
theorem nI_ne5 {n : Nat} (h : n < 2 ^ 31) : (nI n = -5) = False := by
  apply eq_false
  intro q
  have := congrArg Int32.toInt q
  rw [nI_toInt h] at this
  have e : (-5 : Int32).toInt = -5 := by decide
  omega
theorem smI_set {f : Nat → Int32} {i : Nat} {v : Int32} : ∀ {n : Nat}, i < n → smI (upA f i v) n = smI f n - f i + v
  | 0, h => absurd h (Nat.not_lt_zero _)
  | n + 1, h => by
    simp only [smI]
    by_cases hi : i = n
    · subst hi
      rw [upA_s, smI_congr (f := upA f i v) (g := f) (fun j hj => upA_n _ _ (by omega))]
      grind
    · rw [smI_set (show i < n by omega), upA_n _ _ (show n ≠ i by omega)]
      grind
theorem gK_set {K : List kT} {i j : Nat} {b : kT} (hi : i < K.length) : gK (K.set i b) j = if j = i then b else gK K j := by
  simp only [gK, List.getD_eq_getElem?_getD]
  by_cases h : j = i
  · subst h; rw [List.getElem?_set_self hi, if_pos rfl]; rfl
  · rw [List.getElem?_set_ne (Ne.symm h), if_neg h]
theorem nI_posn {x : Nat} (hx : x < 2 ^ 31) : (0 < nI x) = (0 < x) := by
  rw [show (0 : Int32) = nI 0 from rfl, nI_ltp (by decide) hx]
section IR
variable {T : Nat → Nat → Int32} {P : Nat → Nat → Nat} {o : Nat} {N : Nat → Nat} {V : Nat → Nat → Int32} {K : List kT} {B : List bT} {R : Nat → Nat → Int32} {p st left : Int32}
theorem WF_iron (hw : WF N V K B) {i k : Nat} {b : kT} (hb : K[i]? = some b) (hk : k < 4) (ho : 0 < opK b k) : WF N (inV V b k) (K.set i (inB b k)) B := by
  obtain ⟨w1, w2, w3, w4, w5, w6, w7, w8⟩ := hw
  have hi : i < K.length := (List.getElem?_eq_some_iff.mp hb).1
  have hgi := gK_of hb
  refine ⟨⟨w1.1, w1.2.1, w1.2.2.1, by rw [List.length_set]; exact w1.2.2.2.1, w1.2.2.2.2⟩, ?_, ?_, ?_, ?_, ⟨w6.1, w6.2.1, by rw [List.length_set]; exact w6.2.2⟩, ?_, ?_⟩
  · intro c hc
    simp +decide only [inV, u_n]; exact w2 c hc
  · simp +decide only [inV, u_n]; exact w3
  · intro j q hq
    by_cases hji : i = j
    · subst hji
      rw [List.getElem?_set_self hi] at hq
      cases hq
      have h0 := w4 i b hb
      have e0 : inB b k 0 = b 0 := by simp +decide only [inB, u_n]
      have e1 : inB b k 1 = b 1 := by simp +decide only [inB, u_n]
      have e3 : inB b k 3 = b 3 := by simp +decide only [inB, u_n]
      rw [e0, e1, e3]
      refine ⟨h0.1, h0.2.1, h0.2.2.1, h0.2.2.2.1, fun m hm => ?_⟩
      obtain ⟨x, y, z, g1, g2, g3, g4, g5⟩ := h0.2.2.2.2 m hm
      by_cases hmk : m = k
      · subst hmk
        have hop : y + z < x := by
          unfold opK at ho
          rw [g3, g4, g5, nI_sub (by omega), nI_sub (by omega), nI_posn (by omega)] at ho
          omega
        refine ⟨x, y + 1, z, g1, by omega, g3, ?_, g5⟩
        simp only [inB, upA_s]
        rw [g4, nI_1]
      · refine ⟨x, y, z, g1, g2, g3, ?_, g5⟩
        simp only [inB, upA_s]
        rw [upA_n _ _ hmk]; exact g4
    · rw [List.getElem?_set_ne hji] at hq
      exact w4 j q hq
  · intro a c x y hac hx hy
    have get : ∀ (j : Nat) (q : kT), (K.set i (inB b k))[j]? = some q → ∃ q', K[j]? = some q' ∧ q 0 0 = q' 0 0 := by
      intro j q hq
      by_cases hji : i = j
      · subst hji
        rw [List.getElem?_set_self hi] at hq
        cases hq
        exact ⟨b, hb, by simp +decide only [inB, u_n]⟩
      · rw [List.getElem?_set_ne hji] at hq
        exact ⟨q, hq, rfl⟩
    obtain ⟨x', hx', ex⟩ := get a x hx
    obtain ⟨y', hy', ey⟩ := get c y hy
    rw [ex, ey]
    exact w5 a c x' y' hac hx' hy'
  · intro j hj
    simp +decide only [inV, u_n]; exact w7 j hj
  · rw [List.length_set]
    have e1 : smI (fun j => nhI (gK (K.set i (inB b k)) j 2)) K.length = smI (upA (fun j => nhI (gK K j 2)) i (nhI (inB b k 2))) K.length := by
      apply smI_congr
      intro j _
      show nhI (gK (K.set i (inB b k)) j 2) = _
      rw [gK_set hi]
      by_cases hji : j = i
      · subst hji; rw [if_pos rfl, upA_s]
      · rw [if_neg hji, upA_n _ _ hji]
    rw [e1, smI_set hi, hgi]
    have e2 : inV V b k 0 1 = if k < 3 then V 0 1 - 1 else V 0 1 := by simp +decide only [inV, upA_s, u_n]
    have e3 : inV V b k 0 2 = V 0 2 := by simp +decide only [inV, upA_s, u_n]
    have e4 : inV V b k 6 = V 6 := by simp +decide only [inV, u_n]
    have e5 : nhI (inB b k 2) = nhI (b 2) + if k < 3 then 1 else 0 := by
      simp only [nhI, inB, upA_s]
      match k, hk with
      | 0, _ => simp +decide only [upA_s, u_n, if_true]; grind
      | 1, _ => simp +decide only [upA_s, u_n, if_true]; grind
      | 2, _ => simp +decide only [upA_s, u_n, if_true]; grind
      | 3, _ => simp +decide only [upA_s, u_n, if_false]; grind
    rw [e2, e3, e4, e5]
    by_cases hk3 : k < 3
    · simp only [hk3, if_true]; grind
    · simp only [hk3, if_false]; grind
/-- nothing can be ironed -/
theorem c_ironNo (ho : isB o) (h : CS o T P N V K B R) (hw : WF N V K B) {i : Nat} (hi : i < K.length) (hl : lkK (gK K i) (if 0 < V 0 1 then 1 else 0) = -5) : X 84 0 [.ref o, .ref (P (o + 8) i), .int left, .long 0, .long 0, .long 0] [] (H T P) = some (some (.int 0), H T P) := by
  have h8 : K.length ≤ 8 := hw.1.2.2.2.1
  have hk := h.pk.k ho (show i < 8 by omega)
  have el := c_lowest (T := T) (P := P) hk (if 0 < V 0 1 then 1 else 0)
  rw [(h.at hi).lk, hl] at el
  have hst : T o 1 = V 0 1 := h.1.1 1 (by decide)
  by_cases s1 : 0 < V 0 1
  · simp only [s1, if_true] at el
    simp +decide only [x84_0, x84_0N, x84_1, x84_2, x84_5, x84_8, x84_9, x84_12, x84_13, x84_16, x84_17, x84_18, x84_20, x84_23, x84_24, x84_25, x84_26, x84_29, x84_32, x84_32N, x84_33, x84_36, x84_37, x84_40, x84_43, x84_46, x84_47, x84_50, x84_51, x84_53, x84_53N, x84_54, x84_55, x84_58, x84_60, x84_63, x84_64, x84_67, x84_68, x84_69, x84_72, x84_73, x84_74, x84_76, x84_78, x84_79, x84_82, x84_83, x84_84, x84_86, x84_89, x84_90, x84_93, x84_93N, x84_94, x84_97, x84_100, x84_101, x84_104, x84_105, x84_108, x84_109, x84_110, x84_113, x84_114, x84_117, x84_120, x84_121, x84_122, x84_125, x84_126, x84_127, x84_130, x84_130N, x84_131, x84_134, x84_135, x84_136, x84_137, x84_138, x84_139, x84_140, x84_141, x84_144, x84_145, x84_148, x84_149, x84_150, x84_153, x84_154, x84_157, x84_158, x84_161, x84_163, x84_164, x84_167, x84_169, aft_some, aft_void, Option.bind_some, Option.toList_some, Option.toList_none, List.cons_append, List.nil_append, if_true, if_false, ↓reduceIte, eq_self, f0_o ho, ↓f0_0 ho, ↓f0_0p ho, ↓f0_1 ho, ↓f0_1p ho, ↓f0_2 ho, ↓f0_2p ho, ↓f0_3 ho, ↓f0_3p ho, ↓f0_4 ho, ↓f0_5 ho, ↓f0_6 ho, ↓f0_7 ho, ↓f0_8 ho, ↓f0_9 ho, ↓f0_10 ho, ↓f0_11 ho, ↓f1_g ho, ↓f1_s ho, ↓f2_g ho, ↓f2_s ho, fK_o hk, ↓aft_of (el), hst, s1]
  · simp only [s1, if_false] at el
    simp +decide only [x84_0, x84_0N, x84_1, x84_2, x84_5, x84_8, x84_9, x84_12, x84_13, x84_16, x84_17, x84_18, x84_20, x84_23, x84_24, x84_25, x84_26, x84_29, x84_32, x84_32N, x84_33, x84_36, x84_37, x84_40, x84_43, x84_46, x84_47, x84_50, x84_51, x84_53, x84_53N, x84_54, x84_55, x84_58, x84_60, x84_63, x84_64, x84_67, x84_68, x84_69, x84_72, x84_73, x84_74, x84_76, x84_78, x84_79, x84_82, x84_83, x84_84, x84_86, x84_89, x84_90, x84_93, x84_93N, x84_94, x84_97, x84_100, x84_101, x84_104, x84_105, x84_108, x84_109, x84_110, x84_113, x84_114, x84_117, x84_120, x84_121, x84_122, x84_125, x84_126, x84_127, x84_130, x84_130N, x84_131, x84_134, x84_135, x84_136, x84_137, x84_138, x84_139, x84_140, x84_141, x84_144, x84_145, x84_148, x84_149, x84_150, x84_153, x84_154, x84_157, x84_158, x84_161, x84_163, x84_164, x84_167, x84_169, aft_some, aft_void, Option.bind_some, Option.toList_some, Option.toList_none, List.cons_append, List.nil_append, if_true, if_false, ↓reduceIte, eq_self, f0_o ho, ↓f0_0 ho, ↓f0_0p ho, ↓f0_1 ho, ↓f0_1p ho, ↓f0_2 ho, ↓f0_2p ho, ↓f0_3 ho, ↓f0_3p ho, ↓f0_4 ho, ↓f0_5 ho, ↓f0_6 ho, ↓f0_7 ho, ↓f0_8 ho, ↓f0_9 ho, ↓f0_10 ho, ↓f0_11 ho, ↓f1_g ho, ↓f1_s ho, ↓f2_g ho, ↓f2_s ho, fK_o hk, ↓aft_of (el), hst, s1]
theorem sb_or (V : Nat → Nat → Int32) (b : kT) (k : Nat) : (stP V b k ∧ sbI V b k = 1 ∧ ndI V b k = mnI (b 0 3) k + V 1 1) ∨ (¬ stP V b k ∧ sbI V b k = 0 ∧ ndI V b k = mnI (b 0 3) k + 0) := by
  by_cases hs : stP V b k
  · exact Or.inl ⟨hs, if_pos hs, by unfold ndI; rw [if_pos hs]⟩
  · exact Or.inr ⟨hs, if_neg hs, by unfold ndI; rw [if_neg hs]⟩
/-- the minutes do not suffice -/
theorem c_ironStop (ho : isB o) (h : CS o T P N V K B R) (hw : WF N V K B) {i k : Nat} (hi : i < K.length) (hk4 : k < 4) (hl : lkK (gK K i) (if 0 < V 0 1 then 1 else 0) = nI k) (hd : left < ndI V (gK K i) k) : X 84 0 [.ref o, .ref (P (o + 8) i), .int left, .long 0, .long 0, .long 0] [] (H T P) = some (some (.int 0), H T P) := by
  have h8 : K.length ≤ 8 := hw.1.2.2.2.1
  have hk := h.pk.k ho (show i < 8 by omega)
  have el := c_lowest (T := T) (P := P) hk (if 0 < V 0 1 then 1 else 0)
  rw [(h.at hi).lk, hl] at el
  have hst : T o 1 = V 0 1 := h.1.1 1 (by decide)
  have hsr : T (o + 1) 1 = V 1 1 := h.1.2.1 1 (by decide)
  have hpot : T (o + 48) 0 = V 48 0 := h.2.2.2.2.2.1 0 (by decide)
  have hb3 : T (P (o + 8) i) 3 = gK K i 0 3 := (h.at hi).1 3 (by decide)
  have em := c_minutes (T := T) (P := P) hk k hk4
  rw [hb3] at em
  have ets := c_takesStarch (T := T) (P := P) k hk4
  rcases sb_or V (gK K i) k with ⟨hs, -, hnd⟩ | ⟨hs, -, hnd⟩
  · rw [hnd] at hd
    have q1 : k < 2 := hs.1
    have q2 : (gK K i 0 3 = V 48 0) = False := eq_false hs.2
    simp only [q1, if_true] at ets
    by_cases s1 : 0 < V 0 1
    · simp only [s1, if_true] at el
      simp +decide only [x84_0, x84_0N, x84_1, x84_2, x84_5, x84_8, x84_9, x84_12, x84_13, x84_16, x84_17, x84_18, x84_20, x84_23, x84_24, x84_25, x84_26, x84_29, x84_32, x84_32N, x84_33, x84_36, x84_37, x84_40, x84_43, x84_46, x84_47, x84_50, x84_51, x84_53, x84_53N, x84_54, x84_55, x84_58, x84_60, x84_63, x84_64, x84_67, x84_68, x84_69, x84_72, x84_73, x84_74, x84_76, x84_78, x84_79, x84_82, x84_83, x84_84, x84_86, x84_89, x84_90, x84_93, x84_93N, x84_94, x84_97, x84_100, x84_101, x84_104, x84_105, x84_108, x84_109, x84_110, x84_113, x84_114, x84_117, x84_120, x84_121, x84_122, x84_125, x84_126, x84_127, x84_130, x84_130N, x84_131, x84_134, x84_135, x84_136, x84_137, x84_138, x84_139, x84_140, x84_141, x84_144, x84_145, x84_148, x84_149, x84_150, x84_153, x84_154, x84_157, x84_158, x84_161, x84_163, x84_164, x84_167, x84_169, aft_some, aft_void, Option.bind_some, Option.toList_some, Option.toList_none, List.cons_append, List.nil_append, if_true, if_false, ↓reduceIte, eq_self, f0_o ho, ↓f0_0 ho, ↓f0_0p ho, ↓f0_1 ho, ↓f0_1p ho, ↓f0_2 ho, ↓f0_2p ho, ↓f0_3 ho, ↓f0_3p ho, ↓f0_4 ho, ↓f0_5 ho, ↓f0_6 ho, ↓f0_7 ho, ↓f0_8 ho, ↓f0_9 ho, ↓f0_10 ho, ↓f0_11 ho, ↓f1_g ho, ↓f1_s ho, ↓f2_g ho, ↓f2_s ho, fK_o hk, ↓fK_0 hk, ↓fK_0p hk, ↓fK_1 hk, ↓fK_1p hk, ↓fK_2 hk, ↓fK_2p hk, ↓fK_3 hk, ↓fK_3p hk, ↓fK_4 hk, ↓fK_4p hk, ↓fK_5 hk, ↓fK_6 hk, ↓fK_7 hk, ↓fK1_g hk, ↓fK1_s hk, ↓fK2_g hk, ↓fK2_s hk, ↓fK3_g hk, ↓fK3_s hk, f48_o ho, ↓f48_0 ho, ↓f48_0p ho, ↓f48_1 ho, ↓f48_1p ho, ↓f48_2 ho, ↓f48_2p ho, ↓f48_3 ho, ↓f48_3p ho, ↓aft_of (el), ↓aft_of (ets), ↓aft_of (em), hst, hsr, hpot, hb3, s1, nI_ne5 (show k < 2 ^ 31 by omega), q2, cl1, hd]
    · simp only [s1, if_false] at el
      simp +decide only [x84_0, x84_0N, x84_1, x84_2, x84_5, x84_8, x84_9, x84_12, x84_13, x84_16, x84_17, x84_18, x84_20, x84_23, x84_24, x84_25, x84_26, x84_29, x84_32, x84_32N, x84_33, x84_36, x84_37, x84_40, x84_43, x84_46, x84_47, x84_50, x84_51, x84_53, x84_53N, x84_54, x84_55, x84_58, x84_60, x84_63, x84_64, x84_67, x84_68, x84_69, x84_72, x84_73, x84_74, x84_76, x84_78, x84_79, x84_82, x84_83, x84_84, x84_86, x84_89, x84_90, x84_93, x84_93N, x84_94, x84_97, x84_100, x84_101, x84_104, x84_105, x84_108, x84_109, x84_110, x84_113, x84_114, x84_117, x84_120, x84_121, x84_122, x84_125, x84_126, x84_127, x84_130, x84_130N, x84_131, x84_134, x84_135, x84_136, x84_137, x84_138, x84_139, x84_140, x84_141, x84_144, x84_145, x84_148, x84_149, x84_150, x84_153, x84_154, x84_157, x84_158, x84_161, x84_163, x84_164, x84_167, x84_169, aft_some, aft_void, Option.bind_some, Option.toList_some, Option.toList_none, List.cons_append, List.nil_append, if_true, if_false, ↓reduceIte, eq_self, f0_o ho, ↓f0_0 ho, ↓f0_0p ho, ↓f0_1 ho, ↓f0_1p ho, ↓f0_2 ho, ↓f0_2p ho, ↓f0_3 ho, ↓f0_3p ho, ↓f0_4 ho, ↓f0_5 ho, ↓f0_6 ho, ↓f0_7 ho, ↓f0_8 ho, ↓f0_9 ho, ↓f0_10 ho, ↓f0_11 ho, ↓f1_g ho, ↓f1_s ho, ↓f2_g ho, ↓f2_s ho, fK_o hk, ↓fK_0 hk, ↓fK_0p hk, ↓fK_1 hk, ↓fK_1p hk, ↓fK_2 hk, ↓fK_2p hk, ↓fK_3 hk, ↓fK_3p hk, ↓fK_4 hk, ↓fK_4p hk, ↓fK_5 hk, ↓fK_6 hk, ↓fK_7 hk, ↓fK1_g hk, ↓fK1_s hk, ↓fK2_g hk, ↓fK2_s hk, ↓fK3_g hk, ↓fK3_s hk, f48_o ho, ↓f48_0 ho, ↓f48_0p ho, ↓f48_1 ho, ↓f48_1p ho, ↓f48_2 ho, ↓f48_2p ho, ↓f48_3 ho, ↓f48_3p ho, ↓aft_of (el), ↓aft_of (ets), ↓aft_of (em), hst, hsr, hpot, hb3, s1, nI_ne5 (show k < 2 ^ 31 by omega), q2, cl1, hd]
  · rw [hnd] at hd
    by_cases q1 : k < 2
    · have q2 : (gK K i 0 3 = V 48 0) = True := eq_true (Classical.not_not.mp fun q => hs ⟨q1, q⟩)
      simp only [q1, if_true] at ets
      by_cases s1 : 0 < V 0 1
      · simp only [s1, if_true] at el
        simp +decide only [x84_0, x84_0N, x84_1, x84_2, x84_5, x84_8, x84_9, x84_12, x84_13, x84_16, x84_17, x84_18, x84_20, x84_23, x84_24, x84_25, x84_26, x84_29, x84_32, x84_32N, x84_33, x84_36, x84_37, x84_40, x84_43, x84_46, x84_47, x84_50, x84_51, x84_53, x84_53N, x84_54, x84_55, x84_58, x84_60, x84_63, x84_64, x84_67, x84_68, x84_69, x84_72, x84_73, x84_74, x84_76, x84_78, x84_79, x84_82, x84_83, x84_84, x84_86, x84_89, x84_90, x84_93, x84_93N, x84_94, x84_97, x84_100, x84_101, x84_104, x84_105, x84_108, x84_109, x84_110, x84_113, x84_114, x84_117, x84_120, x84_121, x84_122, x84_125, x84_126, x84_127, x84_130, x84_130N, x84_131, x84_134, x84_135, x84_136, x84_137, x84_138, x84_139, x84_140, x84_141, x84_144, x84_145, x84_148, x84_149, x84_150, x84_153, x84_154, x84_157, x84_158, x84_161, x84_163, x84_164, x84_167, x84_169, aft_some, aft_void, Option.bind_some, Option.toList_some, Option.toList_none, List.cons_append, List.nil_append, if_true, if_false, ↓reduceIte, eq_self, f0_o ho, ↓f0_0 ho, ↓f0_0p ho, ↓f0_1 ho, ↓f0_1p ho, ↓f0_2 ho, ↓f0_2p ho, ↓f0_3 ho, ↓f0_3p ho, ↓f0_4 ho, ↓f0_5 ho, ↓f0_6 ho, ↓f0_7 ho, ↓f0_8 ho, ↓f0_9 ho, ↓f0_10 ho, ↓f0_11 ho, ↓f1_g ho, ↓f1_s ho, ↓f2_g ho, ↓f2_s ho, fK_o hk, ↓fK_0 hk, ↓fK_0p hk, ↓fK_1 hk, ↓fK_1p hk, ↓fK_2 hk, ↓fK_2p hk, ↓fK_3 hk, ↓fK_3p hk, ↓fK_4 hk, ↓fK_4p hk, ↓fK_5 hk, ↓fK_6 hk, ↓fK_7 hk, ↓fK1_g hk, ↓fK1_s hk, ↓fK2_g hk, ↓fK2_s hk, ↓fK3_g hk, ↓fK3_s hk, f48_o ho, ↓f48_0 ho, ↓f48_0p ho, ↓f48_1 ho, ↓f48_1p ho, ↓f48_2 ho, ↓f48_2p ho, ↓f48_3 ho, ↓f48_3p ho, ↓aft_of (el), ↓aft_of (ets), ↓aft_of (em), hst, hsr, hpot, hb3, s1, nI_ne5 (show k < 2 ^ 31 by omega), q2, cl1, hd]
      · simp only [s1, if_false] at el
        simp +decide only [x84_0, x84_0N, x84_1, x84_2, x84_5, x84_8, x84_9, x84_12, x84_13, x84_16, x84_17, x84_18, x84_20, x84_23, x84_24, x84_25, x84_26, x84_29, x84_32, x84_32N, x84_33, x84_36, x84_37, x84_40, x84_43, x84_46, x84_47, x84_50, x84_51, x84_53, x84_53N, x84_54, x84_55, x84_58, x84_60, x84_63, x84_64, x84_67, x84_68, x84_69, x84_72, x84_73, x84_74, x84_76, x84_78, x84_79, x84_82, x84_83, x84_84, x84_86, x84_89, x84_90, x84_93, x84_93N, x84_94, x84_97, x84_100, x84_101, x84_104, x84_105, x84_108, x84_109, x84_110, x84_113, x84_114, x84_117, x84_120, x84_121, x84_122, x84_125, x84_126, x84_127, x84_130, x84_130N, x84_131, x84_134, x84_135, x84_136, x84_137, x84_138, x84_139, x84_140, x84_141, x84_144, x84_145, x84_148, x84_149, x84_150, x84_153, x84_154, x84_157, x84_158, x84_161, x84_163, x84_164, x84_167, x84_169, aft_some, aft_void, Option.bind_some, Option.toList_some, Option.toList_none, List.cons_append, List.nil_append, if_true, if_false, ↓reduceIte, eq_self, f0_o ho, ↓f0_0 ho, ↓f0_0p ho, ↓f0_1 ho, ↓f0_1p ho, ↓f0_2 ho, ↓f0_2p ho, ↓f0_3 ho, ↓f0_3p ho, ↓f0_4 ho, ↓f0_5 ho, ↓f0_6 ho, ↓f0_7 ho, ↓f0_8 ho, ↓f0_9 ho, ↓f0_10 ho, ↓f0_11 ho, ↓f1_g ho, ↓f1_s ho, ↓f2_g ho, ↓f2_s ho, fK_o hk, ↓fK_0 hk, ↓fK_0p hk, ↓fK_1 hk, ↓fK_1p hk, ↓fK_2 hk, ↓fK_2p hk, ↓fK_3 hk, ↓fK_3p hk, ↓fK_4 hk, ↓fK_4p hk, ↓fK_5 hk, ↓fK_6 hk, ↓fK_7 hk, ↓fK1_g hk, ↓fK1_s hk, ↓fK2_g hk, ↓fK2_s hk, ↓fK3_g hk, ↓fK3_s hk, f48_o ho, ↓f48_0 ho, ↓f48_0p ho, ↓f48_1 ho, ↓f48_1p ho, ↓f48_2 ho, ↓f48_2p ho, ↓f48_3 ho, ↓f48_3p ho, ↓aft_of (el), ↓aft_of (ets), ↓aft_of (em), hst, hsr, hpot, hb3, s1, nI_ne5 (show k < 2 ^ 31 by omega), q2, cl1, hd]
    · simp only [q1, if_false] at ets
      by_cases s1 : 0 < V 0 1
      · simp only [s1, if_true] at el
        simp +decide only [x84_0, x84_0N, x84_1, x84_2, x84_5, x84_8, x84_9, x84_12, x84_13, x84_16, x84_17, x84_18, x84_20, x84_23, x84_24, x84_25, x84_26, x84_29, x84_32, x84_32N, x84_33, x84_36, x84_37, x84_40, x84_43, x84_46, x84_47, x84_50, x84_51, x84_53, x84_53N, x84_54, x84_55, x84_58, x84_60, x84_63, x84_64, x84_67, x84_68, x84_69, x84_72, x84_73, x84_74, x84_76, x84_78, x84_79, x84_82, x84_83, x84_84, x84_86, x84_89, x84_90, x84_93, x84_93N, x84_94, x84_97, x84_100, x84_101, x84_104, x84_105, x84_108, x84_109, x84_110, x84_113, x84_114, x84_117, x84_120, x84_121, x84_122, x84_125, x84_126, x84_127, x84_130, x84_130N, x84_131, x84_134, x84_135, x84_136, x84_137, x84_138, x84_139, x84_140, x84_141, x84_144, x84_145, x84_148, x84_149, x84_150, x84_153, x84_154, x84_157, x84_158, x84_161, x84_163, x84_164, x84_167, x84_169, aft_some, aft_void, Option.bind_some, Option.toList_some, Option.toList_none, List.cons_append, List.nil_append, if_true, if_false, ↓reduceIte, eq_self, f0_o ho, ↓f0_0 ho, ↓f0_0p ho, ↓f0_1 ho, ↓f0_1p ho, ↓f0_2 ho, ↓f0_2p ho, ↓f0_3 ho, ↓f0_3p ho, ↓f0_4 ho, ↓f0_5 ho, ↓f0_6 ho, ↓f0_7 ho, ↓f0_8 ho, ↓f0_9 ho, ↓f0_10 ho, ↓f0_11 ho, ↓f1_g ho, ↓f1_s ho, ↓f2_g ho, ↓f2_s ho, fK_o hk, ↓fK_0 hk, ↓fK_0p hk, ↓fK_1 hk, ↓fK_1p hk, ↓fK_2 hk, ↓fK_2p hk, ↓fK_3 hk, ↓fK_3p hk, ↓fK_4 hk, ↓fK_4p hk, ↓fK_5 hk, ↓fK_6 hk, ↓fK_7 hk, ↓fK1_g hk, ↓fK1_s hk, ↓fK2_g hk, ↓fK2_s hk, ↓fK3_g hk, ↓fK3_s hk, f48_o ho, ↓f48_0 ho, ↓f48_0p ho, ↓f48_1 ho, ↓f48_1p ho, ↓f48_2 ho, ↓f48_2p ho, ↓f48_3 ho, ↓f48_3p ho, ↓aft_of (el), ↓aft_of (ets), ↓aft_of (em), hst, hsr, hpot, hb3, s1, nI_ne5 (show k < 2 ^ 31 by omega), cl1, hd]
      · simp only [s1, if_false] at el
        simp +decide only [x84_0, x84_0N, x84_1, x84_2, x84_5, x84_8, x84_9, x84_12, x84_13, x84_16, x84_17, x84_18, x84_20, x84_23, x84_24, x84_25, x84_26, x84_29, x84_32, x84_32N, x84_33, x84_36, x84_37, x84_40, x84_43, x84_46, x84_47, x84_50, x84_51, x84_53, x84_53N, x84_54, x84_55, x84_58, x84_60, x84_63, x84_64, x84_67, x84_68, x84_69, x84_72, x84_73, x84_74, x84_76, x84_78, x84_79, x84_82, x84_83, x84_84, x84_86, x84_89, x84_90, x84_93, x84_93N, x84_94, x84_97, x84_100, x84_101, x84_104, x84_105, x84_108, x84_109, x84_110, x84_113, x84_114, x84_117, x84_120, x84_121, x84_122, x84_125, x84_126, x84_127, x84_130, x84_130N, x84_131, x84_134, x84_135, x84_136, x84_137, x84_138, x84_139, x84_140, x84_141, x84_144, x84_145, x84_148, x84_149, x84_150, x84_153, x84_154, x84_157, x84_158, x84_161, x84_163, x84_164, x84_167, x84_169, aft_some, aft_void, Option.bind_some, Option.toList_some, Option.toList_none, List.cons_append, List.nil_append, if_true, if_false, ↓reduceIte, eq_self, f0_o ho, ↓f0_0 ho, ↓f0_0p ho, ↓f0_1 ho, ↓f0_1p ho, ↓f0_2 ho, ↓f0_2p ho, ↓f0_3 ho, ↓f0_3p ho, ↓f0_4 ho, ↓f0_5 ho, ↓f0_6 ho, ↓f0_7 ho, ↓f0_8 ho, ↓f0_9 ho, ↓f0_10 ho, ↓f0_11 ho, ↓f1_g ho, ↓f1_s ho, ↓f2_g ho, ↓f2_s ho, fK_o hk, ↓fK_0 hk, ↓fK_0p hk, ↓fK_1 hk, ↓fK_1p hk, ↓fK_2 hk, ↓fK_2p hk, ↓fK_3 hk, ↓fK_3p hk, ↓fK_4 hk, ↓fK_4p hk, ↓fK_5 hk, ↓fK_6 hk, ↓fK_7 hk, ↓fK1_g hk, ↓fK1_s hk, ↓fK2_g hk, ↓fK2_s hk, ↓fK3_g hk, ↓fK3_s hk, f48_o ho, ↓f48_0 ho, ↓f48_0p ho, ↓f48_1 ho, ↓f48_1p ho, ↓f48_2 ho, ↓f48_2p ho, ↓f48_3 ho, ↓f48_3p ho, ↓aft_of (el), ↓aft_of (ets), ↓aft_of (em), hst, hsr, hpot, hb3, s1, nI_ne5 (show k < 2 ^ 31 by omega), cl1, hd]
/-- what the state is behind one piece, by its cells -/
theorem CS_iron (ho : isB o) (h : CS o T P N V K B R) (hw : WF N V K B) {i k : Nat} (hi : i < K.length) (hk4 : k < 4) {U : Nat → Nat → Int32} (hf : ∀ a, a ≠ o → a ≠ o + 48 → a ≠ P (o + 8) i + 2 → U a = T a) (h0 : ∀ j, U o j = inV V (gK K i) k 0 j ∨ (4 ≤ j) ) (h48 : ∀ j, j < 4 → U (o + 48) j = inV V (gK K i) k 48 j) (hb : U (P (o + 8) i + 2) = upA (T (P (o + 8) i + 2)) k (T (P (o + 8) i + 2) k + 1)) : CS o U P N (inV V (gK K i) k) (K.set i (inB (gK K i) k)) B R := by
  have h8 : K.length ≤ 8 := hw.1.2.2.2.1
  obtain ⟨⟨k0, k1, k2, k00⟩, ⟨k3, k4, k5, k6⟩, ⟨kP, kn, kc, kK⟩, kB, kL, k48, kJ⟩ := id h
  have hr := kP.rg (show i < 8 by omega)
  have hV : ∀ r, r ≠ 0 → r ≠ 48 → inV V (gK K i) k r = V r := fun r g0 g48 => by simp only [inV, upA_n _ _ g0, upA_n _ _ g48]
  refine ⟨⟨?_, ?_, ?_, ?_⟩, ⟨?_, ?_, ?_, ?_⟩, ⟨kP, ?_, ?_, ?_⟩, ?_, ?_, h48, ?_⟩
  · intro j hj
    rcases h0 j with q | q
    · exact q
    · omega
  · intro j hj
    rw [hf _ (by omega) (by omega) (by omega), hV 1 (by decide) (by decide)]; exact k1 j hj
  · intro j hj
    rw [hf _ (by omega) (by omega) (by omega), hV 2 (by decide) (by decide)]; exact k2 j hj
  · simp +decide only [inV, upA_s, u_n]; exact k00
  · rw [hf _ (by omega) (by omega) (by omega)]; exact k3
  · intro j hj
    rw [hf _ (by omega) (by omega) (by omega), hV 4 (by decide) (by decide)]; exact k4 j hj
  · intro j hj
    rw [hf _ (by omega) (by omega) (by omega), hV 5 (by decide) (by decide)]; exact k5 j hj
  · intro j hj
    rw [hf _ (by omega) (by omega) (by omega), hV 6 (by decide) (by decide)]; exact k6 j hj
  · rw [hf _ (by omega) (by omega) (by omega), List.length_set]; exact kn
  · rw [hf _ (by omega) (by omega) (by omega)]; exact kc
  · intro j q hq
    by_cases hji : i = j
    · subst hji
      rw [List.getElem?_set_self hi] at hq
      cases hq
      have hbk := h.at hi
      refine ⟨fun m hm => ?_, fun m hm => ?_⟩
      · rw [hf _ (by omega) (by omega) (by omega), hbk.1 m hm]; simp +decide only [inB, u_n]
      · have g := hbk.2 m hm
        rw [hf (P (o + 8) i + 1) (by omega) (by omega) (by omega), hf (P (o + 8) i + 3) (by omega) (by omega) (by omega), hb, g.1, g.2.2]
        refine ⟨by simp +decide only [inB, u_n], ?_, by simp +decide only [inB, u_n]⟩
        simp only [inB, upA_s]
        unfold upA
        by_cases hmk : m = k
        · subst hmk; rw [if_pos rfl, if_pos rfl, g.2.1]
        · rw [if_neg hmk, if_neg hmk, g.2.1]
    · rw [List.getElem?_set_ne hji] at hq
      have hjl : j < K.length := (List.getElem?_eq_some_iff.mp hq).1
      have ap := kP.ap (show j < 8 by omega) (show i < 8 by omega) (Ne.symm hji)
      have hrj := kP.rg (show j < 8 by omega)
      exact (kK j q hq).same (fun x hx => hf _ (by omega) (by omega) (ap x 2 hx (by decide)))
  · exact kB.other (hf _ (by omega) (by omega) (by omega)) (hf _ (by omega) (by omega) (by omega)) (hf _ (by omega) (by omega) (by omega)) (hf _ (by omega) (by omega) (by omega))
  · rw [hV 46 (by decide) (by decide), hV 47 (by decide) (by decide)]
    exact kL.same (hf _ (by omega) (by omega) (by omega)) (hf _ (by omega) (by omega) (by omega)) (hf _ (by omega) (by omega) (by omega))
  · exact kJ.same (hf _ (by omega) (by omega) (by omega)) (hf _ (by omega) (by omega) (by omega))
theorem c_ironDo (ho : isB o) (h : CS o T P N V K B R) (hw : WF N V K B) {i k : Nat} (hi : i < K.length) (hk4 : k < 4) (hl : lkK (gK K i) (if 0 < V 0 1 then 1 else 0) = nI k) (hd : ¬ left < ndI V (gK K i) k) : ∃ T', X 84 0 [.ref o, .ref (P (o + 8) i), .int left, .long 0, .long 0, .long 0] [] (H T P) = some (some (.int (ndI V (gK K i) k)), H T' P) ∧ (∀ a, (a < o ∨ o + 51 ≤ a) → T' a = T a) ∧ CS o T' P N (inV V (gK K i) k) (K.set i (inB (gK K i) k)) B R := by
  have h8 : K.length ≤ 8 := hw.1.2.2.2.1
  have hk := h.pk.k ho (show i < 8 by omega)
  have hr := h.pk.rg (show i < 8 by omega)
  have el := c_lowest (T := T) (P := P) hk (if 0 < V 0 1 then 1 else 0)
  rw [(h.at hi).lk, hl] at el
  have hst : T o 1 = V 0 1 := h.1.1 1 (by decide)
  have hsr : T (o + 1) 1 = V 1 1 := h.1.2.1 1 (by decide)
  have hpot : T (o + 48) 0 = V 48 0 := h.2.2.2.2.2.1 0 (by decide)
  have hp1 : T (o + 48) 1 = V 48 1 := h.2.2.2.2.2.1 1 (by decide)
  have hp2 : T (o + 48) 2 = V 48 2 := h.2.2.2.2.2.1 2 (by decide)
  have hp3 : T (o + 48) 3 = V 48 3 := h.2.2.2.2.2.1 3 (by decide)
  have hb3 : T (P (o + 8) i) 3 = gK K i 0 3 := (h.at hi).1 3 (by decide)
  have em := c_minutes (T := T) (P := P) hk k hk4
  rw [hb3] at em
  have ets := c_takesStarch (T := T) (P := P) k hk4
  have etg : ∀ U, X 5 0 [.int (nI k)] [] (H U P) = some (some (.int (if k < 3 then 1 else 0)), H U P) := fun U => c_takesHanger k hk4
  have f1 : ∀ (U : Nat → Nat → Int32) f, upA U (o + 48) f (P (o + 8) i) = U (P (o + 8) i) := fun U f => upA_n _ _ (by omega)
  have f2 : ∀ (U : Nat → Nat → Int32) f, upA U o f (P (o + 8) i) = U (P (o + 8) i) := fun U f => upA_n _ _ (by omega)
  have f3 : ∀ (U : Nat → Nat → Int32) f, upA U (o + 48) f (P (o + 8) i + 2) = U (P (o + 8) i + 2) := fun U f => upA_n _ _ (by omega)
  have f4 : ∀ (U : Nat → Nat → Int32) f, upA U o f (P (o + 8) i + 2) = U (P (o + 8) i + 2) := fun U f => upA_n _ _ (by omega)
  have f5 : ∀ (U : Nat → Nat → Int32) f, upA U (P (o + 8) i + 2) f (o + 48) = U (o + 48) := fun U f => upA_n _ _ (by omega)
  have f6 : ∀ (U : Nat → Nat → Int32) f, upA U (P (o + 8) i + 2) f o = U o := fun U f => upA_n _ _ (by omega)
  have fin : ∀ U : Nat → Nat → Int32, (∀ a, a ≠ o → a ≠ o + 48 → a ≠ P (o + 8) i + 2 → U a = T a) → (∀ a, (a < o ∨ o + 51 ≤ a) → U a = T a) := fun U g a ha => g a (by omega) (by omega) (by omega)
  have ok := okx_nI hk4 (show (4 : Nat) < 2 ^ 31 by decide)
  have ncl := nI_clamp (show k < 2 ^ 31 by omega)
  have ne5 := nI_ne5 (show k < 2 ^ 31 by omega)
  have htr : ∀ a, a ≠ o → a ≠ o + 48 → a ≠ P (o + 8) i + 2 → ∀ (U : Nat → Nat → Int32) f g, upA U o f a = U a ∧ upA U (o + 48) f a = U a ∧ upA U (P (o + 8) i + 2) g a = U a := fun a g0 g1 g2 U f g => ⟨upA_n _ _ g0, upA_n _ _ g1, upA_n _ _ g2⟩
  rcases sb_or V (gK K i) k with ⟨hs, hsb, hnd⟩ | ⟨hs, hsb, hnd⟩
  · rw [hnd] at hd ⊢
    have q1 : k < 2 := hs.1
    have q3 : k < 3 := by omega
    have q2 : (gK K i 0 3 = V 48 0) = False := eq_false hs.2
    simp only [q1, if_true] at ets
    simp only [q3, if_true] at etg
    have run : ∃ U, X 84 0 [.ref o, .ref (P (o + 8) i), .int left, .long 0, .long 0, .long 0] [] (H T P) = some (some (.int (mnI (gK K i 0 3) k + V 1 1)), H U P) ∧ (∀ a, a ≠ o → a ≠ o + 48 → a ≠ P (o + 8) i + 2 → U a = T a) ∧ U o = upA (T o) 1 (V 0 1 - 1) ∧ (U (o + 48) 0 = gK K i 0 3 ∧ U (o + 48) 1 = V 48 1 + 1 ∧ U (o + 48) 2 = V 48 2 + 1 ∧ U (o + 48) 3 = V 48 3 + (mnI (gK K i 0 3) k + V 1 1)) ∧ U (P (o + 8) i + 2) = upA (T (P (o + 8) i + 2)) k (T (P (o + 8) i + 2) k + 1) := by
      by_cases s1 : 0 < V 0 1
      · simp only [s1, if_true] at el
        refine ⟨_, by
          simp +decide only [x84_0, x84_0N, x84_1, x84_2, x84_5, x84_8, x84_9, x84_12, x84_13, x84_16, x84_17, x84_18, x84_20, x84_23, x84_24, x84_25, x84_26, x84_29, x84_32, x84_32N, x84_33, x84_36, x84_37, x84_40, x84_43, x84_46, x84_47, x84_50, x84_51, x84_53, x84_53N, x84_54, x84_55, x84_58, x84_60, x84_63, x84_64, x84_67, x84_68, x84_69, x84_72, x84_73, x84_74, x84_76, x84_78, x84_79, x84_82, x84_83, x84_84, x84_86, x84_89, x84_90, x84_93, x84_93N, x84_94, x84_97, x84_100, x84_101, x84_104, x84_105, x84_108, x84_109, x84_110, x84_113, x84_114, x84_117, x84_120, x84_121, x84_122, x84_125, x84_126, x84_127, x84_130, x84_130N, x84_131, x84_134, x84_135, x84_136, x84_137, x84_138, x84_139, x84_140, x84_141, x84_144, x84_145, x84_148, x84_149, x84_150, x84_153, x84_154, x84_157, x84_158, x84_161, x84_163, x84_164, x84_167, x84_169, aft_some, aft_void, Option.bind_some, Option.toList_some, Option.toList_none, List.cons_append, List.nil_append, if_true, if_false, ↓reduceIte, eq_self, f0_o ho, ↓f0_0 ho, ↓f0_0p ho, ↓f0_1 ho, ↓f0_1p ho, ↓f0_2 ho, ↓f0_2p ho, ↓f0_3 ho, ↓f0_3p ho, ↓f0_4 ho, ↓f0_5 ho, ↓f0_6 ho, ↓f0_7 ho, ↓f0_8 ho, ↓f0_9 ho, ↓f0_10 ho, ↓f0_11 ho, ↓f1_g ho, ↓f1_s ho, ↓f2_g ho, ↓f2_s ho, fK_o hk, ↓fK_0 hk, ↓fK_0p hk, ↓fK_1 hk, ↓fK_1p hk, ↓fK_2 hk, ↓fK_2p hk, ↓fK_3 hk, ↓fK_3p hk, ↓fK_4 hk, ↓fK_4p hk, ↓fK_5 hk, ↓fK_6 hk, ↓fK_7 hk, ↓fK1_g hk, ↓fK1_s hk, ↓fK2_g hk, ↓fK2_s hk, ↓fK3_g hk, ↓fK3_s hk, f48_o ho, ↓f48_0 ho, ↓f48_0p ho, ↓f48_1 ho, ↓f48_1p ho, ↓f48_2 ho, ↓f48_2p ho, ↓f48_3 ho, ↓f48_3p ho, upA_s, u_oo, u_o0, u_0o, u_n, f1, f2, f3, f4, f5, f6, ↓aft_of (el), ↓aft_of (ets), ↓aft_of (em), ↓aft_of (etg _), hst, hsr, hpot, hp1, hp2, hp3, hb3, s1, ne5, q2, cl1, hd, ok, ncl]
          rfl, ?_, ?_, ⟨?_, ?_, ?_, ?_⟩, ?_⟩
        · intro a g0 g1 g2
          simp only [upA_n _ _ g0, upA_n _ _ g1, upA_n _ _ g2]
        all_goals simp +decide only [upA_s, u_n, u_oo, u_o0, u_0o, f1, f2, f3, f4, f5, f6]
      · simp only [s1, if_false] at el
        refine ⟨_, by
          simp +decide only [x84_0, x84_0N, x84_1, x84_2, x84_5, x84_8, x84_9, x84_12, x84_13, x84_16, x84_17, x84_18, x84_20, x84_23, x84_24, x84_25, x84_26, x84_29, x84_32, x84_32N, x84_33, x84_36, x84_37, x84_40, x84_43, x84_46, x84_47, x84_50, x84_51, x84_53, x84_53N, x84_54, x84_55, x84_58, x84_60, x84_63, x84_64, x84_67, x84_68, x84_69, x84_72, x84_73, x84_74, x84_76, x84_78, x84_79, x84_82, x84_83, x84_84, x84_86, x84_89, x84_90, x84_93, x84_93N, x84_94, x84_97, x84_100, x84_101, x84_104, x84_105, x84_108, x84_109, x84_110, x84_113, x84_114, x84_117, x84_120, x84_121, x84_122, x84_125, x84_126, x84_127, x84_130, x84_130N, x84_131, x84_134, x84_135, x84_136, x84_137, x84_138, x84_139, x84_140, x84_141, x84_144, x84_145, x84_148, x84_149, x84_150, x84_153, x84_154, x84_157, x84_158, x84_161, x84_163, x84_164, x84_167, x84_169, aft_some, aft_void, Option.bind_some, Option.toList_some, Option.toList_none, List.cons_append, List.nil_append, if_true, if_false, ↓reduceIte, eq_self, f0_o ho, ↓f0_0 ho, ↓f0_0p ho, ↓f0_1 ho, ↓f0_1p ho, ↓f0_2 ho, ↓f0_2p ho, ↓f0_3 ho, ↓f0_3p ho, ↓f0_4 ho, ↓f0_5 ho, ↓f0_6 ho, ↓f0_7 ho, ↓f0_8 ho, ↓f0_9 ho, ↓f0_10 ho, ↓f0_11 ho, ↓f1_g ho, ↓f1_s ho, ↓f2_g ho, ↓f2_s ho, fK_o hk, ↓fK_0 hk, ↓fK_0p hk, ↓fK_1 hk, ↓fK_1p hk, ↓fK_2 hk, ↓fK_2p hk, ↓fK_3 hk, ↓fK_3p hk, ↓fK_4 hk, ↓fK_4p hk, ↓fK_5 hk, ↓fK_6 hk, ↓fK_7 hk, ↓fK1_g hk, ↓fK1_s hk, ↓fK2_g hk, ↓fK2_s hk, ↓fK3_g hk, ↓fK3_s hk, f48_o ho, ↓f48_0 ho, ↓f48_0p ho, ↓f48_1 ho, ↓f48_1p ho, ↓f48_2 ho, ↓f48_2p ho, ↓f48_3 ho, ↓f48_3p ho, upA_s, u_oo, u_o0, u_0o, u_n, f1, f2, f3, f4, f5, f6, ↓aft_of (el), ↓aft_of (ets), ↓aft_of (em), ↓aft_of (etg _), hst, hsr, hpot, hp1, hp2, hp3, hb3, s1, ne5, q2, cl1, hd, ok, ncl]
          rfl, ?_, ?_, ⟨?_, ?_, ?_, ?_⟩, ?_⟩
        · intro a g0 g1 g2
          simp only [upA_n _ _ g0, upA_n _ _ g1, upA_n _ _ g2]
        all_goals simp +decide only [upA_s, u_n, u_oo, u_o0, u_0o, f1, f2, f3, f4, f5, f6]
    obtain ⟨U, e, g1, g2, g3, g4⟩ := run
    refine ⟨U, e, fin U g1, CS_iron ho h hw hi hk4 g1 (fun j => ?_) (fun j hj => ?_) g4⟩
    · by_cases hj : 4 ≤ j
      · exact Or.inr hj
      · refine Or.inl ?_
        rw [g2]
        simp +decide only [inV, upA_s, u_n, q3, if_true]
        unfold upA
        by_cases hj1 : j = 1
        · rw [if_pos hj1, if_pos hj1]
        · rw [if_neg hj1, if_neg hj1]; exact h.1.1 j (by omega)
    · simp only [inV, upA_s, if_pos hs, hsb, hnd]
      match j, hj with
      | 0, _ => exact g3.1
      | 1, _ => exact g3.2.1
      | 2, _ => exact g3.2.2.1
      | 3, _ => exact g3.2.2.2
  · rw [hnd] at hd ⊢
    have run : ∃ U, X 84 0 [.ref o, .ref (P (o + 8) i), .int left, .long 0, .long 0, .long 0] [] (H T P) = some (some (.int (mnI (gK K i 0 3) k + 0)), H U P) ∧ (∀ a, a ≠ o → a ≠ o + 48 → a ≠ P (o + 8) i + 2 → U a = T a) ∧ U o = (if k < 3 then upA (T o) 1 (V 0 1 - 1) else T o) ∧ (U (o + 48) 0 = V 48 0 ∧ U (o + 48) 1 = V 48 1 ∧ U (o + 48) 2 = V 48 2 + 1 ∧ U (o + 48) 3 = V 48 3 + (mnI (gK K i 0 3) k + 0)) ∧ U (P (o + 8) i + 2) = upA (T (P (o + 8) i + 2)) k (T (P (o + 8) i + 2) k + 1) := by
      have q2 : k < 2 → (gK K i 0 3 = V 48 0) = True := fun q1 => eq_true (Classical.not_not.mp fun q => hs ⟨q1, q⟩)
      by_cases q1 : k < 2
      · have q2 := q2 q1
        have q3 : k < 3 := by omega
        simp only [q1, if_true] at ets
        simp only [q3, if_true] at etg ⊢
        by_cases s1 : 0 < V 0 1
        · simp only [s1, if_true] at el
          refine ⟨_, by
            simp +decide only [x84_0, x84_0N, x84_1, x84_2, x84_5, x84_8, x84_9, x84_12, x84_13, x84_16, x84_17, x84_18, x84_20, x84_23, x84_24, x84_25, x84_26, x84_29, x84_32, x84_32N, x84_33, x84_36, x84_37, x84_40, x84_43, x84_46, x84_47, x84_50, x84_51, x84_53, x84_53N, x84_54, x84_55, x84_58, x84_60, x84_63, x84_64, x84_67, x84_68, x84_69, x84_72, x84_73, x84_74, x84_76, x84_78, x84_79, x84_82, x84_83, x84_84, x84_86, x84_89, x84_90, x84_93, x84_93N, x84_94, x84_97, x84_100, x84_101, x84_104, x84_105, x84_108, x84_109, x84_110, x84_113, x84_114, x84_117, x84_120, x84_121, x84_122, x84_125, x84_126, x84_127, x84_130, x84_130N, x84_131, x84_134, x84_135, x84_136, x84_137, x84_138, x84_139, x84_140, x84_141, x84_144, x84_145, x84_148, x84_149, x84_150, x84_153, x84_154, x84_157, x84_158, x84_161, x84_163, x84_164, x84_167, x84_169, aft_some, aft_void, Option.bind_some, Option.toList_some, Option.toList_none, List.cons_append, List.nil_append, if_true, if_false, ↓reduceIte, eq_self, f0_o ho, ↓f0_0 ho, ↓f0_0p ho, ↓f0_1 ho, ↓f0_1p ho, ↓f0_2 ho, ↓f0_2p ho, ↓f0_3 ho, ↓f0_3p ho, ↓f0_4 ho, ↓f0_5 ho, ↓f0_6 ho, ↓f0_7 ho, ↓f0_8 ho, ↓f0_9 ho, ↓f0_10 ho, ↓f0_11 ho, ↓f1_g ho, ↓f1_s ho, ↓f2_g ho, ↓f2_s ho, fK_o hk, ↓fK_0 hk, ↓fK_0p hk, ↓fK_1 hk, ↓fK_1p hk, ↓fK_2 hk, ↓fK_2p hk, ↓fK_3 hk, ↓fK_3p hk, ↓fK_4 hk, ↓fK_4p hk, ↓fK_5 hk, ↓fK_6 hk, ↓fK_7 hk, ↓fK1_g hk, ↓fK1_s hk, ↓fK2_g hk, ↓fK2_s hk, ↓fK3_g hk, ↓fK3_s hk, f48_o ho, ↓f48_0 ho, ↓f48_0p ho, ↓f48_1 ho, ↓f48_1p ho, ↓f48_2 ho, ↓f48_2p ho, ↓f48_3 ho, ↓f48_3p ho, upA_s, u_oo, u_o0, u_0o, u_n, f1, f2, f3, f4, f5, f6, ↓aft_of (el), ↓aft_of (ets), ↓aft_of (em), ↓aft_of (etg _), hst, hsr, hpot, hp1, hp2, hp3, hb3, s1, ne5, q2, cl1, hd, ok, ncl]
            rfl, ?_, ?_, ⟨?_, ?_, ?_, ?_⟩, ?_⟩
          · intro a g0 g1 g2
            simp only [upA_n _ _ g0, upA_n _ _ g1, upA_n _ _ g2]
          all_goals simp +decide only [upA_s, u_n, u_oo, u_o0, u_0o, f1, f2, f3, f4, f5, f6, hpot, hp1]
        · simp only [s1, if_false] at el
          refine ⟨_, by
            simp +decide only [x84_0, x84_0N, x84_1, x84_2, x84_5, x84_8, x84_9, x84_12, x84_13, x84_16, x84_17, x84_18, x84_20, x84_23, x84_24, x84_25, x84_26, x84_29, x84_32, x84_32N, x84_33, x84_36, x84_37, x84_40, x84_43, x84_46, x84_47, x84_50, x84_51, x84_53, x84_53N, x84_54, x84_55, x84_58, x84_60, x84_63, x84_64, x84_67, x84_68, x84_69, x84_72, x84_73, x84_74, x84_76, x84_78, x84_79, x84_82, x84_83, x84_84, x84_86, x84_89, x84_90, x84_93, x84_93N, x84_94, x84_97, x84_100, x84_101, x84_104, x84_105, x84_108, x84_109, x84_110, x84_113, x84_114, x84_117, x84_120, x84_121, x84_122, x84_125, x84_126, x84_127, x84_130, x84_130N, x84_131, x84_134, x84_135, x84_136, x84_137, x84_138, x84_139, x84_140, x84_141, x84_144, x84_145, x84_148, x84_149, x84_150, x84_153, x84_154, x84_157, x84_158, x84_161, x84_163, x84_164, x84_167, x84_169, aft_some, aft_void, Option.bind_some, Option.toList_some, Option.toList_none, List.cons_append, List.nil_append, if_true, if_false, ↓reduceIte, eq_self, f0_o ho, ↓f0_0 ho, ↓f0_0p ho, ↓f0_1 ho, ↓f0_1p ho, ↓f0_2 ho, ↓f0_2p ho, ↓f0_3 ho, ↓f0_3p ho, ↓f0_4 ho, ↓f0_5 ho, ↓f0_6 ho, ↓f0_7 ho, ↓f0_8 ho, ↓f0_9 ho, ↓f0_10 ho, ↓f0_11 ho, ↓f1_g ho, ↓f1_s ho, ↓f2_g ho, ↓f2_s ho, fK_o hk, ↓fK_0 hk, ↓fK_0p hk, ↓fK_1 hk, ↓fK_1p hk, ↓fK_2 hk, ↓fK_2p hk, ↓fK_3 hk, ↓fK_3p hk, ↓fK_4 hk, ↓fK_4p hk, ↓fK_5 hk, ↓fK_6 hk, ↓fK_7 hk, ↓fK1_g hk, ↓fK1_s hk, ↓fK2_g hk, ↓fK2_s hk, ↓fK3_g hk, ↓fK3_s hk, f48_o ho, ↓f48_0 ho, ↓f48_0p ho, ↓f48_1 ho, ↓f48_1p ho, ↓f48_2 ho, ↓f48_2p ho, ↓f48_3 ho, ↓f48_3p ho, upA_s, u_oo, u_o0, u_0o, u_n, f1, f2, f3, f4, f5, f6, ↓aft_of (el), ↓aft_of (ets), ↓aft_of (em), ↓aft_of (etg _), hst, hsr, hpot, hp1, hp2, hp3, hb3, s1, ne5, q2, cl1, hd, ok, ncl]
            rfl, ?_, ?_, ⟨?_, ?_, ?_, ?_⟩, ?_⟩
          · intro a g0 g1 g2
            simp only [upA_n _ _ g0, upA_n _ _ g1, upA_n _ _ g2]
          all_goals simp +decide only [upA_s, u_n, u_oo, u_o0, u_0o, f1, f2, f3, f4, f5, f6, hpot, hp1]
      · simp only [q1, if_false] at ets
        by_cases q3 : k < 3
        · simp only [q3, if_true] at etg ⊢
          by_cases s1 : 0 < V 0 1
          · simp only [s1, if_true] at el
            refine ⟨_, by
              simp +decide only [x84_0, x84_0N, x84_1, x84_2, x84_5, x84_8, x84_9, x84_12, x84_13, x84_16, x84_17, x84_18, x84_20, x84_23, x84_24, x84_25, x84_26, x84_29, x84_32, x84_32N, x84_33, x84_36, x84_37, x84_40, x84_43, x84_46, x84_47, x84_50, x84_51, x84_53, x84_53N, x84_54, x84_55, x84_58, x84_60, x84_63, x84_64, x84_67, x84_68, x84_69, x84_72, x84_73, x84_74, x84_76, x84_78, x84_79, x84_82, x84_83, x84_84, x84_86, x84_89, x84_90, x84_93, x84_93N, x84_94, x84_97, x84_100, x84_101, x84_104, x84_105, x84_108, x84_109, x84_110, x84_113, x84_114, x84_117, x84_120, x84_121, x84_122, x84_125, x84_126, x84_127, x84_130, x84_130N, x84_131, x84_134, x84_135, x84_136, x84_137, x84_138, x84_139, x84_140, x84_141, x84_144, x84_145, x84_148, x84_149, x84_150, x84_153, x84_154, x84_157, x84_158, x84_161, x84_163, x84_164, x84_167, x84_169, aft_some, aft_void, Option.bind_some, Option.toList_some, Option.toList_none, List.cons_append, List.nil_append, if_true, if_false, ↓reduceIte, eq_self, f0_o ho, ↓f0_0 ho, ↓f0_0p ho, ↓f0_1 ho, ↓f0_1p ho, ↓f0_2 ho, ↓f0_2p ho, ↓f0_3 ho, ↓f0_3p ho, ↓f0_4 ho, ↓f0_5 ho, ↓f0_6 ho, ↓f0_7 ho, ↓f0_8 ho, ↓f0_9 ho, ↓f0_10 ho, ↓f0_11 ho, ↓f1_g ho, ↓f1_s ho, ↓f2_g ho, ↓f2_s ho, fK_o hk, ↓fK_0 hk, ↓fK_0p hk, ↓fK_1 hk, ↓fK_1p hk, ↓fK_2 hk, ↓fK_2p hk, ↓fK_3 hk, ↓fK_3p hk, ↓fK_4 hk, ↓fK_4p hk, ↓fK_5 hk, ↓fK_6 hk, ↓fK_7 hk, ↓fK1_g hk, ↓fK1_s hk, ↓fK2_g hk, ↓fK2_s hk, ↓fK3_g hk, ↓fK3_s hk, f48_o ho, ↓f48_0 ho, ↓f48_0p ho, ↓f48_1 ho, ↓f48_1p ho, ↓f48_2 ho, ↓f48_2p ho, ↓f48_3 ho, ↓f48_3p ho, upA_s, u_oo, u_o0, u_0o, u_n, f1, f2, f3, f4, f5, f6, ↓aft_of (el), ↓aft_of (ets), ↓aft_of (em), ↓aft_of (etg _), hst, hsr, hpot, hp1, hp2, hp3, hb3, s1, ne5, cl1, hd, ok, ncl]
              rfl, ?_, ?_, ⟨?_, ?_, ?_, ?_⟩, ?_⟩
            · intro a g0 g1 g2
              simp only [upA_n _ _ g0, upA_n _ _ g1, upA_n _ _ g2]
            all_goals simp +decide only [upA_s, u_n, u_oo, u_o0, u_0o, f1, f2, f3, f4, f5, f6, hpot, hp1]
          · simp only [s1, if_false] at el
            refine ⟨_, by
              simp +decide only [x84_0, x84_0N, x84_1, x84_2, x84_5, x84_8, x84_9, x84_12, x84_13, x84_16, x84_17, x84_18, x84_20, x84_23, x84_24, x84_25, x84_26, x84_29, x84_32, x84_32N, x84_33, x84_36, x84_37, x84_40, x84_43, x84_46, x84_47, x84_50, x84_51, x84_53, x84_53N, x84_54, x84_55, x84_58, x84_60, x84_63, x84_64, x84_67, x84_68, x84_69, x84_72, x84_73, x84_74, x84_76, x84_78, x84_79, x84_82, x84_83, x84_84, x84_86, x84_89, x84_90, x84_93, x84_93N, x84_94, x84_97, x84_100, x84_101, x84_104, x84_105, x84_108, x84_109, x84_110, x84_113, x84_114, x84_117, x84_120, x84_121, x84_122, x84_125, x84_126, x84_127, x84_130, x84_130N, x84_131, x84_134, x84_135, x84_136, x84_137, x84_138, x84_139, x84_140, x84_141, x84_144, x84_145, x84_148, x84_149, x84_150, x84_153, x84_154, x84_157, x84_158, x84_161, x84_163, x84_164, x84_167, x84_169, aft_some, aft_void, Option.bind_some, Option.toList_some, Option.toList_none, List.cons_append, List.nil_append, if_true, if_false, ↓reduceIte, eq_self, f0_o ho, ↓f0_0 ho, ↓f0_0p ho, ↓f0_1 ho, ↓f0_1p ho, ↓f0_2 ho, ↓f0_2p ho, ↓f0_3 ho, ↓f0_3p ho, ↓f0_4 ho, ↓f0_5 ho, ↓f0_6 ho, ↓f0_7 ho, ↓f0_8 ho, ↓f0_9 ho, ↓f0_10 ho, ↓f0_11 ho, ↓f1_g ho, ↓f1_s ho, ↓f2_g ho, ↓f2_s ho, fK_o hk, ↓fK_0 hk, ↓fK_0p hk, ↓fK_1 hk, ↓fK_1p hk, ↓fK_2 hk, ↓fK_2p hk, ↓fK_3 hk, ↓fK_3p hk, ↓fK_4 hk, ↓fK_4p hk, ↓fK_5 hk, ↓fK_6 hk, ↓fK_7 hk, ↓fK1_g hk, ↓fK1_s hk, ↓fK2_g hk, ↓fK2_s hk, ↓fK3_g hk, ↓fK3_s hk, f48_o ho, ↓f48_0 ho, ↓f48_0p ho, ↓f48_1 ho, ↓f48_1p ho, ↓f48_2 ho, ↓f48_2p ho, ↓f48_3 ho, ↓f48_3p ho, upA_s, u_oo, u_o0, u_0o, u_n, f1, f2, f3, f4, f5, f6, ↓aft_of (el), ↓aft_of (ets), ↓aft_of (em), ↓aft_of (etg _), hst, hsr, hpot, hp1, hp2, hp3, hb3, s1, ne5, cl1, hd, ok, ncl]
              rfl, ?_, ?_, ⟨?_, ?_, ?_, ?_⟩, ?_⟩
            · intro a g0 g1 g2
              simp only [upA_n _ _ g0, upA_n _ _ g1, upA_n _ _ g2]
            all_goals simp +decide only [upA_s, u_n, u_oo, u_o0, u_0o, f1, f2, f3, f4, f5, f6, hpot, hp1]
        · simp only [q3, if_false] at etg ⊢
          by_cases s1 : 0 < V 0 1
          · simp only [s1, if_true] at el
            refine ⟨_, by
              simp +decide only [x84_0, x84_0N, x84_1, x84_2, x84_5, x84_8, x84_9, x84_12, x84_13, x84_16, x84_17, x84_18, x84_20, x84_23, x84_24, x84_25, x84_26, x84_29, x84_32, x84_32N, x84_33, x84_36, x84_37, x84_40, x84_43, x84_46, x84_47, x84_50, x84_51, x84_53, x84_53N, x84_54, x84_55, x84_58, x84_60, x84_63, x84_64, x84_67, x84_68, x84_69, x84_72, x84_73, x84_74, x84_76, x84_78, x84_79, x84_82, x84_83, x84_84, x84_86, x84_89, x84_90, x84_93, x84_93N, x84_94, x84_97, x84_100, x84_101, x84_104, x84_105, x84_108, x84_109, x84_110, x84_113, x84_114, x84_117, x84_120, x84_121, x84_122, x84_125, x84_126, x84_127, x84_130, x84_130N, x84_131, x84_134, x84_135, x84_136, x84_137, x84_138, x84_139, x84_140, x84_141, x84_144, x84_145, x84_148, x84_149, x84_150, x84_153, x84_154, x84_157, x84_158, x84_161, x84_163, x84_164, x84_167, x84_169, aft_some, aft_void, Option.bind_some, Option.toList_some, Option.toList_none, List.cons_append, List.nil_append, if_true, if_false, ↓reduceIte, eq_self, f0_o ho, ↓f0_0 ho, ↓f0_0p ho, ↓f0_1 ho, ↓f0_1p ho, ↓f0_2 ho, ↓f0_2p ho, ↓f0_3 ho, ↓f0_3p ho, ↓f0_4 ho, ↓f0_5 ho, ↓f0_6 ho, ↓f0_7 ho, ↓f0_8 ho, ↓f0_9 ho, ↓f0_10 ho, ↓f0_11 ho, ↓f1_g ho, ↓f1_s ho, ↓f2_g ho, ↓f2_s ho, fK_o hk, ↓fK_0 hk, ↓fK_0p hk, ↓fK_1 hk, ↓fK_1p hk, ↓fK_2 hk, ↓fK_2p hk, ↓fK_3 hk, ↓fK_3p hk, ↓fK_4 hk, ↓fK_4p hk, ↓fK_5 hk, ↓fK_6 hk, ↓fK_7 hk, ↓fK1_g hk, ↓fK1_s hk, ↓fK2_g hk, ↓fK2_s hk, ↓fK3_g hk, ↓fK3_s hk, f48_o ho, ↓f48_0 ho, ↓f48_0p ho, ↓f48_1 ho, ↓f48_1p ho, ↓f48_2 ho, ↓f48_2p ho, ↓f48_3 ho, ↓f48_3p ho, upA_s, u_oo, u_o0, u_0o, u_n, f1, f2, f3, f4, f5, f6, ↓aft_of (el), ↓aft_of (ets), ↓aft_of (em), ↓aft_of (etg _), hst, hsr, hpot, hp1, hp2, hp3, hb3, s1, ne5, cl1, hd, ok, ncl]
              rfl, ?_, ?_, ⟨?_, ?_, ?_, ?_⟩, ?_⟩
            · intro a g0 g1 g2
              simp only [upA_n _ _ g0, upA_n _ _ g1, upA_n _ _ g2]
            all_goals simp +decide only [upA_s, u_n, u_oo, u_o0, u_0o, f1, f2, f3, f4, f5, f6, hpot, hp1]
          · simp only [s1, if_false] at el
            refine ⟨_, by
              simp +decide only [x84_0, x84_0N, x84_1, x84_2, x84_5, x84_8, x84_9, x84_12, x84_13, x84_16, x84_17, x84_18, x84_20, x84_23, x84_24, x84_25, x84_26, x84_29, x84_32, x84_32N, x84_33, x84_36, x84_37, x84_40, x84_43, x84_46, x84_47, x84_50, x84_51, x84_53, x84_53N, x84_54, x84_55, x84_58, x84_60, x84_63, x84_64, x84_67, x84_68, x84_69, x84_72, x84_73, x84_74, x84_76, x84_78, x84_79, x84_82, x84_83, x84_84, x84_86, x84_89, x84_90, x84_93, x84_93N, x84_94, x84_97, x84_100, x84_101, x84_104, x84_105, x84_108, x84_109, x84_110, x84_113, x84_114, x84_117, x84_120, x84_121, x84_122, x84_125, x84_126, x84_127, x84_130, x84_130N, x84_131, x84_134, x84_135, x84_136, x84_137, x84_138, x84_139, x84_140, x84_141, x84_144, x84_145, x84_148, x84_149, x84_150, x84_153, x84_154, x84_157, x84_158, x84_161, x84_163, x84_164, x84_167, x84_169, aft_some, aft_void, Option.bind_some, Option.toList_some, Option.toList_none, List.cons_append, List.nil_append, if_true, if_false, ↓reduceIte, eq_self, f0_o ho, ↓f0_0 ho, ↓f0_0p ho, ↓f0_1 ho, ↓f0_1p ho, ↓f0_2 ho, ↓f0_2p ho, ↓f0_3 ho, ↓f0_3p ho, ↓f0_4 ho, ↓f0_5 ho, ↓f0_6 ho, ↓f0_7 ho, ↓f0_8 ho, ↓f0_9 ho, ↓f0_10 ho, ↓f0_11 ho, ↓f1_g ho, ↓f1_s ho, ↓f2_g ho, ↓f2_s ho, fK_o hk, ↓fK_0 hk, ↓fK_0p hk, ↓fK_1 hk, ↓fK_1p hk, ↓fK_2 hk, ↓fK_2p hk, ↓fK_3 hk, ↓fK_3p hk, ↓fK_4 hk, ↓fK_4p hk, ↓fK_5 hk, ↓fK_6 hk, ↓fK_7 hk, ↓fK1_g hk, ↓fK1_s hk, ↓fK2_g hk, ↓fK2_s hk, ↓fK3_g hk, ↓fK3_s hk, f48_o ho, ↓f48_0 ho, ↓f48_0p ho, ↓f48_1 ho, ↓f48_1p ho, ↓f48_2 ho, ↓f48_2p ho, ↓f48_3 ho, ↓f48_3p ho, upA_s, u_oo, u_o0, u_0o, u_n, f1, f2, f3, f4, f5, f6, ↓aft_of (el), ↓aft_of (ets), ↓aft_of (em), ↓aft_of (etg _), hst, hsr, hpot, hp1, hp2, hp3, hb3, s1, ne5, cl1, hd, ok, ncl]
              rfl, ?_, ?_, ⟨?_, ?_, ?_, ?_⟩, ?_⟩
            · intro a g0 g1 g2
              simp only [upA_n _ _ g0, upA_n _ _ g1, upA_n _ _ g2]
            all_goals simp +decide only [upA_s, u_n, u_oo, u_o0, u_0o, f1, f2, f3, f4, f5, f6, hpot, hp1]
    obtain ⟨U, e, g1, g2, g3, g4⟩ := run
    refine ⟨U, e, fin U g1, CS_iron ho h hw hi hk4 g1 (fun j => ?_) (fun j hj => ?_) g4⟩
    · by_cases hj : 4 ≤ j
      · exact Or.inr hj
      · refine Or.inl ?_
        rw [g2]
        simp +decide only [inV, upA_s, u_n]
        by_cases q3 : k < 3
        · simp only [q3, if_true]
          unfold upA
          by_cases hj1 : j = 1
          · rw [if_pos hj1, if_pos hj1]
          · rw [if_neg hj1, if_neg hj1]; exact h.1.1 j (by omega)
        · simp only [q3, if_false]
          unfold upA
          by_cases hj1 : j = 1
          · rw [if_pos hj1, hj1]; exact h.1.1 1 (by omega)
          · rw [if_neg hj1]; exact h.1.1 j (by omega)
    · simp only [inV, upA_s, if_neg hs, hsb, hnd]
      match j, hj with
      | 0, _ => exact g3.1
      | 1, _ => show _ = V 48 1 + 0; rw [Int32.add_zero]; exact g3.2.1
      | 2, _ => exact g3.2.2.1
      | 3, _ => exact g3.2.2.2
end IR
