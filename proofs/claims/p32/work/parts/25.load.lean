/-! the van is loaded -/
def goK (N : Nat → Nat) (V : Nat → Nat → Int32) (b : kT) : Prop := rdK b = 1 ∧ ¬ vsI (V 2 (V 4 (cuK b)).toNatClampNeg) (N 0) = 0
abbrev sT : Type := (Nat → Nat) × (Nat → Nat → Int32) × List bT × (Nat → Nat → Int32)
abbrev hoS (s : sT) (b : kT) : sT := (hoN s.1, hoV s.2.1 b, hoB s.1 s.2.2.1 b, wrB s.2.2.2 1 (s.2.1 0 0) (b 0 0) (prK b))
noncomputable def lvE (g : kT → Prop) : sT → List kT → sT
  | s, [] => s
  | s, b :: L => lvE g (@ite _ (g b) (Classical.propDecidable _) (hoS s b) s) L
noncomputable def lvK (g : kT → Prop) : List kT → List kT
  | [] => []
  | b :: L => @ite _ (g b) (Classical.propDecidable _) (lvK g L) (b :: lvK g L)
theorem lvE_app (g : kT → Prop) : ∀ (s : sT) (A B : List kT), lvE g s (A ++ B) = lvE g (lvE g s A) B
  | _, [], _ => rfl
  | s, a :: A, B => lvE_app g _ A B
theorem lvK_app (g : kT → Prop) : ∀ (A B : List kT), lvK g (A ++ B) = lvK g A ++ lvK g B
  | [], _ => rfl
  | a :: A, B => by
    show @ite _ (g a) (Classical.propDecidable _) _ _ = (@ite _ (g a) (Classical.propDecidable _) _ _) ++ _
    by_cases h : g a
    · rw [if_pos h, if_pos h]; exact lvK_app g A B
    · rw [if_neg h, if_neg h]
      have ih := lvK_app g A B
      show a :: lvK g (A ++ B) = _
      rw [ih]; rfl
theorem lvK_le (g : kT → Prop) : ∀ (A : List kT), (lvK g A).length ≤ A.length
  | [] => Nat.le_refl _
  | a :: A => by
    have := lvK_le g A
    show (@ite _ (g a) (Classical.propDecidable _) _ _ : List kT).length ≤ _
    by_cases h : g a
    · rw [if_pos h]; simp only [List.length_cons]; omega
    · rw [if_neg h]; simp only [List.length_cons]; omega
/-- what the van doesn't touch -/
theorem lvE_keep (g : kT → Prop) : ∀ (s : sT) (A : List kT), (lvE g s A).1 0 = s.1 0 ∧ (lvE g s A).1 1 = s.1 1 ∧ (lvE g s A).1 2 = s.1 2 ∧ (lvE g s A).1 3 = s.1 3 ∧ (∀ r, r ≠ 5 → (lvE g s A).2.1 r = s.2.1 r) ∧ (lvE g s A).2.2.1.length ≤ s.2.2.1.length + A.length
  | s, [] => ⟨rfl, rfl, rfl, rfl, fun _ _ => rfl, by show s.2.2.1.length ≤ _; omega⟩
  | s, a :: A => by
    show (lvE g (@ite _ (g a) (Classical.propDecidable _) (hoS s a) s) A).1 0 = _ ∧ _
    by_cases h : g a
    · have e : lvE g s (a :: A) = lvE g (hoS s a) A := by
        show lvE g (@ite _ (g a) (Classical.propDecidable _) (hoS s a) s) A = _
        rw [if_pos h]
      rw [if_pos h, e]
      obtain ⟨h0, h1, h2, h3, h4, h5⟩ := lvE_keep g (hoS s a) A
      refine ⟨?_, ?_, ?_, ?_, fun r hr => ?_, ?_⟩
      · rw [h0]; simp +decide only [u_n]
      · rw [h1]; simp +decide only [u_n]
      · rw [h2]; simp +decide only [u_n]
      · rw [h3]; simp +decide only [u_n]
      · rw [h4 r hr]; exact upA_n _ _ hr
      · have : (hoS s a).2.2.1.length ≤ s.2.2.1.length + 1 := by
          show (hoB s.1 s.2.2.1 a).length ≤ _
          unfold hoB
          split
          · rw [List.length_append, List.length_singleton]; exact Nat.le_refl _
          · omega
        rw [List.length_cons]; omega
    · have e : lvE g s (a :: A) = lvE g s A := by
        show lvE g (@ite _ (g a) (Classical.propDecidable _) (hoS s a) s) A = _
        rw [if_neg h]
      rw [if_neg h, e]
      obtain ⟨h0, h1, h2, h3, h4, h5⟩ := lvE_keep g s A
      exact ⟨h0, h1, h2, h3, h4, by rw [List.length_cons]; omega⟩
abbrev CSs (o : Nat) (T : Nat → Nat → Int32) (P : Nat → Nat → Nat) (s : sT) (K : List kT) : Prop := CS o T P s.1 s.2.1 K s.2.2.1 s.2.2.2
section LVN
variable {T : Nat → Nat → Int32} {P : Nat → Nat → Nat} {o : Nat} {N : Nat → Nat} {V : Nat → Nat → Int32} {K : List kT} {B : List bT} {R : Nat → Nat → Int32}
theorem c_loadVan (ho : isB o) (h : CS o T P N V K B R) (hw0 : N 0 ≤ 10101) (hN1 : N 1 ≤ 10) (h8 : K.length ≤ 8) (hd : ∀ c, c < N 1 → ∃ d, d < 5 ∧ V 4 c = nI d)
    (hK : ∀ i, i < K.length → (∃ c, c < N 1 ∧ gK K i 0 1 = nI c) ∧ ∃ x, x ≤ 27 ∧ nhI (gK K i 2) = nI x) (hBK : B.length + K.length ≤ 99) : ∃ T' P', X 87 0 [.ref o, .long 0, .long 0, .long 0, .long 0] [] (H T P) = some (some (.int (nI (K.length - (lvK (goK N V) K).length))), H T' P') ∧ (∀ a, (a < o ∨ o + 51 ≤ a) → T' a = T a) ∧ (∀ a, a ≠ o + 8 → P' a = P a) ∧ CSs o T' P' (lvE (goK N V) (N, V, B, R) K) (lvK (goK N V) K) := by
  obtain ⟨⟨U, Q, v4, L⟩, e1, i1, i2, i3, i4, i5, i6⟩ := loop_ex (fun i (s : (Nat → Nat → Int32) × (Nat → Nat → Nat) × Value × List kT) => X 87 12 [.ref o, .int (nI K.length), .int (nI (lvK (goK N V) (K.take i)).length), .int (nI i), s.2.2.1] [] (H s.1 s.2.1))
    (fun i s => (∀ a, (a < o ∨ o + 51 ≤ a) → s.1 a = T a) ∧ (∀ a, a ≠ o + 8 → s.2.1 a = P a) ∧ CSs o s.1 s.2.1 (lvE (goK N V) (N, V, B, R) (K.take i)) s.2.2.2 ∧ s.2.2.2.length = K.length ∧ s.2.2.2.take (lvK (goK N V) (K.take i)).length = lvK (goK N V) (K.take i) ∧ s.2.2.2.drop i = K.drop i) K.length (T, P, .long 0, K)
    ⟨fun _ _ => rfl, fun _ _ => rfl, h, rfl, rfl, rfl⟩ (by
      intro i ⟨U, Q, v4, L⟩ hi ⟨j1, j2, j3, j4, j5, j6⟩
      have j1 : ∀ a, (a < o ∨ o + 51 ≤ a) → U a = T a := j1
      have j2 : ∀ a, a ≠ o + 8 → Q a = P a := j2
      have j3 : CSs o U Q (lvE (goK N V) (N, V, B, R) (K.take i)) L := j3
      have j4 : L.length = K.length := j4
      have j5 : L.take (lvK (goK N V) (K.take i)).length = lvK (goK N V) (K.take i) := j5
      have j6 : L.drop i = K.drop i := j6
      obtain ⟨q0, q1, q2, q3, q4, q5⟩ := lvE_keep (goK N V) (N, V, B, R) (K.take i)
      have hbi := gK_at hi
      have hLi : L[i]? = some (gK K i) := by
        have h1 : (L.drop i)[0]? = L[i]? := by rw [List.getElem?_drop]; rfl
        have h2 : (K.drop i)[0]? = K[i]? := by rw [List.getElem?_drop]; rfl
        rw [← h1, j6, h2, hbi]
      have hgL := gK_of hLi
      have hiL : i < L.length := by omega
      have htl : (K.take i).length = i := by rw [List.length_take]; omega
      have hst : (lvK (goK N V) (K.take i)).length ≤ i := by have := lvK_le (goK N V) (K.take i); omega
      have hk := j3.pk.k ho (show i < 8 by omega)
      obtain ⟨⟨c, hc, ec⟩, x, hx, ex⟩ := hK i hi
      obtain ⟨d, hd5, ed⟩ := hd c hc
      have hb := j3.at hiL
      rw [hgL] at hb
      have er := c_isReady (T := U) (P := Q) hk
      rw [hb.rd] at er
      have hrd := rdI_01 (T := U) (b := Q (o + 8) i)
      rw [hb.rd] at hrd
      have hV4 : (lvE (goK N V) (N, V, B, R) (K.take i)).2.1 4 = V 4 := q4 4 (by decide)
      have hV2 : (lvE (goK N V) (N, V, B, R) (K.take i)).2.1 2 = V 2 := q4 2 (by decide)
      have hV0 : (lvE (goK N V) (N, V, B, R) (K.take i)).2.1 0 = V 0 := q4 0 (by decide)
      have ev := c_isVisited ho j3 hd5 (D := N 0) (by omega)
      rw [hV2] at ev
      have hdist : U (o + 4) c = nI d := by
        rw [j3.2.1.2.1 c (by rw [q1]; exact hc), hV4]; exact ed
      have hcus : U (Q (o + 8) i) 1 = nI c := by rw [hb.1 1 (by decide)]; exact ec
      have hday : U o 0 = nI (N 0) := by
        rw [j3.1.1 0 (by decide), j3.1.2.2.2, q0]
      have hcu : cuK (gK K i) = c := by unfold cuK; rw [ec, nI_clamp (by omega)]
      have hgo : goK N V (gK K i) ↔ (rdK (gK K i) = 1 ∧ ¬ vsI (V 2 d) (N 0) = 0) := by
        unfold goK
        rw [hcu, ed, nI_clamp (by omega)]
      have hlt : nI i < nI K.length := nI_lt hi (by omega)
      have ok8 := okx_nI (show i < 8 by omega) (show (8 : Nat) < 2 ^ 31 by decide)
      have cl := nI_clamp (show i < 2 ^ 31 by omega)
      have ok10 := okx_nI (show c < 10 by omega) (show (10 : Nat) < 2 ^ 31 by decide)
      have clc := nI_clamp (show c < 2 ^ 31 by omega)
      by_cases hg : goK N V (gK K i)
      · have hE : lvE (goK N V) (N, V, B, R) (K.take (i + 1)) = hoS (lvE (goK N V) (N, V, B, R) (K.take i)) (gK K i) := by
          rw [take_s hbi, lvE_app]
          show @ite _ (goK N V (gK K i)) (Classical.propDecidable _) _ _ = _
          rw [if_pos hg]
        have hS : lvK (goK N V) (K.take (i + 1)) = lvK (goK N V) (K.take i) := by
          rw [take_s hbi, lvK_app]
          have : lvK (goK N V) [gK K i] = [] := by
            show @ite _ (goK N V (gK K i)) (Classical.propDecidable _) _ _ = _
            rw [if_pos hg]; rfl
          rw [this, List.append_nil]
        have g2 := hgo.mp hg
        obtain ⟨T2, e2, f2, c2⟩ := c_handOver (i := i) (c := c) (hh := x) ho j3 (by rw [q1]; exact hN1) (by omega) hiL (by rw [q1]; exact hc) (by rw [hgL]; exact ec) (by omega) (by rw [hgL]; exact ex) (by
          have h5 : (lvE (goK N V) (N, V, B, R) (K.take i)).2.2.1.length ≤ B.length + (K.take i).length := q5
          omega)
        rw [hgL] at c2
        refine ⟨(T2, Q, .ref (Q (o + 8) i), L), ?_, fun a ha => (f2 a ha).trans (j1 a ha), j2, by rw [hE]; exact c2, j4, by rw [hS]; exact j5, ?_⟩
        · show X 87 12 _ _ _ = _
          rw [x87_12, hS]
          simp +decide only [x87_0, x87_1, x87_4, x87_7, x87_8, x87_9, x87_10, x87_11, x87_13, x87_14, x87_17, x87_18, x87_21, x87_24, x87_25, x87_26, x87_26N, x87_28, x87_28N, x87_30, x87_33, x87_36, x87_37, x87_38, x87_41, x87_44, x87_44N, x87_46, x87_49, x87_50, x87_51, x87_54, x87_57, x87_60, x87_61, x87_61N, x87_63, x87_66, x87_69, x87_70, x87_73, x87_76, x87_77, x87_78, x87_81, x87_84, x87_85, x87_86, x87_87, x87_88, x87_91, x87_94, x87_95, x87_95N, x87_97, x87_98, x87_101, x87_104, x87_107, x87_108, x87_111, x87_112, x87_115, x87_116, x87_117, x87_118, aft_some, aft_void, Option.bind_some, Option.toList_some, Option.toList_none, List.cons_append, List.nil_append, if_true, if_false, ↓reduceIte, eq_self, f0_o ho, ↓f0_0 ho, ↓f0_0p ho, ↓f0_1 ho, ↓f0_1p ho, ↓f0_2 ho, ↓f0_2p ho, ↓f0_3 ho, ↓f0_3p ho, ↓f0_4 ho, ↓f0_5 ho, ↓f0_6 ho, ↓f0_7 ho, ↓f0_8 ho, ↓f0_9 ho, ↓f0_10 ho, ↓f0_11 ho, ↓f1_g ho, ↓f1_s ho, ↓f2_g ho, ↓f2_s ho, f3_o ho, ↓f3_0 ho, ↓f3_0p ho, ↓f3_1 ho, ↓f3_2 ho, ↓f3_3 ho, ↓f4_g ho, ↓f4_s ho, ↓f5_g ho, ↓f5_s ho, ↓f6_g ho, ↓f6_s ho, f7_o ho, ↓f7_0 ho, ↓f7_1 ho, ↓f7_1p ho, ↓f7_2 ho, ↓f7_2p ho, ↓f8_g ho, fK_o hk, fK_o hk, ↓fK_0 hk, ↓fK_0p hk, ↓fK_1 hk, ↓fK_1p hk, ↓fK_2 hk, ↓fK_2p hk, ↓fK_3 hk, ↓fK_3p hk, ↓fK_4 hk, ↓fK_4p hk, ↓fK_5 hk, ↓fK_6 hk, ↓fK_7 hk, ↓fK1_g hk, ↓fK1_s hk, ↓fK2_g hk, ↓fK2_s hk, ↓fK3_g hk, ↓fK3_s hk, hlt, ok8, cl, ↓aft_of (er), g2.1, hcus, ok10, clc, hdist, hday, ↓aft_of (ev), g2.2, ↓aft_of (e2), nI_1]
        · show L.drop (i + 1) = K.drop (i + 1)
          have := congrArg (List.drop 1) j6
          rwa [List.drop_drop, List.drop_drop] at this
      · have hE : lvE (goK N V) (N, V, B, R) (K.take (i + 1)) = lvE (goK N V) (N, V, B, R) (K.take i) := by
          rw [take_s hbi, lvE_app]
          show @ite _ (goK N V (gK K i)) (Classical.propDecidable _) _ _ = _
          rw [if_neg hg]
        have hS : lvK (goK N V) (K.take (i + 1)) = lvK (goK N V) (K.take i) ++ [gK K i] := by
          rw [take_s hbi, lvK_app]
          have : lvK (goK N V) [gK K i] = [gK K i] := by
            show @ite _ (goK N V (gK K i)) (Classical.propDecidable _) _ _ = _
            rw [if_neg hg]; rfl
          rw [this]
        obtain ⟨z, hz⟩ : ∃ z, z = (lvK (goK N V) (K.take i)).length := ⟨_, rfl⟩
        rw [← hz] at hst j5
        have hzL : z < L.length := by omega
        have hkz := j3.pk.k ho (show z < 8 by omega)
        have c2 := j3.swap (by omega) hiL hzL
        rw [hgL] at c2
        have okz := okx_nI (show z < 8 by omega) (show (8 : Nat) < 2 ^ 31 by decide)
        have clz := nI_clamp (show z < 2 ^ 31 by omega)
        refine ⟨(U, upA Q (o + 8) (upA (upA (Q (o + 8)) i (Q (o + 8) z)) z (Q (o + 8) i)), .ref (Q (o + 8) i), (L.set i (gK L z)).set z (gK K i)), ?_, j1, fun a ha => ?_, by rw [hE]; exact c2, by rw [List.length_set, List.length_set]; exact j4, ?_, ?_⟩
        · show X 87 12 _ _ _ = _
          rw [x87_12, hS, List.length_append, List.length_singleton, ← hz]
          rcases hrd with hr0 | hr1
          · simp +decide only [x87_0, x87_1, x87_4, x87_7, x87_8, x87_9, x87_10, x87_11, x87_13, x87_14, x87_17, x87_18, x87_21, x87_24, x87_25, x87_26, x87_26N, x87_28, x87_28N, x87_30, x87_33, x87_36, x87_37, x87_38, x87_41, x87_44, x87_44N, x87_46, x87_49, x87_50, x87_51, x87_54, x87_57, x87_60, x87_61, x87_61N, x87_63, x87_66, x87_69, x87_70, x87_73, x87_76, x87_77, x87_78, x87_81, x87_84, x87_85, x87_86, x87_87, x87_88, x87_91, x87_94, x87_95, x87_95N, x87_97, x87_98, x87_101, x87_104, x87_107, x87_108, x87_111, x87_112, x87_115, x87_116, x87_117, x87_118, aft_some, aft_void, Option.bind_some, Option.toList_some, Option.toList_none, List.cons_append, List.nil_append, if_true, if_false, ↓reduceIte, eq_self, f0_o ho, ↓f0_0 ho, ↓f0_0p ho, ↓f0_1 ho, ↓f0_1p ho, ↓f0_2 ho, ↓f0_2p ho, ↓f0_3 ho, ↓f0_3p ho, ↓f0_4 ho, ↓f0_5 ho, ↓f0_6 ho, ↓f0_7 ho, ↓f0_8 ho, ↓f0_9 ho, ↓f0_10 ho, ↓f0_11 ho, ↓f1_g ho, ↓f1_s ho, ↓f2_g ho, ↓f2_s ho, f3_o ho, ↓f3_0 ho, ↓f3_0p ho, ↓f3_1 ho, ↓f3_2 ho, ↓f3_3 ho, ↓f4_g ho, ↓f4_s ho, ↓f5_g ho, ↓f5_s ho, ↓f6_g ho, ↓f6_s ho, f7_o ho, ↓f7_0 ho, ↓f7_1 ho, ↓f7_1p ho, ↓f7_2 ho, ↓f7_2p ho, ↓f8_g ho, fK_o hk, fK_o hk, ↓fK_0 hk, ↓fK_0p hk, ↓fK_1 hk, ↓fK_1p hk, ↓fK_2 hk, ↓fK_2p hk, ↓fK_3 hk, ↓fK_3p hk, ↓fK_4 hk, ↓fK_4p hk, ↓fK_5 hk, ↓fK_6 hk, ↓fK_7 hk, ↓fK1_g hk, ↓fK1_s hk, ↓fK2_g hk, ↓fK2_s hk, ↓fK3_g hk, ↓fK3_s hk, hlt, ok8, cl, okz, clz, ↓aft_of (er), hr0, ↓g_sq (q8 ho) (Or.inl rfl) (sh_k hk).1, ↓g_sq (q8 ho) (Or.inl rfl) (sh_k hkz).1, upA_upA, upA_s, nI_1]
          · have hv : vsI (V 2 d) (N 0) = 0 := Classical.not_not.mp fun q => hg (hgo.mpr ⟨hr1, q⟩)
            simp +decide only [x87_0, x87_1, x87_4, x87_7, x87_8, x87_9, x87_10, x87_11, x87_13, x87_14, x87_17, x87_18, x87_21, x87_24, x87_25, x87_26, x87_26N, x87_28, x87_28N, x87_30, x87_33, x87_36, x87_37, x87_38, x87_41, x87_44, x87_44N, x87_46, x87_49, x87_50, x87_51, x87_54, x87_57, x87_60, x87_61, x87_61N, x87_63, x87_66, x87_69, x87_70, x87_73, x87_76, x87_77, x87_78, x87_81, x87_84, x87_85, x87_86, x87_87, x87_88, x87_91, x87_94, x87_95, x87_95N, x87_97, x87_98, x87_101, x87_104, x87_107, x87_108, x87_111, x87_112, x87_115, x87_116, x87_117, x87_118, aft_some, aft_void, Option.bind_some, Option.toList_some, Option.toList_none, List.cons_append, List.nil_append, if_true, if_false, ↓reduceIte, eq_self, f0_o ho, ↓f0_0 ho, ↓f0_0p ho, ↓f0_1 ho, ↓f0_1p ho, ↓f0_2 ho, ↓f0_2p ho, ↓f0_3 ho, ↓f0_3p ho, ↓f0_4 ho, ↓f0_5 ho, ↓f0_6 ho, ↓f0_7 ho, ↓f0_8 ho, ↓f0_9 ho, ↓f0_10 ho, ↓f0_11 ho, ↓f1_g ho, ↓f1_s ho, ↓f2_g ho, ↓f2_s ho, f3_o ho, ↓f3_0 ho, ↓f3_0p ho, ↓f3_1 ho, ↓f3_2 ho, ↓f3_3 ho, ↓f4_g ho, ↓f4_s ho, ↓f5_g ho, ↓f5_s ho, ↓f6_g ho, ↓f6_s ho, f7_o ho, ↓f7_0 ho, ↓f7_1 ho, ↓f7_1p ho, ↓f7_2 ho, ↓f7_2p ho, ↓f8_g ho, fK_o hk, fK_o hk, ↓fK_0 hk, ↓fK_0p hk, ↓fK_1 hk, ↓fK_1p hk, ↓fK_2 hk, ↓fK_2p hk, ↓fK_3 hk, ↓fK_3p hk, ↓fK_4 hk, ↓fK_4p hk, ↓fK_5 hk, ↓fK_6 hk, ↓fK_7 hk, ↓fK1_g hk, ↓fK1_s hk, ↓fK2_g hk, ↓fK2_s hk, ↓fK3_g hk, ↓fK3_s hk, hlt, ok8, cl, okz, clz, ↓aft_of (er), hr1, hcus, ok10, clc, hdist, hday, ↓aft_of (ev), hv, ↓g_sq (q8 ho) (Or.inl rfl) (sh_k hk).1, ↓g_sq (q8 ho) (Or.inl rfl) (sh_k hkz).1, upA_upA, upA_s, nI_1]
        · show upA Q (o + 8) _ a = P a
          rw [upA_n _ _ ha]; exact j2 a ha
        · show ((L.set i (gK L z)).set z (gK K i)).take _ = _
          rw [hS, List.length_append, List.length_singleton, ← hz]
          have hzz : z < ((L.set i (gK L z)).set z (gK K i)).length := by rw [List.length_set, List.length_set]; omega
          rw [take_s (x := gK K i) (List.getElem?_set_self (by rw [List.length_set]; omega))]
          congr 1
          rw [← j5]
          apply List.ext_getElem?
          intro a
          by_cases ha : a < z
          · rw [List.getElem?_take_of_lt ha, List.getElem?_take_of_lt ha, List.getElem?_set_ne (by omega), List.getElem?_set_ne (by omega)]
          · rw [List.getElem?_eq_none (by rw [List.length_take]; omega), List.getElem?_eq_none (by rw [List.length_take]; omega)]
        · show ((L.set i (gK L z)).set z (gK K i)).drop (i + 1) = K.drop (i + 1)
          have hdr := congrArg (List.drop 1) j6
          rw [List.drop_drop, List.drop_drop] at hdr
          rw [← hdr]
          apply List.ext_getElem?
          intro a
          rw [List.getElem?_drop, List.getElem?_drop, List.getElem?_set_ne (by omega), List.getElem?_set_ne (by omega)])
  have i1 : ∀ a, (a < o ∨ o + 51 ≤ a) → U a = T a := i1
  have i2 : ∀ a, a ≠ o + 8 → Q a = P a := i2
  have i3 : CSs o U Q (lvE (goK N V) (N, V, B, R) (K.take K.length)) L := i3
  have i4 : L.length = K.length := i4
  have i5 : L.take (lvK (goK N V) (K.take K.length)).length = lvK (goK N V) (K.take K.length) := i5
  rw [List.take_length] at e1 i3 i5
  have hle := lvK_le (goK N V) K
  obtain ⟨r1, r2, ⟨kP, kn, kc, kK⟩, kB, kL, k48, kJ⟩ := i3
  refine ⟨up1 U (o + 7) 1 (nI (lvK (goK N V) K).length), Q, ?_, fun a ha => ?_, i2, ⟨?_, ?_, ?_, ?_⟩, ⟨?_, ?_, ?_, ?_⟩, ⟨kP, ?_, ?_, ?_⟩, ?_, ?_, ?_, ?_⟩
  · simp +decide only [x87_0, x87_1, x87_4, x87_7, x87_8, x87_9, x87_10, x87_11, x87_13, x87_14, x87_17, x87_18, x87_21, x87_24, x87_25, x87_26, x87_26N, x87_28, x87_28N, x87_30, x87_33, x87_36, x87_37, x87_38, x87_41, x87_44, x87_44N, x87_46, x87_49, x87_50, x87_51, x87_54, x87_57, x87_60, x87_61, x87_61N, x87_63, x87_66, x87_69, x87_70, x87_73, x87_76, x87_77, x87_78, x87_81, x87_84, x87_85, x87_86, x87_87, x87_88, x87_91, x87_94, x87_95, x87_95N, x87_97, x87_98, x87_101, x87_104, x87_107, x87_108, x87_111, x87_112, x87_115, x87_116, x87_117, x87_118, aft_some, aft_void, Option.bind_some, Option.toList_some, Option.toList_none, List.cons_append, List.nil_append, if_true, if_false, ↓reduceIte, eq_self, f0_o ho, ↓f0_0 ho, ↓f0_0p ho, ↓f0_1 ho, ↓f0_1p ho, ↓f0_2 ho, ↓f0_2p ho, ↓f0_3 ho, ↓f0_3p ho, ↓f0_4 ho, ↓f0_5 ho, ↓f0_6 ho, ↓f0_7 ho, ↓f0_8 ho, ↓f0_9 ho, ↓f0_10 ho, ↓f0_11 ho, ↓f1_g ho, ↓f1_s ho, ↓f2_g ho, ↓f2_s ho, f7_o ho, ↓f7_0 ho, ↓f7_1 ho, ↓f7_1p ho, ↓f7_2 ho, ↓f7_2p ho, ↓f8_g ho, h.n]
    rw [show X 87 12 [.ref o, .int (nI K.length), .int 0, .int 0, .long 0] [] (H T P) = _ from e1, x87_12]
    simp +decide only [x87_0, x87_1, x87_4, x87_7, x87_8, x87_9, x87_10, x87_11, x87_13, x87_14, x87_17, x87_18, x87_21, x87_24, x87_25, x87_26, x87_26N, x87_28, x87_28N, x87_30, x87_33, x87_36, x87_37, x87_38, x87_41, x87_44, x87_44N, x87_46, x87_49, x87_50, x87_51, x87_54, x87_57, x87_60, x87_61, x87_61N, x87_63, x87_66, x87_69, x87_70, x87_73, x87_76, x87_77, x87_78, x87_81, x87_84, x87_85, x87_86, x87_87, x87_88, x87_91, x87_94, x87_95, x87_95N, x87_97, x87_98, x87_101, x87_104, x87_107, x87_108, x87_111, x87_112, x87_115, x87_116, x87_117, x87_118, aft_some, aft_void, Option.bind_some, Option.toList_some, Option.toList_none, List.cons_append, List.nil_append, if_true, if_false, ↓reduceIte, eq_self, f0_o ho, ↓f0_0 ho, ↓f0_0p ho, ↓f0_1 ho, ↓f0_1p ho, ↓f0_2 ho, ↓f0_2p ho, ↓f0_3 ho, ↓f0_3p ho, ↓f0_4 ho, ↓f0_5 ho, ↓f0_6 ho, ↓f0_7 ho, ↓f0_8 ho, ↓f0_9 ho, ↓f0_10 ho, ↓f0_11 ho, ↓f1_g ho, ↓f1_s ho, ↓f2_g ho, ↓f2_s ho, f7_o ho, ↓f7_0 ho, ↓f7_1 ho, ↓f7_1p ho, ↓f7_2 ho, ↓f7_2p ho, ↓f8_g ho, nI_nlt (Nat.le_refl K.length) (show K.length < 2 ^ 31 by omega), nI_sub hle]
  · rw [← i1 a ha]; exact upA_n _ _ (by omega)
  · have := r1.1; rwa [← upA_n U (upA (U (o + 7)) 1 (nI (lvK (goK N V) K).length)) (show o ≠ o + 7 by omega)] at this
  · have := r1.2.1; rwa [← upA_n U (upA (U (o + 7)) 1 (nI (lvK (goK N V) K).length)) (show o + 1 ≠ o + 7 by omega)] at this
  · have := r1.2.2.1; rwa [← upA_n U (upA (U (o + 7)) 1 (nI (lvK (goK N V) K).length)) (show o + 2 ≠ o + 7 by omega)] at this
  · exact r1.2.2.2
  · have := r2.1; rwa [← upA_n U (upA (U (o + 7)) 1 (nI (lvK (goK N V) K).length)) (show o + 3 ≠ o + 7 by omega)] at this
  · have := r2.2.1; rwa [← upA_n U (upA (U (o + 7)) 1 (nI (lvK (goK N V) K).length)) (show o + 4 ≠ o + 7 by omega)] at this
  · have := r2.2.2.1; rwa [← upA_n U (upA (U (o + 7)) 1 (nI (lvK (goK N V) K).length)) (show o + 5 ≠ o + 7 by omega)] at this
  · have := r2.2.2.2; rwa [← upA_n U (upA (U (o + 7)) 1 (nI (lvK (goK N V) K).length)) (show o + 6 ≠ o + 7 by omega)] at this
  · simp only [upA_s]
  · simp +decide only [upA_s, u_n]; exact kc
  · intro j q hq
    have hj : j < (lvK (goK N V) K).length := (List.getElem?_eq_some_iff.mp hq).1
    rw [← i5, List.getElem?_take_of_lt hj] at hq
    have hrj := kP.rg (show j < 8 by omega)
    exact (kK j q hq).same (fun x hx => upA_n _ _ (by omega))
  · exact kB.other (upA_n _ _ (by omega)) (upA_n _ _ (by omega)) (upA_n _ _ (by omega)) (upA_n _ _ (by omega))
  · exact kL.same (upA_n _ _ (by omega)) (upA_n _ _ (by omega)) (upA_n _ _ (by omega))
  · have := k48; rwa [← upA_n U (upA (U (o + 7)) 1 (nI (lvK (goK N V) K).length)) (show o + 48 ≠ o + 7 by omega)] at this
  · exact kJ.same (upA_n _ _ (by omega)) (upA_n _ _ (by omega))
end LVN
