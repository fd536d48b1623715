/-! baskets, in the reference -/
section QB
variable {T U : Nat → Nat → Int32} {P : Nat → Nat → Nat} {f f' g : Nat → Int32} {s : gT} {u : uT} {L : List uT} {k : Nat}
/-- all baskets read, from the i-th on, m of them -/
theorem r_basks {c p st gg : Nat → Int32} (hk12 : k ≤ 12) (h12 : U 366 12 = nI k) (hc : ∀ j, j < k → U 372 (4 * j) = c j ∧ U 372 (4 * j + 1) = p j ∧ U 372 (4 * j + 2) = st j ∧ U 372 (4 * j + 3) = gg j) :
    ∀ (m i : Nat) (u : uT) (f' : Nat → Int32), i + m = k → sU f' u → WFu u → ∃ f'' v, X 152 29 [.ref 366, .int (-5), .int 0, .int (nI i)] [] (H (upA U 367 f') P) = X 152 137 [.ref 366, .int (-5), .int ((bsF c p st gg m i u).1.getD 0), v] [] (H (upA U 367 f'') P) ∧ ((bsF c p st gg m i u).1 = none → sU f'' (bsF c p st gg m i u).2) ∧ ∀ e, (bsF c p st gg m i u).1 = some e → (e = 0) = False := by
  intro m
  induction m with
  | zero =>
    intro i u f' hi hu hw
    have hi : i = k := by omega
    subst hi
    have nl := nI_nlt (Nat.le_refl i) (show i < 2 ^ 31 by omega)
    exact ⟨f', .int (nI i), by show _ = X 152 137 [.ref 366, .int (-5), .int 0, .int (nI i)] [] (H (upA U 367 f') P); rw [x152_29]; simp +decide only [x152_0, x152_0N, x152_1, x152_2, x152_5, x152_5N, x152_6, x152_9, x152_10, x152_11, x152_13, x152_16, x152_18, x152_19, x152_20, x152_21, x152_21N, x152_22, x152_25, x152_26, x152_27, x152_28, x152_30, x152_30N, x152_31, x152_34, x152_37, x152_38, x152_41, x152_41N, x152_42, x152_42N, x152_43, x152_46, x152_47, x152_48, x152_49, x152_50, x152_50N, x152_51, x152_54, x152_55, x152_56, x152_57, x152_58, x152_59, x152_60, x152_60N, x152_61, x152_64, x152_65, x152_66, x152_67, x152_68, x152_69, x152_70, x152_70N, x152_71, x152_74, x152_75, x152_76, x152_77, x152_78, x152_79, x152_80, x152_83, x152_84, x152_85, x152_88, x152_88N, x152_89, x152_89N, x152_90, x152_93, x152_94, x152_95, x152_96, x152_97, x152_97N, x152_98, x152_101, x152_102, x152_103, x152_104, x152_105, x152_106, x152_107, x152_107N, x152_108, x152_111, x152_112, x152_113, x152_114, x152_115, x152_116, x152_117, x152_117N, x152_118, x152_121, x152_122, x152_123, x152_124, x152_125, x152_126, x152_127, x152_130, x152_131, x152_134, x152_138, x152_141, x152_141N, x152_142, x152_145, x152_146, x152_147, x152_147N, x152_148, x152_151, x152_152, x152_153, x152_154, x152_157, x152_160, x152_160N, x152_161, x152_164, x152_167, x152_167N, x152_168, x152_171, x152_172, x152_173, x152_174, x152_175, x152_176, x152_176N, x152_177, x152_180, x152_181, x152_182, x152_183, x152_186, x152_189, x152_189N, x152_190, x152_193, aft_some, aft_void, Option.bind_some, Option.toList_some, Option.toList_none, List.cons_append, List.nil_append, if_true, if_false, ↓reduceIte, eq_self, z366_o, ↓z366_0, ↓z366_0p, ↓z366_1, ↓z366_2, ↓z366_3, ↓z366_4, ↓z366_4p, ↓z366_5, ↓z366_6, ↓z366_6p0, ↓z366_6p1, ↓z366_7, ↓z366_8, ↓z366_8p, ↓z366_9, ↓z366_9p, ↓z366_10, ↓z366_10p0, ↓z366_10p1, ↓z366_11, ↓z366_12, ↓z366_12p, ↓sg0, ↓sg1, ↓sg2, ↓sg3, ↓sg4, ↓sg5, ↓sg6, ↓sg7, ↓sg8, ↓sg9, ↓sg10, ↓sg11, ↓sg12, ↓sg13, ↓sg14, ↓sg15, ↓sg16, ↓sg17, ↓ss0, ↓ss1, ↓ss2, ↓ss3, ↓ss4, ↓ss5, ↓ss6, ↓ss7, ↓ss8, ↓ss9, ↓ss10, ↓ss11, ↓ss12, ↓ss13, ↓ss14, ↓ss15, ↓ss16, ↓ss17, upA_s, u_n, h12, nl], fun _ => hu, fun e he => nomatch he⟩
  | succ m ih =>
    intro i u f' hi hu hw
    have hlt : nI i < nI k := nI_lt (show i < k by omega) (by omega)
    obtain ⟨w1, w2, w3, w4⟩ := hc i (by omega)
    have m0 : 4 * nI i = nI (4 * i) := nI_mul 4 i
    have m1 : nI (4 * i) + 1 = nI (4 * i + 1) := nI_add _ 1
    have m2 : nI (4 * i) + 2 = nI (4 * i + 2) := nI_add _ 2
    have m3 : nI (4 * i) + 3 = nI (4 * i + 3) := nI_add _ 3
    have ni1 : nI i + 1 = nI (i + 1) := nI_add _ 1
    have er := r_refuses (T := U) (P := P) (x := c i) (y := p i) (z := st i) (w := gg i) hu hw.1
    rw [show rfI (u.1.1 1) u.1.2.2.1 u.2.length (u.1.1 2) (c i) (p i) (st i) (gg i) = rfU u (c i) (p i) (st i) (gg i) from rfl] at er
    by_cases c2 : rfU u (c i) (p i) (st i) (gg i) < 0
    · have hb : bsF c p st gg (m + 1) i u = (some (rfU u (c i) (p i) (st i) (gg i)), u) := if_pos c2
      rw [hb]
      have hne : (rfU u (c i) (p i) (st i) (gg i) = 0) = False := eq_false (fun e => by rw [e] at c2; exact absurd c2 (by decide))
      have hz1 : (some (rfU u (c i) (p i) (st i) (gg i)), u).1 = none → sU f' (some (rfU u (c i) (p i) (st i) (gg i)), u).2 := fun hq => nomatch hq
      have hz2 : ∀ e, (some (rfU u (c i) (p i) (st i) (gg i)), u).1 = some e → (e = 0) = False := fun e he => by rw [← Option.some.inj he]; exact hne
      refine ⟨f', .int (nI (i + 1)), ?_, hz1, hz2⟩
      clear hz1 hz2
      show _ = X 152 137 [.ref 366, .int (-5), .int (rfU u (c i) (p i) (st i) (gg i)), .int (nI (i + 1))] [] (H (upA U 367 f') P)
      obtain ⟨z, hz⟩ : ∃ z, z = rfU u (c i) (p i) (st i) (gg i) := ⟨_, rfl⟩
      rw [← hz] at er hne ⊢
      have e29 : X 152 29 [.ref 366, .int (-5), .int 0, .int (nI i)] [] (H (upA U 367 f') P) = X 152 29 [.ref 366, .int (-5), .int z, .int (nI (i + 1))] [] (H (upA U 367 f') P) := by
        rw [x152_29]
        simp +decide only [x152_0, x152_0N, x152_1, x152_2, x152_5, x152_5N, x152_6, x152_9, x152_10, x152_11, x152_13, x152_16, x152_18, x152_19, x152_20, x152_21, x152_21N, x152_22, x152_25, x152_26, x152_27, x152_28, x152_30, x152_30N, x152_31, x152_34, x152_37, x152_38, x152_41, x152_41N, x152_42, x152_42N, x152_43, x152_46, x152_47, x152_48, x152_49, x152_50, x152_50N, x152_51, x152_54, x152_55, x152_56, x152_57, x152_58, x152_59, x152_60, x152_60N, x152_61, x152_64, x152_65, x152_66, x152_67, x152_68, x152_69, x152_70, x152_70N, x152_71, x152_74, x152_75, x152_76, x152_77, x152_78, x152_79, x152_80, x152_83, x152_84, x152_85, x152_88, x152_88N, x152_89, x152_89N, x152_90, x152_93, x152_94, x152_95, x152_96, x152_97, x152_97N, x152_98, x152_101, x152_102, x152_103, x152_104, x152_105, x152_106, x152_107, x152_107N, x152_108, x152_111, x152_112, x152_113, x152_114, x152_115, x152_116, x152_117, x152_117N, x152_118, x152_121, x152_122, x152_123, x152_124, x152_125, x152_126, x152_127, x152_130, x152_131, x152_134, x152_138, x152_141, x152_141N, x152_142, x152_145, x152_146, x152_147, x152_147N, x152_148, x152_151, x152_152, x152_153, x152_154, x152_157, x152_160, x152_160N, x152_161, x152_164, x152_167, x152_167N, x152_168, x152_171, x152_172, x152_173, x152_174, x152_175, x152_176, x152_176N, x152_177, x152_180, x152_181, x152_182, x152_183, x152_186, x152_189, x152_189N, x152_190, x152_193, aft_some, aft_void, Option.bind_some, Option.toList_some, Option.toList_none, List.cons_append, List.nil_append, if_true, if_false, ↓reduceIte, eq_self, z366_o, ↓z366_0, ↓z366_0p, ↓z366_1, ↓z366_2, ↓z366_3, ↓z366_4, ↓z366_4p, ↓z366_5, ↓z366_6, ↓z366_6p0, ↓z366_6p1, ↓z366_7, ↓z366_8, ↓z366_8p, ↓z366_9, ↓z366_9p, ↓z366_10, ↓z366_10p0, ↓z366_10p1, ↓z366_11, ↓z366_12, ↓z366_12p, ↓sg0, ↓sg1, ↓sg2, ↓sg3, ↓sg4, ↓sg5, ↓sg6, ↓sg7, ↓sg8, ↓sg9, ↓sg10, ↓sg11, ↓sg12, ↓sg13, ↓sg14, ↓sg15, ↓sg16, ↓sg17, ↓ss0, ↓ss1, ↓ss2, ↓ss3, ↓ss4, ↓ss5, ↓ss6, ↓ss7, ↓ss8, ↓ss9, ↓ss10, ↓ss11, ↓ss12, ↓ss13, ↓ss14, ↓ss15, ↓ss16, ↓ss17, upA_s, u_n, h12, hlt, m0, m1, m2, m3, ni1, ↓a372_g (show 4 * i < 64 by omega), ↓a372_g (show 4 * i + 1 < 64 by omega), ↓a372_g (show 4 * i + 2 < 64 by omega), ↓a372_g (show 4 * i + 3 < 64 by omega), w1, w2, w3, w4, ↓aft_of (er), hne]
      rw [e29, x152_29]
      by_cases c3 : nI (i + 1) < nI k
      · simp +decide only [x152_0, x152_0N, x152_1, x152_2, x152_5, x152_5N, x152_6, x152_9, x152_10, x152_11, x152_13, x152_16, x152_18, x152_19, x152_20, x152_21, x152_21N, x152_22, x152_25, x152_26, x152_27, x152_28, x152_30, x152_30N, x152_31, x152_34, x152_37, x152_38, x152_41, x152_41N, x152_42, x152_42N, x152_43, x152_46, x152_47, x152_48, x152_49, x152_50, x152_50N, x152_51, x152_54, x152_55, x152_56, x152_57, x152_58, x152_59, x152_60, x152_60N, x152_61, x152_64, x152_65, x152_66, x152_67, x152_68, x152_69, x152_70, x152_70N, x152_71, x152_74, x152_75, x152_76, x152_77, x152_78, x152_79, x152_80, x152_83, x152_84, x152_85, x152_88, x152_88N, x152_89, x152_89N, x152_90, x152_93, x152_94, x152_95, x152_96, x152_97, x152_97N, x152_98, x152_101, x152_102, x152_103, x152_104, x152_105, x152_106, x152_107, x152_107N, x152_108, x152_111, x152_112, x152_113, x152_114, x152_115, x152_116, x152_117, x152_117N, x152_118, x152_121, x152_122, x152_123, x152_124, x152_125, x152_126, x152_127, x152_130, x152_131, x152_134, x152_138, x152_141, x152_141N, x152_142, x152_145, x152_146, x152_147, x152_147N, x152_148, x152_151, x152_152, x152_153, x152_154, x152_157, x152_160, x152_160N, x152_161, x152_164, x152_167, x152_167N, x152_168, x152_171, x152_172, x152_173, x152_174, x152_175, x152_176, x152_176N, x152_177, x152_180, x152_181, x152_182, x152_183, x152_186, x152_189, x152_189N, x152_190, x152_193, aft_some, aft_void, Option.bind_some, Option.toList_some, Option.toList_none, List.cons_append, List.nil_append, if_true, if_false, ↓reduceIte, eq_self, z366_o, ↓z366_0, ↓z366_0p, ↓z366_1, ↓z366_2, ↓z366_3, ↓z366_4, ↓z366_4p, ↓z366_5, ↓z366_6, ↓z366_6p0, ↓z366_6p1, ↓z366_7, ↓z366_8, ↓z366_8p, ↓z366_9, ↓z366_9p, ↓z366_10, ↓z366_10p0, ↓z366_10p1, ↓z366_11, ↓z366_12, ↓z366_12p, ↓sg0, ↓sg1, ↓sg2, ↓sg3, ↓sg4, ↓sg5, ↓sg6, ↓sg7, ↓sg8, ↓sg9, ↓sg10, ↓sg11, ↓sg12, ↓sg13, ↓sg14, ↓sg15, ↓sg16, ↓sg17, ↓ss0, ↓ss1, ↓ss2, ↓ss3, ↓ss4, ↓ss5, ↓ss6, ↓ss7, ↓ss8, ↓ss9, ↓ss10, ↓ss11, ↓ss12, ↓ss13, ↓ss14, ↓ss15, ↓ss16, ↓ss17, upA_s, u_n, h12, c3, hne]
      · simp +decide only [x152_0, x152_0N, x152_1, x152_2, x152_5, x152_5N, x152_6, x152_9, x152_10, x152_11, x152_13, x152_16, x152_18, x152_19, x152_20, x152_21, x152_21N, x152_22, x152_25, x152_26, x152_27, x152_28, x152_30, x152_30N, x152_31, x152_34, x152_37, x152_38, x152_41, x152_41N, x152_42, x152_42N, x152_43, x152_46, x152_47, x152_48, x152_49, x152_50, x152_50N, x152_51, x152_54, x152_55, x152_56, x152_57, x152_58, x152_59, x152_60, x152_60N, x152_61, x152_64, x152_65, x152_66, x152_67, x152_68, x152_69, x152_70, x152_70N, x152_71, x152_74, x152_75, x152_76, x152_77, x152_78, x152_79, x152_80, x152_83, x152_84, x152_85, x152_88, x152_88N, x152_89, x152_89N, x152_90, x152_93, x152_94, x152_95, x152_96, x152_97, x152_97N, x152_98, x152_101, x152_102, x152_103, x152_104, x152_105, x152_106, x152_107, x152_107N, x152_108, x152_111, x152_112, x152_113, x152_114, x152_115, x152_116, x152_117, x152_117N, x152_118, x152_121, x152_122, x152_123, x152_124, x152_125, x152_126, x152_127, x152_130, x152_131, x152_134, x152_138, x152_141, x152_141N, x152_142, x152_145, x152_146, x152_147, x152_147N, x152_148, x152_151, x152_152, x152_153, x152_154, x152_157, x152_160, x152_160N, x152_161, x152_164, x152_167, x152_167N, x152_168, x152_171, x152_172, x152_173, x152_174, x152_175, x152_176, x152_176N, x152_177, x152_180, x152_181, x152_182, x152_183, x152_186, x152_189, x152_189N, x152_190, x152_193, aft_some, aft_void, Option.bind_some, Option.toList_some, Option.toList_none, List.cons_append, List.nil_append, if_true, if_false, ↓reduceIte, eq_self, z366_o, ↓z366_0, ↓z366_0p, ↓z366_1, ↓z366_2, ↓z366_3, ↓z366_4, ↓z366_4p, ↓z366_5, ↓z366_6, ↓z366_6p0, ↓z366_6p1, ↓z366_7, ↓z366_8, ↓z366_8p, ↓z366_9, ↓z366_9p, ↓z366_10, ↓z366_10p0, ↓z366_10p1, ↓z366_11, ↓z366_12, ↓z366_12p, ↓sg0, ↓sg1, ↓sg2, ↓sg3, ↓sg4, ↓sg5, ↓sg6, ↓sg7, ↓sg8, ↓sg9, ↓sg10, ↓sg11, ↓sg12, ↓sg13, ↓sg14, ↓sg15, ↓sg16, ↓sg17, ↓ss0, ↓ss1, ↓ss2, ↓ss3, ↓ss4, ↓ss5, ↓ss6, ↓ss7, ↓ss8, ↓ss9, ↓ss10, ↓ss11, ↓ss12, ↓ss13, ↓ss14, ↓ss15, ↓ss16, ↓ss17, upA_s, u_n, h12, c3, hne]
    · have hb : bsF c p st gg (m + 1) i u = bsF c p st gg m (i + 1) (bkU u (c i).toNatClampNeg (gg i).toNatClampNeg (p i) (st i)) := if_neg c2
      rw [hb]
      have hwn := bkU_wf hw c2
      obtain ⟨a0, a1, a2, a3, b0, b1, b2, b3⟩ : ∃ x y z w, x = c i ∧ y = p i ∧ z = st i ∧ w = gg i := ⟨_, _, _, _, rfl, rfl, rfl, rfl⟩
      rw [← b0, ← b1, ← b2, ← b3] at er c2 hwn ⊢
      rw [← b0] at w1
      rw [← b1] at w2
      rw [← b2] at w3
      rw [← b3] at w4
      obtain ⟨e0, kk, x, y, z, hk, ek, hx, ex, hy, ey, hz, hzo, ez, h8, h99⟩ := rf_ok hw c2
      rw [e0] at er
      have hN1 := hw.1.1.2.1
      obtain ⟨f1, ec, hs'⟩ := r_comes (T := U) (P := P) (st := nI y) hu hw.1 hx hk h8 h99 hzo
      rw [← ek, ← ex, ← ey, ← ez] at ec
      have hcl1 : a0.toNatClampNeg = kk := by rw [ek, nI_clamp (by omega)]
      have hcl4 : a3.toNatClampNeg = z := by rw [ez, nI_clamp (by omega)]
      have hs2 : sU f1 (bkU u a0.toNatClampNeg a3.toNatClampNeg a1 a2) := by
        rw [hcl1, hcl4, ex, ey]
        exact hs'
      obtain ⟨f2, v, e2, r⟩ := ih (i + 1) _ f1 (by omega) hs2 hwn
      refine ⟨f2, v, ?_, r⟩
      rw [← e2, x152_29]
      simp +decide only [x152_0, x152_0N, x152_1, x152_2, x152_5, x152_5N, x152_6, x152_9, x152_10, x152_11, x152_13, x152_16, x152_18, x152_19, x152_20, x152_21, x152_21N, x152_22, x152_25, x152_26, x152_27, x152_28, x152_30, x152_30N, x152_31, x152_34, x152_37, x152_38, x152_41, x152_41N, x152_42, x152_42N, x152_43, x152_46, x152_47, x152_48, x152_49, x152_50, x152_50N, x152_51, x152_54, x152_55, x152_56, x152_57, x152_58, x152_59, x152_60, x152_60N, x152_61, x152_64, x152_65, x152_66, x152_67, x152_68, x152_69, x152_70, x152_70N, x152_71, x152_74, x152_75, x152_76, x152_77, x152_78, x152_79, x152_80, x152_83, x152_84, x152_85, x152_88, x152_88N, x152_89, x152_89N, x152_90, x152_93, x152_94, x152_95, x152_96, x152_97, x152_97N, x152_98, x152_101, x152_102, x152_103, x152_104, x152_105, x152_106, x152_107, x152_107N, x152_108, x152_111, x152_112, x152_113, x152_114, x152_115, x152_116, x152_117, x152_117N, x152_118, x152_121, x152_122, x152_123, x152_124, x152_125, x152_126, x152_127, x152_130, x152_131, x152_134, x152_138, x152_141, x152_141N, x152_142, x152_145, x152_146, x152_147, x152_147N, x152_148, x152_151, x152_152, x152_153, x152_154, x152_157, x152_160, x152_160N, x152_161, x152_164, x152_167, x152_167N, x152_168, x152_171, x152_172, x152_173, x152_174, x152_175, x152_176, x152_176N, x152_177, x152_180, x152_181, x152_182, x152_183, x152_186, x152_189, x152_189N, x152_190, x152_193, aft_some, aft_void, Option.bind_some, Option.toList_some, Option.toList_none, List.cons_append, List.nil_append, if_true, if_false, ↓reduceIte, eq_self, z366_o, ↓z366_0, ↓z366_0p, ↓z366_1, ↓z366_2, ↓z366_3, ↓z366_4, ↓z366_4p, ↓z366_5, ↓z366_6, ↓z366_6p0, ↓z366_6p1, ↓z366_7, ↓z366_8, ↓z366_8p, ↓z366_9, ↓z366_9p, ↓z366_10, ↓z366_10p0, ↓z366_10p1, ↓z366_11, ↓z366_12, ↓z366_12p, ↓sg0, ↓sg1, ↓sg2, ↓sg3, ↓sg4, ↓sg5, ↓sg6, ↓sg7, ↓sg8, ↓sg9, ↓sg10, ↓sg11, ↓sg12, ↓sg13, ↓sg14, ↓sg15, ↓sg16, ↓sg17, ↓ss0, ↓ss1, ↓ss2, ↓ss3, ↓ss4, ↓ss5, ↓ss6, ↓ss7, ↓ss8, ↓ss9, ↓ss10, ↓ss11, ↓ss12, ↓ss13, ↓ss14, ↓ss15, ↓ss16, ↓ss17, upA_s, u_n, h12, hlt, m0, m1, m2, m3, ni1, ↓a372_g (show 4 * i < 64 by omega), ↓a372_g (show 4 * i + 1 < 64 by omega), ↓a372_g (show 4 * i + 2 < 64 by omega), ↓a372_g (show 4 * i + 3 < 64 by omega), w1, w2, w3, w4, ↓aft_of (er), ↓aft_of (ec)]
/-- the state as it was takes the last place of the history -/
theorem hR.last (h : hR T ((u :: L).take 4)) (hL : ∀ v ∈ L, WFu v) {v : uT} (hv : sU g v) (h4 : U 366 4 = T 366 4) (ha : ∀ k, k < 912 → U 369 (912 * (((u :: L).take 4).length - 1) + k) = g k) (hw : WFu v) (hk : ∀ k, k < 912 * (((u :: L).take 4).length - 1) → U 369 k = T 369 k) : hR U ((v :: L).take 4) := by
  obtain ⟨h1, h2, h3⟩ := h
  have hl : ((v :: L).take 4).length = ((u :: L).take 4).length := by rw [List.length_take, List.length_take]; rfl
  refine ⟨?_, by rw [hl]; exact h2, fun j w hj => ?_⟩
  · rw [h4, hl]; exact h1
  rw [hl]
  cases j with
  | zero =>
    cases hj
    exact sU.same hv hw (fun k hk => by show U 369 (912 * (_ - 1 - 0) + k) = _; exact ha k hk)
  | succ j =>
    have hj : (L.take 3)[j]? = some w := hj
    have hw' : WFu w := hL w (List.mem_of_mem_take (List.mem_of_getElem? hj))
    have hj2 : ((u :: L).take 4)[j + 1]? = some w := hj
    refine sU.same (h3 (j + 1) w hj2) hw' (fun k hk' => hk _ ?_)
    have := (List.getElem?_eq_some_iff.mp hj2).1
    omega
theorem q_bkts (h : CF T f s) (hw : WG s) : RQ T P f 152 [.ref 366, .long 0, .long 0, .long 0] (gBkts s) := by
  have t0 := thr (f := f) h.1.1
  obtain ⟨q, k, g, e, hk⟩ := t_reads (P := P) h.tt
  obtain ⟨n, hn⟩ : ∃ n, n = gFault s := ⟨_, rfl⟩
  have e : X 182 0 [.ref 366] [] (H (upA T 367 f) P) = some (some (.int n), H (hT (upA T 367 f) q k g) P) := by rw [hn]; exact e
  have h1 : CF (hT (upA T 367 f) q k g) ((hT (upA T 367 f) q k g) 367) s := h.rdT
  unfold gBkts
  rw [← hn]
  by_cases c1 : ¬ n = -5
  · rw [if_neg c1]
    refine RQ.of (U := hT (upA T 367 f) q k g) ?_ (fun a ha => by rw [hT_n (by omega) (by omega), upA_n _ _ (by omega)]) h1
    simp +decide only [x152_0, x152_0N, x152_1, x152_2, x152_5, x152_5N, x152_6, x152_9, x152_10, x152_11, x152_13, x152_16, x152_18, x152_19, x152_20, x152_21, x152_21N, x152_22, x152_25, x152_26, x152_27, x152_28, x152_30, x152_30N, x152_31, x152_34, x152_37, x152_38, x152_41, x152_41N, x152_42, x152_42N, x152_43, x152_46, x152_47, x152_48, x152_49, x152_50, x152_50N, x152_51, x152_54, x152_55, x152_56, x152_57, x152_58, x152_59, x152_60, x152_60N, x152_61, x152_64, x152_65, x152_66, x152_67, x152_68, x152_69, x152_70, x152_70N, x152_71, x152_74, x152_75, x152_76, x152_77, x152_78, x152_79, x152_80, x152_83, x152_84, x152_85, x152_88, x152_88N, x152_89, x152_89N, x152_90, x152_93, x152_94, x152_95, x152_96, x152_97, x152_97N, x152_98, x152_101, x152_102, x152_103, x152_104, x152_105, x152_106, x152_107, x152_107N, x152_108, x152_111, x152_112, x152_113, x152_114, x152_115, x152_116, x152_117, x152_117N, x152_118, x152_121, x152_122, x152_123, x152_124, x152_125, x152_126, x152_127, x152_130, x152_131, x152_134, x152_138, x152_141, x152_141N, x152_142, x152_145, x152_146, x152_147, x152_147N, x152_148, x152_151, x152_152, x152_154, x152_157, x152_160, x152_160N, x152_161, x152_164, x152_167, x152_167N, x152_168, x152_171, x152_172, x152_173, x152_174, x152_175, x152_176, x152_176N, x152_177, x152_180, x152_181, x152_182, x152_183, x152_186, x152_189, x152_189N, x152_190, x152_193, aft_some, aft_void, Option.bind_some, Option.toList_some, Option.toList_none, List.cons_append, List.nil_append, if_true, if_false, ↓reduceIte, eq_self, z366_o, ↓z366_0, ↓z366_0p, ↓z366_1, ↓z366_2, ↓z366_3, ↓z366_4, ↓z366_4p, ↓z366_5, ↓z366_6, ↓z366_6p0, ↓z366_6p1, ↓z366_7, ↓z366_8, ↓z366_8p, ↓z366_9, ↓z366_9p, ↓z366_10, ↓z366_10p0, ↓z366_10p1, ↓z366_11, ↓z366_12, ↓z366_12p, ↓sg0, ↓sg1, ↓sg2, ↓sg3, ↓sg4, ↓sg5, ↓sg6, ↓sg7, ↓sg8, ↓sg9, ↓sg10, ↓sg11, ↓sg12, ↓sg13, ↓sg14, ↓sg15, ↓sg16, ↓sg17, ↓ss0, ↓ss1, ↓ss2, ↓ss3, ↓ss4, ↓ss5, ↓ss6, ↓ss7, ↓ss8, ↓ss9, ↓ss10, ↓ss11, ↓ss12, ↓ss13, ↓ss14, ↓ss15, ↓ss16, ↓ss17, t0, ↓aft_of (e), c1]
  have c1 : n = -5 := Decidable.not_not.mp c1
  rw [if_pos c1]
  obtain ⟨ek, hk12, rb⟩ := hk (hn.symm.trans c1)
  rw [c1] at e
  obtain ⟨T1, hT1⟩ : ∃ T1, T1 = hT (upA T 367 f) q k g := ⟨_, rfl⟩
  have g12 : T1 366 12 = nI k := by rw [hT1]; exact uhT_12
  have g372 : T1 372 = g := by rw [hT1]; exact uhT_372
  have fr1 : ∀ a, a < 366 → T1 a = T a := fun a ha => by rw [hT1, hT_n (by omega) (by omega), upA_n _ _ (by omega)]
  rw [← hT1] at e h1
  obtain ⟨U, ea, fa, ga, hU⟩ := q_aside (P := P) h1
  rw [upA_self] at ea
  have hc : ∀ j, j < k → U 372 (4 * j) = (txC s).2.2.2.2.1 j ∧ U 372 (4 * j + 1) = (txC s).2.2.2.2.2.1 j ∧ U 372 (4 * j + 2) = (txC s).2.2.2.2.2.2.1 j ∧ U 372 (4 * j + 3) = (txC s).2.2.2.2.2.2.2 j := by
    rw [fa 372 (by decide), g372]
    intro j hj
    obtain ⟨q1, q2, q3, q4⟩ := rb j hj
    exact ⟨q1.symm, q2.symm, q3.symm, q4.symm⟩
  have u12 : U 366 12 = nI k := by rw [fa 366 (by decide)]; exact g12
  obtain ⟨f2, v, eb, hb, hbe⟩ := r_basks (P := P) hk12 u12 hc k 0 s.1 (T1 367) (by omega) hU.2 hw.1
  have est : X 152 0 [.ref 366, .long 0, .long 0, .long 0] [] (H (upA T 367 f) P) = X 152 137 [.ref 366, .int (-5), .int ((bsF (txC s).2.2.2.2.1 (txC s).2.2.2.2.2.1 (txC s).2.2.2.2.2.2.1 (txC s).2.2.2.2.2.2.2 k 0 s.1).1.getD 0), v] [] (H (upA U 367 f2) P) := by
    have eb : X 152 29 [.ref 366, .int (-5), .int 0, .int 0] [] (H (upA U 367 (T1 367)) P) = _ := eb
    rw [← eb]
    simp +decide only [x152_0, x152_0N, x152_1, x152_2, x152_5, x152_5N, x152_6, x152_9, x152_10, x152_11, x152_13, x152_16, x152_18, x152_19, x152_20, x152_21, x152_21N, x152_22, x152_25, x152_26, x152_27, x152_28, x152_30, x152_30N, x152_31, x152_34, x152_37, x152_38, x152_41, x152_41N, x152_42, x152_42N, x152_43, x152_46, x152_47, x152_48, x152_49, x152_50, x152_50N, x152_51, x152_54, x152_55, x152_56, x152_57, x152_58, x152_59, x152_60, x152_60N, x152_61, x152_64, x152_65, x152_66, x152_67, x152_68, x152_69, x152_70, x152_70N, x152_71, x152_74, x152_75, x152_76, x152_77, x152_78, x152_79, x152_80, x152_83, x152_84, x152_85, x152_88, x152_88N, x152_89, x152_89N, x152_90, x152_93, x152_94, x152_95, x152_96, x152_97, x152_97N, x152_98, x152_101, x152_102, x152_103, x152_104, x152_105, x152_106, x152_107, x152_107N, x152_108, x152_111, x152_112, x152_113, x152_114, x152_115, x152_116, x152_117, x152_117N, x152_118, x152_121, x152_122, x152_123, x152_124, x152_125, x152_126, x152_127, x152_130, x152_131, x152_134, x152_138, x152_141, x152_141N, x152_142, x152_145, x152_146, x152_147, x152_147N, x152_148, x152_151, x152_152, x152_154, x152_157, x152_160, x152_160N, x152_161, x152_164, x152_167, x152_167N, x152_168, x152_171, x152_172, x152_173, x152_174, x152_175, x152_176, x152_176N, x152_177, x152_180, x152_181, x152_182, x152_183, x152_186, x152_189, x152_189N, x152_190, x152_193, aft_some, aft_void, Option.bind_some, Option.toList_some, Option.toList_none, List.cons_append, List.nil_append, if_true, if_false, ↓reduceIte, eq_self, z366_o, ↓z366_0, ↓z366_0p, ↓z366_1, ↓z366_2, ↓z366_3, ↓z366_4, ↓z366_4p, ↓z366_5, ↓z366_6, ↓z366_6p0, ↓z366_6p1, ↓z366_7, ↓z366_8, ↓z366_8p, ↓z366_9, ↓z366_9p, ↓z366_10, ↓z366_10p0, ↓z366_10p1, ↓z366_11, ↓z366_12, ↓z366_12p, ↓sg0, ↓sg1, ↓sg2, ↓sg3, ↓sg4, ↓sg5, ↓sg6, ↓sg7, ↓sg8, ↓sg9, ↓sg10, ↓sg11, ↓sg12, ↓sg13, ↓sg14, ↓sg15, ↓sg16, ↓sg17, ↓ss0, ↓ss1, ↓ss2, ↓ss3, ↓ss4, ↓ss5, ↓ss6, ↓ss7, ↓ss8, ↓ss9, ↓ss10, ↓ss11, ↓ss12, ↓ss13, ↓ss14, ↓ss15, ↓ss16, ↓ss17, t0, ↓aft_of (e), ↓aft_of (ea)]
  rw [ek] at est hb hbe
  have frU : ∀ a, a < 366 → U a = T a := fun a ha => (fa a (by omega)).trans (fr1 a ha)
  cases hbs : (bkS s).1 with
  | some er =>
    have hbs : (bsF (txC s).2.2.2.2.1 (txC s).2.2.2.2.2.1 (txC s).2.2.2.2.2.2.1 (txC s).2.2.2.2.2.2.2 (txC s).2.1 0 s.1).1 = some er := hbs
    rw [hbs] at est
    have est : _ = X 152 137 [.ref 366, .int (-5), .int er, v] [] (H (upA U 367 f2) P) := est
    have hne := hbe er hbs
    obtain ⟨U', f3, e3, fr3, h3⟩ := q_back (P := P) (g := f2) hU hw ga
    refine ⟨U', f3, ?_, fun a ha => (fr3 a ha).trans (frU a ha), h3⟩
    rw [est, x152_137]
    simp +decide only [x152_0, x152_0N, x152_1, x152_2, x152_5, x152_5N, x152_6, x152_9, x152_10, x152_11, x152_13, x152_16, x152_18, x152_19, x152_20, x152_21, x152_21N, x152_22, x152_25, x152_26, x152_27, x152_28, x152_30, x152_30N, x152_31, x152_34, x152_37, x152_38, x152_41, x152_41N, x152_42, x152_42N, x152_43, x152_46, x152_47, x152_48, x152_49, x152_50, x152_50N, x152_51, x152_54, x152_55, x152_56, x152_57, x152_58, x152_59, x152_60, x152_60N, x152_61, x152_64, x152_65, x152_66, x152_67, x152_68, x152_69, x152_70, x152_70N, x152_71, x152_74, x152_75, x152_76, x152_77, x152_78, x152_79, x152_80, x152_83, x152_84, x152_85, x152_88, x152_88N, x152_89, x152_89N, x152_90, x152_93, x152_94, x152_95, x152_96, x152_97, x152_97N, x152_98, x152_101, x152_102, x152_103, x152_104, x152_105, x152_106, x152_107, x152_107N, x152_108, x152_111, x152_112, x152_113, x152_114, x152_115, x152_116, x152_117, x152_117N, x152_118, x152_121, x152_122, x152_123, x152_124, x152_125, x152_126, x152_127, x152_130, x152_131, x152_134, x152_138, x152_141, x152_141N, x152_142, x152_145, x152_146, x152_147, x152_147N, x152_148, x152_151, x152_152, x152_154, x152_157, x152_160, x152_160N, x152_161, x152_164, x152_167, x152_167N, x152_168, x152_171, x152_172, x152_173, x152_174, x152_175, x152_176, x152_176N, x152_177, x152_180, x152_181, x152_182, x152_183, x152_186, x152_189, x152_189N, x152_190, x152_193, aft_some, aft_void, Option.bind_some, Option.toList_some, Option.toList_none, List.cons_append, List.nil_append, if_true, if_false, ↓reduceIte, eq_self, z366_o, ↓z366_0, ↓z366_0p, ↓z366_1, ↓z366_2, ↓z366_3, ↓z366_4, ↓z366_4p, ↓z366_5, ↓z366_6, ↓z366_6p0, ↓z366_6p1, ↓z366_7, ↓z366_8, ↓z366_8p, ↓z366_9, ↓z366_9p, ↓z366_10, ↓z366_10p0, ↓z366_10p1, ↓z366_11, ↓z366_12, ↓z366_12p, ↓sg0, ↓sg1, ↓sg2, ↓sg3, ↓sg4, ↓sg5, ↓sg6, ↓sg7, ↓sg8, ↓sg9, ↓sg10, ↓sg11, ↓sg12, ↓sg13, ↓sg14, ↓sg15, ↓sg16, ↓sg17, ↓ss0, ↓ss1, ↓ss2, ↓ss3, ↓ss4, ↓ss5, ↓ss6, ↓ss7, ↓ss8, ↓ss9, ↓ss10, ↓ss11, ↓ss12, ↓ss13, ↓ss14, ↓ss15, ↓ss16, ↓ss17, hne, ↓aft_of (e3)]
  | none =>
    have hbs : (bsF (txC s).2.2.2.2.1 (txC s).2.2.2.2.2.1 (txC s).2.2.2.2.2.2.1 (txC s).2.2.2.2.2.2.2 (txC s).2.1 0 s.1).1 = none := hbs
    rw [hbs] at est
    have est : _ = X 152 137 [.ref 366, .int (-5), .int 0, v] [] (H (upA U 367 f2) P) := est
    have hs2 : sU f2 (bkS s).2 := hb hbs
    have hwb : WFu (bkS s).2 := bsF_wf hw.1
    have hU2 : CF U f2 ((bkS s).2, s.2) := ⟨hU.1, hs2⟩
    have hw2 : WG ((bkS s).2, s.2) := ⟨hwb, hw.2⟩
    obtain ⟨W, ep, fp, fp6, hW⟩ := hU2.push (P := P) hw2
    obtain ⟨l, hl⟩ : ∃ l, l + 1 = ((((bkS s).2 :: s.2.2.1).take 4)).length := ⟨min 4 (s.2.2.1.length + 1) - 1, by rw [List.length_take, List.length_cons]; omega⟩
    have hl4 : l < 4 := by rw [List.length_take] at hl; omega
    have w4 : W 366 4 = nI (l + 1) := by rw [hl]; exact hW.1.2.2.1.1
    obtain ⟨Y, ec, fc, gc, gk⟩ := cp_bsk (P := P) (v1 := .int (-5)) (v2 := .int 0) (T := upA W 367 f2) (by rw [upA_n _ _ (by decide)]; exact w4) hl4
    have ec : X 152 153 [.ref 366, .int (-5), .int 0, .int 0] [] (H (upA W 367 f2) P) = X 152 153 [.ref 366, .int (-5), .int 0, .int 912] [] (H Y P) := ec
    have yw : ∀ a, a ≠ 369 → a ≠ 367 → Y a = W a := fun a h9 h7 => by rw [fc a h9, upA_n _ _ h7]
    have y12 : Y 366 12 = nI (txC s).2.1 := by rw [yw 366 (by decide) (by decide), fp6 12 (by decide), u12, ek]
    have y368 : ∀ k, k < 912 → W 368 k = T1 367 k := fun k hk => by rw [fp 368 (by decide) (by decide)]; exact ga k hk
    refine RQ.of (U := Y) ?_ (fun a ha => ?_) ⟨⟨?_, ?_, ?_, ?_⟩, ?_⟩
    · rw [est, x152_137]
      have e9 : X 152 153 [.ref 366, .int (-5), .int 0, .int 912] [] (H Y P) = some (some (.int (nI (txC s).2.1)), H Y P) := by
        rw [x152_153]
        simp +decide only [x152_0, x152_0N, x152_1, x152_2, x152_5, x152_5N, x152_6, x152_9, x152_10, x152_11, x152_13, x152_16, x152_18, x152_19, x152_20, x152_21, x152_21N, x152_22, x152_25, x152_26, x152_27, x152_28, x152_30, x152_30N, x152_31, x152_34, x152_37, x152_38, x152_41, x152_41N, x152_42, x152_42N, x152_43, x152_46, x152_47, x152_48, x152_49, x152_50, x152_50N, x152_51, x152_54, x152_55, x152_56, x152_57, x152_58, x152_59, x152_60, x152_60N, x152_61, x152_64, x152_65, x152_66, x152_67, x152_68, x152_69, x152_70, x152_70N, x152_71, x152_74, x152_75, x152_76, x152_77, x152_78, x152_79, x152_80, x152_83, x152_84, x152_85, x152_88, x152_88N, x152_89, x152_89N, x152_90, x152_93, x152_94, x152_95, x152_96, x152_97, x152_97N, x152_98, x152_101, x152_102, x152_103, x152_104, x152_105, x152_106, x152_107, x152_107N, x152_108, x152_111, x152_112, x152_113, x152_114, x152_115, x152_116, x152_117, x152_117N, x152_118, x152_121, x152_122, x152_123, x152_124, x152_125, x152_126, x152_127, x152_130, x152_131, x152_134, x152_138, x152_141, x152_141N, x152_142, x152_145, x152_146, x152_147, x152_147N, x152_148, x152_151, x152_152, x152_154, x152_157, x152_160, x152_160N, x152_161, x152_164, x152_167, x152_167N, x152_168, x152_171, x152_172, x152_173, x152_174, x152_175, x152_176, x152_176N, x152_177, x152_180, x152_181, x152_182, x152_183, x152_186, x152_189, x152_189N, x152_190, x152_193, aft_some, aft_void, Option.bind_some, Option.toList_some, Option.toList_none, List.cons_append, List.nil_append, if_true, if_false, ↓reduceIte, eq_self, z366_o, ↓z366_0, ↓z366_0p, ↓z366_1, ↓z366_2, ↓z366_3, ↓z366_4, ↓z366_4p, ↓z366_5, ↓z366_6, ↓z366_6p0, ↓z366_6p1, ↓z366_7, ↓z366_8, ↓z366_8p, ↓z366_9, ↓z366_9p, ↓z366_10, ↓z366_10p0, ↓z366_10p1, ↓z366_11, ↓z366_12, ↓z366_12p, ↓sg0, ↓sg1, ↓sg2, ↓sg3, ↓sg4, ↓sg5, ↓sg6, ↓sg7, ↓sg8, ↓sg9, ↓sg10, ↓sg11, ↓sg12, ↓sg13, ↓sg14, ↓sg15, ↓sg16, ↓sg17, ↓ss0, ↓ss1, ↓ss2, ↓ss3, ↓ss4, ↓ss5, ↓ss6, ↓ss7, ↓ss8, ↓ss9, ↓ss10, ↓ss11, ↓ss12, ↓ss13, ↓ss14, ↓ss15, ↓ss16, ↓ss17, y12]
      have e10 := ec.trans e9
      simp +decide only [x152_0, x152_0N, x152_1, x152_2, x152_5, x152_5N, x152_6, x152_9, x152_10, x152_11, x152_13, x152_16, x152_18, x152_19, x152_20, x152_21, x152_21N, x152_22, x152_25, x152_26, x152_27, x152_28, x152_30, x152_30N, x152_31, x152_34, x152_37, x152_38, x152_41, x152_41N, x152_42, x152_42N, x152_43, x152_46, x152_47, x152_48, x152_49, x152_50, x152_50N, x152_51, x152_54, x152_55, x152_56, x152_57, x152_58, x152_59, x152_60, x152_60N, x152_61, x152_64, x152_65, x152_66, x152_67, x152_68, x152_69, x152_70, x152_70N, x152_71, x152_74, x152_75, x152_76, x152_77, x152_78, x152_79, x152_80, x152_83, x152_84, x152_85, x152_88, x152_88N, x152_89, x152_89N, x152_90, x152_93, x152_94, x152_95, x152_96, x152_97, x152_97N, x152_98, x152_101, x152_102, x152_103, x152_104, x152_105, x152_106, x152_107, x152_107N, x152_108, x152_111, x152_112, x152_113, x152_114, x152_115, x152_116, x152_117, x152_117N, x152_118, x152_121, x152_122, x152_123, x152_124, x152_125, x152_126, x152_127, x152_130, x152_131, x152_134, x152_138, x152_141, x152_141N, x152_142, x152_145, x152_146, x152_147, x152_147N, x152_148, x152_151, x152_152, x152_154, x152_157, x152_160, x152_160N, x152_161, x152_164, x152_167, x152_167N, x152_168, x152_171, x152_172, x152_173, x152_174, x152_175, x152_176, x152_176N, x152_177, x152_180, x152_181, x152_182, x152_183, x152_186, x152_189, x152_189N, x152_190, x152_193, aft_some, aft_void, Option.bind_some, Option.toList_some, Option.toList_none, List.cons_append, List.nil_append, if_true, if_false, ↓reduceIte, eq_self, z366_o, ↓z366_0, ↓z366_0p, ↓z366_1, ↓z366_2, ↓z366_3, ↓z366_4, ↓z366_4p, ↓z366_5, ↓z366_6, ↓z366_6p0, ↓z366_6p1, ↓z366_7, ↓z366_8, ↓z366_8p, ↓z366_9, ↓z366_9p, ↓z366_10, ↓z366_10p0, ↓z366_10p1, ↓z366_11, ↓z366_12, ↓z366_12p, ↓sg0, ↓sg1, ↓sg2, ↓sg3, ↓sg4, ↓sg5, ↓sg6, ↓sg7, ↓sg8, ↓sg9, ↓sg10, ↓sg11, ↓sg12, ↓sg13, ↓sg14, ↓sg15, ↓sg16, ↓sg17, ↓ss0, ↓ss1, ↓ss2, ↓ss3, ↓ss4, ↓ss5, ↓ss6, ↓ss7, ↓ss8, ↓ss9, ↓ss10, ↓ss11, ↓ss12, ↓ss13, ↓ss14, ↓ss15, ↓ss16, ↓ss17, ↓aft_of (ep), e10]
    · rw [yw a (by omega) (by omega), fp a (by omega) (by omega)]; exact frU a ha
    · rw [yw 366 (by decide) (by decide)]; exact hW.1.1
    · exact hW.1.2.1.same hw.2.2 (by rw [yw 366 (by decide) (by decide)]) (fun j _ => by rw [yw 370 (by decide) (by decide)])
    · refine hR.last (T := W) (u := (bkS s).2) (g := T1 367) hW.1.2.2.1 hw.2.1 h1.2 (by rw [yw 366 (by decide) (by decide)]) ?_ hw.1 ?_
      · rw [← hl]
        intro k hk
        rw [Nat.add_sub_cancel, gc k hk, upA_n _ _ (by decide)]
        exact y368 k hk
      · rw [← hl]
        intro k hk
        rw [Nat.add_sub_cancel] at hk
        rw [gk k (Or.inl hk), upA_n _ _ (by decide)]
    · exact hW.1.2.2.2.same (by rw [yw 366 (by decide) (by decide)]) (yw 371 (by decide) (by decide))
    · have : Y 367 = f2 := by rw [fc 367 (by decide), upA_s]
      rw [this]; exact hs2
end QB
