/-! the text is read: one letter -/
def OKs (a : Int32 × rS) (r : rS) : Prop := ((a.1 = 0 ∧ a.2 = r) ∨ a.1 = 1) ∧ KD a.2
def tkS (c : Int32) (r : rS) : Int32 × rS := if r.2.1 = 0 then cuS c r else if r.2.1 = 1 then sgS c 58 2 r else if r.2.1 = 2 then knS c r else if r.2.1 = 3 then pcS c r else if r.2.1 = 4 then (if (knS c r).1 = 0 then (if (sgS c 42 5 r).1 = 0 then enS c r else sgS c 42 5 r) else knS c r) else if r.2.1 = 5 then stS c r else if r.2.1 = 6 then enS c r else if r.2.1 = 7 then (if inI c 49 57 = 0 then (0, r) else haS c 8 r) else if r.2.1 = 8 then (if (haS c 9 r).1 = 0 then sgS c 59 0 r else haS c 9 r) else sgS c 59 0 r
section RT
variable {T U EE : Nat → Nat → Int32} {P Q : Nat → Nat → Nat} {r : rS} {c sg pl : Int32} {h0 : List hC}
theorem ok_0 (h : KD r) : OKs (0, r) r := ⟨Or.inl ⟨rfl, rfl⟩, h⟩
theorem ok_1 {r' : rS} (h : KD r') : OKs (1, r') r := ⟨Or.inr rfl, h⟩
theorem ok_sg (h : KD r) : OKs (sgS c sg pl r) r := by
  unfold sgS
  split
  · exact ok_1 h
  · exact ok_0 h
theorem ok_en (h : KD r) : OKs (enS c r) r := by
  unfold enS
  split
  · exact ok_1 h
  · split
    · exact ok_1 h
    · exact ok_0 h
theorem ok_cu (h : KD r) : OKs (cuS c r) r := by
  unfold cuS
  split
  · exact ok_0 h
  · split
    · exact ok_1 (Or.inr (Or.inl rfl))
    · exact ok_0 h
theorem kd_ok (c : Int32) : kdI c = -5 ∨ ∃ k, k < 4 ∧ kdI c = nI k := by
  unfold kdI
  split
  · exact Or.inr ⟨0, by decide, rfl⟩
  · split
    · exact Or.inr ⟨1, by decide, rfl⟩
    · split
      · exact Or.inr ⟨2, by decide, rfl⟩
      · split
        · exact Or.inr ⟨3, by decide, rfl⟩
        · exact Or.inl rfl
theorem ok_kn (h : KD r) : OKs (knS c r) r := by
  unfold knS
  split
  · exact ok_0 h
  · split
    · exact ok_1 (Or.inr (kd_ok c))
    · exact ok_0 h
theorem ok_pc (h : KD r) : OKs (pcS c r) r := by
  unfold pcS
  split
  · exact ok_0 h
  · split
    · exact ok_0 h
    · split
      · exact ok_0 h
      · exact ok_1 h
theorem ok_st (h : KD r) : OKs (stS c r) r := by
  unfold stS
  split
  · exact ok_0 h
  · split
    · exact ok_0 h
    · exact ok_1 h
theorem ok_ha (h : KD r) : OKs (haS c pl r) r := by
  unfold haS
  split
  · exact ok_0 h
  · split
    · exact ok_0 h
    · exact ok_1 h
theorem ok_v {a : Int32 × rS} (h : OKs a r) : (a.1 = 0 ∨ a.1 = 1) = True := eq_true (h.1.imp And.left id)
theorem c_take (h : RD T r) (hk : KD r) : ∃ T', X 19 0 [.ref 360, .int c] [] (H T P) = some (some (.int (tkS c r).1), H T' P) ∧ RD T' (tkS c r).2 ∧ FR T T' ∧ OKs (tkS c r) r := by
  have hp : T 360 7 = r.2.1 := h.2.2.1
  unfold tkS
  by_cases p0 : r.2.1 = 0
  · rw [if_pos p0]
    obtain ⟨T1, e1, r1, f1⟩ := c_takeCustomer (P := P) (c := c) h
    have k1 := ok_cu (c := c) hk
    exact ⟨T1, by simp +decide only [x19_0, x19_0N, x19_1, x19_4, x19_56, x19_56N, x19_57, x19_58, x19_61, x19_62, x19_62N, x19_63, x19_64, x19_66, x19_67, x19_70, x19_71, x19_71N, x19_72, x19_73, x19_76, x19_77, x19_77N, x19_78, x19_79, x19_82, x19_83, x19_83N, x19_84, x19_85, x19_88, x19_91, x19_91N, x19_92, x19_93, x19_95, x19_96, x19_99, x19_102, x19_102N, x19_103, x19_104, x19_107, x19_110, x19_111, x19_114, x19_115, x19_116, x19_116N, x19_117, x19_118, x19_121, x19_122, x19_122N, x19_123, x19_124, x19_127, x19_128, x19_129, x19_130, x19_132, x19_135, x19_138, x19_138N, x19_139, x19_140, x19_142, x19_145, x19_148, x19_149, x19_152, x19_153, x19_154, x19_154N, x19_155, x19_156, x19_158, x19_161, x19_164, x19_164N, x19_165, x19_166, x19_168, x19_169, x19_172, x19_175, x19_176, x19_179, x19_180, x19_181, x19_181N, x19_182, x19_183, x19_185, x19_186, x19_189, aft_some, aft_void, Option.bind_some, Option.toList_some, Option.toList_none, List.cons_append, List.nil_append, if_true, if_false, ↓reduceIte, eq_self, z360_o, ↓z360_0, ↓z360_1, ↓z360_1p, ↓z360_2, ↓z360_2p, ↓z360_3, ↓z360_4, ↓z360_5, ↓z360_6, ↓z360_7, ↓z360_7p, ↓z360_8, ↓z360_8p, ↓z361_g, ↓z361_s, ↓z362_g, ↓z362_s, ↓z363_g, ↓z363_s, ↓z364_g, ↓z364_s, ↓z365_g, ↓z365_s, hp, p0, ↓aft_of (e1), ok_v k1], r1, f1, k1⟩
  rw [if_neg p0]
  by_cases p1 : r.2.1 = 1
  · rw [if_pos p1]
    obtain ⟨T1, e1, r1, f1⟩ := c_sign (P := P) (c := c) (sg := 58) (pl := 2) h
    have k1 := ok_sg (c := c) (sg := 58) (pl := 2) hk
    exact ⟨T1, by simp +decide only [x19_0, x19_0N, x19_1, x19_4, x19_56, x19_56N, x19_57, x19_58, x19_61, x19_62, x19_62N, x19_63, x19_64, x19_66, x19_67, x19_70, x19_71, x19_71N, x19_72, x19_73, x19_76, x19_77, x19_77N, x19_78, x19_79, x19_82, x19_83, x19_83N, x19_84, x19_85, x19_88, x19_91, x19_91N, x19_92, x19_93, x19_95, x19_96, x19_99, x19_102, x19_102N, x19_103, x19_104, x19_107, x19_110, x19_111, x19_114, x19_115, x19_116, x19_116N, x19_117, x19_118, x19_121, x19_122, x19_122N, x19_123, x19_124, x19_127, x19_128, x19_129, x19_130, x19_132, x19_135, x19_138, x19_138N, x19_139, x19_140, x19_142, x19_145, x19_148, x19_149, x19_152, x19_153, x19_154, x19_154N, x19_155, x19_156, x19_158, x19_161, x19_164, x19_164N, x19_165, x19_166, x19_168, x19_169, x19_172, x19_175, x19_176, x19_179, x19_180, x19_181, x19_181N, x19_182, x19_183, x19_185, x19_186, x19_189, aft_some, aft_void, Option.bind_some, Option.toList_some, Option.toList_none, List.cons_append, List.nil_append, if_true, if_false, ↓reduceIte, eq_self, z360_o, ↓z360_0, ↓z360_1, ↓z360_1p, ↓z360_2, ↓z360_2p, ↓z360_3, ↓z360_4, ↓z360_5, ↓z360_6, ↓z360_7, ↓z360_7p, ↓z360_8, ↓z360_8p, ↓z361_g, ↓z361_s, ↓z362_g, ↓z362_s, ↓z363_g, ↓z363_s, ↓z364_g, ↓z364_s, ↓z365_g, ↓z365_s, hp, p1, ↓aft_of (e1), ok_v k1], r1, f1, k1⟩
  rw [if_neg p1]
  by_cases p2 : r.2.1 = 2
  · rw [if_pos p2]
    obtain ⟨T1, e1, r1, f1⟩ := c_takeKind (P := P) (c := c) h
    have k1 := ok_kn (c := c) hk
    exact ⟨T1, by simp +decide only [x19_0, x19_0N, x19_1, x19_4, x19_56, x19_56N, x19_57, x19_58, x19_61, x19_62, x19_62N, x19_63, x19_64, x19_66, x19_67, x19_70, x19_71, x19_71N, x19_72, x19_73, x19_76, x19_77, x19_77N, x19_78, x19_79, x19_82, x19_83, x19_83N, x19_84, x19_85, x19_88, x19_91, x19_91N, x19_92, x19_93, x19_95, x19_96, x19_99, x19_102, x19_102N, x19_103, x19_104, x19_107, x19_110, x19_111, x19_114, x19_115, x19_116, x19_116N, x19_117, x19_118, x19_121, x19_122, x19_122N, x19_123, x19_124, x19_127, x19_128, x19_129, x19_130, x19_132, x19_135, x19_138, x19_138N, x19_139, x19_140, x19_142, x19_145, x19_148, x19_149, x19_152, x19_153, x19_154, x19_154N, x19_155, x19_156, x19_158, x19_161, x19_164, x19_164N, x19_165, x19_166, x19_168, x19_169, x19_172, x19_175, x19_176, x19_179, x19_180, x19_181, x19_181N, x19_182, x19_183, x19_185, x19_186, x19_189, aft_some, aft_void, Option.bind_some, Option.toList_some, Option.toList_none, List.cons_append, List.nil_append, if_true, if_false, ↓reduceIte, eq_self, z360_o, ↓z360_0, ↓z360_1, ↓z360_1p, ↓z360_2, ↓z360_2p, ↓z360_3, ↓z360_4, ↓z360_5, ↓z360_6, ↓z360_7, ↓z360_7p, ↓z360_8, ↓z360_8p, ↓z361_g, ↓z361_s, ↓z362_g, ↓z362_s, ↓z363_g, ↓z363_s, ↓z364_g, ↓z364_s, ↓z365_g, ↓z365_s, hp, p2, ↓aft_of (e1), ok_v k1], r1, f1, k1⟩
  rw [if_neg p2]
  by_cases p3 : r.2.1 = 3
  · rw [if_pos p3]
    obtain ⟨T1, e1, r1, f1⟩ := c_takePieces (P := P) (c := c) h hk
    have k1 := ok_pc (c := c) hk
    exact ⟨T1, by simp +decide only [x19_0, x19_0N, x19_1, x19_4, x19_56, x19_56N, x19_57, x19_58, x19_61, x19_62, x19_62N, x19_63, x19_64, x19_66, x19_67, x19_70, x19_71, x19_71N, x19_72, x19_73, x19_76, x19_77, x19_77N, x19_78, x19_79, x19_82, x19_83, x19_83N, x19_84, x19_85, x19_88, x19_91, x19_91N, x19_92, x19_93, x19_95, x19_96, x19_99, x19_102, x19_102N, x19_103, x19_104, x19_107, x19_110, x19_111, x19_114, x19_115, x19_116, x19_116N, x19_117, x19_118, x19_121, x19_122, x19_122N, x19_123, x19_124, x19_127, x19_128, x19_129, x19_130, x19_132, x19_135, x19_138, x19_138N, x19_139, x19_140, x19_142, x19_145, x19_148, x19_149, x19_152, x19_153, x19_154, x19_154N, x19_155, x19_156, x19_158, x19_161, x19_164, x19_164N, x19_165, x19_166, x19_168, x19_169, x19_172, x19_175, x19_176, x19_179, x19_180, x19_181, x19_181N, x19_182, x19_183, x19_185, x19_186, x19_189, aft_some, aft_void, Option.bind_some, Option.toList_some, Option.toList_none, List.cons_append, List.nil_append, if_true, if_false, ↓reduceIte, eq_self, z360_o, ↓z360_0, ↓z360_1, ↓z360_1p, ↓z360_2, ↓z360_2p, ↓z360_3, ↓z360_4, ↓z360_5, ↓z360_6, ↓z360_7, ↓z360_7p, ↓z360_8, ↓z360_8p, ↓z361_g, ↓z361_s, ↓z362_g, ↓z362_s, ↓z363_g, ↓z363_s, ↓z364_g, ↓z364_s, ↓z365_g, ↓z365_s, hp, p3, ↓aft_of (e1), ok_v k1], r1, f1, k1⟩
  rw [if_neg p3]
  by_cases p4 : r.2.1 = 4
  · rw [if_pos p4]
    obtain ⟨T1, e1, r1, f1⟩ := c_takeKind (P := P) (c := c) h
    have k1 := ok_kn (c := c) hk
    rcases k1.1 with ⟨z1, y1⟩ | z1
    · rw [if_pos z1]
      rw [z1] at e1
      rw [y1] at r1
      obtain ⟨T2, e2, r2, f2⟩ := c_sign (P := P) (c := c) (sg := 42) (pl := 5) r1
      have k2 := ok_sg (c := c) (sg := 42) (pl := 5) hk
      rcases k2.1 with ⟨z2, y2⟩ | z2
      · rw [if_pos z2]
        rw [z2] at e2
        rw [y2] at r2
        obtain ⟨T3, e3, r3, f3⟩ := c_ending (P := P) (c := c) r2
        have k3 := ok_en (c := c) hk
        refine ⟨T3, ?_, r3, (f1.trans f2).trans f3, k3⟩
        rcases k3.1 with ⟨z3, -⟩ | z3
        · rw [z3] at e3 ⊢
          simp +decide only [x19_0, x19_0N, x19_1, x19_4, x19_56, x19_56N, x19_57, x19_58, x19_61, x19_62, x19_62N, x19_63, x19_64, x19_66, x19_67, x19_70, x19_71, x19_71N, x19_72, x19_73, x19_76, x19_77, x19_77N, x19_78, x19_79, x19_82, x19_83, x19_83N, x19_84, x19_85, x19_88, x19_91, x19_91N, x19_92, x19_93, x19_95, x19_96, x19_99, x19_102, x19_102N, x19_103, x19_104, x19_107, x19_110, x19_111, x19_114, x19_115, x19_116, x19_116N, x19_117, x19_118, x19_121, x19_122, x19_122N, x19_123, x19_124, x19_127, x19_128, x19_129, x19_130, x19_132, x19_135, x19_138, x19_138N, x19_139, x19_140, x19_142, x19_145, x19_148, x19_149, x19_152, x19_153, x19_154, x19_154N, x19_155, x19_156, x19_158, x19_161, x19_164, x19_164N, x19_165, x19_166, x19_168, x19_169, x19_172, x19_175, x19_176, x19_179, x19_180, x19_181, x19_181N, x19_182, x19_183, x19_185, x19_186, x19_189, aft_some, aft_void, Option.bind_some, Option.toList_some, Option.toList_none, List.cons_append, List.nil_append, if_true, if_false, ↓reduceIte, eq_self, z360_o, ↓z360_0, ↓z360_1, ↓z360_1p, ↓z360_2, ↓z360_2p, ↓z360_3, ↓z360_4, ↓z360_5, ↓z360_6, ↓z360_7, ↓z360_7p, ↓z360_8, ↓z360_8p, ↓z361_g, ↓z361_s, ↓z362_g, ↓z362_s, ↓z363_g, ↓z363_s, ↓z364_g, ↓z364_s, ↓z365_g, ↓z365_s, hp, p4, ↓aft_of (e1), ↓aft_of (e2), ↓aft_of (e3)]
        · rw [z3] at e3 ⊢
          simp +decide only [x19_0, x19_0N, x19_1, x19_4, x19_56, x19_56N, x19_57, x19_58, x19_61, x19_62, x19_62N, x19_63, x19_64, x19_66, x19_67, x19_70, x19_71, x19_71N, x19_72, x19_73, x19_76, x19_77, x19_77N, x19_78, x19_79, x19_82, x19_83, x19_83N, x19_84, x19_85, x19_88, x19_91, x19_91N, x19_92, x19_93, x19_95, x19_96, x19_99, x19_102, x19_102N, x19_103, x19_104, x19_107, x19_110, x19_111, x19_114, x19_115, x19_116, x19_116N, x19_117, x19_118, x19_121, x19_122, x19_122N, x19_123, x19_124, x19_127, x19_128, x19_129, x19_130, x19_132, x19_135, x19_138, x19_138N, x19_139, x19_140, x19_142, x19_145, x19_148, x19_149, x19_152, x19_153, x19_154, x19_154N, x19_155, x19_156, x19_158, x19_161, x19_164, x19_164N, x19_165, x19_166, x19_168, x19_169, x19_172, x19_175, x19_176, x19_179, x19_180, x19_181, x19_181N, x19_182, x19_183, x19_185, x19_186, x19_189, aft_some, aft_void, Option.bind_some, Option.toList_some, Option.toList_none, List.cons_append, List.nil_append, if_true, if_false, ↓reduceIte, eq_self, z360_o, ↓z360_0, ↓z360_1, ↓z360_1p, ↓z360_2, ↓z360_2p, ↓z360_3, ↓z360_4, ↓z360_5, ↓z360_6, ↓z360_7, ↓z360_7p, ↓z360_8, ↓z360_8p, ↓z361_g, ↓z361_s, ↓z362_g, ↓z362_s, ↓z363_g, ↓z363_s, ↓z364_g, ↓z364_s, ↓z365_g, ↓z365_s, hp, p4, ↓aft_of (e1), ↓aft_of (e2), ↓aft_of (e3)]
      · rw [if_neg (by rw [z2]; decide)]
        refine ⟨T2, ?_, r2, f1.trans f2, k2⟩
        rw [z2] at e2 ⊢
        simp +decide only [x19_0, x19_0N, x19_1, x19_4, x19_56, x19_56N, x19_57, x19_58, x19_61, x19_62, x19_62N, x19_63, x19_64, x19_66, x19_67, x19_70, x19_71, x19_71N, x19_72, x19_73, x19_76, x19_77, x19_77N, x19_78, x19_79, x19_82, x19_83, x19_83N, x19_84, x19_85, x19_88, x19_91, x19_91N, x19_92, x19_93, x19_95, x19_96, x19_99, x19_102, x19_102N, x19_103, x19_104, x19_107, x19_110, x19_111, x19_114, x19_115, x19_116, x19_116N, x19_117, x19_118, x19_121, x19_122, x19_122N, x19_123, x19_124, x19_127, x19_128, x19_129, x19_130, x19_132, x19_135, x19_138, x19_138N, x19_139, x19_140, x19_142, x19_145, x19_148, x19_149, x19_152, x19_153, x19_154, x19_154N, x19_155, x19_156, x19_158, x19_161, x19_164, x19_164N, x19_165, x19_166, x19_168, x19_169, x19_172, x19_175, x19_176, x19_179, x19_180, x19_181, x19_181N, x19_182, x19_183, x19_185, x19_186, x19_189, aft_some, aft_void, Option.bind_some, Option.toList_some, Option.toList_none, List.cons_append, List.nil_append, if_true, if_false, ↓reduceIte, eq_self, z360_o, ↓z360_0, ↓z360_1, ↓z360_1p, ↓z360_2, ↓z360_2p, ↓z360_3, ↓z360_4, ↓z360_5, ↓z360_6, ↓z360_7, ↓z360_7p, ↓z360_8, ↓z360_8p, ↓z361_g, ↓z361_s, ↓z362_g, ↓z362_s, ↓z363_g, ↓z363_s, ↓z364_g, ↓z364_s, ↓z365_g, ↓z365_s, hp, p4, ↓aft_of (e1), ↓aft_of (e2)]
    · rw [if_neg (by rw [z1]; decide)]
      refine ⟨T1, ?_, r1, f1, k1⟩
      rw [z1] at e1 ⊢
      simp +decide only [x19_0, x19_0N, x19_1, x19_4, x19_56, x19_56N, x19_57, x19_58, x19_61, x19_62, x19_62N, x19_63, x19_64, x19_66, x19_67, x19_70, x19_71, x19_71N, x19_72, x19_73, x19_76, x19_77, x19_77N, x19_78, x19_79, x19_82, x19_83, x19_83N, x19_84, x19_85, x19_88, x19_91, x19_91N, x19_92, x19_93, x19_95, x19_96, x19_99, x19_102, x19_102N, x19_103, x19_104, x19_107, x19_110, x19_111, x19_114, x19_115, x19_116, x19_116N, x19_117, x19_118, x19_121, x19_122, x19_122N, x19_123, x19_124, x19_127, x19_128, x19_129, x19_130, x19_132, x19_135, x19_138, x19_138N, x19_139, x19_140, x19_142, x19_145, x19_148, x19_149, x19_152, x19_153, x19_154, x19_154N, x19_155, x19_156, x19_158, x19_161, x19_164, x19_164N, x19_165, x19_166, x19_168, x19_169, x19_172, x19_175, x19_176, x19_179, x19_180, x19_181, x19_181N, x19_182, x19_183, x19_185, x19_186, x19_189, aft_some, aft_void, Option.bind_some, Option.toList_some, Option.toList_none, List.cons_append, List.nil_append, if_true, if_false, ↓reduceIte, eq_self, z360_o, ↓z360_0, ↓z360_1, ↓z360_1p, ↓z360_2, ↓z360_2p, ↓z360_3, ↓z360_4, ↓z360_5, ↓z360_6, ↓z360_7, ↓z360_7p, ↓z360_8, ↓z360_8p, ↓z361_g, ↓z361_s, ↓z362_g, ↓z362_s, ↓z363_g, ↓z363_s, ↓z364_g, ↓z364_s, ↓z365_g, ↓z365_s, hp, p4, ↓aft_of (e1)]
  rw [if_neg p4]
  by_cases p5 : r.2.1 = 5
  · rw [if_pos p5]
    obtain ⟨T1, e1, r1, f1⟩ := c_takeStarch' (P := P) (c := c) h
    have k1 := ok_st (c := c) hk
    exact ⟨T1, by simp +decide only [x19_0, x19_0N, x19_1, x19_4, x19_56, x19_56N, x19_57, x19_58, x19_61, x19_62, x19_62N, x19_63, x19_64, x19_66, x19_67, x19_70, x19_71, x19_71N, x19_72, x19_73, x19_76, x19_77, x19_77N, x19_78, x19_79, x19_82, x19_83, x19_83N, x19_84, x19_85, x19_88, x19_91, x19_91N, x19_92, x19_93, x19_95, x19_96, x19_99, x19_102, x19_102N, x19_103, x19_104, x19_107, x19_110, x19_111, x19_114, x19_115, x19_116, x19_116N, x19_117, x19_118, x19_121, x19_122, x19_122N, x19_123, x19_124, x19_127, x19_128, x19_129, x19_130, x19_132, x19_135, x19_138, x19_138N, x19_139, x19_140, x19_142, x19_145, x19_148, x19_149, x19_152, x19_153, x19_154, x19_154N, x19_155, x19_156, x19_158, x19_161, x19_164, x19_164N, x19_165, x19_166, x19_168, x19_169, x19_172, x19_175, x19_176, x19_179, x19_180, x19_181, x19_181N, x19_182, x19_183, x19_185, x19_186, x19_189, aft_some, aft_void, Option.bind_some, Option.toList_some, Option.toList_none, List.cons_append, List.nil_append, if_true, if_false, ↓reduceIte, eq_self, z360_o, ↓z360_0, ↓z360_1, ↓z360_1p, ↓z360_2, ↓z360_2p, ↓z360_3, ↓z360_4, ↓z360_5, ↓z360_6, ↓z360_7, ↓z360_7p, ↓z360_8, ↓z360_8p, ↓z361_g, ↓z361_s, ↓z362_g, ↓z362_s, ↓z363_g, ↓z363_s, ↓z364_g, ↓z364_s, ↓z365_g, ↓z365_s, hp, p5, ↓aft_of (e1), ok_v k1], r1, f1, k1⟩
  rw [if_neg p5]
  by_cases p6 : r.2.1 = 6
  · rw [if_pos p6]
    obtain ⟨T1, e1, r1, f1⟩ := c_ending (P := P) (c := c) h
    have k1 := ok_en (c := c) hk
    exact ⟨T1, by simp +decide only [x19_0, x19_0N, x19_1, x19_4, x19_56, x19_56N, x19_57, x19_58, x19_61, x19_62, x19_62N, x19_63, x19_64, x19_66, x19_67, x19_70, x19_71, x19_71N, x19_72, x19_73, x19_76, x19_77, x19_77N, x19_78, x19_79, x19_82, x19_83, x19_83N, x19_84, x19_85, x19_88, x19_91, x19_91N, x19_92, x19_93, x19_95, x19_96, x19_99, x19_102, x19_102N, x19_103, x19_104, x19_107, x19_110, x19_111, x19_114, x19_115, x19_116, x19_116N, x19_117, x19_118, x19_121, x19_122, x19_122N, x19_123, x19_124, x19_127, x19_128, x19_129, x19_130, x19_132, x19_135, x19_138, x19_138N, x19_139, x19_140, x19_142, x19_145, x19_148, x19_149, x19_152, x19_153, x19_154, x19_154N, x19_155, x19_156, x19_158, x19_161, x19_164, x19_164N, x19_165, x19_166, x19_168, x19_169, x19_172, x19_175, x19_176, x19_179, x19_180, x19_181, x19_181N, x19_182, x19_183, x19_185, x19_186, x19_189, aft_some, aft_void, Option.bind_some, Option.toList_some, Option.toList_none, List.cons_append, List.nil_append, if_true, if_false, ↓reduceIte, eq_self, z360_o, ↓z360_0, ↓z360_1, ↓z360_1p, ↓z360_2, ↓z360_2p, ↓z360_3, ↓z360_4, ↓z360_5, ↓z360_6, ↓z360_7, ↓z360_7p, ↓z360_8, ↓z360_8p, ↓z361_g, ↓z361_s, ↓z362_g, ↓z362_s, ↓z363_g, ↓z363_s, ↓z364_g, ↓z364_s, ↓z365_g, ↓z365_s, hp, p6, ↓aft_of (e1), ok_v k1], r1, f1, k1⟩
  rw [if_neg p6]
  by_cases p7 : r.2.1 = 7
  · rw [if_pos p7]
    have ed := c_digit (c := c) (l := 1) (m := 9) (h0 := H T P)
    rw [show (48 : Int32) + 1 = 49 by decide, show (48 : Int32) + 9 = 57 by decide] at ed
    by_cases d1 : inI c 49 57 = 0
    · rw [if_pos d1]
      refine ⟨T, ?_, h, FR.rfl' T, ok_0 hk⟩
      simp +decide only [x19_0, x19_0N, x19_1, x19_4, x19_56, x19_56N, x19_57, x19_58, x19_61, x19_62, x19_62N, x19_63, x19_64, x19_66, x19_67, x19_70, x19_71, x19_71N, x19_72, x19_73, x19_76, x19_77, x19_77N, x19_78, x19_79, x19_82, x19_83, x19_83N, x19_84, x19_85, x19_88, x19_91, x19_91N, x19_92, x19_93, x19_95, x19_96, x19_99, x19_102, x19_102N, x19_103, x19_104, x19_107, x19_110, x19_111, x19_114, x19_115, x19_116, x19_116N, x19_117, x19_118, x19_121, x19_122, x19_122N, x19_123, x19_124, x19_127, x19_128, x19_129, x19_130, x19_132, x19_135, x19_138, x19_138N, x19_139, x19_140, x19_142, x19_145, x19_148, x19_149, x19_152, x19_153, x19_154, x19_154N, x19_155, x19_156, x19_158, x19_161, x19_164, x19_164N, x19_165, x19_166, x19_168, x19_169, x19_172, x19_175, x19_176, x19_179, x19_180, x19_181, x19_181N, x19_182, x19_183, x19_185, x19_186, x19_189, aft_some, aft_void, Option.bind_some, Option.toList_some, Option.toList_none, List.cons_append, List.nil_append, if_true, if_false, ↓reduceIte, eq_self, z360_o, ↓z360_0, ↓z360_1, ↓z360_1p, ↓z360_2, ↓z360_2p, ↓z360_3, ↓z360_4, ↓z360_5, ↓z360_6, ↓z360_7, ↓z360_7p, ↓z360_8, ↓z360_8p, ↓z361_g, ↓z361_s, ↓z362_g, ↓z362_s, ↓z363_g, ↓z363_s, ↓z364_g, ↓z364_s, ↓z365_g, ↓z365_s, hp, p7, ↓aft_of (ed), d1]
    · rw [if_neg d1]
      obtain ⟨T1, e1, r1, f1⟩ := c_takeHangers (P := P) (c := c) (pl := 8) h
      have k1 := ok_ha (c := c) (pl := 8) hk
      refine ⟨T1, ?_, r1, f1, k1⟩
      rcases k1.1 with ⟨z1, -⟩ | z1
      · rw [z1] at e1 ⊢
        simp +decide only [x19_0, x19_0N, x19_1, x19_4, x19_56, x19_56N, x19_57, x19_58, x19_61, x19_62, x19_62N, x19_63, x19_64, x19_66, x19_67, x19_70, x19_71, x19_71N, x19_72, x19_73, x19_76, x19_77, x19_77N, x19_78, x19_79, x19_82, x19_83, x19_83N, x19_84, x19_85, x19_88, x19_91, x19_91N, x19_92, x19_93, x19_95, x19_96, x19_99, x19_102, x19_102N, x19_103, x19_104, x19_107, x19_110, x19_111, x19_114, x19_115, x19_116, x19_116N, x19_117, x19_118, x19_121, x19_122, x19_122N, x19_123, x19_124, x19_127, x19_128, x19_129, x19_130, x19_132, x19_135, x19_138, x19_138N, x19_139, x19_140, x19_142, x19_145, x19_148, x19_149, x19_152, x19_153, x19_154, x19_154N, x19_155, x19_156, x19_158, x19_161, x19_164, x19_164N, x19_165, x19_166, x19_168, x19_169, x19_172, x19_175, x19_176, x19_179, x19_180, x19_181, x19_181N, x19_182, x19_183, x19_185, x19_186, x19_189, aft_some, aft_void, Option.bind_some, Option.toList_some, Option.toList_none, List.cons_append, List.nil_append, if_true, if_false, ↓reduceIte, eq_self, z360_o, ↓z360_0, ↓z360_1, ↓z360_1p, ↓z360_2, ↓z360_2p, ↓z360_3, ↓z360_4, ↓z360_5, ↓z360_6, ↓z360_7, ↓z360_7p, ↓z360_8, ↓z360_8p, ↓z361_g, ↓z361_s, ↓z362_g, ↓z362_s, ↓z363_g, ↓z363_s, ↓z364_g, ↓z364_s, ↓z365_g, ↓z365_s, hp, p7, ↓aft_of (ed), d1, ↓aft_of (e1)]
      · rw [z1] at e1 ⊢
        simp +decide only [x19_0, x19_0N, x19_1, x19_4, x19_56, x19_56N, x19_57, x19_58, x19_61, x19_62, x19_62N, x19_63, x19_64, x19_66, x19_67, x19_70, x19_71, x19_71N, x19_72, x19_73, x19_76, x19_77, x19_77N, x19_78, x19_79, x19_82, x19_83, x19_83N, x19_84, x19_85, x19_88, x19_91, x19_91N, x19_92, x19_93, x19_95, x19_96, x19_99, x19_102, x19_102N, x19_103, x19_104, x19_107, x19_110, x19_111, x19_114, x19_115, x19_116, x19_116N, x19_117, x19_118, x19_121, x19_122, x19_122N, x19_123, x19_124, x19_127, x19_128, x19_129, x19_130, x19_132, x19_135, x19_138, x19_138N, x19_139, x19_140, x19_142, x19_145, x19_148, x19_149, x19_152, x19_153, x19_154, x19_154N, x19_155, x19_156, x19_158, x19_161, x19_164, x19_164N, x19_165, x19_166, x19_168, x19_169, x19_172, x19_175, x19_176, x19_179, x19_180, x19_181, x19_181N, x19_182, x19_183, x19_185, x19_186, x19_189, aft_some, aft_void, Option.bind_some, Option.toList_some, Option.toList_none, List.cons_append, List.nil_append, if_true, if_false, ↓reduceIte, eq_self, z360_o, ↓z360_0, ↓z360_1, ↓z360_1p, ↓z360_2, ↓z360_2p, ↓z360_3, ↓z360_4, ↓z360_5, ↓z360_6, ↓z360_7, ↓z360_7p, ↓z360_8, ↓z360_8p, ↓z361_g, ↓z361_s, ↓z362_g, ↓z362_s, ↓z363_g, ↓z363_s, ↓z364_g, ↓z364_s, ↓z365_g, ↓z365_s, hp, p7, ↓aft_of (ed), d1, ↓aft_of (e1)]
  rw [if_neg p7]
  by_cases p8 : r.2.1 = 8
  · rw [if_pos p8]
    obtain ⟨T1, e1, r1, f1⟩ := c_takeHangers (P := P) (c := c) (pl := 9) h
    have k1 := ok_ha (c := c) (pl := 9) hk
    rcases k1.1 with ⟨z1, y1⟩ | z1
    · rw [if_pos z1]
      rw [z1] at e1
      rw [y1] at r1
      obtain ⟨T2, e2, r2, f2⟩ := c_sign (P := P) (c := c) (sg := 59) (pl := 0) r1
      have k2 := ok_sg (c := c) (sg := 59) (pl := 0) hk
      refine ⟨T2, ?_, r2, f1.trans f2, k2⟩
      rcases k2.1 with ⟨z2, -⟩ | z2
      · rw [z2] at e2 ⊢
        simp +decide only [x19_0, x19_0N, x19_1, x19_4, x19_56, x19_56N, x19_57, x19_58, x19_61, x19_62, x19_62N, x19_63, x19_64, x19_66, x19_67, x19_70, x19_71, x19_71N, x19_72, x19_73, x19_76, x19_77, x19_77N, x19_78, x19_79, x19_82, x19_83, x19_83N, x19_84, x19_85, x19_88, x19_91, x19_91N, x19_92, x19_93, x19_95, x19_96, x19_99, x19_102, x19_102N, x19_103, x19_104, x19_107, x19_110, x19_111, x19_114, x19_115, x19_116, x19_116N, x19_117, x19_118, x19_121, x19_122, x19_122N, x19_123, x19_124, x19_127, x19_128, x19_129, x19_130, x19_132, x19_135, x19_138, x19_138N, x19_139, x19_140, x19_142, x19_145, x19_148, x19_149, x19_152, x19_153, x19_154, x19_154N, x19_155, x19_156, x19_158, x19_161, x19_164, x19_164N, x19_165, x19_166, x19_168, x19_169, x19_172, x19_175, x19_176, x19_179, x19_180, x19_181, x19_181N, x19_182, x19_183, x19_185, x19_186, x19_189, aft_some, aft_void, Option.bind_some, Option.toList_some, Option.toList_none, List.cons_append, List.nil_append, if_true, if_false, ↓reduceIte, eq_self, z360_o, ↓z360_0, ↓z360_1, ↓z360_1p, ↓z360_2, ↓z360_2p, ↓z360_3, ↓z360_4, ↓z360_5, ↓z360_6, ↓z360_7, ↓z360_7p, ↓z360_8, ↓z360_8p, ↓z361_g, ↓z361_s, ↓z362_g, ↓z362_s, ↓z363_g, ↓z363_s, ↓z364_g, ↓z364_s, ↓z365_g, ↓z365_s, hp, p8, ↓aft_of (e1), ↓aft_of (e2)]
      · rw [z2] at e2 ⊢
        simp +decide only [x19_0, x19_0N, x19_1, x19_4, x19_56, x19_56N, x19_57, x19_58, x19_61, x19_62, x19_62N, x19_63, x19_64, x19_66, x19_67, x19_70, x19_71, x19_71N, x19_72, x19_73, x19_76, x19_77, x19_77N, x19_78, x19_79, x19_82, x19_83, x19_83N, x19_84, x19_85, x19_88, x19_91, x19_91N, x19_92, x19_93, x19_95, x19_96, x19_99, x19_102, x19_102N, x19_103, x19_104, x19_107, x19_110, x19_111, x19_114, x19_115, x19_116, x19_116N, x19_117, x19_118, x19_121, x19_122, x19_122N, x19_123, x19_124, x19_127, x19_128, x19_129, x19_130, x19_132, x19_135, x19_138, x19_138N, x19_139, x19_140, x19_142, x19_145, x19_148, x19_149, x19_152, x19_153, x19_154, x19_154N, x19_155, x19_156, x19_158, x19_161, x19_164, x19_164N, x19_165, x19_166, x19_168, x19_169, x19_172, x19_175, x19_176, x19_179, x19_180, x19_181, x19_181N, x19_182, x19_183, x19_185, x19_186, x19_189, aft_some, aft_void, Option.bind_some, Option.toList_some, Option.toList_none, List.cons_append, List.nil_append, if_true, if_false, ↓reduceIte, eq_self, z360_o, ↓z360_0, ↓z360_1, ↓z360_1p, ↓z360_2, ↓z360_2p, ↓z360_3, ↓z360_4, ↓z360_5, ↓z360_6, ↓z360_7, ↓z360_7p, ↓z360_8, ↓z360_8p, ↓z361_g, ↓z361_s, ↓z362_g, ↓z362_s, ↓z363_g, ↓z363_s, ↓z364_g, ↓z364_s, ↓z365_g, ↓z365_s, hp, p8, ↓aft_of (e1), ↓aft_of (e2)]
    · rw [if_neg (by rw [z1]; decide)]
      refine ⟨T1, ?_, r1, f1, k1⟩
      rw [z1] at e1 ⊢
      simp +decide only [x19_0, x19_0N, x19_1, x19_4, x19_56, x19_56N, x19_57, x19_58, x19_61, x19_62, x19_62N, x19_63, x19_64, x19_66, x19_67, x19_70, x19_71, x19_71N, x19_72, x19_73, x19_76, x19_77, x19_77N, x19_78, x19_79, x19_82, x19_83, x19_83N, x19_84, x19_85, x19_88, x19_91, x19_91N, x19_92, x19_93, x19_95, x19_96, x19_99, x19_102, x19_102N, x19_103, x19_104, x19_107, x19_110, x19_111, x19_114, x19_115, x19_116, x19_116N, x19_117, x19_118, x19_121, x19_122, x19_122N, x19_123, x19_124, x19_127, x19_128, x19_129, x19_130, x19_132, x19_135, x19_138, x19_138N, x19_139, x19_140, x19_142, x19_145, x19_148, x19_149, x19_152, x19_153, x19_154, x19_154N, x19_155, x19_156, x19_158, x19_161, x19_164, x19_164N, x19_165, x19_166, x19_168, x19_169, x19_172, x19_175, x19_176, x19_179, x19_180, x19_181, x19_181N, x19_182, x19_183, x19_185, x19_186, x19_189, aft_some, aft_void, Option.bind_some, Option.toList_some, Option.toList_none, List.cons_append, List.nil_append, if_true, if_false, ↓reduceIte, eq_self, z360_o, ↓z360_0, ↓z360_1, ↓z360_1p, ↓z360_2, ↓z360_2p, ↓z360_3, ↓z360_4, ↓z360_5, ↓z360_6, ↓z360_7, ↓z360_7p, ↓z360_8, ↓z360_8p, ↓z361_g, ↓z361_s, ↓z362_g, ↓z362_s, ↓z363_g, ↓z363_s, ↓z364_g, ↓z364_s, ↓z365_g, ↓z365_s, hp, p8, ↓aft_of (e1)]
  rw [if_neg p8]
  obtain ⟨T1, e1, r1, f1⟩ := c_sign (P := P) (c := c) (sg := 59) (pl := 0) h
  have k1 := ok_sg (c := c) (sg := 59) (pl := 0) hk
  exact ⟨T1, by simp +decide only [x19_0, x19_0N, x19_1, x19_4, x19_56, x19_56N, x19_57, x19_58, x19_61, x19_62, x19_62N, x19_63, x19_64, x19_66, x19_67, x19_70, x19_71, x19_71N, x19_72, x19_73, x19_76, x19_77, x19_77N, x19_78, x19_79, x19_82, x19_83, x19_83N, x19_84, x19_85, x19_88, x19_91, x19_91N, x19_92, x19_93, x19_95, x19_96, x19_99, x19_102, x19_102N, x19_103, x19_104, x19_107, x19_110, x19_111, x19_114, x19_115, x19_116, x19_116N, x19_117, x19_118, x19_121, x19_122, x19_122N, x19_123, x19_124, x19_127, x19_128, x19_129, x19_130, x19_132, x19_135, x19_138, x19_138N, x19_139, x19_140, x19_142, x19_145, x19_148, x19_149, x19_152, x19_153, x19_154, x19_154N, x19_155, x19_156, x19_158, x19_161, x19_164, x19_164N, x19_165, x19_166, x19_168, x19_169, x19_172, x19_175, x19_176, x19_179, x19_180, x19_181, x19_181N, x19_182, x19_183, x19_185, x19_186, x19_189, aft_some, aft_void, Option.bind_some, Option.toList_some, Option.toList_none, List.cons_append, List.nil_append, if_true, if_false, ↓reduceIte, eq_self, z360_o, ↓z360_0, ↓z360_1, ↓z360_1p, ↓z360_2, ↓z360_2p, ↓z360_3, ↓z360_4, ↓z360_5, ↓z360_6, ↓z360_7, ↓z360_7p, ↓z360_8, ↓z360_8p, ↓z361_g, ↓z361_s, ↓z362_g, ↓z362_s, ↓z363_g, ↓z363_s, ↓z364_g, ↓z364_s, ↓z365_g, ↓z365_s, hp, p0, p1, p2, p3, p4, p5, p6, p7, p8, ↓aft_of (e1), ok_v k1], r1, f1, k1⟩
end RT
