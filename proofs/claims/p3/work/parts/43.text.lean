/-! the text is read: the small steps -/
abbrev rS : Type := Nat × Int32 × Int32 × (Nat → Int32) × (Nat → Int32) × (Nat → Int32) × (Nat → Int32)
def RD (T : Nat → Nat → Int32) (r : rS) : Prop := r.1 ≤ 12 ∧ T 360 2 = nI r.1 ∧ T 360 7 = r.2.1 ∧ T 360 8 = r.2.2.1 ∧ T 362 = r.2.2.2.1 ∧ T 363 = r.2.2.2.2.1 ∧ T 364 = r.2.2.2.2.2.1 ∧ T 365 = r.2.2.2.2.2.2
def FR (T U : Nat → Nat → Int32) : Prop := (∀ a, a ≠ 360 → a ≠ 362 → a ≠ 363 → a ≠ 364 → a ≠ 365 → U a = T a) ∧ U 360 1 = T 360 1
theorem FR.rfl' (T : Nat → Nat → Int32) : FR T T := ⟨fun _ _ _ _ _ _ => rfl, rfl⟩
theorem FR.trans {T U W : Nat → Nat → Int32} (h : FR T U) (g : FR U W) : FR T W := ⟨fun a h0 h2 h3 h4 h5 => (g.1 a h0 h2 h3 h4 h5).trans (h.1 a h0 h2 h3 h4 h5), g.2.trans h.2⟩
def kdI (c : Int32) : Int32 := if c = 115 then 0 else if c = 98 then 1 else if c = 116 then 2 else if c = 108 then 3 else -5
def sgS (c sg pl : Int32) (r : rS) : Int32 × rS := if c = sg then (1, r.1, pl, r.2.2) else (0, r)
def enS (c : Int32) (r : rS) : Int32 × rS := if c = 45 then (1, r.1, 7, r.2.2) else if c = 59 then (1, r.1, 0, r.2.2) else (0, r)
def cuS (c : Int32) (r : rS) : Int32 × rS := if inI c 48 57 = 0 then (0, r) else if r.1 < 12 then (1, r.1 + 1, 1, -5, upA r.2.2.2.1 r.1 (c - 48), upA r.2.2.2.2.1 r.1 0, upA r.2.2.2.2.2.1 r.1 0, upA r.2.2.2.2.2.2 r.1 0) else (0, r)
def knS (c : Int32) (r : rS) : Int32 × rS := if kdI c = -5 then (0, r) else if r.2.2.1 < kdI c then (1, r.1, 3, kdI c, r.2.2.2) else (0, r)
section RX
variable {T U EE : Nat → Nat → Int32} {P Q : Nat → Nat → Nat} {r : rS} {c sg pl : Int32} {h0 : List hC}
theorem c_digit {l m : Int32} : X 27 0 [.int c, .int l, .int m] [] h0 = some (some (.int (inI c (48 + l) (48 + m))), h0) := by
  unfold inI
  by_cases c1 : c < 48 + l
  · simp +decide only [x27_0, x27_1, x27_3, x27_4, x27_5, x27_8, x27_9, x27_11, x27_12, x27_13, x27_16, x27_17, x27_20, x27_21, aft_some, aft_void, Option.bind_some, Option.toList_some, Option.toList_none, List.cons_append, List.nil_append, if_true, if_false, ↓reduceIte, eq_self, c1]
  · by_cases c2 : 48 + m < c
    · simp +decide only [x27_0, x27_1, x27_3, x27_4, x27_5, x27_8, x27_9, x27_11, x27_12, x27_13, x27_16, x27_17, x27_20, x27_21, aft_some, aft_void, Option.bind_some, Option.toList_some, Option.toList_none, List.cons_append, List.nil_append, if_true, if_false, ↓reduceIte, eq_self, c1, c2]
    · simp +decide only [x27_0, x27_1, x27_3, x27_4, x27_5, x27_8, x27_9, x27_11, x27_12, x27_13, x27_16, x27_17, x27_20, x27_21, aft_some, aft_void, Option.bind_some, Option.toList_some, Option.toList_none, List.cons_append, List.nil_append, if_true, if_false, ↓reduceIte, eq_self, c1, c2]
theorem c_kind : X 28 0 [.int c] [] h0 = some (some (.int (kdI c)), h0) := by
  unfold kdI
  by_cases c1 : c = 115
  · simp +decide only [x28_0, x28_1, x28_3, x28_6, x28_7, x28_10, x28_11, x28_13, x28_16, x28_17, x28_20, x28_21, x28_23, x28_26, x28_27, x28_30, x28_31, x28_33, x28_36, x28_37, x28_40, x28_42, aft_some, aft_void, Option.bind_some, Option.toList_some, Option.toList_none, List.cons_append, List.nil_append, if_true, if_false, ↓reduceIte, eq_self, c1]
  by_cases c2 : c = 98
  · simp +decide only [x28_0, x28_1, x28_3, x28_6, x28_7, x28_10, x28_11, x28_13, x28_16, x28_17, x28_20, x28_21, x28_23, x28_26, x28_27, x28_30, x28_31, x28_33, x28_36, x28_37, x28_40, x28_42, aft_some, aft_void, Option.bind_some, Option.toList_some, Option.toList_none, List.cons_append, List.nil_append, if_true, if_false, ↓reduceIte, eq_self, c1, c2]
  by_cases c3 : c = 116
  · simp +decide only [x28_0, x28_1, x28_3, x28_6, x28_7, x28_10, x28_11, x28_13, x28_16, x28_17, x28_20, x28_21, x28_23, x28_26, x28_27, x28_30, x28_31, x28_33, x28_36, x28_37, x28_40, x28_42, aft_some, aft_void, Option.bind_some, Option.toList_some, Option.toList_none, List.cons_append, List.nil_append, if_true, if_false, ↓reduceIte, eq_self, c1, c2, c3]
  by_cases c4 : c = 108
  · simp +decide only [x28_0, x28_1, x28_3, x28_6, x28_7, x28_10, x28_11, x28_13, x28_16, x28_17, x28_20, x28_21, x28_23, x28_26, x28_27, x28_30, x28_31, x28_33, x28_36, x28_37, x28_40, x28_42, aft_some, aft_void, Option.bind_some, Option.toList_some, Option.toList_none, List.cons_append, List.nil_append, if_true, if_false, ↓reduceIte, eq_self, c1, c2, c3, c4]
  simp +decide only [x28_0, x28_1, x28_3, x28_6, x28_7, x28_10, x28_11, x28_13, x28_16, x28_17, x28_20, x28_21, x28_23, x28_26, x28_27, x28_30, x28_31, x28_33, x28_36, x28_37, x28_40, x28_42, aft_some, aft_void, Option.bind_some, Option.toList_some, Option.toList_none, List.cons_append, List.nil_append, if_true, if_false, ↓reduceIte, eq_self, c1, c2, c3, c4]
theorem c_sign (h : RD T r) : ∃ T', X 26 0 [.ref 360, .int c, .int sg, .int pl] [] (H T P) = some (some (.int (sgS c sg pl r).1), H T' P) ∧ RD T' (sgS c sg pl r).2 ∧ FR T T' := by
  unfold sgS
  by_cases c1 : c = sg
  · rw [if_pos c1]
    refine ⟨up1 T 360 7 pl, ?_, ?_, ?_⟩
    · simp +decide only [x26_0, x26_1, x26_2, x26_5, x26_6, x26_7, x26_7N, x26_8, x26_9, x26_12, x26_13, aft_some, aft_void, Option.bind_some, Option.toList_some, Option.toList_none, List.cons_append, List.nil_append, if_true, if_false, ↓reduceIte, eq_self, z360_o, ↓z360_0, ↓z360_1, ↓z360_1p, ↓z360_2, ↓z360_2p, ↓z360_3, ↓z360_4, ↓z360_5, ↓z360_6, ↓z360_7, ↓z360_7p, ↓z360_8, ↓z360_8p, ↓z361_g, ↓z361_s, ↓z362_g, ↓z362_s, ↓z363_g, ↓z363_s, ↓z364_g, ↓z364_s, ↓z365_g, ↓z365_s, c1]
    · obtain ⟨h1, h2, h3, h4, h5⟩ := h
      refine ⟨h1, ?_, ?_, ?_, ?_⟩
      · simp +decide only [upA_s, u_n]; exact h2
      · simp +decide only [upA_s]
      · simp +decide only [upA_s, u_n]; exact h4
      · simp +decide only [u_n]; exact h5
    · exact ⟨fun a g1 g2 g3 g4 g5 => upA_n _ _ g1, by simp +decide only [upA_s, u_n]⟩
  · rw [if_neg c1]
    refine ⟨T, ?_, h, FR.rfl' T⟩
    simp +decide only [x26_0, x26_1, x26_2, x26_5, x26_6, x26_7, x26_7N, x26_8, x26_9, x26_12, x26_13, aft_some, aft_void, Option.bind_some, Option.toList_some, Option.toList_none, List.cons_append, List.nil_append, if_true, if_false, ↓reduceIte, eq_self, z360_o, ↓z360_0, ↓z360_1, ↓z360_1p, ↓z360_2, ↓z360_2p, ↓z360_3, ↓z360_4, ↓z360_5, ↓z360_6, ↓z360_7, ↓z360_7p, ↓z360_8, ↓z360_8p, ↓z361_g, ↓z361_s, ↓z362_g, ↓z362_s, ↓z363_g, ↓z363_s, ↓z364_g, ↓z364_s, ↓z365_g, ↓z365_s, c1]
theorem c_ending (h : RD T r) : ∃ T', X 25 0 [.ref 360, .int c] [] (H T P) = some (some (.int (enS c r).1), H T' P) ∧ RD T' (enS c r).2 ∧ FR T T' := by
  obtain ⟨T1, e1, r1, f1⟩ := c_sign (P := P) (c := c) (sg := 45) (pl := 7) h
  unfold enS
  by_cases c1 : c = 45
  · rw [if_pos c1]
    have hs : sgS c 45 7 r = (1, r.1, 7, r.2.2) := by unfold sgS; exact if_pos c1
    rw [hs] at e1 r1
    refine ⟨T1, ?_, r1, f1⟩
    simp +decide only [x25_0, x25_0N, x25_1, x25_2, x25_4, x25_6, x25_9, x25_12, x25_12N, x25_13, x25_14, x25_16, x25_17, x25_20, x25_23, x25_24, x25_27, x25_28, aft_some, aft_void, Option.bind_some, Option.toList_some, Option.toList_none, List.cons_append, List.nil_append, if_true, if_false, ↓reduceIte, eq_self, z360_o, ↓z360_0, ↓z360_1, ↓z360_1p, ↓z360_2, ↓z360_2p, ↓z360_3, ↓z360_4, ↓z360_5, ↓z360_6, ↓z360_7, ↓z360_7p, ↓z360_8, ↓z360_8p, ↓z361_g, ↓z361_s, ↓z362_g, ↓z362_s, ↓z363_g, ↓z363_s, ↓z364_g, ↓z364_s, ↓z365_g, ↓z365_s, ↓aft_of (e1)]
  · rw [if_neg c1]
    have hs : sgS c 45 7 r = (0, r) := by unfold sgS; exact if_neg c1
    rw [hs] at e1 r1
    obtain ⟨T2, e2, r2, f2⟩ := c_sign (P := P) (c := c) (sg := 59) (pl := 0) r1
    by_cases c2 : c = 59
    · rw [if_pos c2]
      have hs : sgS c 59 0 r = (1, r.1, 0, r.2.2) := by unfold sgS; exact if_pos c2
      rw [hs] at e2 r2
      refine ⟨T2, ?_, r2, f1.trans f2⟩
      simp +decide only [x25_0, x25_0N, x25_1, x25_2, x25_4, x25_6, x25_9, x25_12, x25_12N, x25_13, x25_14, x25_16, x25_17, x25_20, x25_23, x25_24, x25_27, x25_28, aft_some, aft_void, Option.bind_some, Option.toList_some, Option.toList_none, List.cons_append, List.nil_append, if_true, if_false, ↓reduceIte, eq_self, z360_o, ↓z360_0, ↓z360_1, ↓z360_1p, ↓z360_2, ↓z360_2p, ↓z360_3, ↓z360_4, ↓z360_5, ↓z360_6, ↓z360_7, ↓z360_7p, ↓z360_8, ↓z360_8p, ↓z361_g, ↓z361_s, ↓z362_g, ↓z362_s, ↓z363_g, ↓z363_s, ↓z364_g, ↓z364_s, ↓z365_g, ↓z365_s, ↓aft_of (e1), ↓aft_of (e2)]
    · rw [if_neg c2]
      have hs : sgS c 59 0 r = (0, r) := by unfold sgS; exact if_neg c2
      rw [hs] at e2 r2
      refine ⟨T2, ?_, r2, f1.trans f2⟩
      simp +decide only [x25_0, x25_0N, x25_1, x25_2, x25_4, x25_6, x25_9, x25_12, x25_12N, x25_13, x25_14, x25_16, x25_17, x25_20, x25_23, x25_24, x25_27, x25_28, aft_some, aft_void, Option.bind_some, Option.toList_some, Option.toList_none, List.cons_append, List.nil_append, if_true, if_false, ↓reduceIte, eq_self, z360_o, ↓z360_0, ↓z360_1, ↓z360_1p, ↓z360_2, ↓z360_2p, ↓z360_3, ↓z360_4, ↓z360_5, ↓z360_6, ↓z360_7, ↓z360_7p, ↓z360_8, ↓z360_8p, ↓z361_g, ↓z361_s, ↓z362_g, ↓z362_s, ↓z363_g, ↓z363_s, ↓z364_g, ↓z364_s, ↓z365_g, ↓z365_s, ↓aft_of (e1), ↓aft_of (e2)]
theorem c_takeKind (h : RD T r) : ∃ T', X 21 0 [.ref 360, .int c, .long 0] [] (H T P) = some (some (.int (knS c r).1), H T' P) ∧ RD T' (knS c r).2 ∧ FR T T' := by
  have hk : T 360 8 = r.2.2.1 := h.2.2.2.1
  unfold knS
  by_cases c1 : kdI c = -5
  · rw [if_pos c1]
    refine ⟨T, ?_, h, FR.rfl' T⟩
    simp +decide only [x21_0, x21_1, x21_4, x21_5, x21_6, x21_8, x21_11, x21_12, x21_12N, x21_13, x21_16, x21_19, x21_20, x21_21, x21_21N, x21_22, x21_23, x21_26, x21_26N, x21_27, x21_28, x21_31, x21_32, aft_some, aft_void, Option.bind_some, Option.toList_some, Option.toList_none, List.cons_append, List.nil_append, if_true, if_false, ↓reduceIte, eq_self, z360_o, ↓z360_0, ↓z360_1, ↓z360_1p, ↓z360_2, ↓z360_2p, ↓z360_3, ↓z360_4, ↓z360_5, ↓z360_6, ↓z360_7, ↓z360_7p, ↓z360_8, ↓z360_8p, ↓z361_g, ↓z361_s, ↓z362_g, ↓z362_s, ↓z363_g, ↓z363_s, ↓z364_g, ↓z364_s, ↓z365_g, ↓z365_s, ↓aft_of (c_kind), c1]
  rw [if_neg c1]
  by_cases c2 : r.2.2.1 < kdI c
  · rw [if_pos c2]
    refine ⟨up1 (up1 T 360 8 (kdI c)) 360 7 3, ?_, ?_, ?_⟩
    · simp +decide only [x21_0, x21_1, x21_4, x21_5, x21_6, x21_8, x21_11, x21_12, x21_12N, x21_13, x21_16, x21_19, x21_20, x21_21, x21_21N, x21_22, x21_23, x21_26, x21_26N, x21_27, x21_28, x21_31, x21_32, aft_some, aft_void, Option.bind_some, Option.toList_some, Option.toList_none, List.cons_append, List.nil_append, if_true, if_false, ↓reduceIte, eq_self, z360_o, ↓z360_0, ↓z360_1, ↓z360_1p, ↓z360_2, ↓z360_2p, ↓z360_3, ↓z360_4, ↓z360_5, ↓z360_6, ↓z360_7, ↓z360_7p, ↓z360_8, ↓z360_8p, ↓z361_g, ↓z361_s, ↓z362_g, ↓z362_s, ↓z363_g, ↓z363_s, ↓z364_g, ↓z364_s, ↓z365_g, ↓z365_s, upA_s, u_oo, u_o0, u_0o, u_n, ↓aft_of (c_kind), c1, hk, c2]
    · obtain ⟨h1, h2, h3, h4, h5⟩ := h
      refine ⟨h1, ?_, ?_, ?_, ?_⟩
      · simp +decide only [upA_s, u_n]; exact h2
      · simp +decide only [upA_s]
      · simp +decide only [upA_s, u_n]
      · simp +decide only [u_n]; exact h5
    · exact ⟨fun a g1 g2 g3 g4 g5 => by simp only [upA_n _ _ g1], by simp +decide only [upA_s, u_n]⟩
  · rw [if_neg c2]
    refine ⟨T, ?_, h, FR.rfl' T⟩
    simp +decide only [x21_0, x21_1, x21_4, x21_5, x21_6, x21_8, x21_11, x21_12, x21_12N, x21_13, x21_16, x21_19, x21_20, x21_21, x21_21N, x21_22, x21_23, x21_26, x21_26N, x21_27, x21_28, x21_31, x21_32, aft_some, aft_void, Option.bind_some, Option.toList_some, Option.toList_none, List.cons_append, List.nil_append, if_true, if_false, ↓reduceIte, eq_self, z360_o, ↓z360_0, ↓z360_1, ↓z360_1p, ↓z360_2, ↓z360_2p, ↓z360_3, ↓z360_4, ↓z360_5, ↓z360_6, ↓z360_7, ↓z360_7p, ↓z360_8, ↓z360_8p, ↓z361_g, ↓z361_s, ↓z362_g, ↓z362_s, ↓z363_g, ↓z363_s, ↓z364_g, ↓z364_s, ↓z365_g, ↓z365_s, ↓aft_of (c_kind), c1, hk, c2]
theorem c_takeCustomer (h : RD T r) : ∃ T', X 20 0 [.ref 360, .int c] [] (H T P) = some (some (.int (cuS c r).1), H T' P) ∧ RD T' (cuS c r).2 ∧ FR T T' := by
  have hn : T 360 2 = nI r.1 := h.2.1
  have hn12 := h.1
  have ed := c_digit (c := c) (l := 0) (m := 9) (h0 := H T P)
  rw [show (48 : Int32) + 0 = 48 by decide, show (48 : Int32) + 9 = 57 by decide] at ed
  have h12 : (nI r.1 < 12) = (r.1 < 12) := nI_ltp (a := r.1) (b := 12) (by omega) (by decide)
  unfold cuS
  by_cases c1 : inI c 48 57 = 0
  · rw [if_pos c1]
    refine ⟨T, ?_, h, FR.rfl' T⟩
    simp +decide only [x20_0, x20_1, x20_2, x20_4, x20_7, x20_10, x20_10N, x20_11, x20_14, x20_16, x20_19, x20_20, x20_21, x20_21N, x20_22, x20_25, x20_25N, x20_26, x20_29, x20_30, x20_32, x20_33, x20_34, x20_34N, x20_35, x20_38, x20_38N, x20_39, x20_42, x20_43, x20_44, x20_44N, x20_45, x20_48, x20_48N, x20_49, x20_52, x20_53, x20_54, x20_54N, x20_55, x20_58, x20_58N, x20_59, x20_62, x20_63, x20_64, x20_64N, x20_65, x20_66, x20_69, x20_70, x20_71, x20_74, x20_74N, x20_75, x20_77, x20_80, x20_80N, x20_81, x20_82, x20_85, x20_86, aft_some, aft_void, Option.bind_some, Option.toList_some, Option.toList_none, List.cons_append, List.nil_append, if_true, if_false, ↓reduceIte, eq_self, z360_o, ↓z360_0, ↓z360_1, ↓z360_1p, ↓z360_2, ↓z360_2p, ↓z360_3, ↓z360_4, ↓z360_5, ↓z360_6, ↓z360_7, ↓z360_7p, ↓z360_8, ↓z360_8p, ↓z361_g, ↓z361_s, ↓z362_g, ↓z362_s, ↓z363_g, ↓z363_s, ↓z364_g, ↓z364_s, ↓z365_g, ↓z365_s, ↓aft_of (ed), c1]
  rw [if_neg c1]
  by_cases c2 : r.1 < 12
  · rw [if_pos c2]
    have ok := okx_nI c2 (show (12 : Nat) < 2 ^ 31 by decide)
    have cl := nI_clamp (show r.1 < 2 ^ 31 by omega)
    refine ⟨_, by
      simp +decide only [x20_0, x20_1, x20_2, x20_4, x20_7, x20_10, x20_10N, x20_11, x20_14, x20_16, x20_19, x20_20, x20_21, x20_21N, x20_22, x20_25, x20_25N, x20_26, x20_29, x20_30, x20_32, x20_33, x20_34, x20_34N, x20_35, x20_38, x20_38N, x20_39, x20_42, x20_43, x20_44, x20_44N, x20_45, x20_48, x20_48N, x20_49, x20_52, x20_53, x20_54, x20_54N, x20_55, x20_58, x20_58N, x20_59, x20_62, x20_63, x20_64, x20_64N, x20_65, x20_66, x20_69, x20_70, x20_71, x20_74, x20_74N, x20_75, x20_77, x20_80, x20_80N, x20_81, x20_82, x20_85, x20_86, aft_some, aft_void, Option.bind_some, Option.toList_some, Option.toList_none, List.cons_append, List.nil_append, if_true, if_false, ↓reduceIte, eq_self, z360_o, ↓z360_0, ↓z360_1, ↓z360_1p, ↓z360_2, ↓z360_2p, ↓z360_3, ↓z360_4, ↓z360_5, ↓z360_6, ↓z360_7, ↓z360_7p, ↓z360_8, ↓z360_8p, ↓z361_g, ↓z361_s, ↓z362_g, ↓z362_s, ↓z363_g, ↓z363_s, ↓z364_g, ↓z364_s, ↓z365_g, ↓z365_s, upA_s, u_oo, u_o0, u_0o, u_n, ↓aft_of (ed), c1, hn, h12, c2, ok, cl, nI_1]
      rfl, ?_, ?_⟩
    · obtain ⟨h1, h2, h3, h4, h5, h6, h7, h8⟩ := h
      refine ⟨c2, ?_, ?_, ?_, ?_, ?_, ?_, ?_⟩
      · simp +decide only [upA_s, u_n]
      · simp +decide only [upA_s, u_n]
      · simp +decide only [upA_s, u_n]
      · simp +decide only [upA_s, u_n]; rw [h5]
      · simp +decide only [upA_s, u_n]; rw [h6]
      · simp +decide only [upA_s, u_n]; rw [h7]
      · simp +decide only [upA_s, u_n]; rw [h8]
    · refine ⟨fun a g1 g2 g3 g4 g5 => ?_, ?_⟩
      · simp only [upA_n _ _ g1, upA_n _ _ g2, upA_n _ _ g3, upA_n _ _ g4, upA_n _ _ g5]
      · simp +decide only [upA_s, u_n]
  · rw [if_neg c2]
    refine ⟨T, ?_, h, FR.rfl' T⟩
    simp +decide only [x20_0, x20_1, x20_2, x20_4, x20_7, x20_10, x20_10N, x20_11, x20_14, x20_16, x20_19, x20_20, x20_21, x20_21N, x20_22, x20_25, x20_25N, x20_26, x20_29, x20_30, x20_32, x20_33, x20_34, x20_34N, x20_35, x20_38, x20_38N, x20_39, x20_42, x20_43, x20_44, x20_44N, x20_45, x20_48, x20_48N, x20_49, x20_52, x20_53, x20_54, x20_54N, x20_55, x20_58, x20_58N, x20_59, x20_62, x20_63, x20_64, x20_64N, x20_65, x20_66, x20_69, x20_70, x20_71, x20_74, x20_74N, x20_75, x20_77, x20_80, x20_80N, x20_81, x20_82, x20_85, x20_86, aft_some, aft_void, Option.bind_some, Option.toList_some, Option.toList_none, List.cons_append, List.nil_append, if_true, if_false, ↓reduceIte, eq_self, z360_o, ↓z360_0, ↓z360_1, ↓z360_1p, ↓z360_2, ↓z360_2p, ↓z360_3, ↓z360_4, ↓z360_5, ↓z360_6, ↓z360_7, ↓z360_7p, ↓z360_8, ↓z360_8p, ↓z361_g, ↓z361_s, ↓z362_g, ↓z362_s, ↓z363_g, ↓z363_s, ↓z364_g, ↓z364_s, ↓z365_g, ↓z365_s, ↓aft_of (ed), c1, hn, h12, c2]
end RX
