/-! the text is read: pieces, starch, hangers -/
def wtI (k : Int32) : Int32 := if k = 0 then 1000 else if k = 1 then 100 else if k = 2 then 10 else 1
def KD (r : rS) : Prop := r.1 < 1 ∨ r.2.2.1 = -5 ∨ ∃ k, k < 4 ∧ r.2.2.1 = nI k
def pcS (c : Int32) (r : rS) : Int32 × rS := if inI c 49 57 = 0 then (0, r) else if r.1 < 1 then (0, r) else if r.2.2.1 < 0 then (0, r) else (1, r.1, 4, r.2.2.1, r.2.2.2.1, upA r.2.2.2.2.1 (r.1 - 1) (r.2.2.2.2.1 (r.1 - 1) + (c - 48) * wtI r.2.2.1), r.2.2.2.2.2)
def stS (c : Int32) (r : rS) : Int32 × rS := if inI c 49 51 = 0 then (0, r) else if r.1 < 1 then (0, r) else (1, r.1, 6, r.2.2.1, r.2.2.2.1, r.2.2.2.2.1, upA r.2.2.2.2.2.1 (r.1 - 1) (c - 48), r.2.2.2.2.2.2)
def haS (c pl : Int32) (r : rS) : Int32 × rS := if inI c 48 57 = 0 then (0, r) else if r.1 < 1 then (0, r) else (1, r.1, pl, r.2.2.1, r.2.2.2.1, r.2.2.2.2.1, r.2.2.2.2.2.1, upA r.2.2.2.2.2.2 (r.1 - 1) (r.2.2.2.2.2.2 (r.1 - 1) * 10 + (c - 48)))
section RX2
variable {T U EE : Nat → Nat → Int32} {P Q : Nat → Nat → Nat} {r : rS} {c sg pl : Int32} {h0 : List hC}
theorem c_takeStarch' (h : RD T r) : ∃ T', X 23 0 [.ref 360, .int c] [] (H T P) = some (some (.int (stS c r).1), H T' P) ∧ RD T' (stS c r).2 ∧ FR T T' := by
  have hn : T 360 2 = nI r.1 := h.2.1
  have hn12 := h.1
  have ed := c_digit (c := c) (l := 1) (m := 3) (h0 := H T P)
  rw [show (48 : Int32) + 1 = 49 by decide, show (48 : Int32) + 3 = 51 by decide] at ed
  have h12 : (nI r.1 < 1) = (r.1 < 1) := nI_ltp (a := r.1) (b := 1) (by omega) (by decide)
  unfold stS
  by_cases c1 : inI c 49 51 = 0
  · rw [if_pos c1]
    refine ⟨T, ?_, h, FR.rfl' T⟩
    simp +decide only [x23_0, x23_1, x23_2, x23_3, x23_6, x23_9, x23_9N, x23_10, x23_13, x23_14, x23_17, x23_18, x23_19, x23_19N, x23_20, x23_23, x23_23N, x23_24, x23_27, x23_28, x23_29, x23_30, x23_32, x23_33, x23_34, x23_34N, x23_35, x23_37, x23_40, x23_41, aft_some, aft_void, Option.bind_some, Option.toList_some, Option.toList_none, List.cons_append, List.nil_append, if_true, if_false, ↓reduceIte, eq_self, z360_o, ↓z360_0, ↓z360_1, ↓z360_1p, ↓z360_2, ↓z360_2p, ↓z360_3, ↓z360_4, ↓z360_5, ↓z360_6, ↓z360_7, ↓z360_7p, ↓z360_8, ↓z360_8p, ↓z361_g, ↓z361_s, ↓z362_g, ↓z362_s, ↓z363_g, ↓z363_s, ↓z364_g, ↓z364_s, ↓z365_g, ↓z365_s, ↓aft_of (ed), c1]
  rw [if_neg c1]
  by_cases c2 : r.1 < 1
  · rw [if_pos c2]
    refine ⟨T, ?_, h, FR.rfl' T⟩
    simp +decide only [x23_0, x23_1, x23_2, x23_3, x23_6, x23_9, x23_9N, x23_10, x23_13, x23_14, x23_17, x23_18, x23_19, x23_19N, x23_20, x23_23, x23_23N, x23_24, x23_27, x23_28, x23_29, x23_30, x23_32, x23_33, x23_34, x23_34N, x23_35, x23_37, x23_40, x23_41, aft_some, aft_void, Option.bind_some, Option.toList_some, Option.toList_none, List.cons_append, List.nil_append, if_true, if_false, ↓reduceIte, eq_self, z360_o, ↓z360_0, ↓z360_1, ↓z360_1p, ↓z360_2, ↓z360_2p, ↓z360_3, ↓z360_4, ↓z360_5, ↓z360_6, ↓z360_7, ↓z360_7p, ↓z360_8, ↓z360_8p, ↓z361_g, ↓z361_s, ↓z362_g, ↓z362_s, ↓z363_g, ↓z363_s, ↓z364_g, ↓z364_s, ↓z365_g, ↓z365_s, ↓aft_of (ed), c1, hn, h12, c2]
  rw [if_neg c2]
  have e1 : nI r.1 - 1 = nI (r.1 - 1) := nI_sub (a := r.1) (b := 1) (by omega)
  have ok := okx_nI (show r.1 - 1 < 12 by omega) (show (12 : Nat) < 2 ^ 31 by decide)
  have cl := nI_clamp (show r.1 - 1 < 2 ^ 31 by omega)
  refine ⟨_, by
    simp +decide only [x23_0, x23_1, x23_2, x23_3, x23_6, x23_9, x23_9N, x23_10, x23_13, x23_14, x23_17, x23_18, x23_19, x23_19N, x23_20, x23_23, x23_23N, x23_24, x23_27, x23_28, x23_29, x23_30, x23_32, x23_33, x23_34, x23_34N, x23_35, x23_37, x23_40, x23_41, aft_some, aft_void, Option.bind_some, Option.toList_some, Option.toList_none, List.cons_append, List.nil_append, if_true, if_false, ↓reduceIte, eq_self, z360_o, ↓z360_0, ↓z360_1, ↓z360_1p, ↓z360_2, ↓z360_2p, ↓z360_3, ↓z360_4, ↓z360_5, ↓z360_6, ↓z360_7, ↓z360_7p, ↓z360_8, ↓z360_8p, ↓z361_g, ↓z361_s, ↓z362_g, ↓z362_s, ↓z363_g, ↓z363_s, ↓z364_g, ↓z364_s, ↓z365_g, ↓z365_s, upA_s, u_oo, u_o0, u_0o, u_n, ↓aft_of (ed), c1, hn, h12, c2, e1, ok, cl]
    rfl, ?_, ?_⟩
  · obtain ⟨h1, h2, h3, h4, h5, h6, h7, h8⟩ := h
    refine ⟨h1, ?_, ?_, ?_, ?_, ?_, ?_, ?_⟩
    · simp +decide only [upA_s, u_n]; exact h2
    · simp +decide only [upA_s, u_n]
    · simp +decide only [upA_s, u_n]; exact h4
    · simp +decide only [upA_s, u_n]; exact h5
    · simp +decide only [upA_s, u_n]; exact h6
    · simp +decide only [upA_s, u_n]; rw [h7]
    · simp +decide only [upA_s, u_n]; exact h8
  · refine ⟨fun a g1 g2 g3 g4 g5 => ?_, ?_⟩
    · simp only [upA_n _ _ g1, upA_n _ _ g2, upA_n _ _ g3, upA_n _ _ g4, upA_n _ _ g5]
    · simp +decide only [upA_s, u_n]
theorem c_takeHangers (h : RD T r) : ∃ T', X 24 0 [.ref 360, .int c, .int pl] [] (H T P) = some (some (.int (haS c pl r).1), H T' P) ∧ RD T' (haS c pl r).2 ∧ FR T T' := by
  have hn : T 360 2 = nI r.1 := h.2.1
  have hn12 := h.1
  have hg : T 365 = r.2.2.2.2.2.2 := h.2.2.2.2.2.2.2
  have ed := c_digit (c := c) (l := 0) (m := 9) (h0 := H T P)
  rw [show (48 : Int32) + 0 = 48 by decide, show (48 : Int32) + 9 = 57 by decide] at ed
  have h12 : (nI r.1 < 1) = (r.1 < 1) := nI_ltp (a := r.1) (b := 1) (by omega) (by decide)
  unfold haS
  by_cases c1 : inI c 48 57 = 0
  · rw [if_pos c1]
    refine ⟨T, ?_, h, FR.rfl' T⟩
    simp +decide only [x24_0, x24_1, x24_2, x24_4, x24_7, x24_10, x24_10N, x24_11, x24_14, x24_15, x24_18, x24_19, x24_20, x24_20N, x24_21, x24_24, x24_24N, x24_25, x24_28, x24_29, x24_30, x24_30N, x24_31, x24_34, x24_34N, x24_35, x24_38, x24_39, x24_40, x24_41, x24_43, x24_44, x24_45, x24_47, x24_48, x24_49, x24_50, x24_50N, x24_51, x24_52, x24_55, x24_56, aft_some, aft_void, Option.bind_some, Option.toList_some, Option.toList_none, List.cons_append, List.nil_append, if_true, if_false, ↓reduceIte, eq_self, z360_o, ↓z360_0, ↓z360_1, ↓z360_1p, ↓z360_2, ↓z360_2p, ↓z360_3, ↓z360_4, ↓z360_5, ↓z360_6, ↓z360_7, ↓z360_7p, ↓z360_8, ↓z360_8p, ↓z361_g, ↓z361_s, ↓z362_g, ↓z362_s, ↓z363_g, ↓z363_s, ↓z364_g, ↓z364_s, ↓z365_g, ↓z365_s, ↓aft_of (ed), c1]
  rw [if_neg c1]
  by_cases c2 : r.1 < 1
  · rw [if_pos c2]
    refine ⟨T, ?_, h, FR.rfl' T⟩
    simp +decide only [x24_0, x24_1, x24_2, x24_4, x24_7, x24_10, x24_10N, x24_11, x24_14, x24_15, x24_18, x24_19, x24_20, x24_20N, x24_21, x24_24, x24_24N, x24_25, x24_28, x24_29, x24_30, x24_30N, x24_31, x24_34, x24_34N, x24_35, x24_38, x24_39, x24_40, x24_41, x24_43, x24_44, x24_45, x24_47, x24_48, x24_49, x24_50, x24_50N, x24_51, x24_52, x24_55, x24_56, aft_some, aft_void, Option.bind_some, Option.toList_some, Option.toList_none, List.cons_append, List.nil_append, if_true, if_false, ↓reduceIte, eq_self, z360_o, ↓z360_0, ↓z360_1, ↓z360_1p, ↓z360_2, ↓z360_2p, ↓z360_3, ↓z360_4, ↓z360_5, ↓z360_6, ↓z360_7, ↓z360_7p, ↓z360_8, ↓z360_8p, ↓z361_g, ↓z361_s, ↓z362_g, ↓z362_s, ↓z363_g, ↓z363_s, ↓z364_g, ↓z364_s, ↓z365_g, ↓z365_s, ↓aft_of (ed), c1, hn, h12, c2]
  rw [if_neg c2]
  have e1 : nI r.1 - 1 = nI (r.1 - 1) := nI_sub (a := r.1) (b := 1) (by omega)
  have ok := okx_nI (show r.1 - 1 < 12 by omega) (show (12 : Nat) < 2 ^ 31 by decide)
  have cl := nI_clamp (show r.1 - 1 < 2 ^ 31 by omega)
  refine ⟨_, by
    simp +decide only [x24_0, x24_1, x24_2, x24_4, x24_7, x24_10, x24_10N, x24_11, x24_14, x24_15, x24_18, x24_19, x24_20, x24_20N, x24_21, x24_24, x24_24N, x24_25, x24_28, x24_29, x24_30, x24_30N, x24_31, x24_34, x24_34N, x24_35, x24_38, x24_39, x24_40, x24_41, x24_43, x24_44, x24_45, x24_47, x24_48, x24_49, x24_50, x24_50N, x24_51, x24_52, x24_55, x24_56, aft_some, aft_void, Option.bind_some, Option.toList_some, Option.toList_none, List.cons_append, List.nil_append, if_true, if_false, ↓reduceIte, eq_self, z360_o, ↓z360_0, ↓z360_1, ↓z360_1p, ↓z360_2, ↓z360_2p, ↓z360_3, ↓z360_4, ↓z360_5, ↓z360_6, ↓z360_7, ↓z360_7p, ↓z360_8, ↓z360_8p, ↓z361_g, ↓z361_s, ↓z362_g, ↓z362_s, ↓z363_g, ↓z363_s, ↓z364_g, ↓z364_s, ↓z365_g, ↓z365_s, upA_s, u_oo, u_o0, u_0o, u_n, ↓aft_of (ed), c1, hn, h12, c2, e1, ok, cl, hg]
    rfl, ?_, ?_⟩
  · obtain ⟨h1, h2, h3, h4, h5, h6, h7, h8⟩ := h
    refine ⟨h1, ?_, ?_, ?_, ?_, ?_, ?_, ?_⟩
    · simp +decide only [upA_s, u_n]; exact h2
    · simp +decide only [upA_s, u_n]
    · simp +decide only [upA_s, u_n]; exact h4
    · simp +decide only [upA_s, u_n]; exact h5
    · simp +decide only [upA_s, u_n]; exact h6
    · simp +decide only [upA_s, u_n]; exact h7
    · simp +decide only [upA_s, u_n]; rw [h8]
  · refine ⟨fun a g1 g2 g3 g4 g5 => ?_, ?_⟩
    · simp only [upA_n _ _ g1, upA_n _ _ g2, upA_n _ _ g3, upA_n _ _ g4, upA_n _ _ g5]
    · simp +decide only [upA_s, u_n]
theorem c_takePieces (h : RD T r) (hk : KD r) : ∃ T', X 22 0 [.ref 360, .int c] [] (H T P) = some (some (.int (pcS c r).1), H T' P) ∧ RD T' (pcS c r).2 ∧ FR T T' := by
  have hn : T 360 2 = nI r.1 := h.2.1
  have hn12 := h.1
  have h8 : T 360 8 = r.2.2.1 := h.2.2.2.1
  have hg : T 363 = r.2.2.2.2.1 := h.2.2.2.2.2.1
  have ed := c_digit (c := c) (l := 1) (m := 9) (h0 := H T P)
  rw [show (48 : Int32) + 1 = 49 by decide, show (48 : Int32) + 9 = 57 by decide] at ed
  have h12 : (nI r.1 < 1) = (r.1 < 1) := nI_ltp (a := r.1) (b := 1) (by omega) (by decide)
  unfold pcS
  by_cases c1 : inI c 49 57 = 0
  · rw [if_pos c1]
    refine ⟨T, ?_, h, FR.rfl' T⟩
    simp +decide only [x22_0, x22_1, x22_2, x22_4, x22_7, x22_10, x22_10N, x22_11, x22_14, x22_15, x22_18, x22_18N, x22_19, x22_22, x22_25, x22_26, x22_27, x22_27N, x22_28, x22_31, x22_31N, x22_32, x22_35, x22_36, x22_37, x22_38, x22_39, x22_40, x22_42, x22_43, x22_46, x22_46N, x22_47, x22_50, x22_51, x22_52, x22_53, x22_54, x22_54N, x22_55, x22_56, x22_59, x22_60, aft_some, aft_void, Option.bind_some, Option.toList_some, Option.toList_none, List.cons_append, List.nil_append, if_true, if_false, ↓reduceIte, eq_self, z360_o, ↓z360_0, ↓z360_1, ↓z360_1p, ↓z360_2, ↓z360_2p, ↓z360_3, ↓z360_4, ↓z360_5, ↓z360_6, ↓z360_7, ↓z360_7p, ↓z360_8, ↓z360_8p, ↓z361_g, ↓z361_s, ↓z362_g, ↓z362_s, ↓z363_g, ↓z363_s, ↓z364_g, ↓z364_s, ↓z365_g, ↓z365_s, ↓aft_of (ed), c1]
  rw [if_neg c1]
  by_cases c2 : r.1 < 1
  · rw [if_pos c2]
    refine ⟨T, ?_, h, FR.rfl' T⟩
    simp +decide only [x22_0, x22_1, x22_2, x22_4, x22_7, x22_10, x22_10N, x22_11, x22_14, x22_15, x22_18, x22_18N, x22_19, x22_22, x22_25, x22_26, x22_27, x22_27N, x22_28, x22_31, x22_31N, x22_32, x22_35, x22_36, x22_37, x22_38, x22_39, x22_40, x22_42, x22_43, x22_46, x22_46N, x22_47, x22_50, x22_51, x22_52, x22_53, x22_54, x22_54N, x22_55, x22_56, x22_59, x22_60, aft_some, aft_void, Option.bind_some, Option.toList_some, Option.toList_none, List.cons_append, List.nil_append, if_true, if_false, ↓reduceIte, eq_self, z360_o, ↓z360_0, ↓z360_1, ↓z360_1p, ↓z360_2, ↓z360_2p, ↓z360_3, ↓z360_4, ↓z360_5, ↓z360_6, ↓z360_7, ↓z360_7p, ↓z360_8, ↓z360_8p, ↓z361_g, ↓z361_s, ↓z362_g, ↓z362_s, ↓z363_g, ↓z363_s, ↓z364_g, ↓z364_s, ↓z365_g, ↓z365_s, ↓aft_of (ed), c1, hn, h12, c2]
  rw [if_neg c2]
  by_cases c3 : r.2.2.1 < 0
  · rw [if_pos c3]
    refine ⟨T, ?_, h, FR.rfl' T⟩
    simp +decide only [x22_0, x22_1, x22_2, x22_4, x22_7, x22_10, x22_10N, x22_11, x22_14, x22_15, x22_18, x22_18N, x22_19, x22_22, x22_25, x22_26, x22_27, x22_27N, x22_28, x22_31, x22_31N, x22_32, x22_35, x22_36, x22_37, x22_38, x22_39, x22_40, x22_42, x22_43, x22_46, x22_46N, x22_47, x22_50, x22_51, x22_52, x22_53, x22_54, x22_54N, x22_55, x22_56, x22_59, x22_60, aft_some, aft_void, Option.bind_some, Option.toList_some, Option.toList_none, List.cons_append, List.nil_append, if_true, if_false, ↓reduceIte, eq_self, z360_o, ↓z360_0, ↓z360_1, ↓z360_1p, ↓z360_2, ↓z360_2p, ↓z360_3, ↓z360_4, ↓z360_5, ↓z360_6, ↓z360_7, ↓z360_7p, ↓z360_8, ↓z360_8p, ↓z361_g, ↓z361_s, ↓z362_g, ↓z362_s, ↓z363_g, ↓z363_s, ↓z364_g, ↓z364_s, ↓z365_g, ↓z365_s, ↓aft_of (ed), c1, hn, h12, c2, h8, c3]
  rw [if_neg c3]
  have e1 : nI r.1 - 1 = nI (r.1 - 1) := nI_sub (a := r.1) (b := 1) (by omega)
  have ok := okx_nI (show r.1 - 1 < 12 by omega) (show (12 : Nat) < 2 ^ 31 by decide)
  have cl := nI_clamp (show r.1 - 1 < 2 ^ 31 by omega)
  obtain ⟨k, hk4, ek⟩ := (hk.resolve_left c2).resolve_left (fun z => c3 (by rw [z]; decide))
  refine ⟨up1 (up1 T 363 (r.1 - 1) (r.2.2.2.2.1 (r.1 - 1) + (c - 48) * wtI r.2.2.1)) 360 7 4, ?_, ?_, ?_⟩
  · have h8 : T 360 8 = nI k := h8.trans ek
    rw [ek] at c3 ⊢
    match k, hk4 with
    | 0, _ => simp +decide only [x22_0, x22_1, x22_2, x22_4, x22_7, x22_10, x22_10N, x22_11, x22_14, x22_15, x22_18, x22_18N, x22_19, x22_22, x22_25, x22_26, x22_27, x22_27N, x22_28, x22_31, x22_31N, x22_32, x22_35, x22_36, x22_37, x22_38, x22_39, x22_40, x22_42, x22_43, x22_46, x22_46N, x22_47, x22_50, x22_51, x22_52, x22_53, x22_54, x22_54N, x22_55, x22_56, x22_59, x22_60, aft_some, aft_void, Option.bind_some, Option.toList_some, Option.toList_none, List.cons_append, List.nil_append, if_true, if_false, ↓reduceIte, eq_self, z360_o, ↓z360_0, ↓z360_1, ↓z360_1p, ↓z360_2, ↓z360_2p, ↓z360_3, ↓z360_4, ↓z360_5, ↓z360_6, ↓z360_7, ↓z360_7p, ↓z360_8, ↓z360_8p, ↓z361_g, ↓z361_s, ↓z362_g, ↓z362_s, ↓z363_g, ↓z363_s, ↓z364_g, ↓z364_s, ↓z365_g, ↓z365_s, upA_s, u_oo, u_o0, u_0o, u_n, ↓aft_of (ed), c1, hn, h12, c2, h8, c3, e1, ok, cl, hg, nl0, ↓b_st (show (1 : Nat) < 4 by decide), cl0, sArr, wtI]
    | 1, _ => simp +decide only [x22_0, x22_1, x22_2, x22_4, x22_7, x22_10, x22_10N, x22_11, x22_14, x22_15, x22_18, x22_18N, x22_19, x22_22, x22_25, x22_26, x22_27, x22_27N, x22_28, x22_31, x22_31N, x22_32, x22_35, x22_36, x22_37, x22_38, x22_39, x22_40, x22_42, x22_43, x22_46, x22_46N, x22_47, x22_50, x22_51, x22_52, x22_53, x22_54, x22_54N, x22_55, x22_56, x22_59, x22_60, aft_some, aft_void, Option.bind_some, Option.toList_some, Option.toList_none, List.cons_append, List.nil_append, if_true, if_false, ↓reduceIte, eq_self, z360_o, ↓z360_0, ↓z360_1, ↓z360_1p, ↓z360_2, ↓z360_2p, ↓z360_3, ↓z360_4, ↓z360_5, ↓z360_6, ↓z360_7, ↓z360_7p, ↓z360_8, ↓z360_8p, ↓z361_g, ↓z361_s, ↓z362_g, ↓z362_s, ↓z363_g, ↓z363_s, ↓z364_g, ↓z364_s, ↓z365_g, ↓z365_s, upA_s, u_oo, u_o0, u_0o, u_n, ↓aft_of (ed), c1, hn, h12, c2, h8, c3, e1, ok, cl, hg, nl1, ↓b_st (show (1 : Nat) < 4 by decide), cl1, sArr, wtI]
    | 2, _ => simp +decide only [x22_0, x22_1, x22_2, x22_4, x22_7, x22_10, x22_10N, x22_11, x22_14, x22_15, x22_18, x22_18N, x22_19, x22_22, x22_25, x22_26, x22_27, x22_27N, x22_28, x22_31, x22_31N, x22_32, x22_35, x22_36, x22_37, x22_38, x22_39, x22_40, x22_42, x22_43, x22_46, x22_46N, x22_47, x22_50, x22_51, x22_52, x22_53, x22_54, x22_54N, x22_55, x22_56, x22_59, x22_60, aft_some, aft_void, Option.bind_some, Option.toList_some, Option.toList_none, List.cons_append, List.nil_append, if_true, if_false, ↓reduceIte, eq_self, z360_o, ↓z360_0, ↓z360_1, ↓z360_1p, ↓z360_2, ↓z360_2p, ↓z360_3, ↓z360_4, ↓z360_5, ↓z360_6, ↓z360_7, ↓z360_7p, ↓z360_8, ↓z360_8p, ↓z361_g, ↓z361_s, ↓z362_g, ↓z362_s, ↓z363_g, ↓z363_s, ↓z364_g, ↓z364_s, ↓z365_g, ↓z365_s, upA_s, u_oo, u_o0, u_0o, u_n, ↓aft_of (ed), c1, hn, h12, c2, h8, c3, e1, ok, cl, hg, nl2, ↓b_st (show (1 : Nat) < 4 by decide), cl2, sArr, wtI]
    | 3, _ => simp +decide only [x22_0, x22_1, x22_2, x22_4, x22_7, x22_10, x22_10N, x22_11, x22_14, x22_15, x22_18, x22_18N, x22_19, x22_22, x22_25, x22_26, x22_27, x22_27N, x22_28, x22_31, x22_31N, x22_32, x22_35, x22_36, x22_37, x22_38, x22_39, x22_40, x22_42, x22_43, x22_46, x22_46N, x22_47, x22_50, x22_51, x22_52, x22_53, x22_54, x22_54N, x22_55, x22_56, x22_59, x22_60, aft_some, aft_void, Option.bind_some, Option.toList_some, Option.toList_none, List.cons_append, List.nil_append, if_true, if_false, ↓reduceIte, eq_self, z360_o, ↓z360_0, ↓z360_1, ↓z360_1p, ↓z360_2, ↓z360_2p, ↓z360_3, ↓z360_4, ↓z360_5, ↓z360_6, ↓z360_7, ↓z360_7p, ↓z360_8, ↓z360_8p, ↓z361_g, ↓z361_s, ↓z362_g, ↓z362_s, ↓z363_g, ↓z363_s, ↓z364_g, ↓z364_s, ↓z365_g, ↓z365_s, upA_s, u_oo, u_o0, u_0o, u_n, ↓aft_of (ed), c1, hn, h12, c2, h8, c3, e1, ok, cl, hg, nl3, ↓b_st (show (1 : Nat) < 4 by decide), cl3, sArr, wtI]
  · obtain ⟨h1, h2, h3, h4, h5, h6, h7, h8⟩ := h
    refine ⟨h1, ?_, ?_, ?_, ?_, ?_, ?_, ?_⟩
    · simp +decide only [upA_s, u_n]; exact h2
    · simp +decide only [upA_s, u_n]
    · simp +decide only [upA_s, u_n]; exact h4
    · simp +decide only [upA_s, u_n]; exact h5
    · simp +decide only [upA_s, u_n]; rw [h6]
    · simp +decide only [upA_s, u_n]; exact h7
    · simp +decide only [upA_s, u_n]; exact h8
  · refine ⟨fun a g1 g2 g3 g4 g5 => ?_, ?_⟩
    · simp only [upA_n _ _ g1, upA_n _ _ g2, upA_n _ _ g3, upA_n _ _ g4, upA_n _ _ g5]
    · simp +decide only [upA_s, u_n]
end RX2
