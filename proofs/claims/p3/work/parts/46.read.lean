/-! the text is read: the whole -/
def rdG (f : Nat → Int32) : Nat → Nat → rS → Option Nat × rS
  | 0, _, r => (none, r)
  | m + 1, i, r => if (tkS (f i) r).1 = 0 then (some i, (tkS (f i) r).2) else rdG f m (i + 1) (tkS (f i) r).2
def meI (pl : Int32) : Int32 := if pl = 4 then 1 else if pl = 6 then 1 else if pl = 8 then 1 else if pl = 9 then 1 else 0
def rdA (n : Nat) (a : Option Nat × rS) : Int32 := match a.1 with
  | some i => nI i
  | none => if meI a.2.2.1 = 0 then nI n else -5
section RE
variable {T U EE : Nat → Nat → Int32} {P Q : Nat → Nat → Nat} {r : rS} {c sg pl : Int32} {h0 : List hC}
theorem c_mayEnd (h : RD T r) : X 18 0 [.ref 360] [] (H T P) = some (some (.int (meI r.2.1)), H T P) := by
  have hp : T 360 7 = r.2.1 := h.2.2.1
  unfold meI
  by_cases p4 : r.2.1 = 4
  · simp +decide only [x18_0, x18_0N, x18_1, x18_4, x18_5, x18_8, x18_8N, x18_9, x18_12, x18_14, x18_17, x18_17N, x18_18, x18_21, x18_23, x18_26, x18_26N, x18_27, x18_30, x18_32, x18_35, x18_36, x18_39, x18_40, aft_some, aft_void, Option.bind_some, Option.toList_some, Option.toList_none, List.cons_append, List.nil_append, if_true, if_false, ↓reduceIte, eq_self, z360_o, ↓z360_0, ↓z360_1, ↓z360_1p, ↓z360_2, ↓z360_2p, ↓z360_3, ↓z360_4, ↓z360_5, ↓z360_6, ↓z360_7, ↓z360_7p, ↓z360_8, ↓z360_8p, ↓z361_g, ↓z361_s, ↓z362_g, ↓z362_s, ↓z363_g, ↓z363_s, ↓z364_g, ↓z364_s, ↓z365_g, ↓z365_s, hp, p4]
  by_cases p6 : r.2.1 = 6
  · simp +decide only [x18_0, x18_0N, x18_1, x18_4, x18_5, x18_8, x18_8N, x18_9, x18_12, x18_14, x18_17, x18_17N, x18_18, x18_21, x18_23, x18_26, x18_26N, x18_27, x18_30, x18_32, x18_35, x18_36, x18_39, x18_40, aft_some, aft_void, Option.bind_some, Option.toList_some, Option.toList_none, List.cons_append, List.nil_append, if_true, if_false, ↓reduceIte, eq_self, z360_o, ↓z360_0, ↓z360_1, ↓z360_1p, ↓z360_2, ↓z360_2p, ↓z360_3, ↓z360_4, ↓z360_5, ↓z360_6, ↓z360_7, ↓z360_7p, ↓z360_8, ↓z360_8p, ↓z361_g, ↓z361_s, ↓z362_g, ↓z362_s, ↓z363_g, ↓z363_s, ↓z364_g, ↓z364_s, ↓z365_g, ↓z365_s, hp, p4, p6]
  by_cases p8 : r.2.1 = 8
  · simp +decide only [x18_0, x18_0N, x18_1, x18_4, x18_5, x18_8, x18_8N, x18_9, x18_12, x18_14, x18_17, x18_17N, x18_18, x18_21, x18_23, x18_26, x18_26N, x18_27, x18_30, x18_32, x18_35, x18_36, x18_39, x18_40, aft_some, aft_void, Option.bind_some, Option.toList_some, Option.toList_none, List.cons_append, List.nil_append, if_true, if_false, ↓reduceIte, eq_self, z360_o, ↓z360_0, ↓z360_1, ↓z360_1p, ↓z360_2, ↓z360_2p, ↓z360_3, ↓z360_4, ↓z360_5, ↓z360_6, ↓z360_7, ↓z360_7p, ↓z360_8, ↓z360_8p, ↓z361_g, ↓z361_s, ↓z362_g, ↓z362_s, ↓z363_g, ↓z363_s, ↓z364_g, ↓z364_s, ↓z365_g, ↓z365_s, hp, p4, p6, p8]
  by_cases p9 : r.2.1 = 9
  · simp +decide only [x18_0, x18_0N, x18_1, x18_4, x18_5, x18_8, x18_8N, x18_9, x18_12, x18_14, x18_17, x18_17N, x18_18, x18_21, x18_23, x18_26, x18_26N, x18_27, x18_30, x18_32, x18_35, x18_36, x18_39, x18_40, aft_some, aft_void, Option.bind_some, Option.toList_some, Option.toList_none, List.cons_append, List.nil_append, if_true, if_false, ↓reduceIte, eq_self, z360_o, ↓z360_0, ↓z360_1, ↓z360_1p, ↓z360_2, ↓z360_2p, ↓z360_3, ↓z360_4, ↓z360_5, ↓z360_6, ↓z360_7, ↓z360_7p, ↓z360_8, ↓z360_8p, ↓z361_g, ↓z361_s, ↓z362_g, ↓z362_s, ↓z363_g, ↓z363_s, ↓z364_g, ↓z364_s, ↓z365_g, ↓z365_s, hp, p4, p6, p8, p9]
  simp +decide only [x18_0, x18_0N, x18_1, x18_4, x18_5, x18_8, x18_8N, x18_9, x18_12, x18_14, x18_17, x18_17N, x18_18, x18_21, x18_23, x18_26, x18_26N, x18_27, x18_30, x18_32, x18_35, x18_36, x18_39, x18_40, aft_some, aft_void, Option.bind_some, Option.toList_some, Option.toList_none, List.cons_append, List.nil_append, if_true, if_false, ↓reduceIte, eq_self, z360_o, ↓z360_0, ↓z360_1, ↓z360_1p, ↓z360_2, ↓z360_2p, ↓z360_3, ↓z360_4, ↓z360_5, ↓z360_6, ↓z360_7, ↓z360_7p, ↓z360_8, ↓z360_8p, ↓z361_g, ↓z361_s, ↓z362_g, ↓z362_s, ↓z363_g, ↓z363_s, ↓z364_g, ↓z364_s, ↓z365_g, ↓z365_s, hp, p4, p6, p8, p9]
theorem c_read {t : Nat × (Nat → Int32)} (h : TX EE T t) : ∃ T' r', X 17 0 [.ref 360, .long 0] [] (H T P) = some (some (.int (rdA t.1 (rdG t.2 t.1 0 r'))), H T' P) ∧ r'.1 = 0 ∧ r'.2.1 = 0 ∧ RD T' (rdG t.2 t.1 0 r').2 ∧ FR T T' ∧ KD (rdG t.2 t.1 0 r').2 := by
  obtain ⟨t1, t2, t3, -⟩ := h
  have key : ∀ (m i : Nat) (r : rS) (T : Nat → Nat → Int32), i + m = t.1 → T 360 1 = nI t.1 → (∀ j, j < t.1 → T 361 j = t.2 j) → RD T r → KD r → ∃ T', X 17 12 [.ref 360, .int (nI i)] [] (H T P) = some (some (.int (rdA t.1 (rdG t.2 m i r))), H T' P) ∧ RD T' (rdG t.2 m i r).2 ∧ FR T T' ∧ KD (rdG t.2 m i r).2 := by
    intro m
    induction m with
    | zero =>
      intro i r T hi h1 h2 hr hk
      have hi : i = t.1 := by omega
      subst hi
      have em := c_mayEnd (P := P) hr
      refine ⟨T, ?_, hr, FR.rfl' T, hk⟩
      show X 17 12 [.ref 360, .int (nI t.1)] [] (H T P) = some (some (.int (if meI r.2.1 = 0 then nI t.1 else -5)), H T P)
      rw [x17_12]
      by_cases c : meI r.2.1 = 0
      · simp +decide only [x17_0, x17_0N, x17_1, x17_2, x17_5, x17_5N, x17_6, x17_7, x17_10, x17_11, x17_13, x17_13N, x17_14, x17_17, x17_20, x17_20N, x17_21, x17_21N, x17_22, x17_25, x17_26, x17_27, x17_30, x17_33, x17_34, x17_35, x17_38, x17_41, x17_41N, x17_42, x17_45, x17_48, x17_50, x17_53, x17_53N, x17_54, x17_57, aft_some, aft_void, Option.bind_some, Option.toList_some, Option.toList_none, List.cons_append, List.nil_append, if_true, if_false, ↓reduceIte, eq_self, z360_o, ↓z360_0, ↓z360_1, ↓z360_1p, ↓z360_2, ↓z360_2p, ↓z360_3, ↓z360_4, ↓z360_5, ↓z360_6, ↓z360_7, ↓z360_7p, ↓z360_8, ↓z360_8p, ↓z361_g, ↓z361_s, ↓z362_g, ↓z362_s, ↓z363_g, ↓z363_s, ↓z364_g, ↓z364_s, ↓z365_g, ↓z365_s, h1, nI_nlt (Nat.le_refl t.1) (show t.1 < 2 ^ 31 by omega), ↓aft_of (em), c]
      · simp +decide only [x17_0, x17_0N, x17_1, x17_2, x17_5, x17_5N, x17_6, x17_7, x17_10, x17_11, x17_13, x17_13N, x17_14, x17_17, x17_20, x17_20N, x17_21, x17_21N, x17_22, x17_25, x17_26, x17_27, x17_30, x17_33, x17_34, x17_35, x17_38, x17_41, x17_41N, x17_42, x17_45, x17_48, x17_50, x17_53, x17_53N, x17_54, x17_57, aft_some, aft_void, Option.bind_some, Option.toList_some, Option.toList_none, List.cons_append, List.nil_append, if_true, if_false, ↓reduceIte, eq_self, z360_o, ↓z360_0, ↓z360_1, ↓z360_1p, ↓z360_2, ↓z360_2p, ↓z360_3, ↓z360_4, ↓z360_5, ↓z360_6, ↓z360_7, ↓z360_7p, ↓z360_8, ↓z360_8p, ↓z361_g, ↓z361_s, ↓z362_g, ↓z362_s, ↓z363_g, ↓z363_s, ↓z364_g, ↓z364_s, ↓z365_g, ↓z365_s, h1, nI_nlt (Nat.le_refl t.1) (show t.1 < 2 ^ 31 by omega), ↓aft_of (em), c]
    | succ m ih =>
      intro i r T hi h1 h2 hr hk
      have hlt : nI i < nI t.1 := nI_lt (show i < t.1 by omega) (by omega)
      have ok := okx_nI (show i < 60 by omega) (show (60 : Nat) < 2 ^ 31 by decide)
      have cl := nI_clamp (show i < 2 ^ 31 by omega)
      have hc := h2 i (by omega)
      obtain ⟨T1, e1, r1, f1, k1⟩ := c_take (P := P) (c := t.2 i) hr hk
      by_cases c0 : (tkS (t.2 i) r).1 = 0
      · have hG : rdG t.2 (m + 1) i r = (some i, (tkS (t.2 i) r).2) := if_pos c0
        rw [hG]
        refine ⟨T1, ?_, r1, f1, k1.2⟩
        show X 17 12 [.ref 360, .int (nI i)] [] (H T P) = some (some (.int (nI i)), H T1 P)
        rw [x17_12]
        simp +decide only [x17_0, x17_0N, x17_1, x17_2, x17_5, x17_5N, x17_6, x17_7, x17_10, x17_11, x17_13, x17_13N, x17_14, x17_17, x17_20, x17_20N, x17_21, x17_21N, x17_22, x17_25, x17_26, x17_27, x17_30, x17_33, x17_34, x17_35, x17_38, x17_41, x17_41N, x17_42, x17_45, x17_48, x17_50, x17_53, x17_53N, x17_54, x17_57, aft_some, aft_void, Option.bind_some, Option.toList_some, Option.toList_none, List.cons_append, List.nil_append, if_true, if_false, ↓reduceIte, eq_self, z360_o, ↓z360_0, ↓z360_1, ↓z360_1p, ↓z360_2, ↓z360_2p, ↓z360_3, ↓z360_4, ↓z360_5, ↓z360_6, ↓z360_7, ↓z360_7p, ↓z360_8, ↓z360_8p, ↓z361_g, ↓z361_s, ↓z362_g, ↓z362_s, ↓z363_g, ↓z363_s, ↓z364_g, ↓z364_s, ↓z365_g, ↓z365_s, h1, hlt, ok, cl, hc, ↓aft_of (e1), c0]
      · have hG : rdG t.2 (m + 1) i r = rdG t.2 m (i + 1) (tkS (t.2 i) r).2 := if_neg c0
        rw [hG]
        obtain ⟨T2, e2, r2, f2, k2⟩ := ih (i + 1) (tkS (t.2 i) r).2 T1 (by omega) (by rw [f1.2]; exact h1) (fun j hj => by rw [f1.1 361 (by decide) (by decide) (by decide) (by decide) (by decide)]; exact h2 j hj) r1 k1.2
        refine ⟨T2, ?_, r2, f1.trans f2, k2⟩
        rw [← e2, x17_12]
        simp +decide only [x17_0, x17_0N, x17_1, x17_2, x17_5, x17_5N, x17_6, x17_7, x17_10, x17_11, x17_13, x17_13N, x17_14, x17_17, x17_20, x17_20N, x17_21, x17_21N, x17_22, x17_25, x17_26, x17_27, x17_30, x17_33, x17_34, x17_35, x17_38, x17_41, x17_41N, x17_42, x17_45, x17_48, x17_50, x17_53, x17_53N, x17_54, x17_57, aft_some, aft_void, Option.bind_some, Option.toList_some, Option.toList_none, List.cons_append, List.nil_append, if_true, if_false, ↓reduceIte, eq_self, z360_o, ↓z360_0, ↓z360_1, ↓z360_1p, ↓z360_2, ↓z360_2p, ↓z360_3, ↓z360_4, ↓z360_5, ↓z360_6, ↓z360_7, ↓z360_7p, ↓z360_8, ↓z360_8p, ↓z361_g, ↓z361_s, ↓z362_g, ↓z362_s, ↓z363_g, ↓z363_s, ↓z364_g, ↓z364_s, ↓z365_g, ↓z365_s, h1, hlt, ok, cl, hc, ↓aft_of (e1), c0, nI_1]
  obtain ⟨T1, hT1⟩ : ∃ T1, T1 = up1 (up1 T 360 2 0) 360 7 0 := ⟨_, rfl⟩
  have hr : RD T1 (0, 0, T 360 8, T 362, T 363, T 364, T 365) := by
    rw [hT1]
    refine ⟨Nat.zero_le _, ?_, ?_, ?_, ?_, ?_, ?_, ?_⟩ <;> simp +decide only [upA_s, u_n]
  have f1 : FR T T1 := by
    rw [hT1]
    exact ⟨fun a g1 _ _ _ _ => by simp only [upA_n _ _ g1], by simp +decide only [upA_s, u_n]⟩
  obtain ⟨T2, e2, r2, f2, k2⟩ := key t.1 0 (0, 0, T 360 8, T 362, T 363, T 364, T 365) T1 (by omega) (by rw [f1.2]; exact t2) (fun j hj => by rw [f1.1 361 (by decide) (by decide) (by decide) (by decide) (by decide)]; exact t3 j hj) hr (Or.inl Nat.zero_lt_one)
  refine ⟨T2, (0, 0, T 360 8, T 362, T 363, T 364, T 365), ?_, rfl, rfl, r2, f1.trans f2, k2⟩
  rw [← e2, hT1]
  simp +decide only [x17_0, x17_0N, x17_1, x17_2, x17_5, x17_5N, x17_6, x17_7, x17_10, x17_11, x17_13, x17_13N, x17_14, x17_17, x17_20, x17_20N, x17_21, x17_21N, x17_22, x17_25, x17_26, x17_27, x17_30, x17_33, x17_34, x17_35, x17_38, x17_41, x17_41N, x17_42, x17_45, x17_48, x17_50, x17_53, x17_53N, x17_54, x17_57, aft_some, aft_void, Option.bind_some, Option.toList_some, Option.toList_none, List.cons_append, List.nil_append, if_true, if_false, ↓reduceIte, eq_self, z360_o, ↓z360_0, ↓z360_1, ↓z360_1p, ↓z360_2, ↓z360_2p, ↓z360_3, ↓z360_4, ↓z360_5, ↓z360_6, ↓z360_7, ↓z360_7p, ↓z360_8, ↓z360_8p, ↓z361_g, ↓z361_s, ↓z362_g, ↓z362_s, ↓z363_g, ↓z363_s, ↓z364_g, ↓z364_s, ↓z365_g, ↓z365_s, upA_s, u_oo, u_o0, u_0o, u_n]
  rfl
end RE
