/-! the best order, when a basket comes home -/
abbrev bsT : Type := Int32 × Int32 × Int32
def bsS (k r p : Int32) (b : bsT) : bsT := if b.2.1 < r then (k, r, p) else if r = b.2.1 then (if b.2.2 < p then (k, r, p) else b) else b
noncomputable abbrev rdU (u : uT) : Int32 := smI (fun i => rdK (gK u.2 i)) u.2.length
noncomputable def bsU (m : Int32) (u : uT) : Nat → bsT
  | 0 => (0, -1, -1)
  | k + 1 => bsS (nI k) (rdU (tuU u (nI k) m)) (tuN u (nI k) m) (bsU m u k)
noncomputable def gBest (m : Int32) (s : gT) : Int32 := if inI m 1 600 = 0 then -2 else (bsU m s.1 3).1
noncomputable def hmU (x m : Int32) : Nat → uT → Int32
  | 0, _ => -5
  | n + 1, u => match wnK x (dyU (irU u m)).2 with
    | none => (dyU (irU u m)).1.2.1 0 0
    | some _ => hmU x m n (dyU (irU u m))
noncomputable def gHome (x m : Int32) (s : gT) : Int32 := match wnK x s.1.2 with
  | none => -1
  | some _ => if inI m 1 600 = 0 then -2 else hmU x m 60 s.1
section TO
variable {T U EE : Nat → Nat → Int32} {P Q : Nat → Nat → Nat} {o q : Nat} {s : gT} {u : uT}
theorem g_best (h1 : o = 1) (hq1 : q = 103) (h : CG EE T P s) (m : Int32) : ∃ T', X 115 0 [.ref 0, .int m, .long 0, .long 0, .long 0, .long 0, .long 0, .long 0] [] (H T P) = some (some (.int (gBest m s)), H T' P) ∧ CG EE T' P s := by
  have ho : isB o := by subst h1; exact isB_1
  have hq : isB q := by subst hq1; exact isB_103
  unfold gBest
  by_cases c1 : inI m 1 600 = 0
  · rw [if_pos c1]
    refine ⟨T, ?_, h⟩
    simp +decide only [x115_0, x115_1, x115_2, x115_5, x115_8, x115_11, x115_13, x115_14, x115_15, x115_16, x115_17, x115_18, x115_19, x115_21, x115_22, x115_24, x115_26, x115_27, x115_30, x115_30N, x115_31, x115_33, x115_34, x115_37, x115_39, x115_39N, x115_40, x115_43, x115_46, x115_49, x115_51, x115_53, x115_54, x115_57, x115_59, x115_60, x115_63, x115_65, x115_67, x115_70, x115_72, x115_73, x115_75, x115_76, x115_78, x115_80, x115_83, x115_86, x115_87, aft_some, aft_void, Option.bind_some, Option.toList_some, Option.toList_none, List.cons_append, List.nil_append, if_true, if_false, ↓reduceIte, eq_self, z0_o, ↓z0_0, ↓z0_1, ↓z0_2, ↓z0_3, ↓z0_4, ↓z0_5, ↓z0_5p0, ↓z0_5p1, ↓aft_of (c_within), c1]
  rw [if_neg c1]
  obtain ⟨⟨T2, v6, v7⟩, e2, i1⟩ := loop_ex (fun i (t : (Nat → Nat → Int32) × Value × Value) => X 115 24 [.ref 0, .int m, .int (bsU m s.1 i).1, .int (bsU m s.1 i).2.1, .int (bsU m s.1 i).2.2, .int (nI i), t.2.1, t.2.2] [] (H t.1 P))
    (fun _ t => CG EE t.1 P s) 3 (T, .long 0, .long 0) h (by
      intro i ⟨U, v6, v7⟩ hi j1
      have j1 : CG EE U P s := j1
      obtain ⟨U1, e1, g1, t1, hlen, f1⟩ := g_try (m := m) h1 hq1 j1 ⟨i, hi, rfl⟩
      have e3 := s_ready hq t1 hlen
      have hlt : (2 < nI i) = False := by
        rw [show (2 : Int32) = nI 2 from rfl, nI_ltp (by decide) (by omega)]
        exact eq_false (by omega)
      refine ⟨(U1, .int (tuN s.1 (nI i) m), .int (rdU (tuU s.1 (nI i) m))), ?_, g1⟩
      show X 115 24 [.ref 0, .int m, .int (bsU m s.1 i).1, .int (bsU m s.1 i).2.1, .int (bsU m s.1 i).2.2, .int (nI i), v6, v7] [] (H U P) = _
      rw [x115_24]
      have hB : bsU m s.1 (i + 1) = bsS (nI i) (rdU (tuU s.1 (nI i) m)) (tuN s.1 (nI i) m) (bsU m s.1 i) := rfl
      rw [hB]
      unfold bsS
      by_cases d1 : (bsU m s.1 i).2.1 < rdU (tuU s.1 (nI i) m)
      · simp +decide only [x115_0, x115_1, x115_2, x115_5, x115_8, x115_11, x115_13, x115_14, x115_15, x115_16, x115_17, x115_18, x115_19, x115_21, x115_22, x115_26, x115_27, x115_30, x115_30N, x115_31, x115_33, x115_34, x115_37, x115_39, x115_39N, x115_40, x115_43, x115_46, x115_49, x115_51, x115_53, x115_54, x115_57, x115_59, x115_60, x115_63, x115_65, x115_67, x115_70, x115_72, x115_73, x115_75, x115_76, x115_78, x115_80, x115_83, x115_86, x115_87, aft_some, aft_void, Option.bind_some, Option.toList_some, Option.toList_none, List.cons_append, List.nil_append, if_true, if_false, ↓reduceIte, eq_self, z0_o, ↓z0_0, ↓z0_1, ↓z0_2, ↓z0_3, ↓z0_4, ↓z0_5, ↓z0_5p0, ↓z0_5p1, ↓z0t hq1, f0_o hq, ↓f0_0 hq, ↓f0_0p hq, ↓f0_1 hq, ↓f0_1p hq, ↓f0_2 hq, ↓f0_2p hq, ↓f0_3 hq, ↓f0_3p hq, ↓f0_4 hq, ↓f0_5 hq, ↓f0_6 hq, ↓f0_7 hq, ↓f0_8 hq, ↓f0_9 hq, ↓f0_10 hq, ↓f0_11 hq, ↓f1_g hq, ↓f1_s hq, ↓f2_g hq, ↓f2_s hq, f7_o hq, ↓f7_0 hq, ↓f7_1 hq, ↓f7_1p hq, ↓f7_2 hq, ↓f7_2p hq, ↓f8_g hq, hlt, ↓aft_of (e1), ↓aft_of (e3), d1, nI_1]
      · by_cases d2 : rdU (tuU s.1 (nI i) m) = (bsU m s.1 i).2.1
        · by_cases d3 : (bsU m s.1 i).2.2 < tuN s.1 (nI i) m
          · rw [if_neg d1, if_pos d2, if_pos d3]
            simp +decide only [x115_0, x115_1, x115_2, x115_5, x115_8, x115_11, x115_13, x115_14, x115_15, x115_16, x115_17, x115_18, x115_19, x115_21, x115_22, x115_26, x115_27, x115_30, x115_30N, x115_31, x115_33, x115_34, x115_37, x115_39, x115_39N, x115_40, x115_43, x115_46, x115_49, x115_51, x115_53, x115_54, x115_57, x115_59, x115_60, x115_63, x115_65, x115_67, x115_70, x115_72, x115_73, x115_75, x115_76, x115_78, x115_80, x115_83, x115_86, x115_87, aft_some, aft_void, Option.bind_some, Option.toList_some, Option.toList_none, List.cons_append, List.nil_append, if_true, if_false, ↓reduceIte, eq_self, z0_o, ↓z0_0, ↓z0_1, ↓z0_2, ↓z0_3, ↓z0_4, ↓z0_5, ↓z0_5p0, ↓z0_5p1, ↓z0t hq1, f0_o hq, ↓f0_0 hq, ↓f0_0p hq, ↓f0_1 hq, ↓f0_1p hq, ↓f0_2 hq, ↓f0_2p hq, ↓f0_3 hq, ↓f0_3p hq, ↓f0_4 hq, ↓f0_5 hq, ↓f0_6 hq, ↓f0_7 hq, ↓f0_8 hq, ↓f0_9 hq, ↓f0_10 hq, ↓f0_11 hq, ↓f1_g hq, ↓f1_s hq, ↓f2_g hq, ↓f2_s hq, f7_o hq, ↓f7_0 hq, ↓f7_1 hq, ↓f7_1p hq, ↓f7_2 hq, ↓f7_2p hq, ↓f8_g hq, hlt, ↓aft_of (e1), ↓aft_of (e3), d1, if_pos d2, d3, nI_1]
          · rw [if_neg d1, if_pos d2, if_neg d3]
            simp +decide only [x115_0, x115_1, x115_2, x115_5, x115_8, x115_11, x115_13, x115_14, x115_15, x115_16, x115_17, x115_18, x115_19, x115_21, x115_22, x115_26, x115_27, x115_30, x115_30N, x115_31, x115_33, x115_34, x115_37, x115_39, x115_39N, x115_40, x115_43, x115_46, x115_49, x115_51, x115_53, x115_54, x115_57, x115_59, x115_60, x115_63, x115_65, x115_67, x115_70, x115_72, x115_73, x115_75, x115_76, x115_78, x115_80, x115_83, x115_86, x115_87, aft_some, aft_void, Option.bind_some, Option.toList_some, Option.toList_none, List.cons_append, List.nil_append, if_true, if_false, ↓reduceIte, eq_self, z0_o, ↓z0_0, ↓z0_1, ↓z0_2, ↓z0_3, ↓z0_4, ↓z0_5, ↓z0_5p0, ↓z0_5p1, ↓z0t hq1, f0_o hq, ↓f0_0 hq, ↓f0_0p hq, ↓f0_1 hq, ↓f0_1p hq, ↓f0_2 hq, ↓f0_2p hq, ↓f0_3 hq, ↓f0_3p hq, ↓f0_4 hq, ↓f0_5 hq, ↓f0_6 hq, ↓f0_7 hq, ↓f0_8 hq, ↓f0_9 hq, ↓f0_10 hq, ↓f0_11 hq, ↓f1_g hq, ↓f1_s hq, ↓f2_g hq, ↓f2_s hq, f7_o hq, ↓f7_0 hq, ↓f7_1 hq, ↓f7_1p hq, ↓f7_2 hq, ↓f7_2p hq, ↓f8_g hq, hlt, ↓aft_of (e1), ↓aft_of (e3), d1, if_pos d2, d3, nI_1]
        · simp +decide only [x115_0, x115_1, x115_2, x115_5, x115_8, x115_11, x115_13, x115_14, x115_15, x115_16, x115_17, x115_18, x115_19, x115_21, x115_22, x115_26, x115_27, x115_30, x115_30N, x115_31, x115_33, x115_34, x115_37, x115_39, x115_39N, x115_40, x115_43, x115_46, x115_49, x115_51, x115_53, x115_54, x115_57, x115_59, x115_60, x115_63, x115_65, x115_67, x115_70, x115_72, x115_73, x115_75, x115_76, x115_78, x115_80, x115_83, x115_86, x115_87, aft_some, aft_void, Option.bind_some, Option.toList_some, Option.toList_none, List.cons_append, List.nil_append, if_true, if_false, ↓reduceIte, eq_self, z0_o, ↓z0_0, ↓z0_1, ↓z0_2, ↓z0_3, ↓z0_4, ↓z0_5, ↓z0_5p0, ↓z0_5p1, ↓z0t hq1, f0_o hq, ↓f0_0 hq, ↓f0_0p hq, ↓f0_1 hq, ↓f0_1p hq, ↓f0_2 hq, ↓f0_2p hq, ↓f0_3 hq, ↓f0_3p hq, ↓f0_4 hq, ↓f0_5 hq, ↓f0_6 hq, ↓f0_7 hq, ↓f0_8 hq, ↓f0_9 hq, ↓f0_10 hq, ↓f0_11 hq, ↓f1_g hq, ↓f1_s hq, ↓f2_g hq, ↓f2_s hq, f7_o hq, ↓f7_0 hq, ↓f7_1 hq, ↓f7_1p hq, ↓f7_2 hq, ↓f7_2p hq, ↓f8_g hq, hlt, ↓aft_of (e1), ↓aft_of (e3), d1, d2, nI_1])
  have i1 : CG EE T2 P s := i1
  refine ⟨T2, ?_, i1⟩
  have h3 : (2 < nI 3) = True := by decide
  simp +decide only [x115_0, x115_1, x115_2, x115_5, x115_8, x115_11, x115_13, x115_14, x115_15, x115_16, x115_17, x115_18, x115_19, x115_21, x115_22, x115_26, x115_27, x115_30, x115_30N, x115_31, x115_33, x115_34, x115_37, x115_39, x115_39N, x115_40, x115_43, x115_46, x115_49, x115_51, x115_53, x115_54, x115_57, x115_59, x115_60, x115_63, x115_65, x115_67, x115_70, x115_72, x115_73, x115_75, x115_76, x115_78, x115_80, x115_83, x115_86, x115_87, aft_some, aft_void, Option.bind_some, Option.toList_some, Option.toList_none, List.cons_append, List.nil_append, if_true, if_false, ↓reduceIte, eq_self, z0_o, ↓z0_0, ↓z0_1, ↓z0_2, ↓z0_3, ↓z0_4, ↓z0_5, ↓z0_5p0, ↓z0_5p1, ↓aft_of (c_within), c1]
  rw [show X 115 24 [.ref 0, .int m, .int 0, .int (-1), .int (-1), .int 0, .long 0, .long 0] [] (H T P) = _ from e2, x115_24]
  simp +decide only [x115_0, x115_1, x115_2, x115_5, x115_8, x115_11, x115_13, x115_14, x115_15, x115_16, x115_17, x115_18, x115_19, x115_21, x115_22, x115_26, x115_27, x115_30, x115_30N, x115_31, x115_33, x115_34, x115_37, x115_39, x115_39N, x115_40, x115_43, x115_46, x115_49, x115_51, x115_53, x115_54, x115_57, x115_59, x115_60, x115_63, x115_65, x115_67, x115_70, x115_72, x115_73, x115_75, x115_76, x115_78, x115_80, x115_83, x115_86, x115_87, aft_some, aft_void, Option.bind_some, Option.toList_some, Option.toList_none, List.cons_append, List.nil_append, if_true, if_false, ↓reduceIte, eq_self, h3]
theorem g_home (h1 : o = 1) (hq1 : q = 103) (h : CG EE T P s) (x m : Int32) : ∃ T' P', X 116 0 [.ref 0, .int x, .int m, .long 0] [] (H T P) = some (some (.int (gHome x m s)), H T' P') ∧ CG EE T' P' s := by
  have ho : isB o := by subst h1; exact isB_1
  have hq : isB q := by subst hq1; exact isB_103
  have hc : CSu o T P s.1 := by subst h1; exact h.2.1.1
  have hw := h.2.1.2.1
  have h8 := hw.1.2.2.2.1
  unfold gHome
  rcases s_wn (x := x) ho hc h8 with ⟨i, e, hi, ei, ew⟩ | ⟨e, ew⟩
  · rw [e]
    show ∃ T' P', X 116 0 [.ref 0, .int x, .int m, .long 0] [] (H T P) = some (some (.int (if inI m 1 600 = 0 then -2 else hmU x m 60 s.1)), H T' P') ∧ CG EE T' P' s
    by_cases c1 : inI m 1 600 = 0
    · rw [if_pos c1]
      refine ⟨T, P, ?_, h⟩
      simp +decide only [x116_0, x116_0N, x116_1, x116_4, x116_7, x116_8, x116_11, x116_11N, x116_14, x116_15, x116_16, x116_17, x116_18, x116_21, x116_24, x116_27, x116_29, x116_30, x116_30N, x116_31, x116_34, x116_34N, x116_35, x116_38, x116_41, x116_42, x116_43, x116_44, x116_46, x116_49, x116_49N, x116_50, x116_53, x116_54, x116_57, x116_58, x116_58N, x116_59, x116_62, x116_65, x116_66, x116_66N, x116_67, x116_70, x116_73, x116_74, x116_77, x116_77N, x116_80, x116_80N, x116_81, x116_84, x116_87, x116_88, x116_91, x116_94, x116_96, aft_some, aft_void, Option.bind_some, Option.toList_some, Option.toList_none, List.cons_append, List.nil_append, if_true, if_false, ↓reduceIte, eq_self, z0_o, ↓z0_0, ↓z0_1, ↓z0_2, ↓z0_3, ↓z0_4, ↓z0_5, ↓z0_5p0, ↓z0_5p1, ↓z0n h1, f0_o ho, ↓f0_0 ho, ↓f0_0p ho, ↓f0_1 ho, ↓f0_1p ho, ↓f0_2 ho, ↓f0_2p ho, ↓f0_3 ho, ↓f0_3p ho, ↓f0_4 ho, ↓f0_5 ho, ↓f0_6 ho, ↓f0_7 ho, ↓f0_8 ho, ↓f0_9 ho, ↓f0_10 ho, ↓f0_11 ho, ↓f1_g ho, ↓f1_s ho, ↓f2_g ho, ↓f2_s ho, f7_o ho, ↓f7_0 ho, ↓f7_1 ho, ↓f7_1p ho, ↓f7_2 ho, ↓f7_2p ho, ↓f8_g ho, ↓aft_of (ew), ↓aft_of (c_within), c1]
    rw [if_neg c1]
    obtain ⟨T1, e1, f1, c2⟩ := c_stCopy (o := q) (q := o) hq ho (by omega) (h.1.1 _ hq) hc hw.1.2.1 h8
    have g1 : CG EE T1 P s := by
      subst hq1
      exact h.tri c2.pk (fun a ha => f1 a (by omega)) (fun _ _ => rfl)
    have key : ∀ (n i : Nat) (u : uT) (T : Nat → Nat → Int32) (P : Nat → Nat → Nat), i + n = 60 → CG EE T P s → CSu q T P u → WF u.1.1 u.1.2.1 u.2 u.1.2.2.1 → u.1.1 0 ≤ 9999 + i → ∃ T' P', X 116 43 [.ref 0, .int x, .int m, .int (nI i)] [] (H T P) = some (some (.int (hmU x m n u)), H T' P') ∧ CG EE T' P' s := by
      intro n
      induction n with
      | zero =>
        intro i u T P hi hG hu hw hd
        have hi : i = 60 := by omega
        subst hi
        refine ⟨T, P, ?_, hG⟩
        rw [x116_43]
        have h60 : (nI 60 < 60) = False := by decide
        simp +decide only [x116_0, x116_0N, x116_1, x116_4, x116_7, x116_8, x116_11, x116_11N, x116_14, x116_15, x116_16, x116_17, x116_18, x116_21, x116_24, x116_27, x116_29, x116_30, x116_30N, x116_31, x116_34, x116_34N, x116_35, x116_38, x116_41, x116_42, x116_44, x116_46, x116_49, x116_49N, x116_50, x116_53, x116_54, x116_57, x116_58, x116_58N, x116_59, x116_62, x116_65, x116_66, x116_66N, x116_67, x116_70, x116_73, x116_74, x116_77, x116_77N, x116_80, x116_80N, x116_81, x116_84, x116_87, x116_88, x116_91, x116_94, x116_96, aft_some, aft_void, Option.bind_some, Option.toList_some, Option.toList_none, List.cons_append, List.nil_append, if_true, if_false, ↓reduceIte, eq_self, z0_o, ↓z0_0, ↓z0_1, ↓z0_2, ↓z0_3, ↓z0_4, ↓z0_5, ↓z0_5p0, ↓z0_5p1, h60, hmU]
      | succ n ih =>
        intro i u T P hi hG hu hw hd
        have hlt : (nI i < 60) = True := by
          rw [show (60 : Int32) = nI 60 from rfl, nI_ltp (by omega) (by decide)]
          exact eq_true (by omega)
        obtain ⟨T1, e1, f1, c1, w1⟩ := c_ironFor (m0 := m) hq hu hw
        have g1 : CG EE T1 P s := by
          subst hq1
          exact hG.tri c1.pk (fun a ha => f1 a (by omega)) (fun _ _ => rfl)
        have c1 : CSu q T1 P (irU u m) := c1
        obtain ⟨T2, P2, e2, f2, q2, c2⟩ := c_nextDay hq c1 w1
        have w2 := WF_day (R := (irU u m).1.2.2.2) w1 (show u.1.1 0 < 10100 by omega)
        have c2 : CSu q T2 P2 (dyU (irU u m)) := c2
        have w2 : WF (dyU (irU u m)).1.1 (dyU (irU u m)).1.2.1 (dyU (irU u m)).2 (dyU (irU u m)).1.2.2.1 := w2
        have g2 : CG EE T2 P2 s := by
          subst hq1
          exact g1.tri c2.pk (fun a ha => f2 a (by omega)) (fun a ha => q2 a (by omega))
        have hdy : (dyU (irU u m)).1.1 0 = u.1.1 0 + 1 := dy_day _
        have hd2 : T2 q 0 = (dyU (irU u m)).1.2.1 0 0 := c2.1.1 0 (by decide)
        unfold hmU
        rcases s_wn (x := x) hq c2 w2.1.2.2.2.1 with ⟨j, ej, hj, ej2, ew⟩ | ⟨ej, ew⟩
        · obtain ⟨T3, P3, e3, g3⟩ := ih (i + 1) (dyU (irU u m)) T2 P2 (by omega) g2 c2 w2 (by omega)
          refine ⟨T3, P3, ?_, g3⟩
          rw [ej, x116_43]
          show _ = some (some (Value.int (hmU x m n (dyU (irU u m)))), H T3 P3)
          rw [← e3]
          simp +decide only [x116_0, x116_0N, x116_1, x116_4, x116_7, x116_8, x116_11, x116_11N, x116_14, x116_15, x116_16, x116_17, x116_18, x116_21, x116_24, x116_27, x116_29, x116_30, x116_30N, x116_31, x116_34, x116_34N, x116_35, x116_38, x116_41, x116_42, x116_44, x116_46, x116_49, x116_49N, x116_50, x116_53, x116_54, x116_57, x116_58, x116_58N, x116_59, x116_62, x116_65, x116_66, x116_66N, x116_67, x116_70, x116_73, x116_74, x116_77, x116_77N, x116_80, x116_80N, x116_81, x116_84, x116_87, x116_88, x116_91, x116_94, x116_96, aft_some, aft_void, Option.bind_some, Option.toList_some, Option.toList_none, List.cons_append, List.nil_append, if_true, if_false, ↓reduceIte, eq_self, z0_o, ↓z0_0, ↓z0_1, ↓z0_2, ↓z0_3, ↓z0_4, ↓z0_5, ↓z0_5p0, ↓z0_5p1, ↓z0t hq1, f0_o hq, ↓f0_0 hq, ↓f0_0p hq, ↓f0_1 hq, ↓f0_1p hq, ↓f0_2 hq, ↓f0_2p hq, ↓f0_3 hq, ↓f0_3p hq, ↓f0_4 hq, ↓f0_5 hq, ↓f0_6 hq, ↓f0_7 hq, ↓f0_8 hq, ↓f0_9 hq, ↓f0_10 hq, ↓f0_11 hq, ↓f1_g hq, ↓f1_s hq, ↓f2_g hq, ↓f2_s hq, f7_o hq, ↓f7_0 hq, ↓f7_1 hq, ↓f7_1p hq, ↓f7_2 hq, ↓f7_2p hq, ↓f8_g hq, hlt, ↓aft_of (e1), ↓aft_of (e2), ↓aft_of (ew), nI_1]
        · refine ⟨T2, P2, ?_, g2⟩
          rw [ej, x116_43]
          show _ = some (some (Value.int ((dyU (irU u m)).1.2.1 0 0)), H T2 P2)
          simp +decide only [x116_0, x116_0N, x116_1, x116_4, x116_7, x116_8, x116_11, x116_11N, x116_14, x116_15, x116_16, x116_17, x116_18, x116_21, x116_24, x116_27, x116_29, x116_30, x116_30N, x116_31, x116_34, x116_34N, x116_35, x116_38, x116_41, x116_42, x116_44, x116_46, x116_49, x116_49N, x116_50, x116_53, x116_54, x116_57, x116_58, x116_58N, x116_59, x116_62, x116_65, x116_66, x116_66N, x116_67, x116_70, x116_73, x116_74, x116_77, x116_77N, x116_80, x116_80N, x116_81, x116_84, x116_87, x116_88, x116_91, x116_94, x116_96, aft_some, aft_void, Option.bind_some, Option.toList_some, Option.toList_none, List.cons_append, List.nil_append, if_true, if_false, ↓reduceIte, eq_self, z0_o, ↓z0_0, ↓z0_1, ↓z0_2, ↓z0_3, ↓z0_4, ↓z0_5, ↓z0_5p0, ↓z0_5p1, ↓z0t hq1, f0_o hq, ↓f0_0 hq, ↓f0_0p hq, ↓f0_1 hq, ↓f0_1p hq, ↓f0_2 hq, ↓f0_2p hq, ↓f0_3 hq, ↓f0_3p hq, ↓f0_4 hq, ↓f0_5 hq, ↓f0_6 hq, ↓f0_7 hq, ↓f0_8 hq, ↓f0_9 hq, ↓f0_10 hq, ↓f0_11 hq, ↓f1_g hq, ↓f1_s hq, ↓f2_g hq, ↓f2_s hq, f7_o hq, ↓f7_0 hq, ↓f7_1 hq, ↓f7_1p hq, ↓f7_2 hq, ↓f7_2p hq, ↓f8_g hq, hlt, ↓aft_of (e1), ↓aft_of (e2), ↓aft_of (ew), hd2]
    obtain ⟨T2, P2, e2, g2⟩ := key 60 0 s.1 T1 P rfl g1 c2 hw (by have := h.2.1.2.2; omega)
    refine ⟨T2, P2, ?_, g2⟩
    rw [← e2]
    simp +decide only [x116_0, x116_0N, x116_1, x116_4, x116_7, x116_8, x116_11, x116_11N, x116_14, x116_15, x116_16, x116_17, x116_18, x116_21, x116_24, x116_27, x116_29, x116_30, x116_30N, x116_31, x116_34, x116_34N, x116_35, x116_38, x116_41, x116_42, x116_44, x116_46, x116_49, x116_49N, x116_50, x116_53, x116_54, x116_57, x116_58, x116_58N, x116_59, x116_62, x116_65, x116_66, x116_66N, x116_67, x116_70, x116_73, x116_74, x116_77, x116_77N, x116_80, x116_80N, x116_81, x116_84, x116_87, x116_88, x116_91, x116_94, x116_96, aft_some, aft_void, Option.bind_some, Option.toList_some, Option.toList_none, List.cons_append, List.nil_append, if_true, if_false, ↓reduceIte, eq_self, z0_o, ↓z0_0, ↓z0_1, ↓z0_2, ↓z0_3, ↓z0_4, ↓z0_5, ↓z0_5p0, ↓z0_5p1, ↓z0n h1, ↓z0t hq1, f0_o ho, ↓f0_0 ho, ↓f0_0p ho, ↓f0_1 ho, ↓f0_1p ho, ↓f0_2 ho, ↓f0_2p ho, ↓f0_3 ho, ↓f0_3p ho, ↓f0_4 ho, ↓f0_5 ho, ↓f0_6 ho, ↓f0_7 ho, ↓f0_8 ho, ↓f0_9 ho, ↓f0_10 ho, ↓f0_11 ho, ↓f1_g ho, ↓f1_s ho, ↓f2_g ho, ↓f2_s ho, f0_o hq, ↓f0_0 hq, ↓f0_0p hq, ↓f0_1 hq, ↓f0_1p hq, ↓f0_2 hq, ↓f0_2p hq, ↓f0_3 hq, ↓f0_3p hq, ↓f0_4 hq, ↓f0_5 hq, ↓f0_6 hq, ↓f0_7 hq, ↓f0_8 hq, ↓f0_9 hq, ↓f0_10 hq, ↓f0_11 hq, ↓f1_g hq, ↓f1_s hq, ↓f2_g hq, ↓f2_s hq, f7_o ho, ↓f7_0 ho, ↓f7_1 ho, ↓f7_1p ho, ↓f7_2 ho, ↓f7_2p ho, ↓f8_g ho, ↓aft_of (ew), ↓aft_of (c_within), c1, ↓aft_of (e1)]
    rfl
  · rw [e]
    refine ⟨T, P, ?_, h⟩
    simp +decide only [x116_0, x116_0N, x116_1, x116_4, x116_7, x116_8, x116_11, x116_11N, x116_14, x116_15, x116_16, x116_17, x116_18, x116_21, x116_24, x116_27, x116_29, x116_30, x116_30N, x116_31, x116_34, x116_34N, x116_35, x116_38, x116_41, x116_42, x116_43, x116_44, x116_46, x116_49, x116_49N, x116_50, x116_53, x116_54, x116_57, x116_58, x116_58N, x116_59, x116_62, x116_65, x116_66, x116_66N, x116_67, x116_70, x116_73, x116_74, x116_77, x116_77N, x116_80, x116_80N, x116_81, x116_84, x116_87, x116_88, x116_91, x116_94, x116_96, aft_some, aft_void, Option.bind_some, Option.toList_some, Option.toList_none, List.cons_append, List.nil_append, if_true, if_false, ↓reduceIte, eq_self, z0_o, ↓z0_0, ↓z0_1, ↓z0_2, ↓z0_3, ↓z0_4, ↓z0_5, ↓z0_5p0, ↓z0_5p1, ↓z0n h1, f0_o ho, ↓f0_0 ho, ↓f0_0p ho, ↓f0_1 ho, ↓f0_1p ho, ↓f0_2 ho, ↓f0_2p ho, ↓f0_3 ho, ↓f0_3p ho, ↓f0_4 ho, ↓f0_5 ho, ↓f0_6 ho, ↓f0_7 ho, ↓f0_8 ho, ↓f0_9 ho, ↓f0_10 ho, ↓f0_11 ho, ↓f1_g ho, ↓f1_s ho, ↓f2_g ho, ↓f2_s ho, f7_o ho, ↓f7_0 ho, ↓f7_1 ho, ↓f7_1p ho, ↓f7_2 ho, ↓f7_2p ho, ↓f8_g ho, ↓aft_of (ew)]
end TO
