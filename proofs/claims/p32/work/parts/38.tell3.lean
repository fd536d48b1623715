/-! told of lost pieces; what would be, by an order -/
noncomputable def msN (k : Nat) (d : Int32) (K : List kT) : Int32 := smI (fun i => msK k d (gK K i)) K.length
noncomputable def msL (k : Nat) (d : Int32) (K : List kT) : Int32 := match fstN (fun i => msK k d (gK K i) = 1) 0 K.length with
  | some i => gK K i 0 0
  | none => -5
noncomputable def gLost (p w : Int32) (s : gT) : Int32 := @ite _ (hsI (s.1.1.1 3) p) (Classical.propDecidable _) (if w = 0 then s.1.1.2.1 46 p.toNatClampNeg else if w = 1 then s.1.1.2.1 47 p.toNatClampNeg else if w = 2 then msN (s.1.1.2.1 46 p.toNatClampNeg).toNatClampNeg (s.1.1.2.1 47 p.toNatClampNeg) s.1.2 else if w = 3 then msL (s.1.1.2.1 46 p.toNatClampNeg).toNatClampNeg (s.1.1.2.1 47 p.toNatClampNeg) s.1.2 else -2) (-1)
noncomputable def gSure (s : gT) : Int32 := smI (fun p => if msN (s.1.1.2.1 46 p).toNatClampNeg (s.1.1.2.1 47 p) s.1.2 = 1 then 1 else 0) (s.1.1.1 3)
abbrev ordU (u : uT) (r : Int32) : uT := uV u (up1 u.1.2.1 1 0 r)
noncomputable abbrev tuU (u : uT) (r m : Int32) : uT := irU (ordU u r) m
noncomputable abbrev tuN (u : uT) (r m : Int32) : Int32 := nI (irS u.1.1 288 (up1 u.1.2.1 1 0 r) u.2 m).1
noncomputable def gIf (r m w : Int32) (s : gT) : Int32 := if inI r 0 2 = 0 then -2 else if inI m 1 600 = 0 then -2 else if inI w 0 2 = 0 then -2 else if w = 0 then tuN s.1 r m else if w = 1 then smI (fun i => rdK (gK (tuU s.1 r m).2 i)) (tuU s.1 r m).2.length else (tuU s.1 r m).1.2.1 48 1 - s.1.1.2.1 48 1
section TN
variable {T U EE : Nat → Nat → Int32} {P Q : Nat → Nat → Nat} {o q : Nat} {s : gT} {u : uT} {N : Nat → Nat} {V W : Nat → Nat → Int32} {K : List kT} {B : List bT} {R : Nat → Nat → Int32} {x : Int32}
theorem s_missing (ho : isB o) (h : CS o T P N V K B R) (h8 : K.length ≤ 8) {k : Nat} (hk : k < 4) {d : Int32} : X 68 0 [.ref (o + 7), .int (nI k), .int d, .long 0, .long 0] [] (H T P) = some (some (.int (msN k d K)), H T P) := by
  rw [c_numberMissing ho h.pk h.n h8 hk d]
  unfold msN
  rw [smI_congr (fun i hi => (h.at hi).ms hk)]
theorem s_lowest (ho : isB o) (h : CS o T P N V K B R) (h8 : K.length ≤ 8) {k : Nat} (hk : k < 4) {d : Int32} : X 69 0 [.ref (o + 7), .int (nI k), .int d, .long 0] [] (H T P) = some (some (.int (msL k d K)), H T P) := by
  have e := c_lowestMissing (T := T) (P := P) ho h.pk h.n h8 hk d
  have e2 : fstN (fun i => msI T k d (P (o + 8) i) = 1) 0 K.length = fstN (fun i => msK k d (gK K i) = 1) 0 K.length := fstN_congr (fun i _ hi => by rw [(h.at (by omega)).ms hk])
  rw [e2] at e
  unfold msL
  cases hw : fstN (fun i => msK k d (gK K i) = 1) 0 K.length with
  | none => rw [hw] at e; exact e
  | some i =>
    rw [hw] at e
    have hi := fstN_some hw
    have e : X 69 0 [.ref (o + 7), .int (nI k), .int d, .long 0] [] (H T P) = some (some (.int (T (P (o + 8) i) 0)), H T P) := e
    rw [show T (P (o + 8) i) 0 = gK K i 0 0 from (h.at (by omega)).1 0 (by decide)] at e
    exact e
theorem c_lhasN (ho : isB o) {n : Nat} {c : Int32} (hn : T (o + 45) 2 = nI n) : X 57 0 [.ref (o + 45), .int c] [] (H T P) = some (some (.int (@ite _ (hsI n c) (Classical.propDecidable _) 1 0)), H T P) := by
  rw [c_lhas ho, hn]
  unfold hsI
  by_cases h1 : c < 0
  · rw [if_pos h1, if_neg (fun z => z.1 h1)]
  · rw [if_neg h1]
    by_cases h2 : c < nI n
    · rw [if_pos h2, if_pos ⟨h1, h2⟩]
    · rw [if_neg h2, if_neg (fun z => h2 z.2)]
theorem g_lost (h1 : o = 1) (h : CG EE T P s) (p w : Int32) : X 109 0 [.ref 0, .int p, .int w, .long 0, .long 0] [] (H T P) = some (some (.int (gLost p w s)), H T P) := by
  have ho : isB o := by subst h1; exact isB_1
  have hc : CSu o T P s.1 := by subst h1; exact h.2.1.1
  have hw := h.2.1.2.1
  have h8 := hw.1.2.2.2.1
  have hN3 := hw.1.2.2.2.2.1
  have eh := c_lhasN (P := P) (c := p) ho hc.2.2.2.2.1.1
  unfold gLost
  by_cases ch : hsI (s.1.1.1 3) p
  · rw [if_pos ch] at eh ⊢
    obtain ⟨j, hj, rfl⟩ := nI_ex ch.1 (by omega) ch.2
    have cl := nI_clamp (show j < 2 ^ 31 by omega)
    have ok := okx_nI (show j < 20 by omega) (show (20 : Nat) < 2 ^ 31 by decide)
    obtain ⟨k, hk, ek⟩ := hw.2.2.2.2.2.2.1 j hj
    have hr := hc.2.2.2.2.1.2.2 j hj
    have clk := nI_clamp (show k < 2 ^ 31 by omega)
    rw [cl, ek, clk]
    rw [ek] at hr
    have f1 := s_missing (d := s.1.1.2.1 47 j) ho hc h8 hk
    have f2 := s_lowest (d := s.1.1.2.1 47 j) ho hc h8 hk
    by_cases c0 : w = 0
    · subst c0
      simp +decide only [x109_0, x109_1, x109_4, x109_7, x109_8, x109_11, x109_14, x109_15, x109_16, x109_17, x109_20, x109_23, x109_26, x109_27, x109_28, x109_29, x109_30, x109_33, x109_36, x109_39, x109_40, x109_41, x109_43, x109_44, x109_76, x109_77, x109_78, x109_80, x109_81, x109_82, x109_85, x109_88, x109_89, x109_91, x109_94, x109_95, x109_96, x109_99, x109_102, x109_103, x109_105, x109_108, x109_109, x109_111, aft_some, aft_void, Option.bind_some, Option.toList_some, Option.toList_none, List.cons_append, List.nil_append, if_true, if_false, ↓reduceIte, eq_self, z0_o, ↓z0_0, ↓z0_1, ↓z0_2, ↓z0_3, ↓z0_4, ↓z0_5, ↓z0_5p0, ↓z0_5p1, ↓z0n h1, f0_o ho, ↓f0_0 ho, ↓f0_0p ho, ↓f0_1 ho, ↓f0_1p ho, ↓f0_2 ho, ↓f0_2p ho, ↓f0_3 ho, ↓f0_3p ho, ↓f0_4 ho, ↓f0_5 ho, ↓f0_6 ho, ↓f0_7 ho, ↓f0_8 ho, ↓f0_9 ho, ↓f0_10 ho, ↓f0_11 ho, ↓f1_g ho, ↓f1_s ho, ↓f2_g ho, ↓f2_s ho, f45_o ho, ↓f45_0 ho, ↓f45_1 ho, ↓f45_2 ho, ↓f45_2p ho, ↓f46_g ho, ↓f46_s ho, ↓f47_g ho, ↓f47_s ho, f7_o ho, ↓f7_0 ho, ↓f7_1 ho, ↓f7_1p ho, ↓f7_2 ho, ↓f7_2p ho, ↓f8_g ho, ↓aft_of (eh), ok, cl, hr.1, hr.2]
    by_cases c1 : w = 1
    · subst c1
      simp +decide only [x109_0, x109_1, x109_4, x109_7, x109_8, x109_11, x109_14, x109_15, x109_16, x109_17, x109_20, x109_23, x109_26, x109_27, x109_28, x109_29, x109_30, x109_33, x109_36, x109_39, x109_40, x109_41, x109_43, x109_44, x109_76, x109_77, x109_78, x109_80, x109_81, x109_82, x109_85, x109_88, x109_89, x109_91, x109_94, x109_95, x109_96, x109_99, x109_102, x109_103, x109_105, x109_108, x109_109, x109_111, aft_some, aft_void, Option.bind_some, Option.toList_some, Option.toList_none, List.cons_append, List.nil_append, if_true, if_false, ↓reduceIte, eq_self, z0_o, ↓z0_0, ↓z0_1, ↓z0_2, ↓z0_3, ↓z0_4, ↓z0_5, ↓z0_5p0, ↓z0_5p1, ↓z0n h1, f0_o ho, ↓f0_0 ho, ↓f0_0p ho, ↓f0_1 ho, ↓f0_1p ho, ↓f0_2 ho, ↓f0_2p ho, ↓f0_3 ho, ↓f0_3p ho, ↓f0_4 ho, ↓f0_5 ho, ↓f0_6 ho, ↓f0_7 ho, ↓f0_8 ho, ↓f0_9 ho, ↓f0_10 ho, ↓f0_11 ho, ↓f1_g ho, ↓f1_s ho, ↓f2_g ho, ↓f2_s ho, f45_o ho, ↓f45_0 ho, ↓f45_1 ho, ↓f45_2 ho, ↓f45_2p ho, ↓f46_g ho, ↓f46_s ho, ↓f47_g ho, ↓f47_s ho, f7_o ho, ↓f7_0 ho, ↓f7_1 ho, ↓f7_1p ho, ↓f7_2 ho, ↓f7_2p ho, ↓f8_g ho, ↓aft_of (eh), ok, cl, hr.1, hr.2]
    by_cases c2 : w = 2
    · subst c2
      simp +decide only [x109_0, x109_1, x109_4, x109_7, x109_8, x109_11, x109_14, x109_15, x109_16, x109_17, x109_20, x109_23, x109_26, x109_27, x109_28, x109_29, x109_30, x109_33, x109_36, x109_39, x109_40, x109_41, x109_43, x109_44, x109_76, x109_77, x109_78, x109_80, x109_81, x109_82, x109_85, x109_88, x109_89, x109_91, x109_94, x109_95, x109_96, x109_99, x109_102, x109_103, x109_105, x109_108, x109_109, x109_111, aft_some, aft_void, Option.bind_some, Option.toList_some, Option.toList_none, List.cons_append, List.nil_append, if_true, if_false, ↓reduceIte, eq_self, z0_o, ↓z0_0, ↓z0_1, ↓z0_2, ↓z0_3, ↓z0_4, ↓z0_5, ↓z0_5p0, ↓z0_5p1, ↓z0n h1, f0_o ho, ↓f0_0 ho, ↓f0_0p ho, ↓f0_1 ho, ↓f0_1p ho, ↓f0_2 ho, ↓f0_2p ho, ↓f0_3 ho, ↓f0_3p ho, ↓f0_4 ho, ↓f0_5 ho, ↓f0_6 ho, ↓f0_7 ho, ↓f0_8 ho, ↓f0_9 ho, ↓f0_10 ho, ↓f0_11 ho, ↓f1_g ho, ↓f1_s ho, ↓f2_g ho, ↓f2_s ho, f45_o ho, ↓f45_0 ho, ↓f45_1 ho, ↓f45_2 ho, ↓f45_2p ho, ↓f46_g ho, ↓f46_s ho, ↓f47_g ho, ↓f47_s ho, f7_o ho, ↓f7_0 ho, ↓f7_1 ho, ↓f7_1p ho, ↓f7_2 ho, ↓f7_2p ho, ↓f8_g ho, ↓aft_of (eh), ok, cl, hr.1, hr.2, ↓aft_of (f1)]
    by_cases c3 : w = 3
    · subst c3
      simp +decide only [x109_0, x109_1, x109_4, x109_7, x109_8, x109_11, x109_14, x109_15, x109_16, x109_17, x109_20, x109_23, x109_26, x109_27, x109_28, x109_29, x109_30, x109_33, x109_36, x109_39, x109_40, x109_41, x109_43, x109_44, x109_76, x109_77, x109_78, x109_80, x109_81, x109_82, x109_85, x109_88, x109_89, x109_91, x109_94, x109_95, x109_96, x109_99, x109_102, x109_103, x109_105, x109_108, x109_109, x109_111, aft_some, aft_void, Option.bind_some, Option.toList_some, Option.toList_none, List.cons_append, List.nil_append, if_true, if_false, ↓reduceIte, eq_self, z0_o, ↓z0_0, ↓z0_1, ↓z0_2, ↓z0_3, ↓z0_4, ↓z0_5, ↓z0_5p0, ↓z0_5p1, ↓z0n h1, f0_o ho, ↓f0_0 ho, ↓f0_0p ho, ↓f0_1 ho, ↓f0_1p ho, ↓f0_2 ho, ↓f0_2p ho, ↓f0_3 ho, ↓f0_3p ho, ↓f0_4 ho, ↓f0_5 ho, ↓f0_6 ho, ↓f0_7 ho, ↓f0_8 ho, ↓f0_9 ho, ↓f0_10 ho, ↓f0_11 ho, ↓f1_g ho, ↓f1_s ho, ↓f2_g ho, ↓f2_s ho, f45_o ho, ↓f45_0 ho, ↓f45_1 ho, ↓f45_2 ho, ↓f45_2p ho, ↓f46_g ho, ↓f46_s ho, ↓f47_g ho, ↓f47_s ho, f7_o ho, ↓f7_0 ho, ↓f7_1 ho, ↓f7_1p ho, ↓f7_2 ho, ↓f7_2p ho, ↓f8_g ho, ↓aft_of (eh), ok, cl, hr.1, hr.2, ↓aft_of (f2)]
    simp +decide only [x109_0, x109_1, x109_4, x109_7, x109_8, x109_11, x109_14, x109_15, x109_16, x109_17, x109_20, x109_23, x109_26, x109_27, x109_28, x109_29, x109_30, x109_33, x109_36, x109_39, x109_40, x109_41, x109_43, x109_44, x109_76, x109_77, x109_78, x109_80, x109_81, x109_82, x109_85, x109_88, x109_89, x109_91, x109_94, x109_95, x109_96, x109_99, x109_102, x109_103, x109_105, x109_108, x109_109, x109_111, aft_some, aft_void, Option.bind_some, Option.toList_some, Option.toList_none, List.cons_append, List.nil_append, if_true, if_false, ↓reduceIte, eq_self, z0_o, ↓z0_0, ↓z0_1, ↓z0_2, ↓z0_3, ↓z0_4, ↓z0_5, ↓z0_5p0, ↓z0_5p1, ↓z0n h1, f0_o ho, ↓f0_0 ho, ↓f0_0p ho, ↓f0_1 ho, ↓f0_1p ho, ↓f0_2 ho, ↓f0_2p ho, ↓f0_3 ho, ↓f0_3p ho, ↓f0_4 ho, ↓f0_5 ho, ↓f0_6 ho, ↓f0_7 ho, ↓f0_8 ho, ↓f0_9 ho, ↓f0_10 ho, ↓f0_11 ho, ↓f1_g ho, ↓f1_s ho, ↓f2_g ho, ↓f2_s ho, f45_o ho, ↓f45_0 ho, ↓f45_1 ho, ↓f45_2 ho, ↓f45_2p ho, ↓f46_g ho, ↓f46_s ho, ↓f47_g ho, ↓f47_s ho, f7_o ho, ↓f7_0 ho, ↓f7_1 ho, ↓f7_1p ho, ↓f7_2 ho, ↓f7_2p ho, ↓f8_g ho, ↓aft_of (eh), ok, cl, hr.1, hr.2, c0, c1, c2, c3]
  · rw [if_neg ch] at eh ⊢
    simp +decide only [x109_0, x109_1, x109_4, x109_7, x109_8, x109_11, x109_14, x109_15, x109_16, x109_17, x109_20, x109_23, x109_26, x109_27, x109_28, x109_29, x109_30, x109_33, x109_36, x109_39, x109_40, x109_41, x109_43, x109_44, x109_76, x109_77, x109_78, x109_80, x109_81, x109_82, x109_85, x109_88, x109_89, x109_91, x109_94, x109_95, x109_96, x109_99, x109_102, x109_103, x109_105, x109_108, x109_109, x109_111, aft_some, aft_void, Option.bind_some, Option.toList_some, Option.toList_none, List.cons_append, List.nil_append, if_true, if_false, ↓reduceIte, eq_self, z0_o, ↓z0_0, ↓z0_1, ↓z0_2, ↓z0_3, ↓z0_4, ↓z0_5, ↓z0_5p0, ↓z0_5p1, ↓z0n h1, f0_o ho, ↓f0_0 ho, ↓f0_0p ho, ↓f0_1 ho, ↓f0_1p ho, ↓f0_2 ho, ↓f0_2p ho, ↓f0_3 ho, ↓f0_3p ho, ↓f0_4 ho, ↓f0_5 ho, ↓f0_6 ho, ↓f0_7 ho, ↓f0_8 ho, ↓f0_9 ho, ↓f0_10 ho, ↓f0_11 ho, ↓f1_g ho, ↓f1_s ho, ↓f2_g ho, ↓f2_s ho, f45_o ho, ↓f45_0 ho, ↓f45_1 ho, ↓f45_2 ho, ↓f45_2p ho, ↓f46_g ho, ↓f46_s ho, ↓f47_g ho, ↓f47_s ho, ↓aft_of (eh)]
theorem g_try (h1 : o = 1) (hq1 : q = 103) (h : CG EE T P s) {r m : Int32} (hr : ∃ k, k < 3 ∧ r = nI k) : ∃ T', X 119 0 [.ref 0, .int r, .int m] [] (H T P) = some (some (.int (tuN s.1 r m)), H T' P) ∧ CG EE T' P s ∧ CSu q T' P (tuU s.1 r m) ∧ (tuU s.1 r m).2.length ≤ 8 ∧ (∀ a, (a < q ∨ q + 51 ≤ a) → T' a = T a) := by
  have ho : isB o := by subst h1; exact isB_1
  have hq : isB q := by subst hq1; exact isB_103
  have hc : CSu o T P s.1 := by subst h1; exact h.2.1.1
  have hw := h.2.1.2.1
  have h8 := hw.1.2.2.2.1
  obtain ⟨k, hk, rfl⟩ := hr
  obtain ⟨T1, e1, f1, c1⟩ := c_stCopy (o := q) (q := o) hq ho (by omega) (h.1.1 _ hq) hc hw.1.2.1 h8
  have c2 := CS.set1 (r := 1) (j := 0) (v := nI k) c1 h8 (Or.inl rfl)
  have w2 : WF s.1.1.1 (up1 s.1.1.2.1 1 0 (nI k)) s.1.2 s.1.1.2.2.1 := by
    obtain ⟨-, g3, g4⟩ := hw.2.2.1
    refine hw.v ?_ ?_ ?_ ?_ ⟨⟨k, hk, ?_⟩, ?_, ?_⟩
    · simp +decide only [u_n]
    · simp +decide only [u_n]
    · simp +decide only [u_n]
    · simp +decide only [u_n]
    · simp +decide only [upA_s]
    · simp +decide only [upA_s, u_n]; exact g3
    · simp +decide only [upA_s, u_n]; exact g4
  obtain ⟨T3, e3, f3, c3, w3⟩ := c_ironFor (m0 := m) hq c2 w2
  have hf : ∀ a, (a < q ∨ q + 51 ≤ a) → T3 a = T a := fun a ha => by
    rw [f3 a ha]
    simp only [upA_n _ _ (show a ≠ q + 1 by omega)]
    exact f1 a ha
  refine ⟨T3, ?_, ?_, c3, w3.1.2.2.2.1, hf⟩
  · simp +decide only [x119_0, x119_1, x119_4, x119_5, x119_8, x119_11, x119_12, x119_15, x119_18, x119_19, x119_20, x119_21, x119_22, x119_25, x119_26, x119_29, aft_some, aft_void, Option.bind_some, Option.toList_some, Option.toList_none, List.cons_append, List.nil_append, if_true, if_false, ↓reduceIte, eq_self, z0_o, ↓z0_0, ↓z0_1, ↓z0_2, ↓z0_3, ↓z0_4, ↓z0_5, ↓z0_5p0, ↓z0_5p1, ↓z0n h1, ↓z0t hq1, f0_o ho, ↓f0_0 ho, ↓f0_0p ho, ↓f0_1 ho, ↓f0_1p ho, ↓f0_2 ho, ↓f0_2p ho, ↓f0_3 ho, ↓f0_3p ho, ↓f0_4 ho, ↓f0_5 ho, ↓f0_6 ho, ↓f0_7 ho, ↓f0_8 ho, ↓f0_9 ho, ↓f0_10 ho, ↓f0_11 ho, ↓f1_g ho, ↓f1_s ho, ↓f2_g ho, ↓f2_s ho, f0_o hq, ↓f0_0 hq, ↓f0_0p hq, ↓f0_1 hq, ↓f0_1p hq, ↓f0_2 hq, ↓f0_2p hq, ↓f0_3 hq, ↓f0_3p hq, ↓f0_4 hq, ↓f0_5 hq, ↓f0_6 hq, ↓f0_7 hq, ↓f0_8 hq, ↓f0_9 hq, ↓f0_10 hq, ↓f0_11 hq, ↓f1_g hq, ↓f1_s hq, ↓f2_g hq, ↓f2_s hq, cl0, ↓aft_of (e1), ↓aft_of (e3)]
  · subst hq1
    exact h.tri c3.pk (fun a ha => hf a (by omega)) (fun _ _ => rfl)
theorem g_if (h1 : o = 1) (hq1 : q = 103) (h : CG EE T P s) (r m w : Int32) : ∃ T', X 114 0 [.ref 0, .int r, .int m, .int w, .long 0] [] (H T P) = some (some (.int (gIf r m w s)), H T' P) ∧ CG EE T' P s := by
  have ho : isB o := by subst h1; exact isB_1
  have hq : isB q := by subst hq1; exact isB_103
  unfold gIf
  by_cases c1 : inI r 0 2 = 0
  · rw [if_pos c1]
    refine ⟨T, ?_, h⟩
    simp +decide only [x114_0, x114_1, x114_2, x114_3, x114_6, x114_9, x114_10, x114_11, x114_14, x114_17, x114_20, x114_21, x114_22, x114_23, x114_26, x114_29, x114_31, x114_32, x114_33, x114_34, x114_35, x114_38, x114_40, x114_41, x114_68, x114_70, x114_71, x114_72, x114_75, x114_78, x114_81, x114_82, x114_83, x114_86, x114_89, x114_92, x114_93, x114_96, x114_99, x114_102, x114_103, aft_some, aft_void, Option.bind_some, Option.toList_some, Option.toList_none, List.cons_append, List.nil_append, if_true, if_false, ↓reduceIte, eq_self, z0_o, ↓z0_0, ↓z0_1, ↓z0_2, ↓z0_3, ↓z0_4, ↓z0_5, ↓z0_5p0, ↓z0_5p1, ↓aft_of (c_within), c1]
  rw [if_neg c1]
  by_cases c2 : inI m 1 600 = 0
  · rw [if_pos c2]
    refine ⟨T, ?_, h⟩
    simp +decide only [x114_0, x114_1, x114_2, x114_3, x114_6, x114_9, x114_10, x114_11, x114_14, x114_17, x114_20, x114_21, x114_22, x114_23, x114_26, x114_29, x114_31, x114_32, x114_33, x114_34, x114_35, x114_38, x114_40, x114_41, x114_68, x114_70, x114_71, x114_72, x114_75, x114_78, x114_81, x114_82, x114_83, x114_86, x114_89, x114_92, x114_93, x114_96, x114_99, x114_102, x114_103, aft_some, aft_void, Option.bind_some, Option.toList_some, Option.toList_none, List.cons_append, List.nil_append, if_true, if_false, ↓reduceIte, eq_self, z0_o, ↓z0_0, ↓z0_1, ↓z0_2, ↓z0_3, ↓z0_4, ↓z0_5, ↓z0_5p0, ↓z0_5p1, ↓aft_of (c_within), c1, c2]
  rw [if_neg c2]
  by_cases c3 : inI w 0 2 = 0
  · rw [if_pos c3]
    refine ⟨T, ?_, h⟩
    simp +decide only [x114_0, x114_1, x114_2, x114_3, x114_6, x114_9, x114_10, x114_11, x114_14, x114_17, x114_20, x114_21, x114_22, x114_23, x114_26, x114_29, x114_31, x114_32, x114_33, x114_34, x114_35, x114_38, x114_40, x114_41, x114_68, x114_70, x114_71, x114_72, x114_75, x114_78, x114_81, x114_82, x114_83, x114_86, x114_89, x114_92, x114_93, x114_96, x114_99, x114_102, x114_103, aft_some, aft_void, Option.bind_some, Option.toList_some, Option.toList_none, List.cons_append, List.nil_append, if_true, if_false, ↓reduceIte, eq_self, z0_o, ↓z0_0, ↓z0_1, ↓z0_2, ↓z0_3, ↓z0_4, ↓z0_5, ↓z0_5p0, ↓z0_5p1, ↓aft_of (c_within), c1, c2, c3]
  rw [if_neg c3]
  obtain ⟨k, hk, ek⟩ := inI_ex (n := 2) (by decide) c1
  obtain ⟨T1, e1, g1, t1, hlen, f1⟩ := g_try (m := m) h1 hq1 h ⟨k, by omega, ek⟩
  have hc1 : CSu o T1 P s.1 := by subst h1; exact g1.2.1.1
  have e2 := s_ready hq t1 hlen
  have b1 : T1 (o + 48) 1 = s.1.1.2.1 48 1 := hc1.2.2.2.2.2.1 1 (by decide)
  have b2 : T1 (q + 48) 1 = (tuU s.1 r m).1.2.1 48 1 := t1.2.2.2.2.2.1 1 (by decide)
  refine ⟨T1, ?_, g1⟩
  by_cases w0 : w = 0
  · subst w0
    simp +decide only [x114_0, x114_1, x114_2, x114_3, x114_6, x114_9, x114_10, x114_11, x114_14, x114_17, x114_20, x114_21, x114_22, x114_23, x114_26, x114_29, x114_31, x114_32, x114_33, x114_34, x114_35, x114_38, x114_40, x114_41, x114_68, x114_70, x114_71, x114_72, x114_75, x114_78, x114_81, x114_82, x114_83, x114_86, x114_89, x114_92, x114_93, x114_96, x114_99, x114_102, x114_103, aft_some, aft_void, Option.bind_some, Option.toList_some, Option.toList_none, List.cons_append, List.nil_append, if_true, if_false, ↓reduceIte, eq_self, z0_o, ↓z0_0, ↓z0_1, ↓z0_2, ↓z0_3, ↓z0_4, ↓z0_5, ↓z0_5p0, ↓z0_5p1, ↓z0n h1, ↓z0t hq1, f0_o ho, ↓f0_0 ho, ↓f0_0p ho, ↓f0_1 ho, ↓f0_1p ho, ↓f0_2 ho, ↓f0_2p ho, ↓f0_3 ho, ↓f0_3p ho, ↓f0_4 ho, ↓f0_5 ho, ↓f0_6 ho, ↓f0_7 ho, ↓f0_8 ho, ↓f0_9 ho, ↓f0_10 ho, ↓f0_11 ho, ↓f1_g ho, ↓f1_s ho, ↓f2_g ho, ↓f2_s ho, f0_o hq, ↓f0_0 hq, ↓f0_0p hq, ↓f0_1 hq, ↓f0_1p hq, ↓f0_2 hq, ↓f0_2p hq, ↓f0_3 hq, ↓f0_3p hq, ↓f0_4 hq, ↓f0_5 hq, ↓f0_6 hq, ↓f0_7 hq, ↓f0_8 hq, ↓f0_9 hq, ↓f0_10 hq, ↓f0_11 hq, ↓f1_g hq, ↓f1_s hq, ↓f2_g hq, ↓f2_s hq, f7_o hq, ↓f7_0 hq, ↓f7_1 hq, ↓f7_1p hq, ↓f7_2 hq, ↓f7_2p hq, ↓f8_g hq, f48_o ho, ↓f48_0 ho, ↓f48_0p ho, ↓f48_1 ho, ↓f48_1p ho, ↓f48_2 ho, ↓f48_2p ho, ↓f48_3 ho, ↓f48_3p ho, f48_o hq, ↓f48_0 hq, ↓f48_0p hq, ↓f48_1 hq, ↓f48_1p hq, ↓f48_2 hq, ↓f48_2p hq, ↓f48_3 hq, ↓f48_3p hq, ↓aft_of (c_within), c1, c2, c3, ↓aft_of (e1)]
  by_cases w1 : w = 1
  · subst w1
    simp +decide only [x114_0, x114_1, x114_2, x114_3, x114_6, x114_9, x114_10, x114_11, x114_14, x114_17, x114_20, x114_21, x114_22, x114_23, x114_26, x114_29, x114_31, x114_32, x114_33, x114_34, x114_35, x114_38, x114_40, x114_41, x114_68, x114_70, x114_71, x114_72, x114_75, x114_78, x114_81, x114_82, x114_83, x114_86, x114_89, x114_92, x114_93, x114_96, x114_99, x114_102, x114_103, aft_some, aft_void, Option.bind_some, Option.toList_some, Option.toList_none, List.cons_append, List.nil_append, if_true, if_false, ↓reduceIte, eq_self, z0_o, ↓z0_0, ↓z0_1, ↓z0_2, ↓z0_3, ↓z0_4, ↓z0_5, ↓z0_5p0, ↓z0_5p1, ↓z0n h1, ↓z0t hq1, f0_o ho, ↓f0_0 ho, ↓f0_0p ho, ↓f0_1 ho, ↓f0_1p ho, ↓f0_2 ho, ↓f0_2p ho, ↓f0_3 ho, ↓f0_3p ho, ↓f0_4 ho, ↓f0_5 ho, ↓f0_6 ho, ↓f0_7 ho, ↓f0_8 ho, ↓f0_9 ho, ↓f0_10 ho, ↓f0_11 ho, ↓f1_g ho, ↓f1_s ho, ↓f2_g ho, ↓f2_s ho, f0_o hq, ↓f0_0 hq, ↓f0_0p hq, ↓f0_1 hq, ↓f0_1p hq, ↓f0_2 hq, ↓f0_2p hq, ↓f0_3 hq, ↓f0_3p hq, ↓f0_4 hq, ↓f0_5 hq, ↓f0_6 hq, ↓f0_7 hq, ↓f0_8 hq, ↓f0_9 hq, ↓f0_10 hq, ↓f0_11 hq, ↓f1_g hq, ↓f1_s hq, ↓f2_g hq, ↓f2_s hq, f7_o hq, ↓f7_0 hq, ↓f7_1 hq, ↓f7_1p hq, ↓f7_2 hq, ↓f7_2p hq, ↓f8_g hq, f48_o ho, ↓f48_0 ho, ↓f48_0p ho, ↓f48_1 ho, ↓f48_1p ho, ↓f48_2 ho, ↓f48_2p ho, ↓f48_3 ho, ↓f48_3p ho, f48_o hq, ↓f48_0 hq, ↓f48_0p hq, ↓f48_1 hq, ↓f48_1p hq, ↓f48_2 hq, ↓f48_2p hq, ↓f48_3 hq, ↓f48_3p hq, ↓aft_of (c_within), c1, c2, c3, ↓aft_of (e1), ↓aft_of (e2)]
  simp +decide only [x114_0, x114_1, x114_2, x114_3, x114_6, x114_9, x114_10, x114_11, x114_14, x114_17, x114_20, x114_21, x114_22, x114_23, x114_26, x114_29, x114_31, x114_32, x114_33, x114_34, x114_35, x114_38, x114_40, x114_41, x114_68, x114_70, x114_71, x114_72, x114_75, x114_78, x114_81, x114_82, x114_83, x114_86, x114_89, x114_92, x114_93, x114_96, x114_99, x114_102, x114_103, aft_some, aft_void, Option.bind_some, Option.toList_some, Option.toList_none, List.cons_append, List.nil_append, if_true, if_false, ↓reduceIte, eq_self, z0_o, ↓z0_0, ↓z0_1, ↓z0_2, ↓z0_3, ↓z0_4, ↓z0_5, ↓z0_5p0, ↓z0_5p1, ↓z0n h1, ↓z0t hq1, f0_o ho, ↓f0_0 ho, ↓f0_0p ho, ↓f0_1 ho, ↓f0_1p ho, ↓f0_2 ho, ↓f0_2p ho, ↓f0_3 ho, ↓f0_3p ho, ↓f0_4 ho, ↓f0_5 ho, ↓f0_6 ho, ↓f0_7 ho, ↓f0_8 ho, ↓f0_9 ho, ↓f0_10 ho, ↓f0_11 ho, ↓f1_g ho, ↓f1_s ho, ↓f2_g ho, ↓f2_s ho, f0_o hq, ↓f0_0 hq, ↓f0_0p hq, ↓f0_1 hq, ↓f0_1p hq, ↓f0_2 hq, ↓f0_2p hq, ↓f0_3 hq, ↓f0_3p hq, ↓f0_4 hq, ↓f0_5 hq, ↓f0_6 hq, ↓f0_7 hq, ↓f0_8 hq, ↓f0_9 hq, ↓f0_10 hq, ↓f0_11 hq, ↓f1_g hq, ↓f1_s hq, ↓f2_g hq, ↓f2_s hq, f7_o hq, ↓f7_0 hq, ↓f7_1 hq, ↓f7_1p hq, ↓f7_2 hq, ↓f7_2p hq, ↓f8_g hq, f48_o ho, ↓f48_0 ho, ↓f48_0p ho, ↓f48_1 ho, ↓f48_1p ho, ↓f48_2 ho, ↓f48_2p ho, ↓f48_3 ho, ↓f48_3p ho, f48_o hq, ↓f48_0 hq, ↓f48_0p hq, ↓f48_1 hq, ↓f48_1p hq, ↓f48_2 hq, ↓f48_2p hq, ↓f48_3 hq, ↓f48_3p hq, ↓aft_of (c_within), c1, c2, c3, ↓aft_of (e1), w0, w1, b1, b2]
end TN
