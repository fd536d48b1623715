/-! baskets: all that a text tells, or none -/
/-- the baskets from i on, m of them, one after the other: an error, or the state behind them -/
noncomputable def bsF (c p st g : Nat → Int32) : Nat → Nat → uT → Option Int32 × uT
  | 0, _, u => (none, u)
  | m + 1, i, u => if rfU u (c i) (p i) (st i) (g i) < 0 then (some (rfU u (c i) (p i) (st i) (g i)), u) else bsF c p st g m (i + 1) (bkU u (c i).toNatClampNeg (g i).toNatClampNeg (p i) (st i))
theorem bsF_congr {c p st g c' p' st' g' : Nat → Int32} : ∀ {m i : Nat} {u : uT}, (∀ j, i ≤ j → j < i + m → c j = c' j ∧ p j = p' j ∧ st j = st' j ∧ g j = g' j) → bsF c p st g m i u = bsF c' p' st' g' m i u
  | 0, _, _, _ => rfl
  | m + 1, i, u, h => by
    obtain ⟨e1, e2, e3, e4⟩ := h i (Nat.le_refl _) (by omega)
    simp only [bsF]
    rw [e1, e2, e3, e4, bsF_congr (m := m) (i := i + 1) (fun j a b => h j (by omega) (by omega))]
theorem bkU_wf {u : uT} (hw : WFu u) {c p st g : Int32} (h : ¬ rfU u c p st g < 0) : WFu (bkU u c.toNatClampNeg g.toNatClampNeg p st) := by
  obtain ⟨-, k, x, y, z, hk, rfl, hx, rfl, hy, rfl, hz, hzo, rfl, h8, h99⟩ := rf_ok hw h
  have hN1 := hw.1.1.2.1
  rw [nI_clamp (by omega), nI_clamp (by omega)]
  refine ⟨WF_come hw.1 hk h8 h99 hzo ⟨x, hx, rfl⟩ ⟨y, hy, rfl⟩, ?_⟩
  show rcN u.1.1 0 ≤ 9999
  simp +decide only [u_n]
  exact hw.2
theorem bsF_wf {c p st g : Nat → Int32} : ∀ {m i : Nat} {u : uT}, WFu u → WFu (bsF c p st g m i u).2
  | 0, _, _, h => h
  | m + 1, i, u, h => by
    simp only [bsF]
    by_cases q : rfU u (c i) (p i) (st i) (g i) < 0
    · rw [if_pos q]; exact h
    · rw [if_neg q]; exact bsF_wf (bkU_wf h q)
/-- what the text tells, read from nothing -/
abbrev txC (s : gT) : Option Nat × rS := rdG s.2.2.2.2 s.2.2.2.1 0 r00
noncomputable abbrev bkS (s : gT) : Option Int32 × uT := bsF (txC s).2.2.2.2.1 (txC s).2.2.2.2.2.1 (txC s).2.2.2.2.2.2.1 (txC s).2.2.2.2.2.2.2 (txC s).2.1 0 s.1
noncomputable def gBkts (s : gT) : Int32 × gT := if gFault s = -5 then (match (bkS s).1 with
    | some e => (e, s)
    | none => (nI (txC s).2.1, (bkS s).2, s.2.1, psL s, s.2.2.2)) else (-100 - gFault s, s)
section BKT
variable {T U EE : Nat → Nat → Int32} {P Q : Nat → Nat → Nat} {o q : Nat} {s : gT} {u : uT}
theorem g_bkts (h1 : o = 1) (hq1 : q = 103) (h : CG EE T P s) : ∃ T', X 93 0 [.ref 0, .long 0, .long 0, .long 0] [] (H T P) = some (some (.int (gBkts s).1), H T' P) ∧ CG EE T' P (gBkts s).2 := by
  have ho : isB o := by subst h1; exact isB_1
  have hq : isB q := by subst hq1; exact isB_103
  obtain ⟨T1, r', e1, n0, p0, r1, f1, k1⟩ := c_read (P := P) h.2.2.2.2
  have g := sr_0 (f := s.2.2.2.2) (m := s.2.2.2.1) (i := 0) (r := r') (w := r00) n0 rfl p0 rfl
  have e : rdA s.2.2.2.1 (rdG s.2.2.2.2 s.2.2.2.1 0 r') = gFault s := by
    unfold gFault rdA
    rw [g.1, g.2.1]
  rw [e] at e1
  have hC1 := h.fr f1
  unfold gBkts
  by_cases c1 : gFault s = -5
  · rw [if_pos c1]
    rw [c1] at e1
    have hn : T1 360 2 = nI (txC s).2.1 := by rw [r1.2.1, g.2.2.1]
    have hn12 : (txC s).2.1 ≤ 12 := by have := r1.1; rw [g.2.2.1] at this; exact this
    have rows : ∀ j, j < (txC s).2.1 → T1 362 j = (txC s).2.2.2.2.1 j ∧ T1 363 j = (txC s).2.2.2.2.2.1 j ∧ T1 364 j = (txC s).2.2.2.2.2.2.1 j ∧ T1 365 j = (txC s).2.2.2.2.2.2.2 j := by
      intro j hj
      obtain ⟨q1, q2, q3, q4⟩ := g.2.2.2 j (by rw [g.2.2.1]; exact hj)
      obtain ⟨-, -, -, -, z1, z2, z3, z4⟩ := r1
      exact ⟨by rw [z1]; exact q1, by rw [z2]; exact q2, by rw [z3]; exact q3, by rw [z4]; exact q4⟩
    have hc : CSu o T1 P s.1 := by subst h1; exact hC1.2.1.1
    have hw := hC1.2.1.2
    obtain ⟨T2, e2, f2, c2⟩ := c_stCopy (o := q) (q := o) hq ho (by omega) (hC1.1.1 _ hq) hc hw.1.1.2.1 hw.1.1.2.2.2.1
    have hf : ∀ a, (a < 103 ∨ 154 ≤ a) → T2 a = T1 a := fun a ha => f2 a (by omega)
    have key : ∀ (m i : Nat) (u : uT) (W : Nat → Nat → Int32) (v3 : Value), i + m = (txC s).2.1 → (∀ a, (a < 103 ∨ 154 ≤ a) → W a = T1 a) → CSu q W P u → WFu u → ∃ W', (∀ a, (a < 103 ∨ 154 ≤ a) → W' a = T1 a) ∧ PK P q ∧
        ((∃ e, (bsF (txC s).2.2.2.2.1 (txC s).2.2.2.2.2.1 (txC s).2.2.2.2.2.2.1 (txC s).2.2.2.2.2.2.2 m i u).1 = some e ∧ X 93 32 [.ref 0, .int (-5), .int (nI i), v3] [] (H W P) = some (some (.int e), H W' P)) ∨
         ((bsF (txC s).2.2.2.2.1 (txC s).2.2.2.2.2.1 (txC s).2.2.2.2.2.2.1 (txC s).2.2.2.2.2.2.2 m i u).1 = none ∧ (∃ v2 v3', X 93 32 [.ref 0, .int (-5), .int (nI i), v3] [] (H W P) = X 93 143 [.ref 0, .int (-5), v2, v3'] [] (H W' P)) ∧ CSu q W' P (bsF (txC s).2.2.2.2.1 (txC s).2.2.2.2.2.1 (txC s).2.2.2.2.2.2.1 (txC s).2.2.2.2.2.2.2 m i u).2)) := by
      intro m
      induction m with
      | zero =>
        intro i u W v3 hi hW hcu hwu
        have hi : i = (txC s).2.1 := by omega
        subst hi
        have hnW : W 360 2 = nI (txC s).2.1 := by rw [hW 360 (by decide)]; exact hn
        refine ⟨W, hW, hcu.pk, Or.inr ⟨rfl, ⟨.int (nI (txC s).2.1), v3, ?_⟩, hcu⟩⟩
        rw [x93_32]
        simp +decide only [x93_0, x93_0N, x93_1, x93_4, x93_7, x93_8, x93_9, x93_11, x93_14, x93_16, x93_17, x93_18, x93_19, x93_19N, x93_20, x93_23, x93_23N, x93_24, x93_27, x93_30, x93_31, x93_33, x93_33N, x93_34, x93_37, x93_40, x93_43, x93_43N, x93_44, x93_47, x93_47N, x93_48, x93_51, x93_54, x93_55, x93_56, x93_56N, x93_57, x93_60, x93_63, x93_64, x93_65, x93_65N, x93_66, x93_69, x93_72, x93_73, x93_74, x93_74N, x93_75, x93_78, x93_81, x93_82, x93_83, x93_86, x93_87, x93_88, x93_91, x93_92, x93_93, x93_93N, x93_94, x93_97, x93_97N, x93_98, x93_101, x93_104, x93_105, x93_106, x93_106N, x93_107, x93_110, x93_113, x93_114, x93_115, x93_115N, x93_116, x93_119, x93_122, x93_123, x93_124, x93_124N, x93_125, x93_128, x93_131, x93_132, x93_133, x93_136, x93_137, x93_140, x93_144, x93_147, x93_147N, x93_148, x93_151, x93_154, x93_154N, x93_155, x93_158, x93_158N, x93_159, x93_162, x93_165, x93_165N, x93_166, x93_169, x93_172, aft_some, aft_void, Option.bind_some, Option.toList_some, Option.toList_none, List.cons_append, List.nil_append, if_true, if_false, ↓reduceIte, eq_self, z0_o, ↓z0_0, ↓z0_1, ↓z0_2, ↓z0_3, ↓z0_4, ↓z0_5, ↓z0_5p0, ↓z0_5p1, z360_o, ↓z360_0, ↓z360_1, ↓z360_1p, ↓z360_2, ↓z360_2p, ↓z360_3, ↓z360_4, ↓z360_5, ↓z360_6, ↓z360_7, ↓z360_7p, ↓z360_8, ↓z360_8p, ↓z361_g, ↓z361_s, ↓z362_g, ↓z362_s, ↓z363_g, ↓z363_s, ↓z364_g, ↓z364_s, ↓z365_g, ↓z365_s, hnW, nI_nlt (Nat.le_refl (txC s).2.1) (show (txC s).2.1 < 2 ^ 31 by omega)]
      | succ m ih =>
        intro i u W v3 hi hW hcu hwu
        have hnW : W 360 2 = nI (txC s).2.1 := by rw [hW 360 (by decide)]; exact hn
        have hlt : nI i < nI (txC s).2.1 := nI_lt (show i < (txC s).2.1 by omega) (by omega)
        have ok := okx_nI (show i < 12 by omega) (show (12 : Nat) < 2 ^ 31 by decide)
        have cl := nI_clamp (show i < 2 ^ 31 by omega)
        obtain ⟨w1, w2, w3, w4⟩ := rows i (by omega)
        have w1 : W 362 i = (txC s).2.2.2.2.1 i := by rw [hW 362 (by decide)]; exact w1
        have w2 : W 363 i = (txC s).2.2.2.2.2.1 i := by rw [hW 363 (by decide)]; exact w2
        have w3 : W 364 i = (txC s).2.2.2.2.2.2.1 i := by rw [hW 364 (by decide)]; exact w3
        have w4 : W 365 i = (txC s).2.2.2.2.2.2.2 i := by rw [hW 365 (by decide)]; exact w4
        have er := c_refusal (P := P) (x := (txC s).2.2.2.2.1 i) (y := (txC s).2.2.2.2.2.1 i) (z := (txC s).2.2.2.2.2.2.1 i) (w := (txC s).2.2.2.2.2.2.2 i) hq hcu hwu.1
        rw [show rfI (u.1.1 1) u.1.2.2.1 u.2.length (u.1.1 2) ((txC s).2.2.2.2.1 i) ((txC s).2.2.2.2.2.1 i) ((txC s).2.2.2.2.2.2.1 i) ((txC s).2.2.2.2.2.2.2 i) = rfU u ((txC s).2.2.2.2.1 i) ((txC s).2.2.2.2.2.1 i) ((txC s).2.2.2.2.2.2.1 i) ((txC s).2.2.2.2.2.2.2 i) from rfl] at er
        by_cases c2 : rfU u ((txC s).2.2.2.2.1 i) ((txC s).2.2.2.2.2.1 i) ((txC s).2.2.2.2.2.2.1 i) ((txC s).2.2.2.2.2.2.2 i) < 0
        · have hb : bsF (txC s).2.2.2.2.1 (txC s).2.2.2.2.2.1 (txC s).2.2.2.2.2.2.1 (txC s).2.2.2.2.2.2.2 (m + 1) i u = (some (rfU u ((txC s).2.2.2.2.1 i) ((txC s).2.2.2.2.2.1 i) ((txC s).2.2.2.2.2.2.1 i) ((txC s).2.2.2.2.2.2.2 i)), u) := if_pos c2
          rw [hb]
          refine ⟨W, hW, hcu.pk, Or.inl ⟨_, rfl, ?_⟩⟩
          rw [x93_32]
          simp +decide only [x93_0, x93_0N, x93_1, x93_4, x93_7, x93_8, x93_9, x93_11, x93_14, x93_16, x93_17, x93_18, x93_19, x93_19N, x93_20, x93_23, x93_23N, x93_24, x93_27, x93_30, x93_31, x93_33, x93_33N, x93_34, x93_37, x93_40, x93_43, x93_43N, x93_44, x93_47, x93_47N, x93_48, x93_51, x93_54, x93_55, x93_56, x93_56N, x93_57, x93_60, x93_63, x93_64, x93_65, x93_65N, x93_66, x93_69, x93_72, x93_73, x93_74, x93_74N, x93_75, x93_78, x93_81, x93_82, x93_83, x93_86, x93_87, x93_88, x93_91, x93_92, x93_93, x93_93N, x93_94, x93_97, x93_97N, x93_98, x93_101, x93_104, x93_105, x93_106, x93_106N, x93_107, x93_110, x93_113, x93_114, x93_115, x93_115N, x93_116, x93_119, x93_122, x93_123, x93_124, x93_124N, x93_125, x93_128, x93_131, x93_132, x93_133, x93_136, x93_137, x93_140, x93_144, x93_147, x93_147N, x93_148, x93_151, x93_154, x93_154N, x93_155, x93_158, x93_158N, x93_159, x93_162, x93_165, x93_165N, x93_166, x93_169, x93_172, aft_some, aft_void, Option.bind_some, Option.toList_some, Option.toList_none, List.cons_append, List.nil_append, if_true, if_false, ↓reduceIte, eq_self, z0_o, ↓z0_0, ↓z0_1, ↓z0_2, ↓z0_3, ↓z0_4, ↓z0_5, ↓z0_5p0, ↓z0_5p1, z360_o, ↓z360_0, ↓z360_1, ↓z360_1p, ↓z360_2, ↓z360_2p, ↓z360_3, ↓z360_4, ↓z360_5, ↓z360_6, ↓z360_7, ↓z360_7p, ↓z360_8, ↓z360_8p, ↓z361_g, ↓z361_s, ↓z362_g, ↓z362_s, ↓z363_g, ↓z363_s, ↓z364_g, ↓z364_s, ↓z365_g, ↓z365_s, ↓z0t hq1, f0_o hq, ↓f0_0 hq, ↓f0_0p hq, ↓f0_1 hq, ↓f0_1p hq, ↓f0_2 hq, ↓f0_2p hq, ↓f0_3 hq, ↓f0_3p hq, ↓f0_4 hq, ↓f0_5 hq, ↓f0_6 hq, ↓f0_7 hq, ↓f0_8 hq, ↓f0_9 hq, ↓f0_10 hq, ↓f0_11 hq, ↓f1_g hq, ↓f1_s hq, ↓f2_g hq, ↓f2_s hq, hnW, hlt, ok, cl, w1, w2, w3, w4, ↓aft_of (er), c2]
        · have hb : bsF (txC s).2.2.2.2.1 (txC s).2.2.2.2.2.1 (txC s).2.2.2.2.2.2.1 (txC s).2.2.2.2.2.2.2 (m + 1) i u = bsF (txC s).2.2.2.2.1 (txC s).2.2.2.2.2.1 (txC s).2.2.2.2.2.2.1 (txC s).2.2.2.2.2.2.2 m (i + 1) (bkU u ((txC s).2.2.2.2.1 i).toNatClampNeg ((txC s).2.2.2.2.2.2.2 i).toNatClampNeg ((txC s).2.2.2.2.2.1 i) ((txC s).2.2.2.2.2.2.1 i)) := if_neg c2
          rw [hb]
          have hwn := bkU_wf hwu c2
          obtain ⟨a0, a1, a2, a3, b0, b1, b2, b3⟩ : ∃ a b c d, a = (txC s).2.2.2.2.1 i ∧ b = (txC s).2.2.2.2.2.1 i ∧ c = (txC s).2.2.2.2.2.2.1 i ∧ d = (txC s).2.2.2.2.2.2.2 i := ⟨_, _, _, _, rfl, rfl, rfl, rfl⟩
          rw [← b0, ← b1, ← b2, ← b3] at er c2 hwn ⊢
          rw [← b0] at w1
          rw [← b1] at w2
          rw [← b2] at w3
          rw [← b3] at w4
          obtain ⟨e0, k, x, y, z, hk, ek, hx, ex, hy, ey, hz, hzo, ez, h8, h99⟩ := rf_ok hwu c2
          rw [e0] at er
          have hN1 := hwu.1.1.2.1
          obtain ⟨W2, e3, f3, c3⟩ := c_receive (p := nI x) (st := nI y) hq hcu hwu.1 hk h8 hz
          rw [← ek, ← ex, ← ey, ← ez] at e3
          have hcl1 : a0.toNatClampNeg = k := by rw [ek, nI_clamp (by omega)]
          have hcl4 : a3.toNatClampNeg = z := by rw [ez, nI_clamp (by omega)]
          have c3' : CSu q W2 P (bkU u a0.toNatClampNeg a3.toNatClampNeg a1 a2) := by rw [hcl1, hcl4, ex, ey]; exact c3
          obtain ⟨W3, f4, pk, hI⟩ := ih (i + 1) _ W2 (.int 0) (by omega) (fun a ha => by rw [f3 a (by omega)]; exact hW a ha) c3' hwn
          have nxt : X 93 32 [.ref 0, .int (-5), .int (nI i), v3] [] (H W P) = X 93 32 [.ref 0, .int (-5), .int (nI (i + 1)), .int 0] [] (H W2 P) := by
            rw [x93_32]
            simp +decide only [x93_0, x93_0N, x93_1, x93_4, x93_7, x93_8, x93_9, x93_11, x93_14, x93_16, x93_17, x93_18, x93_19, x93_19N, x93_20, x93_23, x93_23N, x93_24, x93_27, x93_30, x93_31, x93_33, x93_33N, x93_34, x93_37, x93_40, x93_43, x93_43N, x93_44, x93_47, x93_47N, x93_48, x93_51, x93_54, x93_55, x93_56, x93_56N, x93_57, x93_60, x93_63, x93_64, x93_65, x93_65N, x93_66, x93_69, x93_72, x93_73, x93_74, x93_74N, x93_75, x93_78, x93_81, x93_82, x93_83, x93_86, x93_87, x93_88, x93_91, x93_92, x93_93, x93_93N, x93_94, x93_97, x93_97N, x93_98, x93_101, x93_104, x93_105, x93_106, x93_106N, x93_107, x93_110, x93_113, x93_114, x93_115, x93_115N, x93_116, x93_119, x93_122, x93_123, x93_124, x93_124N, x93_125, x93_128, x93_131, x93_132, x93_133, x93_136, x93_137, x93_140, x93_144, x93_147, x93_147N, x93_148, x93_151, x93_154, x93_154N, x93_155, x93_158, x93_158N, x93_159, x93_162, x93_165, x93_165N, x93_166, x93_169, x93_172, aft_some, aft_void, Option.bind_some, Option.toList_some, Option.toList_none, List.cons_append, List.nil_append, if_true, if_false, ↓reduceIte, eq_self, z0_o, ↓z0_0, ↓z0_1, ↓z0_2, ↓z0_3, ↓z0_4, ↓z0_5, ↓z0_5p0, ↓z0_5p1, z360_o, ↓z360_0, ↓z360_1, ↓z360_1p, ↓z360_2, ↓z360_2p, ↓z360_3, ↓z360_4, ↓z360_5, ↓z360_6, ↓z360_7, ↓z360_7p, ↓z360_8, ↓z360_8p, ↓z361_g, ↓z361_s, ↓z362_g, ↓z362_s, ↓z363_g, ↓z363_s, ↓z364_g, ↓z364_s, ↓z365_g, ↓z365_s, ↓z0t hq1, f0_o hq, ↓f0_0 hq, ↓f0_0p hq, ↓f0_1 hq, ↓f0_1p hq, ↓f0_2 hq, ↓f0_2p hq, ↓f0_3 hq, ↓f0_3p hq, ↓f0_4 hq, ↓f0_5 hq, ↓f0_6 hq, ↓f0_7 hq, ↓f0_8 hq, ↓f0_9 hq, ↓f0_10 hq, ↓f0_11 hq, ↓f1_g hq, ↓f1_s hq, ↓f2_g hq, ↓f2_s hq, hnW, hlt, ok, cl, w1, w2, w3, w4, ↓aft_of (er), ↓aft_of (e3), nI_1]
          refine ⟨W3, f4, pk, ?_⟩
          rw [nxt]
          exact hI
    obtain ⟨W, fW, pk, hI⟩ := key (txC s).2.1 0 s.1 T2 (.long 0) (by omega) hf c2 hw
    have hCW : CG EE W P s := by
      subst hq1
      exact hC1.tri pk (fun a ha => fW a ha) (fun _ _ => rfl)
    have hst : X 93 0 [.ref 0, .long 0, .long 0, .long 0] [] (H T P) = X 93 32 [.ref 0, .int (-5), .int 0, .long 0] [] (H T2 P) := by
      simp +decide only [x93_0, x93_0N, x93_1, x93_4, x93_7, x93_8, x93_9, x93_11, x93_14, x93_16, x93_17, x93_18, x93_19, x93_19N, x93_20, x93_23, x93_23N, x93_24, x93_27, x93_30, x93_31, x93_33, x93_33N, x93_34, x93_37, x93_40, x93_43, x93_43N, x93_44, x93_47, x93_47N, x93_48, x93_51, x93_54, x93_55, x93_56, x93_56N, x93_57, x93_60, x93_63, x93_64, x93_65, x93_65N, x93_66, x93_69, x93_72, x93_73, x93_74, x93_74N, x93_75, x93_78, x93_81, x93_82, x93_83, x93_86, x93_87, x93_88, x93_91, x93_92, x93_93, x93_93N, x93_94, x93_97, x93_97N, x93_98, x93_101, x93_104, x93_105, x93_106, x93_106N, x93_107, x93_110, x93_113, x93_114, x93_115, x93_115N, x93_116, x93_119, x93_122, x93_123, x93_124, x93_124N, x93_125, x93_128, x93_131, x93_132, x93_133, x93_136, x93_137, x93_140, x93_144, x93_147, x93_147N, x93_148, x93_151, x93_154, x93_154N, x93_155, x93_158, x93_158N, x93_159, x93_162, x93_165, x93_165N, x93_166, x93_169, x93_172, aft_some, aft_void, Option.bind_some, Option.toList_some, Option.toList_none, List.cons_append, List.nil_append, if_true, if_false, ↓reduceIte, eq_self, z0_o, ↓z0_0, ↓z0_1, ↓z0_2, ↓z0_3, ↓z0_4, ↓z0_5, ↓z0_5p0, ↓z0_5p1, z360_o, ↓z360_0, ↓z360_1, ↓z360_1p, ↓z360_2, ↓z360_2p, ↓z360_3, ↓z360_4, ↓z360_5, ↓z360_6, ↓z360_7, ↓z360_7p, ↓z360_8, ↓z360_8p, ↓z361_g, ↓z361_s, ↓z362_g, ↓z362_s, ↓z363_g, ↓z363_s, ↓z364_g, ↓z364_s, ↓z365_g, ↓z365_s, ↓z0n h1, ↓z0t hq1, f0_o hq, ↓f0_0 hq, ↓f0_0p hq, ↓f0_1 hq, ↓f0_1p hq, ↓f0_2 hq, ↓f0_2p hq, ↓f0_3 hq, ↓f0_3p hq, ↓f0_4 hq, ↓f0_5 hq, ↓f0_6 hq, ↓f0_7 hq, ↓f0_8 hq, ↓f0_9 hq, ↓f0_10 hq, ↓f0_11 hq, ↓f1_g hq, ↓f1_s hq, ↓f2_g hq, ↓f2_s hq, f0_o ho, ↓f0_0 ho, ↓f0_0p ho, ↓f0_1 ho, ↓f0_1p ho, ↓f0_2 ho, ↓f0_2p ho, ↓f0_3 ho, ↓f0_3p ho, ↓f0_4 ho, ↓f0_5 ho, ↓f0_6 ho, ↓f0_7 ho, ↓f0_8 ho, ↓f0_9 ho, ↓f0_10 ho, ↓f0_11 ho, ↓f1_g ho, ↓f1_s ho, ↓f2_g ho, ↓f2_s ho, ↓aft_of (e1), ↓aft_of (e2)]
    rw [hst]
    rcases hI with ⟨er, hb, ex⟩ | ⟨hb, ⟨v2, v3', ex⟩, cW⟩
    · have hb : (bkS s).1 = some er := hb
      rw [hb]
      exact ⟨W, ex, hCW⟩
    · have hb : (bkS s).1 = none := hb
      have cW : CSu q W P (bkS s).2 := cW
      rw [hb]
      have hwb : WFu (bkS s).2 := bsF_wf hw
      obtain ⟨T3, e3, f3, g3⟩ := hCW.push h1
      have cW3 : CSu q T3 P (bkS s).2 := CS.same cW hwb.1.1.2.2.2.1 (fun a ha hb => f3 a (by omega)) rfl
      obtain ⟨T4, e4, f4, c4⟩ := c_stCopy (o := o) (q := q) ho hq (by omega) (g3.1.1 _ ho) cW3 hwb.1.1.2.1 hwb.1.1.2.2.2.1
      have hn4 : T4 360 2 = nI (txC s).2.1 := by rw [f4 360 (by omega), f3 360 (by decide), fW 360 (by decide)]; exact hn
      refine ⟨T4, ?_, ?_⟩
      · have ex : X 93 32 [.ref 0, .int (-5), .int 0, .long 0] [] (H T2 P) = X 93 143 [.ref 0, .int (-5), v2, v3'] [] (H W P) := ex
        rw [ex, x93_143]
        simp +decide only [x93_0, x93_0N, x93_1, x93_4, x93_7, x93_8, x93_9, x93_11, x93_14, x93_16, x93_17, x93_18, x93_19, x93_19N, x93_20, x93_23, x93_23N, x93_24, x93_27, x93_30, x93_31, x93_33, x93_33N, x93_34, x93_37, x93_40, x93_43, x93_43N, x93_44, x93_47, x93_47N, x93_48, x93_51, x93_54, x93_55, x93_56, x93_56N, x93_57, x93_60, x93_63, x93_64, x93_65, x93_65N, x93_66, x93_69, x93_72, x93_73, x93_74, x93_74N, x93_75, x93_78, x93_81, x93_82, x93_83, x93_86, x93_87, x93_88, x93_91, x93_92, x93_93, x93_93N, x93_94, x93_97, x93_97N, x93_98, x93_101, x93_104, x93_105, x93_106, x93_106N, x93_107, x93_110, x93_113, x93_114, x93_115, x93_115N, x93_116, x93_119, x93_122, x93_123, x93_124, x93_124N, x93_125, x93_128, x93_131, x93_132, x93_133, x93_136, x93_137, x93_140, x93_144, x93_147, x93_147N, x93_148, x93_151, x93_154, x93_154N, x93_155, x93_158, x93_158N, x93_159, x93_162, x93_165, x93_165N, x93_166, x93_169, x93_172, aft_some, aft_void, Option.bind_some, Option.toList_some, Option.toList_none, List.cons_append, List.nil_append, if_true, if_false, ↓reduceIte, eq_self, z0_o, ↓z0_0, ↓z0_1, ↓z0_2, ↓z0_3, ↓z0_4, ↓z0_5, ↓z0_5p0, ↓z0_5p1, z360_o, ↓z360_0, ↓z360_1, ↓z360_1p, ↓z360_2, ↓z360_2p, ↓z360_3, ↓z360_4, ↓z360_5, ↓z360_6, ↓z360_7, ↓z360_7p, ↓z360_8, ↓z360_8p, ↓z361_g, ↓z361_s, ↓z362_g, ↓z362_s, ↓z363_g, ↓z363_s, ↓z364_g, ↓z364_s, ↓z365_g, ↓z365_s, z154_o, ↓z154_0, ↓z154_1, ↓z154_1p, ↓z154_2, ↓z154_2p, ↓z155_g, ↓z0n h1, ↓z0t hq1, f0_o hq, ↓f0_0 hq, ↓f0_0p hq, ↓f0_1 hq, ↓f0_1p hq, ↓f0_2 hq, ↓f0_2p hq, ↓f0_3 hq, ↓f0_3p hq, ↓f0_4 hq, ↓f0_5 hq, ↓f0_6 hq, ↓f0_7 hq, ↓f0_8 hq, ↓f0_9 hq, ↓f0_10 hq, ↓f0_11 hq, ↓f1_g hq, ↓f1_s hq, ↓f2_g hq, ↓f2_s hq, f0_o ho, ↓f0_0 ho, ↓f0_0p ho, ↓f0_1 ho, ↓f0_1p ho, ↓f0_2 ho, ↓f0_2p ho, ↓f0_3 ho, ↓f0_3p ho, ↓f0_4 ho, ↓f0_5 ho, ↓f0_6 ho, ↓f0_7 ho, ↓f0_8 ho, ↓f0_9 ho, ↓f0_10 ho, ↓f0_11 ho, ↓f1_g ho, ↓f1_s ho, ↓f2_g ho, ↓f2_s ho, ↓aft_of (e3), ↓aft_of (e4), hn4]
      · subst h1
        exact g3.now c4 hwb (fun a ha => f4 a (by omega)) (fun _ _ => rfl)
  · rw [if_neg c1]
    refine ⟨T1, ?_, hC1⟩
    simp +decide only [x93_0, x93_0N, x93_1, x93_4, x93_7, x93_8, x93_9, x93_11, x93_14, x93_16, x93_17, x93_18, x93_19, x93_19N, x93_20, x93_23, x93_23N, x93_24, x93_27, x93_30, x93_31, x93_33, x93_33N, x93_34, x93_37, x93_40, x93_43, x93_43N, x93_44, x93_47, x93_47N, x93_48, x93_51, x93_54, x93_55, x93_56, x93_56N, x93_57, x93_60, x93_63, x93_64, x93_65, x93_65N, x93_66, x93_69, x93_72, x93_73, x93_74, x93_74N, x93_75, x93_78, x93_81, x93_82, x93_83, x93_86, x93_87, x93_88, x93_91, x93_92, x93_93, x93_93N, x93_94, x93_97, x93_97N, x93_98, x93_101, x93_104, x93_105, x93_106, x93_106N, x93_107, x93_110, x93_113, x93_114, x93_115, x93_115N, x93_116, x93_119, x93_122, x93_123, x93_124, x93_124N, x93_125, x93_128, x93_131, x93_132, x93_133, x93_136, x93_137, x93_140, x93_144, x93_147, x93_147N, x93_148, x93_151, x93_154, x93_154N, x93_155, x93_158, x93_158N, x93_159, x93_162, x93_165, x93_165N, x93_166, x93_169, x93_172, aft_some, aft_void, Option.bind_some, Option.toList_some, Option.toList_none, List.cons_append, List.nil_append, if_true, if_false, ↓reduceIte, eq_self, z0_o, ↓z0_0, ↓z0_1, ↓z0_2, ↓z0_3, ↓z0_4, ↓z0_5, ↓z0_5p0, ↓z0_5p1, z360_o, ↓z360_0, ↓z360_1, ↓z360_1p, ↓z360_2, ↓z360_2p, ↓z360_3, ↓z360_4, ↓z360_5, ↓z360_6, ↓z360_7, ↓z360_7p, ↓z360_8, ↓z360_8p, ↓z361_g, ↓z361_s, ↓z362_g, ↓z362_s, ↓z363_g, ↓z363_s, ↓z364_g, ↓z364_s, ↓z365_g, ↓z365_s, ↓aft_of (e1), c1]
end BKT
