/-! find -/
section FI
variable {T U EE : Nat → Nat → Int32} {P Q : Nat → Nat → Nat} {o q : Nat} {s : gT} {u : uT} {x v : Int32}
theorem WF_find {u : uT} (hw : WFu u) {i k p : Nat} (hi : i < u.2.length) (hk : k < 4) (hp : p < u.1.1 3) (hop : 0 < gK u.2 i 3 k) : WFu (fiU u i p k x) := by
  obtain ⟨hw, hd⟩ := hw
  have hN3 := hw.1.2.2.2.2.1
  obtain ⟨xx, y, z, x1, x2, x3, x4, x5⟩ := (hw.2.2.2.1 i _ (gK_at hi)).2.2.2.2 k hk
  have hz : 0 < z := by
    rw [x5, nI_posn (by omega)] at hop
    exact hop
  have e : gK u.2 i 3 k - 1 = nI (z - 1) := by rw [x5]; exact nI_sub (a := z) (b := 1) (by omega)
  have w1 := hw.setK (i := i) (k := k) (z' := z - 1) hi hk (fun a b c d1 d2 d3 d4 d5 => by
    rw [x5] at d5
    have g1 := (nI_eq (by omega) (by omega)).mp d5
    omega)
  rw [← e] at w1
  refine ⟨w1.lost ?_ ?_ ?_ ?_ ?_ ?_ ?_ ?_ ?_ ?_, ?_⟩
  · simp +decide only [u_n]
  · simp +decide only [u_n]
  · simp +decide only [u_n]
  · simp +decide only [u_n]
  · simp +decide only [u_n]
  · simp +decide only [u_n]
  · simp +decide only [u_n]
  · simp +decide only [u_n, upA_s]; omega
  · simp +decide only [u_n, upA_s]; omega
  · simp +decide only [u_n, upA_s]
    intro j hj
    by_cases c : j < p
    · rw [if_pos c]; exact hw.2.2.2.2.2.2.1 j (by omega)
    · rw [if_neg c]; exact hw.2.2.2.2.2.2.1 (j + 1) (by omega)
  · simp +decide only [u_n]; exact hd
theorem g_find (h1 : o = 1) (h : CG EE T P s) (p x : Int32) : ∃ T', X 95 0 [.ref 0, .int p, .int x, .long 0, .long 0] [] (H T P) = some (some (.int (gFind p x s).1), H T' P) ∧ CG EE T' P (gFind p x s).2 := by
  have ho : isB o := by subst h1; exact isB_1
  have hc : CSu o T P s.1 := by subst h1; exact h.2.1.1
  have hw := h.2.1.2.1
  have h8 := hw.1.2.2.2.1
  have hN3 := hw.1.2.2.2.2.1
  have hn := hc.2.2.2.2.1.1
  have eh := c_lhasN (P := P) (c := p) ho hn
  by_cases ch : hsI (s.1.1.1 3) p
  · rw [if_pos ch] at eh
    rcases s_wn (x := x) ho hc h8 with ⟨i, e, hi, ei, ew⟩ | ⟨e, ew⟩
    · obtain ⟨r, hr⟩ : ∃ r, r = gFind p x s := ⟨_, rfl⟩
      rw [← hr]
      unfold gFind at hr
      rw [e] at hr
      have hr : r = @ite _ (hsI (s.1.1.1 3) p) (Classical.propDecidable _) (if 0 < gK s.1.2 i 3 (s.1.1.2.1 46 p.toNatClampNeg).toNatClampNeg ∧ dgI (gK s.1.2 i 0 3) (s.1.1.2.1 46 p.toNatClampNeg).toNatClampNeg = s.1.1.2.1 47 p.toNatClampNeg then (nI (s.1.1.1 3 - 1), fiU s.1 i p.toNatClampNeg (s.1.1.2.1 46 p.toNatClampNeg).toNatClampNeg x, s.2.1, psL s, s.2.2.2) else (-4, s)) (-1, s) := hr
      rw [if_pos ch] at hr
      have hk8 := hc.pk.k ho (show i < 8 by omega)
      obtain ⟨j, hj, rfl⟩ := nI_ex ch.1 (by omega) ch.2
      have cl := nI_clamp (show j < 2 ^ 31 by omega)
      have ok := okx_nI (show j < 20 by omega) (show (20 : Nat) < 2 ^ 31 by decide)
      obtain ⟨k, hk, ek⟩ := hw.2.2.2.2.2.2.1 j hj
      have hrr := hc.2.2.2.2.1.2.2 j hj
      have clk := nI_clamp (show k < 2 ^ 31 by omega)
      rw [cl, ek, clk] at hr
      rw [ek] at hrr
      have em := c_misses (T := T) (P := P) hk8 k hk (s.1.1.2.1 47 j)
      have hbi := hc.at hi
      rw [(hbi.2 k hk).2.2, hbi.1 3 (by decide)] at em
      by_cases c3 : 0 < gK s.1.2 i 3 k ∧ dgI (gK s.1.2 i 0 3) k = s.1.1.2.1 47 j
      · rw [if_pos c3] at hr em
        subst hr
        obtain ⟨T1, e1, f1, g1⟩ := h.push h1
        have hc1 : CSu o T1 P s.1 := by subst h1; exact g1.2.1.1
        obtain ⟨b, hb⟩ : ∃ b, b = P (o + 8) i := ⟨_, rfl⟩
        have hrg := hc.pk.rg (show i < 8 by omega)
        have c4 := CS.setK (v := gK s.1.2 i 3 k - 1) (k := k) hc1 h8 hi
        have hbi := hc1.at hi
        rw [← hb] at hk8 c4 hbi hrg em ew
        obtain ⟨U, hU⟩ : ∃ U, U = up1 T1 (b + 3) k (gK s.1.2 i 3 k - 1) := ⟨_, rfl⟩
        rw [← hU] at c4
        obtain ⟨T3, e3, f3, l3⟩ := c_lremove (P := P) ho c4.2.2.2.2.1 hj
        have c5 := c4.lost (by rw [List.length_set]; exact h8) f3 l3
        have hn4 : upA s.1.1.1 3 (s.1.1.1 3 - 1) 4 = s.1.1.1 4 := upA_n _ _ (by decide)
        have hJ := c5.2.2.2.2.2.2
        rw [hn4] at hJ
        obtain ⟨T4, e4, f4, j4⟩ := c_write (P := P) (e := 4) (d := s.1.1.2.1 0 0) (x := x) (y := nI k) ho hJ
        have c6 := c5.book (by rw [List.length_set]; exact h8) f4 j4
        have hrow : T1 (b + 3) k = gK s.1.2 i 3 k := (hbi.2 k hk).2.2
        have hday : T3 o 0 = s.1.1.2.1 0 0 := by
          rw [f3 o (by omega) (by omega) (by omega), hU]
          simp only [upA_n _ _ (show o ≠ b + 3 by omega)]
          exact hc1.1.1 0 (by decide)
        have hlast : T4 (o + 45) 2 = nI (s.1.1.1 3 - 1) := by
          rw [f4 (o + 45) (by omega) (by omega)]; exact l3.1
        refine ⟨T4, ?_, ?_⟩
        · rw [hU] at e3
          simp +decide only [x95_0, x95_1, x95_4, x95_7, x95_8, x95_11, x95_11N, x95_12, x95_13, x95_16, x95_19, x95_20, x95_23, x95_26, x95_26N, x95_27, x95_27N, x95_30, x95_31, x95_32, x95_33, x95_36, x95_39, x95_42, x95_43, x95_44, x95_46, x95_46N, x95_47, x95_49, x95_50, x95_53, x95_56, x95_59, x95_60, x95_61, x95_64, x95_67, x95_69, x95_70, x95_71, x95_74, x95_75, x95_78, x95_81, x95_81N, x95_82, x95_85, x95_87, x95_88, x95_89, x95_90, x95_91, x95_92, x95_93, x95_96, x95_99, x95_100, x95_103, x95_104, x95_107, x95_110, x95_111, x95_112, x95_115, x95_118, x95_119, x95_121, x95_124, x95_125, x95_128, x95_131, x95_134, aft_some, aft_void, Option.bind_some, Option.toList_some, Option.toList_none, List.cons_append, List.nil_append, if_true, if_false, ↓reduceIte, eq_self, z0_o, ↓z0_0, ↓z0_1, ↓z0_2, ↓z0_3, ↓z0_4, ↓z0_5, ↓z0_5p0, ↓z0_5p1, ↓z0n h1, f0_o ho, ↓f0_0 ho, ↓f0_0p ho, ↓f0_1 ho, ↓f0_1p ho, ↓f0_2 ho, ↓f0_2p ho, ↓f0_3 ho, ↓f0_3p ho, ↓f0_4 ho, ↓f0_5 ho, ↓f0_6 ho, ↓f0_7 ho, ↓f0_8 ho, ↓f0_9 ho, ↓f0_10 ho, ↓f0_11 ho, ↓f1_g ho, ↓f1_s ho, ↓f2_g ho, ↓f2_s ho, f7_o ho, ↓f7_0 ho, ↓f7_1 ho, ↓f7_1p ho, ↓f7_2 ho, ↓f7_2p ho, ↓f8_g ho, f45_o ho, ↓f45_0 ho, ↓f45_1 ho, ↓f45_2 ho, ↓f45_2p ho, ↓f46_g ho, ↓f46_s ho, ↓f47_g ho, ↓f47_s ho, f49_o ho, ↓f49_0 ho, ↓f49_1 ho, ↓f49_1p ho, ↓f49_2 ho, ↓f49_2p ho, ↓f50_g ho, ↓f50_s ho, fK_o hk8, ↓fK_0 hk8, ↓fK_0p hk8, ↓fK_1 hk8, ↓fK_1p hk8, ↓fK_2 hk8, ↓fK_2p hk8, ↓fK_3 hk8, ↓fK_3p hk8, ↓fK_4 hk8, ↓fK_4p hk8, ↓fK_5 hk8, ↓fK_6 hk8, ↓fK_7 hk8, ↓fK1_g hk8, ↓fK1_s hk8, ↓fK2_g hk8, ↓fK2_s hk8, ↓fK3_g hk8, ↓fK3_s hk8, fK_o hk8, z154_o, ↓z154_0, ↓z154_1, ↓z154_1p, ↓z154_2, ↓z154_2p, ↓z155_g, ↓aft_of (ew), ↓aft_of (eh), ok, cl, hrr.1, hrr.2, ↓aft_of (em), ↓aft_of (e1), clk, okx_nI hk (show (4 : Nat) < 2 ^ 31 by decide), hrow, ↓aft_of (e3), ↓aft_of (e4), hday, hlast]
        · subst h1
          refine g1.now c6 (WF_find h.2.1.2 hi hk hj c3.1) (fun a ha => ?_) (fun _ _ => rfl)
          rw [f4 a (by omega) (by omega), f3 a (by omega) (by omega) (by omega), hU]
          exact upA_n _ _ (by omega)
      · rw [if_neg c3] at hr em
        subst hr
        refine ⟨T, ?_, h⟩
        simp +decide only [x95_0, x95_1, x95_4, x95_7, x95_8, x95_11, x95_11N, x95_12, x95_13, x95_16, x95_19, x95_20, x95_23, x95_26, x95_26N, x95_27, x95_27N, x95_30, x95_31, x95_32, x95_33, x95_36, x95_39, x95_42, x95_43, x95_44, x95_46, x95_46N, x95_47, x95_49, x95_50, x95_53, x95_56, x95_59, x95_60, x95_61, x95_64, x95_67, x95_69, x95_70, x95_71, x95_74, x95_75, x95_78, x95_81, x95_81N, x95_82, x95_85, x95_87, x95_88, x95_89, x95_90, x95_91, x95_92, x95_93, x95_96, x95_99, x95_100, x95_103, x95_104, x95_107, x95_110, x95_111, x95_112, x95_115, x95_118, x95_119, x95_121, x95_124, x95_125, x95_128, x95_131, x95_134, aft_some, aft_void, Option.bind_some, Option.toList_some, Option.toList_none, List.cons_append, List.nil_append, if_true, if_false, ↓reduceIte, eq_self, z0_o, ↓z0_0, ↓z0_1, ↓z0_2, ↓z0_3, ↓z0_4, ↓z0_5, ↓z0_5p0, ↓z0_5p1, ↓z0n h1, f0_o ho, ↓f0_0 ho, ↓f0_0p ho, ↓f0_1 ho, ↓f0_1p ho, ↓f0_2 ho, ↓f0_2p ho, ↓f0_3 ho, ↓f0_3p ho, ↓f0_4 ho, ↓f0_5 ho, ↓f0_6 ho, ↓f0_7 ho, ↓f0_8 ho, ↓f0_9 ho, ↓f0_10 ho, ↓f0_11 ho, ↓f1_g ho, ↓f1_s ho, ↓f2_g ho, ↓f2_s ho, f7_o ho, ↓f7_0 ho, ↓f7_1 ho, ↓f7_1p ho, ↓f7_2 ho, ↓f7_2p ho, ↓f8_g ho, f45_o ho, ↓f45_0 ho, ↓f45_1 ho, ↓f45_2 ho, ↓f45_2p ho, ↓f46_g ho, ↓f46_s ho, ↓f47_g ho, ↓f47_s ho, fK_o hk8, ↓fK_0 hk8, ↓fK_0p hk8, ↓fK_1 hk8, ↓fK_1p hk8, ↓fK_2 hk8, ↓fK_2p hk8, ↓fK_3 hk8, ↓fK_3p hk8, ↓fK_4 hk8, ↓fK_4p hk8, ↓fK_5 hk8, ↓fK_6 hk8, ↓fK_7 hk8, ↓fK1_g hk8, ↓fK1_s hk8, ↓fK2_g hk8, ↓fK2_s hk8, ↓fK3_g hk8, ↓fK3_s hk8, fK_o hk8, ↓aft_of (ew), ↓aft_of (eh), ok, cl, hrr.1, hrr.2, ↓aft_of (em)]
    · have hr : gFind p x s = (-1, s) := by
        unfold gFind
        rw [e]
      rw [hr]
      refine ⟨T, ?_, h⟩
      simp +decide only [x95_0, x95_1, x95_4, x95_7, x95_8, x95_11, x95_11N, x95_12, x95_13, x95_16, x95_19, x95_20, x95_23, x95_26, x95_26N, x95_27, x95_27N, x95_30, x95_31, x95_32, x95_33, x95_36, x95_39, x95_42, x95_43, x95_44, x95_46, x95_46N, x95_47, x95_49, x95_50, x95_53, x95_56, x95_59, x95_60, x95_61, x95_64, x95_67, x95_69, x95_70, x95_71, x95_74, x95_75, x95_78, x95_81, x95_81N, x95_82, x95_85, x95_87, x95_88, x95_89, x95_90, x95_91, x95_92, x95_93, x95_96, x95_99, x95_100, x95_103, x95_104, x95_107, x95_110, x95_111, x95_112, x95_115, x95_118, x95_119, x95_121, x95_124, x95_125, x95_128, x95_131, x95_134, aft_some, aft_void, Option.bind_some, Option.toList_some, Option.toList_none, List.cons_append, List.nil_append, if_true, if_false, ↓reduceIte, eq_self, z0_o, ↓z0_0, ↓z0_1, ↓z0_2, ↓z0_3, ↓z0_4, ↓z0_5, ↓z0_5p0, ↓z0_5p1, ↓z0n h1, f0_o ho, ↓f0_0 ho, ↓f0_0p ho, ↓f0_1 ho, ↓f0_1p ho, ↓f0_2 ho, ↓f0_2p ho, ↓f0_3 ho, ↓f0_3p ho, ↓f0_4 ho, ↓f0_5 ho, ↓f0_6 ho, ↓f0_7 ho, ↓f0_8 ho, ↓f0_9 ho, ↓f0_10 ho, ↓f0_11 ho, ↓f1_g ho, ↓f1_s ho, ↓f2_g ho, ↓f2_s ho, f7_o ho, ↓f7_0 ho, ↓f7_1 ho, ↓f7_1p ho, ↓f7_2 ho, ↓f7_2p ho, ↓f8_g ho, f45_o ho, ↓f45_0 ho, ↓f45_1 ho, ↓f45_2 ho, ↓f45_2p ho, ↓f46_g ho, ↓f46_s ho, ↓f47_g ho, ↓f47_s ho, ↓aft_of (ew), ↓aft_of (eh)]
  · rw [if_neg ch] at eh
    have hr : gFind p x s = (-1, s) := by
      unfold gFind
      cases wnK x s.1.2 with
      | none => rfl
      | some i =>
        show @ite _ (hsI (s.1.1.1 3) p) (Classical.propDecidable _) _ _ = _
        exact if_neg ch
    rw [hr]
    refine ⟨T, ?_, h⟩
    rcases s_wn (x := x) ho hc h8 with ⟨i, e, hi, ei, ew⟩ | ⟨e, ew⟩
    · simp +decide only [x95_0, x95_1, x95_4, x95_7, x95_8, x95_11, x95_11N, x95_12, x95_13, x95_16, x95_19, x95_20, x95_23, x95_26, x95_26N, x95_27, x95_27N, x95_30, x95_31, x95_32, x95_33, x95_36, x95_39, x95_42, x95_43, x95_44, x95_46, x95_46N, x95_47, x95_49, x95_50, x95_53, x95_56, x95_59, x95_60, x95_61, x95_64, x95_67, x95_69, x95_70, x95_71, x95_74, x95_75, x95_78, x95_81, x95_81N, x95_82, x95_85, x95_87, x95_88, x95_89, x95_90, x95_91, x95_92, x95_93, x95_96, x95_99, x95_100, x95_103, x95_104, x95_107, x95_110, x95_111, x95_112, x95_115, x95_118, x95_119, x95_121, x95_124, x95_125, x95_128, x95_131, x95_134, aft_some, aft_void, Option.bind_some, Option.toList_some, Option.toList_none, List.cons_append, List.nil_append, if_true, if_false, ↓reduceIte, eq_self, z0_o, ↓z0_0, ↓z0_1, ↓z0_2, ↓z0_3, ↓z0_4, ↓z0_5, ↓z0_5p0, ↓z0_5p1, ↓z0n h1, f0_o ho, ↓f0_0 ho, ↓f0_0p ho, ↓f0_1 ho, ↓f0_1p ho, ↓f0_2 ho, ↓f0_2p ho, ↓f0_3 ho, ↓f0_3p ho, ↓f0_4 ho, ↓f0_5 ho, ↓f0_6 ho, ↓f0_7 ho, ↓f0_8 ho, ↓f0_9 ho, ↓f0_10 ho, ↓f0_11 ho, ↓f1_g ho, ↓f1_s ho, ↓f2_g ho, ↓f2_s ho, f7_o ho, ↓f7_0 ho, ↓f7_1 ho, ↓f7_1p ho, ↓f7_2 ho, ↓f7_2p ho, ↓f8_g ho, f45_o ho, ↓f45_0 ho, ↓f45_1 ho, ↓f45_2 ho, ↓f45_2p ho, ↓f46_g ho, ↓f46_s ho, ↓f47_g ho, ↓f47_s ho, ↓aft_of (ew), ↓aft_of (eh)]
    · simp +decide only [x95_0, x95_1, x95_4, x95_7, x95_8, x95_11, x95_11N, x95_12, x95_13, x95_16, x95_19, x95_20, x95_23, x95_26, x95_26N, x95_27, x95_27N, x95_30, x95_31, x95_32, x95_33, x95_36, x95_39, x95_42, x95_43, x95_44, x95_46, x95_46N, x95_47, x95_49, x95_50, x95_53, x95_56, x95_59, x95_60, x95_61, x95_64, x95_67, x95_69, x95_70, x95_71, x95_74, x95_75, x95_78, x95_81, x95_81N, x95_82, x95_85, x95_87, x95_88, x95_89, x95_90, x95_91, x95_92, x95_93, x95_96, x95_99, x95_100, x95_103, x95_104, x95_107, x95_110, x95_111, x95_112, x95_115, x95_118, x95_119, x95_121, x95_124, x95_125, x95_128, x95_131, x95_134, aft_some, aft_void, Option.bind_some, Option.toList_some, Option.toList_none, List.cons_append, List.nil_append, if_true, if_false, ↓reduceIte, eq_self, z0_o, ↓z0_0, ↓z0_1, ↓z0_2, ↓z0_3, ↓z0_4, ↓z0_5, ↓z0_5p0, ↓z0_5p1, ↓z0n h1, f0_o ho, ↓f0_0 ho, ↓f0_0p ho, ↓f0_1 ho, ↓f0_1p ho, ↓f0_2 ho, ↓f0_2p ho, ↓f0_3 ho, ↓f0_3p ho, ↓f0_4 ho, ↓f0_5 ho, ↓f0_6 ho, ↓f0_7 ho, ↓f0_8 ho, ↓f0_9 ho, ↓f0_10 ho, ↓f0_11 ho, ↓f1_g ho, ↓f1_s ho, ↓f2_g ho, ↓f2_s ho, f7_o ho, ↓f7_0 ho, ↓f7_1 ho, ↓f7_1p ho, ↓f7_2 ho, ↓f7_2p ho, ↓f8_g ho, f45_o ho, ↓f45_0 ho, ↓f45_1 ho, ↓f45_2 ho, ↓f45_2p ho, ↓f46_g ho, ↓f46_s ho, ↓f47_g ho, ↓f47_s ho, ↓aft_of (ew), ↓aft_of (eh)]
end FI
