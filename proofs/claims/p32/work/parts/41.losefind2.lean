/-! lose and find -/
abbrev loU (u : uT) (i k : Nat) (x : Int32) : uT := ((upA (upA u.1.1 3 (u.1.1 3 + 1)) 4 (min (u.1.1 4 + 1) 10), upA (upA u.1.2.1 46 (fun j => if j < u.1.1 3 then u.1.2.1 46 j else nI k)) 47 (fun j => if j < u.1.1 3 then u.1.2.1 47 j else dgI (gK u.2 i 0 3) k), u.1.2.2.1, wrB u.1.2.2.2 3 (u.1.2.1 0 0) x (nI k)), u.2.set i (up1 (gK u.2 i) 3 k (gK u.2 i 3 k + 1)))
noncomputable def gLose (x k : Int32) (s : gT) : Int32 × gT := match wnK x s.1.2 with
  | none => (-1, s)
  | some i => if inI k 0 3 = 0 then (-1, s) else if s.1.1.1 3 < 20 then (if 0 < opK (gK s.1.2 i) k.toNatClampNeg then (nI (s.1.1.1 3 + 1), loU s.1 i k.toNatClampNeg x, s.2.1, psL s, s.2.2.2) else (-5, s)) else (-3, s)
abbrev fiU (u : uT) (i p k : Nat) (x : Int32) : uT := ((upA (upA u.1.1 3 (u.1.1 3 - 1)) 4 (min (u.1.1 4 + 1) 10), upA (upA u.1.2.1 46 (fun j => if j < p then u.1.2.1 46 j else u.1.2.1 46 (j + 1))) 47 (fun j => if j < p then u.1.2.1 47 j else u.1.2.1 47 (j + 1)), u.1.2.2.1, wrB u.1.2.2.2 4 (u.1.2.1 0 0) x (nI k)), u.2.set i (up1 (gK u.2 i) 3 k (gK u.2 i 3 k - 1)))
noncomputable def gFind (p x : Int32) (s : gT) : Int32 × gT := match wnK x s.1.2 with
  | none => (-1, s)
  | some i => @ite _ (hsI (s.1.1.1 3) p) (Classical.propDecidable _) (if 0 < gK s.1.2 i 3 (s.1.1.2.1 46 p.toNatClampNeg).toNatClampNeg ∧ dgI (gK s.1.2 i 0 3) (s.1.1.2.1 46 p.toNatClampNeg).toNatClampNeg = s.1.1.2.1 47 p.toNatClampNeg then (nI (s.1.1.1 3 - 1), fiU s.1 i p.toNatClampNeg (s.1.1.2.1 46 p.toNatClampNeg).toNatClampNeg x, s.2.1, psL s, s.2.2.2) else (-4, s)) (-1, s)
section LF2
variable {T U EE : Nat → Nat → Int32} {P Q : Nat → Nat → Nat} {o q : Nat} {s : gT} {u : uT} {N M : Nat → Nat} {V W : Nat → Nat → Int32} {K : List kT} {B : List bT} {R R' : Nat → Nat → Int32} {x v : Int32}
theorem WF_lose {u : uT} (hw : WFu u) {i k : Nat} (hi : i < u.2.length) (hk : k < 4) (h3 : u.1.1 3 < 20) (hop : 0 < opK (gK u.2 i) k) : WFu (loU u i k x) := by
  obtain ⟨hw, hd⟩ := hw
  obtain ⟨xx, y, z, x1, x2, x3, x4, x5⟩ := (hw.2.2.2.1 i _ (gK_at hi)).2.2.2.2 k hk
  have hsub : y + z < xx := by
    unfold opK at hop
    rw [x3, x4, x5, nI_sub (by omega), nI_sub (by omega), nI_posn (by omega)] at hop
    omega
  have e : gK u.2 i 3 k + 1 = nI (z + 1) := by rw [x5]; exact nI_add z 1
  have w1 := hw.setK (i := i) (k := k) (z' := z + 1) hi hk (fun a b c d1 d2 d3 d4 d5 => by
    rw [x3] at d3; rw [x4] at d4
    have g1 := (nI_eq (by omega) (by omega)).mp d3
    have g2 := (nI_eq (by omega) (by omega)).mp d4
    omega)
  rw [← e] at w1
  refine ⟨w1.lost ?_ ?_ ?_ ?_ ?_ ?_ ?_ ?_ ?_ ?_, ?_⟩
  · simp +decide only [u_n]
  · simp +decide only [u_n]
  · simp +decide only [u_n]
  · simp +decide only [u_n]
  · simp +decide only [u_n]
  · simp +decide only [u_n]
  · simp +decide only [u_n]
  · simp +decide only [u_n, upA_s]; omega
  · simp +decide only [u_n, upA_s]; omega
  · simp +decide only [u_n, upA_s]
    intro j hj
    by_cases c : j < u.1.1 3
    · rw [if_pos c]; exact hw.2.2.2.2.2.2.1 j c
    · rw [if_neg c]; exact ⟨k, hk, rfl⟩
  · simp +decide only [u_n]; exact hd
theorem g_lose (h1 : o = 1) (h : CG EE T P s) (x k : Int32) : ∃ T', X 94 0 [.ref 0, .int x, .int k, .long 0] [] (H T P) = some (some (.int (gLose x k s).1), H T' P) ∧ CG EE T' P (gLose x k s).2 := by
  have ho : isB o := by subst h1; exact isB_1
  have hc : CSu o T P s.1 := by subst h1; exact h.2.1.1
  have hw := h.2.1.2.1
  have h8 := hw.1.2.2.2.1
  unfold gLose
  rcases s_wn (x := x) ho hc h8 with ⟨i, e, hi, ei, ew⟩ | ⟨e, ew⟩
  · rw [e]
    obtain ⟨r, hr⟩ : ∃ r, r = (if inI k 0 3 = 0 then (-1, s) else if s.1.1.1 3 < 20 then (if 0 < opK (gK s.1.2 i) k.toNatClampNeg then (nI (s.1.1.1 3 + 1), loU s.1 i k.toNatClampNeg x, s.2.1, psL s, s.2.2.2) else (-5, s)) else (-3, s) : Int32 × gT) := ⟨_, rfl⟩
    show ∃ T', X 94 0 [.ref 0, .int x, .int k, .long 0] [] (H T P) = some (some (.int (if inI k 0 3 = 0 then (-1, s) else if s.1.1.1 3 < 20 then (if 0 < opK (gK s.1.2 i) k.toNatClampNeg then (nI (s.1.1.1 3 + 1), loU s.1 i k.toNatClampNeg x, s.2.1, psL s, s.2.2.2) else (-5, s)) else (-3, s) : Int32 × gT).1), H T' P) ∧ CG EE T' P (if inI k 0 3 = 0 then (-1, s) else if s.1.1.1 3 < 20 then (if 0 < opK (gK s.1.2 i) k.toNatClampNeg then (nI (s.1.1.1 3 + 1), loU s.1 i k.toNatClampNeg x, s.2.1, psL s, s.2.2.2) else (-5, s)) else (-3, s) : Int32 × gT).2
    rw [← hr]
    have hk8 := hc.pk.k ho (show i < 8 by omega)
    by_cases c1 : inI k 0 3 = 0
    · rw [if_pos c1] at hr
      subst hr
      refine ⟨T, ?_, h⟩
      simp +decide only [x94_0, x94_1, x94_4, x94_7, x94_8, x94_11, x94_11N, x94_12, x94_12N, x94_13, x94_13N, x94_16, x94_17, x94_18, x94_19, x94_22, x94_25, x94_26, x94_27, x94_28, x94_31, x94_34, x94_37, x94_39, x94_42, x94_44, x94_45, x94_45N, x94_46, x94_47, x94_50, x94_53, x94_55, x94_56, x94_57, x94_60, x94_61, x94_64, x94_67, x94_67N, x94_68, x94_71, x94_72, x94_73, x94_74, x94_75, x94_76, x94_77, x94_78, x94_81, x94_84, x94_85, x94_85N, x94_86, x94_87, x94_90, x94_93, x94_94, x94_97, x94_100, x94_101, x94_102, x94_105, x94_108, x94_109, x94_110, x94_113, x94_114, x94_117, x94_120, x94_123, aft_some, aft_void, Option.bind_some, Option.toList_some, Option.toList_none, List.cons_append, List.nil_append, if_true, if_false, ↓reduceIte, eq_self, z0_o, ↓z0_0, ↓z0_1, ↓z0_2, ↓z0_3, ↓z0_4, ↓z0_5, ↓z0_5p0, ↓z0_5p1, ↓z0n h1, f0_o ho, ↓f0_0 ho, ↓f0_0p ho, ↓f0_1 ho, ↓f0_1p ho, ↓f0_2 ho, ↓f0_2p ho, ↓f0_3 ho, ↓f0_3p ho, ↓f0_4 ho, ↓f0_5 ho, ↓f0_6 ho, ↓f0_7 ho, ↓f0_8 ho, ↓f0_9 ho, ↓f0_10 ho, ↓f0_11 ho, ↓f1_g ho, ↓f1_s ho, ↓f2_g ho, ↓f2_s ho, f7_o ho, ↓f7_0 ho, ↓f7_1 ho, ↓f7_1p ho, ↓f7_2 ho, ↓f7_2p ho, ↓f8_g ho, ↓aft_of (ew), ↓aft_of (c_within), c1]
    rw [if_neg c1] at hr
    obtain ⟨j, hj, rfl⟩ := inI_ex (n := 3) (by decide) c1
    have cl := nI_clamp (show j < 2 ^ 31 by omega)
    rw [cl] at hr
    have hn := hc.2.2.2.2.1.1
    have hN3 := hw.1.2.2.2.2.1
    have h20 : (nI (s.1.1.1 3) < 20) = (s.1.1.1 3 < 20) := nI_ltp (a := s.1.1.1 3) (b := 20) (by omega) (by decide)
    by_cases c2 : s.1.1.1 3 < 20
    · rw [if_pos c2] at hr
      have eo := c_open (T := T) (P := P) hk8 j (by omega)
      rw [(hc.at hi).op (by omega)] at eo
      by_cases c3 : 0 < opK (gK s.1.2 i) j
      · rw [if_pos c3] at hr
        subst hr
        obtain ⟨T1, e1, f1, g1⟩ := h.push h1
        have hc1 : CSu o T1 P s.1 := by subst h1; exact g1.2.1.1
        obtain ⟨b, hb⟩ : ∃ b, b = P (o + 8) i := ⟨_, rfl⟩
        have hrg := hc.pk.rg (show i < 8 by omega)
        have c4 := CS.setK (v := gK s.1.2 i 3 j + 1) (k := j) hc1 h8 hi
        have hbi := hc1.at hi
        rw [← hb] at hk8 c4 hbi hrg eo ew
        obtain ⟨U, hU⟩ : ∃ U, U = up1 T1 (b + 3) j (gK s.1.2 i 3 j + 1) := ⟨_, rfl⟩
        rw [← hU] at c4
        have ed := c_degree (T := U) (P := P) hk8 j (by omega)
        have hUb : U b 3 = gK s.1.2 i 0 3 := by
          rw [hU]
          simp only [upA_n _ _ (show b ≠ b + 3 by omega)]
          exact hbi.1 3 (by decide)
        rw [hUb] at ed
        obtain ⟨T3, e3, f3, l3⟩ := c_lappend (P := P) (x := nI j) (y := dgI (gK s.1.2 i 0 3) j) ho c4.2.2.2.2.1 c2
        have c5 := c4.lost (by rw [List.length_set]; exact h8) f3 l3
        have hn4 : upA s.1.1.1 3 (s.1.1.1 3 + 1) 4 = s.1.1.1 4 := upA_n _ _ (by decide)
        have hJ := c5.2.2.2.2.2.2
        rw [hn4] at hJ
        obtain ⟨T4, e4, f4, j4⟩ := c_write (P := P) (e := 3) (d := s.1.1.2.1 0 0) (x := x) (y := nI j) ho hJ
        have c6 := c5.book (by rw [List.length_set]; exact h8) f4 j4
        have hrow : T1 (b + 3) j = gK s.1.2 i 3 j := (hbi.2 j (by omega)).2.2
        have hday : T3 o 0 = s.1.1.2.1 0 0 := by
          rw [f3 o (by omega) (by omega) (by omega), hU]
          simp only [upA_n _ _ (show o ≠ b + 3 by omega)]
          exact hc1.1.1 0 (by decide)
        have hlast : T4 (o + 45) 2 = nI (s.1.1.1 3 + 1) := by
          rw [f4 (o + 45) (by omega) (by omega)]; exact l3.1
        refine ⟨T4, ?_, ?_⟩
        · rw [hU] at e3 ed
          simp +decide only [x94_0, x94_1, x94_4, x94_7, x94_8, x94_11, x94_11N, x94_12, x94_12N, x94_13, x94_13N, x94_16, x94_17, x94_18, x94_19, x94_22, x94_25, x94_26, x94_27, x94_28, x94_31, x94_34, x94_37, x94_39, x94_42, x94_44, x94_45, x94_45N, x94_46, x94_47, x94_50, x94_53, x94_55, x94_56, x94_57, x94_60, x94_61, x94_64, x94_67, x94_67N, x94_68, x94_71, x94_72, x94_73, x94_74, x94_75, x94_76, x94_77, x94_78, x94_81, x94_84, x94_85, x94_85N, x94_86, x94_87, x94_90, x94_93, x94_94, x94_97, x94_100, x94_101, x94_102, x94_105, x94_108, x94_109, x94_110, x94_113, x94_114, x94_117, x94_120, x94_123, aft_some, aft_void, Option.bind_some, Option.toList_some, Option.toList_none, List.cons_append, List.nil_append, if_true, if_false, ↓reduceIte, eq_self, z0_o, ↓z0_0, ↓z0_1, ↓z0_2, ↓z0_3, ↓z0_4, ↓z0_5, ↓z0_5p0, ↓z0_5p1, ↓z0n h1, f0_o ho, ↓f0_0 ho, ↓f0_0p ho, ↓f0_1 ho, ↓f0_1p ho, ↓f0_2 ho, ↓f0_2p ho, ↓f0_3 ho, ↓f0_3p ho, ↓f0_4 ho, ↓f0_5 ho, ↓f0_6 ho, ↓f0_7 ho, ↓f0_8 ho, ↓f0_9 ho, ↓f0_10 ho, ↓f0_11 ho, ↓f1_g ho, ↓f1_s ho, ↓f2_g ho, ↓f2_s ho, f7_o ho, ↓f7_0 ho, ↓f7_1 ho, ↓f7_1p ho, ↓f7_2 ho, ↓f7_2p ho, ↓f8_g ho, f45_o ho, ↓f45_0 ho, ↓f45_1 ho, ↓f45_2 ho, ↓f45_2p ho, ↓f46_g ho, ↓f46_s ho, ↓f47_g ho, ↓f47_s ho, f49_o ho, ↓f49_0 ho, ↓f49_1 ho, ↓f49_1p ho, ↓f49_2 ho, ↓f49_2p ho, ↓f50_g ho, ↓f50_s ho, fK_o hk8, ↓fK_0 hk8, ↓fK_0p hk8, ↓fK_1 hk8, ↓fK_1p hk8, ↓fK_2 hk8, ↓fK_2p hk8, ↓fK_3 hk8, ↓fK_3p hk8, ↓fK_4 hk8, ↓fK_4p hk8, ↓fK_5 hk8, ↓fK_6 hk8, ↓fK_7 hk8, ↓fK1_g hk8, ↓fK1_s hk8, ↓fK2_g hk8, ↓fK2_s hk8, ↓fK3_g hk8, ↓fK3_s hk8, fK_o hk8, z154_o, ↓z154_0, ↓z154_1, ↓z154_1p, ↓z154_2, ↓z154_2p, ↓z155_g, ↓aft_of (ew), ↓aft_of (c_within), c1, hn, h20, c2, ↓aft_of (eo), c3, ↓aft_of (e1), cl, okx_nI (show j < 4 by omega) (show (4 : Nat) < 2 ^ 31 by decide), hrow, ↓aft_of (ed), ↓aft_of (e3), ↓aft_of (e4), hday, hlast]
        · subst h1
          refine g1.now c6 (WF_lose h.2.1.2 hi (by omega) c2 c3) (fun a ha => ?_) (fun _ _ => rfl)
          rw [f4 a (by omega) (by omega), f3 a (by omega) (by omega) (by omega), hU]
          exact upA_n _ _ (by omega)
      · rw [if_neg c3] at hr
        subst hr
        refine ⟨T, ?_, h⟩
        simp +decide only [x94_0, x94_1, x94_4, x94_7, x94_8, x94_11, x94_11N, x94_12, x94_12N, x94_13, x94_13N, x94_16, x94_17, x94_18, x94_19, x94_22, x94_25, x94_26, x94_27, x94_28, x94_31, x94_34, x94_37, x94_39, x94_42, x94_44, x94_45, x94_45N, x94_46, x94_47, x94_50, x94_53, x94_55, x94_56, x94_57, x94_60, x94_61, x94_64, x94_67, x94_67N, x94_68, x94_71, x94_72, x94_73, x94_74, x94_75, x94_76, x94_77, x94_78, x94_81, x94_84, x94_85, x94_85N, x94_86, x94_87, x94_90, x94_93, x94_94, x94_97, x94_100, x94_101, x94_102, x94_105, x94_108, x94_109, x94_110, x94_113, x94_114, x94_117, x94_120, x94_123, aft_some, aft_void, Option.bind_some, Option.toList_some, Option.toList_none, List.cons_append, List.nil_append, if_true, if_false, ↓reduceIte, eq_self, z0_o, ↓z0_0, ↓z0_1, ↓z0_2, ↓z0_3, ↓z0_4, ↓z0_5, ↓z0_5p0, ↓z0_5p1, ↓z0n h1, f0_o ho, ↓f0_0 ho, ↓f0_0p ho, ↓f0_1 ho, ↓f0_1p ho, ↓f0_2 ho, ↓f0_2p ho, ↓f0_3 ho, ↓f0_3p ho, ↓f0_4 ho, ↓f0_5 ho, ↓f0_6 ho, ↓f0_7 ho, ↓f0_8 ho, ↓f0_9 ho, ↓f0_10 ho, ↓f0_11 ho, ↓f1_g ho, ↓f1_s ho, ↓f2_g ho, ↓f2_s ho, f7_o ho, ↓f7_0 ho, ↓f7_1 ho, ↓f7_1p ho, ↓f7_2 ho, ↓f7_2p ho, ↓f8_g ho, f45_o ho, ↓f45_0 ho, ↓f45_1 ho, ↓f45_2 ho, ↓f45_2p ho, ↓f46_g ho, ↓f46_s ho, ↓f47_g ho, ↓f47_s ho, fK_o hk8, ↓aft_of (ew), ↓aft_of (c_within), c1, hn, h20, c2, ↓aft_of (eo), c3]
    · rw [if_neg c2] at hr
      subst hr
      refine ⟨T, ?_, h⟩
      simp +decide only [x94_0, x94_1, x94_4, x94_7, x94_8, x94_11, x94_11N, x94_12, x94_12N, x94_13, x94_13N, x94_16, x94_17, x94_18, x94_19, x94_22, x94_25, x94_26, x94_27, x94_28, x94_31, x94_34, x94_37, x94_39, x94_42, x94_44, x94_45, x94_45N, x94_46, x94_47, x94_50, x94_53, x94_55, x94_56, x94_57, x94_60, x94_61, x94_64, x94_67, x94_67N, x94_68, x94_71, x94_72, x94_73, x94_74, x94_75, x94_76, x94_77, x94_78, x94_81, x94_84, x94_85, x94_85N, x94_86, x94_87, x94_90, x94_93, x94_94, x94_97, x94_100, x94_101, x94_102, x94_105, x94_108, x94_109, x94_110, x94_113, x94_114, x94_117, x94_120, x94_123, aft_some, aft_void, Option.bind_some, Option.toList_some, Option.toList_none, List.cons_append, List.nil_append, if_true, if_false, ↓reduceIte, eq_self, z0_o, ↓z0_0, ↓z0_1, ↓z0_2, ↓z0_3, ↓z0_4, ↓z0_5, ↓z0_5p0, ↓z0_5p1, ↓z0n h1, f0_o ho, ↓f0_0 ho, ↓f0_0p ho, ↓f0_1 ho, ↓f0_1p ho, ↓f0_2 ho, ↓f0_2p ho, ↓f0_3 ho, ↓f0_3p ho, ↓f0_4 ho, ↓f0_5 ho, ↓f0_6 ho, ↓f0_7 ho, ↓f0_8 ho, ↓f0_9 ho, ↓f0_10 ho, ↓f0_11 ho, ↓f1_g ho, ↓f1_s ho, ↓f2_g ho, ↓f2_s ho, f7_o ho, ↓f7_0 ho, ↓f7_1 ho, ↓f7_1p ho, ↓f7_2 ho, ↓f7_2p ho, ↓f8_g ho, f45_o ho, ↓f45_0 ho, ↓f45_1 ho, ↓f45_2 ho, ↓f45_2p ho, ↓f46_g ho, ↓f46_s ho, ↓f47_g ho, ↓f47_s ho, ↓aft_of (ew), ↓aft_of (c_within), c1, hn, h20, c2]
  · rw [e]
    refine ⟨T, ?_, h⟩
    simp +decide only [x94_0, x94_1, x94_4, x94_7, x94_8, x94_11, x94_11N, x94_12, x94_12N, x94_13, x94_13N, x94_16, x94_17, x94_18, x94_19, x94_22, x94_25, x94_26, x94_27, x94_28, x94_31, x94_34, x94_37, x94_39, x94_42, x94_44, x94_45, x94_45N, x94_46, x94_47, x94_50, x94_53, x94_55, x94_56, x94_57, x94_60, x94_61, x94_64, x94_67, x94_67N, x94_68, x94_71, x94_72, x94_73, x94_74, x94_75, x94_76, x94_77, x94_78, x94_81, x94_84, x94_85, x94_85N, x94_86, x94_87, x94_90, x94_93, x94_94, x94_97, x94_100, x94_101, x94_102, x94_105, x94_108, x94_109, x94_110, x94_113, x94_114, x94_117, x94_120, x94_123, aft_some, aft_void, Option.bind_some, Option.toList_some, Option.toList_none, List.cons_append, List.nil_append, if_true, if_false, ↓reduceIte, eq_self, z0_o, ↓z0_0, ↓z0_1, ↓z0_2, ↓z0_3, ↓z0_4, ↓z0_5, ↓z0_5p0, ↓z0_5p1, ↓z0n h1, f0_o ho, ↓f0_0 ho, ↓f0_0p ho, ↓f0_1 ho, ↓f0_1p ho, ↓f0_2 ho, ↓f0_2p ho, ↓f0_3 ho, ↓f0_3p ho, ↓f0_4 ho, ↓f0_5 ho, ↓f0_6 ho, ↓f0_7 ho, ↓f0_8 ho, ↓f0_9 ho, ↓f0_10 ho, ↓f0_11 ho, ↓f1_g ho, ↓f1_s ho, ↓f2_g ho, ↓f2_s ho, f7_o ho, ↓f7_0 ho, ↓f7_1 ho, ↓f7_1p ho, ↓f7_2 ho, ↓f7_2p ho, ↓f8_g ho, ↓aft_of (ew)]
end LF2
