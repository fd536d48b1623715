section
/-! lose and find -/
abbrev loU (u : uT) (i k : Nat) (x : Int32) : uT := ((upA (upA u.1.1 3 (u.1.1 3 + 1)) 4 (min (u.1.1 4 + 1) 10), upA (upA u.1.2.1 46 (fun j => if j < u.1.1 3 then u.1.2.1 46 j else nI k)) 47 (fun j => if j < u.1.1 3 then u.1.2.1 47 j else dgI (gK u.2 i 0 3) k), u.1.2.2.1, wrB u.1.2.2.2 3 (u.1.2.1 0 0) x (nI k)), u.2.set i (up1 (gK u.2 i) 3 k (gK u.2 i 3 k + 1)))
noncomputable def gLose (x k : Int32) (s : gT) : Int32 × gT := match wnK x s.1.2 with
  | none => (-1, s)
  | some i => if inI k 0 3 = 0 then (-1, s) else if s.1.1.1 3 < 20 then (if 0 < opK (gK s.1.2 i) k.toNatClampNeg then (nI (s.1.1.1 3 + 1), loU s.1 i k.toNatClampNeg x, s.2.1, psL s, s.2.2.2) else (-5, s)) else (-3, s)
abbrev fiU (u : uT) (i p k : Nat) (x : Int32) : uT := ((upA (upA u.1.1 3 (u.1.1 3 - 1)) 4 (min (u.1.1 4 + 1) 10), upA (upA u.1.2.1 46 (fun j => if j < p then u.1.2.1 46 j else u.1.2.1 46 (j + 1))) 47 (fun j => if j < p then u.1.2.1 47 j else u.1.2.1 47 (j + 1)), u.1.2.2.1, wrB u.1.2.2.2 4 (u.1.2.1 0 0) x (nI k)), u.2.set i (up1 (gK u.2 i) 3 k (gK u.2 i 3 k - 1)))
noncomputable def gFind (p x : Int32) (s : gT) : Int32 × gT := match wnK x s.1.2 with
  | none => (-1, s)
  | some i => @ite _ (hsI (s.1.1.1 3) p) (Classical.propDecidable _) (if 0 < gK s.1.2 i 3 (s.1.1.2.1 46 p.toNatClampNeg).toNatClampNeg ∧ dgI (gK s.1.2 i 0 3) (s.1.1.2.1 46 p.toNatClampNeg).toNatClampNeg = s.1.1.2.1 47 p.toNatClampNeg then (nI (s.1.1.1 3 - 1), fiU s.1 i p.toNatClampNeg (s.1.1.2.1 46 p.toNatClampNeg).toNatClampNeg x, s.2.1, psL s, s.2.2.2) else (-4, s)) (-1, s)
section LF2
variable {T U EE : Nat → Nat → Int32} {P Q : Nat → Nat → Nat} {o q : Nat} {s : gT} {u : uT} {N M : Nat → Nat} {V W : Nat → Nat → Int32} {K : List kT} {B : List bT} {R R' : Nat → Nat → Int32} {x v : Int32}
theorem WF_lose {u : uT} (hw : WFu u) {i k : Nat} (hi : i < u.2.length) (hk : k < 4) (h3 : u.1.1 3 < 20) (hop : 0 < opK (gK u.2 i) k) : WFu (loU u i k x) := by
  obtain ⟨hw, hd⟩ := hw
  obtain ⟨xx, y, z, x1, x2, x3, x4, x5⟩ := (hw.2.2.2.1 i _ (gK_at hi)).2.2.2.2 k hk
  have hsub : y + z < xx := by
    unfold opK at hop
    rw [x3, x4, x5, nI_sub (by omega), nI_sub (by omega), nI_posn (by omega)] at hop
    omega
  have e : gK u.2 i 3 k + 1 = nI (z + 1) := by rw [x5]; exact nI_add z 1
  have w1 := hw.setK (i := i) (k := k) (z' := z + 1) hi hk (fun a b c d1 d2 d3 d4 d5 => by
    rw [x3] at d3; rw [x4] at d4
    have g1 := (nI_eq (by omega) (by omega)).mp d3
    have g2 := (nI_eq (by omega) (by omega)).mp d4
    omega)
  rw [← e] at w1
  refine ⟨w1.lost ?_ ?_ ?_ ?_ ?_ ?_ ?_ ?_ ?_ ?_, ?_⟩
  · simp +decide only [u_n]
  · simp +decide only [u_n]
  · simp +decide only [u_n]
  · simp +decide only [u_n]
  · simp +decide only [u_n]
  · simp +decide only [u_n]
  · simp +decide only [u_n]
  · simp +decide only [u_n, upA_s]; omega
  · simp +decide only [u_n, upA_s]; omega
  · simp +decide only [u_n, upA_s]
    intro j hj
    by_cases c : j < u.1.1 3
    · rw [if_pos c]; exact hw.2.2.2.2.2.2.1 j c
    · rw [if_neg c]; exact ⟨k, hk, rfl⟩
  · simp +decide only [u_n]; exact hd
theorem g_lose (h1 : o = 1) (h : CG EE T P s) (x k : Int32) : ∃ T', X 94 0 [.ref 0, .int x, .int k, .long 0] [] (H T P) = some (some (.int (gLose x k s).1), H T' P) ∧ CG EE T' P (gLose x k s).2 := by
  have ho : isB o := by subst h1; exact isB_1
  have hc : CSu o T P s.1 := by subst h1; exact h.2.1.1
  have hw := h.2.1.2.1
  have h8 := hw.1.2.2.2.1
  unfold gLose
  rcases s_wn (x := x) ho hc h8 with ⟨i, e, hi, ei, ew⟩ | ⟨e, ew⟩
  · rw [e]
    obtain ⟨r, hr⟩ : ∃ r, r = (if inI k 0 3 = 0 then (-1, s) else if s.1.1.1 3 < 20 then (if 0 < opK (gK s.1.2 i) k.toNatClampNeg then (nI (s.1.1.1 3 + 1), loU s.1 i k.toNatClampNeg x, s.2.1, psL s, s.2.2.2) else (-5, s)) else (-3, s) : Int32 × gT) := ⟨_, rfl⟩
    show ∃ T', X 94 0 [.ref 0, .int x, .int k, .long 0] [] (H T P) = some (some (.int (if inI k 0 3 = 0 then (-1, s) else if s.1.1.1 3 < 20 then (if 0 < opK (gK s.1.2 i) k.toNatClampNeg then (nI (s.1.1.1 3 + 1), loU s.1 i k.toNatClampNeg x, s.2.1, psL s, s.2.2.2) else (-5, s)) else (-3, s) : Int32 × gT).1), H T' P) ∧ CG EE T' P (if inI k 0 3 = 0 then (-1, s) else if s.1.1.1 3 < 20 then (if 0 < opK (gK s.1.2 i) k.toNatClampNeg then (nI (s.1.1.1 3 + 1), loU s.1 i k.toNatClampNeg x, s.2.1, psL s, s.2.2.2) else (-5, s)) else (-3, s) : Int32 × gT).2
    rw [← hr]
    have hk8 := hc.pk.k ho (show i < 8 by omega)
    by_cases c1 : inI k 0 3 = 0
    · rw [if_pos c1] at hr
      subst hr
      refine ⟨T, ?_, h⟩
      simp +decide only [x94_0, x94_1, x94_4, x94_7, x94_8, x94_11, x94_11N, x94_12, x94_12N, x94_13, x94_13N, x94_16, x94_17, x94_18, x94_19, x94_22, x94_25, x94_26, x94_27, x94_28, x94_31, x94_34, x94_37, x94_39, x94_42, x94_44, x94_45, x94_45N, x94_46, x94_47, x94_50, x94_53, x94_55, x94_56, x94_57, x94_60, x94_61, x94_64, x94_67, x94_67N, x94_68, x94_71, x94_72, x94_73, x94_74, x94_75, x94_76, x94_77, x94_78, x94_81, x94_84, x94_85, x94_85N, x94_86, x94_87, x94_90, x94_93, x94_94, x94_97, x94_100, x94_101, x94_102, x94_105, x94_108, x94_109, x94_110, x94_113, x94_114, x94_117, x94_120, x94_123, aft_some, aft_void, Option.bind_some, Option.toList_some, Option.toList_none, List.cons_append, List.nil_append, if_true, if_false, ↓reduceIte, eq_self, z0_o, ↓z0_0, ↓z0_1, ↓z0_2, ↓z0_3, ↓z0_4, ↓z0_5, ↓z0_5p0, ↓z0_5p1, ↓z0n h1, f0_o ho, ↓f0_0 ho, ↓f0_0p ho, ↓f0_1 ho, ↓f0_1p ho, ↓f0_2 ho, ↓f0_2p ho, ↓f0_3 ho, ↓f0_3p ho, ↓f0_4 ho, ↓f0_5 ho, ↓f0_6 ho, ↓f0_7 ho, ↓f0_8 ho, ↓f0_9 ho, ↓f0_10 ho, ↓f0_11 ho, ↓f1_g ho, ↓f1_s ho, ↓f2_g ho, ↓f2_s ho, f7_o ho, ↓f7_0 ho, ↓f7_1 ho, ↓f7_1p ho, ↓f7_2 ho, ↓f7_2p ho, ↓f8_g ho, ↓aft_of (ew), ↓aft_of (c_within), c1]
    rw [if_neg c1] at hr
    obtain ⟨j, hj, rfl⟩ := inI_ex (n := 3) (by decide) c1
    have cl := nI_clamp (show j < 2 ^ 31 by omega)
    rw [cl] at hr
    have hn := hc.2.2.2.2.1.1
    have hN3 := hw.1.2.2.2.2.1
    have h20 : (nI (s.1.1.1 3) < 20) = (s.1.1.1 3 < 20) := nI_ltp (a := s.1.1.1 3) (b := 20) (by omega) (by decide)
    by_cases c2 : s.1.1.1 3 < 20
    · rw [if_pos c2] at hr
      have eo := c_open (T := T) (P := P) hk8 j (by omega)
      rw [(hc.at hi).op (by omega)] at eo
      by_cases c3 : 0 < opK (gK s.1.2 i) j
      · rw [if_pos c3] at hr
        subst hr
        obtain ⟨T1, e1, f1, g1⟩ := h.push h1
        have hc1 : CSu o T1 P s.1 := by subst h1; exact g1.2.1.1
        obtain ⟨b, hb⟩ : ∃ b, b = P (o + 8) i := ⟨_, rfl⟩
        have hrg := hc.pk.rg (show i < 8 by omega)
        have c4 := CS.setK (v := gK s.1.2 i 3 j + 1) (k := j) hc1 h8 hi
        have hbi := hc1.at hi
        rw [← hb] at hk8 c4 hbi hrg eo ew
        obtain ⟨U, hU⟩ : ∃ U, U = up1 T1 (b + 3) j (gK s.1.2 i 3 j + 1) := ⟨_, rfl⟩
        rw [← hU] at c4
        have ed := c_degree (T := U) (P := P) hk8 j (by omega)
        have hUb : U b 3 = gK s.1.2 i 0 3 := by
          rw [hU]
          simp only [upA_n _ _ (show b ≠ b + 3 by omega)]
          exact hbi.1 3 (by decide)
        rw [hUb] at ed
        obtain ⟨T3, e3, f3, l3⟩ := c_lappend (P := P) (x := nI j) (y := dgI (gK s.1.2 i 0 3) j) ho c4.2.2.2.2.1 c2
        have c5 := c4.lost (by rw [List.length_set]; exact h8) f3 l3
        have hn4 : upA s.1.1.1 3 (s.1.1.1 3 + 1) 4 = s.1.1.1 4 := upA_n _ _ (by decide)
        have hJ := c5.2.2.2.2.2.2
        rw [hn4] at hJ
        obtain ⟨T4, e4, f4, j4⟩ := c_write (P := P) (e := 3) (d := s.1.1.2.1 0 0) (x := x) (y := nI j) ho hJ
        have c6 := c5.book (by rw [List.length_set]; exact h8) f4 j4
        have hrow : T1 (b + 3) j = gK s.1.2 i 3 j := (hbi.2 j (by omega)).2.2
        have hday : T3 o 0 = s.1.1.2.1 0 0 := by
          rw [f3 o (by omega) (by omega) (by omega), hU]
          simp only [upA_n _ _ (show o ≠ b + 3 by omega)]
          exact hc1.1.1 0 (by decide)
        have hlast : T4 (o + 45) 2 = nI (s.1.1.1 3 + 1) := by
          rw [f4 (o + 45) (by omega) (by omega)]; exact l3.1
        refine ⟨T4, ?_, ?_⟩
        · rw [hU] at e3 ed
          simp +decide only [x94_0, x94_1, x94_4, x94_7, x94_8, x94_11, x94_11N, x94_12, x94_12N, x94_13, x94_13N, x94_16, x94_17, x94_18, x94_19, x94_22, x94_25, x94_26, x94_27, x94_28, x94_31, x94_34, x94_37, x94_39, x94_42, x94_44, x94_45, x94_45N, x94_46, x94_47, x94_50, x94_53, x94_55, x94_56, x94_57, x94_60, x94_61, x94_64, x94_67, x94_67N, x94_68, x94_71, x94_72, x94_73, x94_74, x94_75, x94_76, x94_77, x94_78, x94_81, x94_84, x94_85, x94_85N, x94_86, x94_87, x94_90, x94_93, x94_94, x94_97, x94_100, x94_101, x94_102, x94_105, x94_108, x94_109, x94_110, x94_113, x94_114, x94_117, x94_120, x94_123, aft_some, aft_void, Option.bind_some, Option.toList_some, Option.toList_none, List.cons_append, List.nil_append, if_true, if_false, ↓reduceIte, eq_self, z0_o, ↓z0_0, ↓z0_1, ↓z0_2, ↓z0_3, ↓z0_4, ↓z0_5, ↓z0_5p0, ↓z0_5p1, ↓z0n h1, f0_o ho, ↓f0_0 ho, ↓f0_0p ho, ↓f0_1 ho, ↓f0_1p ho, ↓f0_2 ho, ↓f0_2p ho, ↓f0_3 ho, ↓f0_3p ho, ↓f0_4 ho, ↓f0_5 ho, ↓f0_6 ho, ↓f0_7 ho, ↓f0_8 ho, ↓f0_9 ho, ↓f0_10 ho, ↓f0_11 ho, ↓f1_g ho, ↓f1_s ho, ↓f2_g ho, ↓f2_s ho, f7_o ho, ↓f7_0 ho, ↓f7_1 ho, ↓f7_1p ho, ↓f7_2 ho, ↓f7_2p ho, ↓f8_g ho, f45_o ho, ↓f45_0 ho, ↓f45_1 ho, ↓f45_2 ho, ↓f45_2p ho, ↓f46_g ho, ↓f46_s ho, ↓f47_g ho, ↓f47_s ho, f49_o ho, ↓f49_0 ho, ↓f49_1 ho, ↓f49_1p ho, ↓f49_2 ho, ↓f49_2p ho, ↓f50_g ho, ↓f50_s ho, fK_o hk8, ↓fK_0 hk8, ↓fK_0p hk8, ↓fK_1 hk8, ↓fK_1p hk8, ↓fK_2 hk8, ↓fK_2p hk8, ↓fK_3 hk8, ↓fK_3p hk8, ↓fK_4 hk8, ↓fK_4p hk8, ↓fK_5 hk8, ↓fK_6 hk8, ↓fK_7 hk8, ↓fK1_g hk8, ↓fK1_s hk8, ↓fK2_g hk8, ↓fK2_s hk8, ↓fK3_g hk8, ↓fK3_s hk8, fK_o hk8, z154_o, ↓z154_0, ↓z154_1, ↓z154_1p, ↓z154_2, ↓z154_2p, ↓z155_g, ↓aft_of (ew), ↓aft_of (c_within), c1, hn, h20, c2, ↓aft_of (eo), c3, ↓aft_of (e1), cl, okx_nI (show j < 4 by omega) (show (4 : Nat) < 2 ^ 31 by decide), hrow, ↓aft_of (ed), ↓aft_of (e3), ↓aft_of (e4), hday, hlast]
        · subst h1
          refine g1.now c6 (WF_lose h.2.1.2 hi (by omega) c2 c3) (fun a ha => ?_) (fun _ _ => rfl)
          rw [f4 a (by omega) (by omega), f3 a (by omega) (by omega) (by omega), hU]
          exact upA_n _ _ (by omega)
      · rw [if_neg c3] at hr
        subst hr
        refine ⟨T, ?_, h⟩
        simp +decide only [x94_0, x94_1, x94_4, x94_7, x94_8, x94_11, x94_11N, x94_12, x94_12N, x94_13, x94_13N, x94_16, x94_17, x94_18, x94_19, x94_22, x94_25, x94_26, x94_27, x94_28, x94_31, x94_34, x94_37, x94_39, x94_42, x94_44, x94_45, x94_45N, x94_46, x94_47, x94_50, x94_53, x94_55, x94_56, x94_57, x94_60, x94_61, x94_64, x94_67, x94_67N, x94_68, x94_71, x94_72, x94_73, x94_74, x94_75, x94_76, x94_77, x94_78, x94_81, x94_84, x94_85, x94_85N, x94_86, x94_87, x94_90, x94_93, x94_94, x94_97, x94_100, x94_101, x94_102, x94_105, x94_108, x94_109, x94_110, x94_113, x94_114, x94_117, x94_120, x94_123, aft_some, aft_void, Option.bind_some, Option.toList_some, Option.toList_none, List.cons_append, List.nil_append, if_true, if_false, ↓reduceIte, eq_self, z0_o, ↓z0_0, ↓z0_1, ↓z0_2, ↓z0_3, ↓z0_4, ↓z0_5, ↓z0_5p0, ↓z0_5p1, ↓z0n h1, f0_o ho, ↓f0_0 ho, ↓f0_0p ho, ↓f0_1 ho, ↓f0_1p ho, ↓f0_2 ho, ↓f0_2p ho, ↓f0_3 ho, ↓f0_3p ho, ↓f0_4 ho, ↓f0_5 ho, ↓f0_6 ho, ↓f0_7 ho, ↓f0_8 ho, ↓f0_9 ho, ↓f0_10 ho, ↓f0_11 ho, ↓f1_g ho, ↓f1_s ho, ↓f2_g ho, ↓f2_s ho, f7_o ho, ↓f7_0 ho, ↓f7_1 ho, ↓f7_1p ho, ↓f7_2 ho, ↓f7_2p ho, ↓f8_g ho, f45_o ho, ↓f45_0 ho, ↓f45_1 ho, ↓f45_2 ho, ↓f45_2p ho, ↓f46_g ho, ↓f46_s ho, ↓f47_g ho, ↓f47_s ho, fK_o hk8, ↓aft_of (ew), ↓aft_of (c_within), c1, hn, h20, c2, ↓aft_of (eo), c3]
    · rw [if_neg c2] at hr
      subst hr
      refine ⟨T, ?_, h⟩
      simp +decide only [x94_0, x94_1, x94_4, x94_7, x94_8, x94_11, x94_11N, x94_12, x94_12N, x94_13, x94_13N, x94_16, x94_17, x94_18, x94_19, x94_22, x94_25, x94_26, x94_27, x94_28, x94_31, x94_34, x94_37, x94_39, x94_42, x94_44, x94_45, x94_45N, x94_46, x94_47, x94_50, x94_53, x94_55, x94_56, x94_57, x94_60, x94_61, x94_64, x94_67, x94_67N, x94_68, x94_71, x94_72, x94_73, x94_74, x94_75, x94_76, x94_77, x94_78, x94_81, x94_84, x94_85, x94_85N, x94_86, x94_87, x94_90, x94_93, x94_94, x94_97, x94_100, x94_101, x94_102, x94_105, x94_108, x94_109, x94_110, x94_113, x94_114, x94_117, x94_120, x94_123, aft_some, aft_void, Option.bind_some, Option.toList_some, Option.toList_none, List.cons_append, List.nil_append, if_true, if_false, ↓reduceIte, eq_self, z0_o, ↓z0_0, ↓z0_1, ↓z0_2, ↓z0_3, ↓z0_4, ↓z0_5, ↓z0_5p0, ↓z0_5p1, ↓z0n h1, f0_o ho, ↓f0_0 ho, ↓f0_0p ho, ↓f0_1 ho, ↓f0_1p ho, ↓f0_2 ho, ↓f0_2p ho, ↓f0_3 ho, ↓f0_3p ho, ↓f0_4 ho, ↓f0_5 ho, ↓f0_6 ho, ↓f0_7 ho, ↓f0_8 ho, ↓f0_9 ho, ↓f0_10 ho, ↓f0_11 ho, ↓f1_g ho, ↓f1_s ho, ↓f2_g ho, ↓f2_s ho, f7_o ho, ↓f7_0 ho, ↓f7_1 ho, ↓f7_1p ho, ↓f7_2 ho, ↓f7_2p ho, ↓f8_g ho, f45_o ho, ↓f45_0 ho, ↓f45_1 ho, ↓f45_2 ho, ↓f45_2p ho, ↓f46_g ho, ↓f46_s ho, ↓f47_g ho, ↓f47_s ho, ↓aft_of (ew), ↓aft_of (c_within), c1, hn, h20, c2]
  · rw [e]
    refine ⟨T, ?_, h⟩
    simp +decide only [x94_0, x94_1, x94_4, x94_7, x94_8, x94_11, x94_11N, x94_12, x94_12N, x94_13, x94_13N, x94_16, x94_17, x94_18, x94_19, x94_22, x94_25, x94_26, x94_27, x94_28, x94_31, x94_34, x94_37, x94_39, x94_42, x94_44, x94_45, x94_45N, x94_46, x94_47, x94_50, x94_53, x94_55, x94_56, x94_57, x94_60, x94_61, x94_64, x94_67, x94_67N, x94_68, x94_71, x94_72, x94_73, x94_74, x94_75, x94_76, x94_77, x94_78, x94_81, x94_84, x94_85, x94_85N, x94_86, x94_87, x94_90, x94_93, x94_94, x94_97, x94_100, x94_101, x94_102, x94_105, x94_108, x94_109, x94_110, x94_113, x94_114, x94_117, x94_120, x94_123, aft_some, aft_void, Option.bind_some, Option.toList_some, Option.toList_none, List.cons_append, List.nil_append, if_true, if_false, ↓reduceIte, eq_self, z0_o, ↓z0_0, ↓z0_1, ↓z0_2, ↓z0_3, ↓z0_4, ↓z0_5, ↓z0_5p0, ↓z0_5p1, ↓z0n h1, f0_o ho, ↓f0_0 ho, ↓f0_0p ho, ↓f0_1 ho, ↓f0_1p ho, ↓f0_2 ho, ↓f0_2p ho, ↓f0_3 ho, ↓f0_3p ho, ↓f0_4 ho, ↓f0_5 ho, ↓f0_6 ho, ↓f0_7 ho, ↓f0_8 ho, ↓f0_9 ho, ↓f0_10 ho, ↓f0_11 ho, ↓f1_g ho, ↓f1_s ho, ↓f2_g ho, ↓f2_s ho, f7_o ho, ↓f7_0 ho, ↓f7_1 ho, ↓f7_1p ho, ↓f7_2 ho, ↓f7_2p ho, ↓f8_g ho, ↓aft_of (ew)]
end LF2
end
section
/-! find -/
section FI
variable {T U EE : Nat → Nat → Int32} {P Q : Nat → Nat → Nat} {o q : Nat} {s : gT} {u : uT} {x v : Int32}
theorem WF_find {u : uT} (hw : WFu u) {i k p : Nat} (hi : i < u.2.length) (hk : k < 4) (hp : p < u.1.1 3) (hop : 0 < gK u.2 i 3 k) : WFu (fiU u i p k x) := by
  obtain ⟨hw, hd⟩ := hw
  have hN3 := hw.1.2.2.2.2.1
  obtain ⟨xx, y, z, x1, x2, x3, x4, x5⟩ := (hw.2.2.2.1 i _ (gK_at hi)).2.2.2.2 k hk
  have hz : 0 < z := by
    rw [x5, nI_posn (by omega)] at hop
    exact hop
  have e : gK u.2 i 3 k - 1 = nI (z - 1) := by rw [x5]; exact nI_sub (a := z) (b := 1) (by omega)
  have w1 := hw.setK (i := i) (k := k) (z' := z - 1) hi hk (fun a b c d1 d2 d3 d4 d5 => by
    rw [x5] at d5
    have g1 := (nI_eq (by omega) (by omega)).mp d5
    omega)
  rw [← e] at w1
  refine ⟨w1.lost ?_ ?_ ?_ ?_ ?_ ?_ ?_ ?_ ?_ ?_, ?_⟩
  · simp +decide only [u_n]
  · simp +decide only [u_n]
  · simp +decide only [u_n]
  · simp +decide only [u_n]
  · simp +decide only [u_n]
  · simp +decide only [u_n]
  · simp +decide only [u_n]
  · simp +decide only [u_n, upA_s]; omega
  · simp +decide only [u_n, upA_s]; omega
  · simp +decide only [u_n, upA_s]
    intro j hj
    by_cases c : j < p
    · rw [if_pos c]; exact hw.2.2.2.2.2.2.1 j (by omega)
    · rw [if_neg c]; exact hw.2.2.2.2.2.2.1 (j + 1) (by omega)
  · simp +decide only [u_n]; exact hd
theorem g_find (h1 : o = 1) (h : CG EE T P s) (p x : Int32) : ∃ T', X 95 0 [.ref 0, .int p, .int x, .long 0, .long 0] [] (H T P) = some (some (.int (gFind p x s).1), H T' P) ∧ CG EE T' P (gFind p x s).2 := by
  have ho : isB o := by subst h1; exact isB_1
  have hc : CSu o T P s.1 := by subst h1; exact h.2.1.1
  have hw := h.2.1.2.1
  have h8 := hw.1.2.2.2.1
  have hN3 := hw.1.2.2.2.2.1
  have hn := hc.2.2.2.2.1.1
  have eh := c_lhasN (P := P) (c := p) ho hn
  by_cases ch : hsI (s.1.1.1 3) p
  · rw [if_pos ch] at eh
    rcases s_wn (x := x) ho hc h8 with ⟨i, e, hi, ei, ew⟩ | ⟨e, ew⟩
    · obtain ⟨r, hr⟩ : ∃ r, r = gFind p x s := ⟨_, rfl⟩
      rw [← hr]
      unfold gFind at hr
      rw [e] at hr
      have hr : r = @ite _ (hsI (s.1.1.1 3) p) (Classical.propDecidable _) (if 0 < gK s.1.2 i 3 (s.1.1.2.1 46 p.toNatClampNeg).toNatClampNeg ∧ dgI (gK s.1.2 i 0 3) (s.1.1.2.1 46 p.toNatClampNeg).toNatClampNeg = s.1.1.2.1 47 p.toNatClampNeg then (nI (s.1.1.1 3 - 1), fiU s.1 i p.toNatClampNeg (s.1.1.2.1 46 p.toNatClampNeg).toNatClampNeg x, s.2.1, psL s, s.2.2.2) else (-4, s)) (-1, s) := hr
      rw [if_pos ch] at hr
      have hk8 := hc.pk.k ho (show i < 8 by omega)
      obtain ⟨j, hj, rfl⟩ := nI_ex ch.1 (by omega) ch.2
      have cl := nI_clamp (show j < 2 ^ 31 by omega)
      have ok := okx_nI (show j < 20 by omega) (show (20 : Nat) < 2 ^ 31 by decide)
      obtain ⟨k, hk, ek⟩ := hw.2.2.2.2.2.2.1 j hj
      have hrr := hc.2.2.2.2.1.2.2 j hj
      have clk := nI_clamp (show k < 2 ^ 31 by omega)
      rw [cl, ek, clk] at hr
      rw [ek] at hrr
      have em := c_misses (T := T) (P := P) hk8 k hk (s.1.1.2.1 47 j)
      have hbi := hc.at hi
      rw [(hbi.2 k hk).2.2, hbi.1 3 (by decide)] at em
      by_cases c3 : 0 < gK s.1.2 i 3 k ∧ dgI (gK s.1.2 i 0 3) k = s.1.1.2.1 47 j
      · rw [if_pos c3] at hr em
        subst hr
        obtain ⟨T1, e1, f1, g1⟩ := h.push h1
        have hc1 : CSu o T1 P s.1 := by subst h1; exact g1.2.1.1
        obtain ⟨b, hb⟩ : ∃ b, b = P (o + 8) i := ⟨_, rfl⟩
        have hrg := hc.pk.rg (show i < 8 by omega)
        have c4 := CS.setK (v := gK s.1.2 i 3 k - 1) (k := k) hc1 h8 hi
        have hbi := hc1.at hi
        rw [← hb] at hk8 c4 hbi hrg em ew
        obtain ⟨U, hU⟩ : ∃ U, U = up1 T1 (b + 3) k (gK s.1.2 i 3 k - 1) := ⟨_, rfl⟩
        rw [← hU] at c4
        obtain ⟨T3, e3, f3, l3⟩ := c_lremove (P := P) ho c4.2.2.2.2.1 hj
        have c5 := c4.lost (by rw [List.length_set]; exact h8) f3 l3
        have hn4 : upA s.1.1.1 3 (s.1.1.1 3 - 1) 4 = s.1.1.1 4 := upA_n _ _ (by decide)
        have hJ := c5.2.2.2.2.2.2
        rw [hn4] at hJ
        obtain ⟨T4, e4, f4, j4⟩ := c_write (P := P) (e := 4) (d := s.1.1.2.1 0 0) (x := x) (y := nI k) ho hJ
        have c6 := c5.book (by rw [List.length_set]; exact h8) f4 j4
        have hrow : T1 (b + 3) k = gK s.1.2 i 3 k := (hbi.2 k hk).2.2
        have hday : T3 o 0 = s.1.1.2.1 0 0 := by
          rw [f3 o (by omega) (by omega) (by omega), hU]
          simp only [upA_n _ _ (show o ≠ b + 3 by omega)]
          exact hc1.1.1 0 (by decide)
        have hlast : T4 (o + 45) 2 = nI (s.1.1.1 3 - 1) := by
          rw [f4 (o + 45) (by omega) (by omega)]; exact l3.1
        refine ⟨T4, ?_, ?_⟩
        · rw [hU] at e3
          simp +decide only [x95_0, x95_1, x95_4, x95_7, x95_8, x95_11, x95_11N, x95_12, x95_13, x95_16, x95_19, x95_20, x95_23, x95_26, x95_26N, x95_27, x95_27N, x95_30, x95_31, x95_32, x95_33, x95_36, x95_39, x95_42, x95_43, x95_44, x95_46, x95_46N, x95_47, x95_49, x95_50, x95_53, x95_56, x95_59, x95_60, x95_61, x95_64, x95_67, x95_69, x95_70, x95_71, x95_74, x95_75, x95_78, x95_81, x95_81N, x95_82, x95_85, x95_87, x95_88, x95_89, x95_90, x95_91, x95_92, x95_93, x95_96, x95_99, x95_100, x95_103, x95_104, x95_107, x95_110, x95_111, x95_112, x95_115, x95_118, x95_119, x95_121, x95_124, x95_125, x95_128, x95_131, x95_134, aft_some, aft_void, Option.bind_some, Option.toList_some, Option.toList_none, List.cons_append, List.nil_append, if_true, if_false, ↓reduceIte, eq_self, z0_o, ↓z0_0, ↓z0_1, ↓z0_2, ↓z0_3, ↓z0_4, ↓z0_5, ↓z0_5p0, ↓z0_5p1, ↓z0n h1, f0_o ho, ↓f0_0 ho, ↓f0_0p ho, ↓f0_1 ho, ↓f0_1p ho, ↓f0_2 ho, ↓f0_2p ho, ↓f0_3 ho, ↓f0_3p ho, ↓f0_4 ho, ↓f0_5 ho, ↓f0_6 ho, ↓f0_7 ho, ↓f0_8 ho, ↓f0_9 ho, ↓f0_10 ho, ↓f0_11 ho, ↓f1_g ho, ↓f1_s ho, ↓f2_g ho, ↓f2_s ho, f7_o ho, ↓f7_0 ho, ↓f7_1 ho, ↓f7_1p ho, ↓f7_2 ho, ↓f7_2p ho, ↓f8_g ho, f45_o ho, ↓f45_0 ho, ↓f45_1 ho, ↓f45_2 ho, ↓f45_2p ho, ↓f46_g ho, ↓f46_s ho, ↓f47_g ho, ↓f47_s ho, f49_o ho, ↓f49_0 ho, ↓f49_1 ho, ↓f49_1p ho, ↓f49_2 ho, ↓f49_2p ho, ↓f50_g ho, ↓f50_s ho, fK_o hk8, ↓fK_0 hk8, ↓fK_0p hk8, ↓fK_1 hk8, ↓fK_1p hk8, ↓fK_2 hk8, ↓fK_2p hk8, ↓fK_3 hk8, ↓fK_3p hk8, ↓fK_4 hk8, ↓fK_4p hk8, ↓fK_5 hk8, ↓fK_6 hk8, ↓fK_7 hk8, ↓fK1_g hk8, ↓fK1_s hk8, ↓fK2_g hk8, ↓fK2_s hk8, ↓fK3_g hk8, ↓fK3_s hk8, fK_o hk8, z154_o, ↓z154_0, ↓z154_1, ↓z154_1p, ↓z154_2, ↓z154_2p, ↓z155_g, ↓aft_of (ew), ↓aft_of (eh), ok, cl, hrr.1, hrr.2, ↓aft_of (em), ↓aft_of (e1), clk, okx_nI hk (show (4 : Nat) < 2 ^ 31 by decide), hrow, ↓aft_of (e3), ↓aft_of (e4), hday, hlast]
        · subst h1
          refine g1.now c6 (WF_find h.2.1.2 hi hk hj c3.1) (fun a ha => ?_) (fun _ _ => rfl)
          rw [f4 a (by omega) (by omega), f3 a (by omega) (by omega) (by omega), hU]
          exact upA_n _ _ (by omega)
      · rw [if_neg c3] at hr em
        subst hr
        refine ⟨T, ?_, h⟩
        simp +decide only [x95_0, x95_1, x95_4, x95_7, x95_8, x95_11, x95_11N, x95_12, x95_13, x95_16, x95_19, x95_20, x95_23, x95_26, x95_26N, x95_27, x95_27N, x95_30, x95_31, x95_32, x95_33, x95_36, x95_39, x95_42, x95_43, x95_44, x95_46, x95_46N, x95_47, x95_49, x95_50, x95_53, x95_56, x95_59, x95_60, x95_61, x95_64, x95_67, x95_69, x95_70, x95_71, x95_74, x95_75, x95_78, x95_81, x95_81N, x95_82, x95_85, x95_87, x95_88, x95_89, x95_90, x95_91, x95_92, x95_93, x95_96, x95_99, x95_100, x95_103, x95_104, x95_107, x95_110, x95_111, x95_112, x95_115, x95_118, x95_119, x95_121, x95_124, x95_125, x95_128, x95_131, x95_134, aft_some, aft_void, Option.bind_some, Option.toList_some, Option.toList_none, List.cons_append, List.nil_append, if_true, if_false, ↓reduceIte, eq_self, z0_o, ↓z0_0, ↓z0_1, ↓z0_2, ↓z0_3, ↓z0_4, ↓z0_5, ↓z0_5p0, ↓z0_5p1, ↓z0n h1, f0_o ho, ↓f0_0 ho, ↓f0_0p ho, ↓f0_1 ho, ↓f0_1p ho, ↓f0_2 ho, ↓f0_2p ho, ↓f0_3 ho, ↓f0_3p ho, ↓f0_4 ho, ↓f0_5 ho, ↓f0_6 ho, ↓f0_7 ho, ↓f0_8 ho, ↓f0_9 ho, ↓f0_10 ho, ↓f0_11 ho, ↓f1_g ho, ↓f1_s ho, ↓f2_g ho, ↓f2_s ho, f7_o ho, ↓f7_0 ho, ↓f7_1 ho, ↓f7_1p ho, ↓f7_2 ho, ↓f7_2p ho, ↓f8_g ho, f45_o ho, ↓f45_0 ho, ↓f45_1 ho, ↓f45_2 ho, ↓f45_2p ho, ↓f46_g ho, ↓f46_s ho, ↓f47_g ho, ↓f47_s ho, fK_o hk8, ↓fK_0 hk8, ↓fK_0p hk8, ↓fK_1 hk8, ↓fK_1p hk8, ↓fK_2 hk8, ↓fK_2p hk8, ↓fK_3 hk8, ↓fK_3p hk8, ↓fK_4 hk8, ↓fK_4p hk8, ↓fK_5 hk8, ↓fK_6 hk8, ↓fK_7 hk8, ↓fK1_g hk8, ↓fK1_s hk8, ↓fK2_g hk8, ↓fK2_s hk8, ↓fK3_g hk8, ↓fK3_s hk8, fK_o hk8, ↓aft_of (ew), ↓aft_of (eh), ok, cl, hrr.1, hrr.2, ↓aft_of (em)]
    · have hr : gFind p x s = (-1, s) := by
        unfold gFind
        rw [e]
      rw [hr]
      refine ⟨T, ?_, h⟩
      simp +decide only [x95_0, x95_1, x95_4, x95_7, x95_8, x95_11, x95_11N, x95_12, x95_13, x95_16, x95_19, x95_20, x95_23, x95_26, x95_26N, x95_27, x95_27N, x95_30, x95_31, x95_32, x95_33, x95_36, x95_39, x95_42, x95_43, x95_44, x95_46, x95_46N, x95_47, x95_49, x95_50, x95_53, x95_56, x95_59, x95_60, x95_61, x95_64, x95_67, x95_69, x95_70, x95_71, x95_74, x95_75, x95_78, x95_81, x95_81N, x95_82, x95_85, x95_87, x95_88, x95_89, x95_90, x95_91, x95_92, x95_93, x95_96, x95_99, x95_100, x95_103, x95_104, x95_107, x95_110, x95_111, x95_112, x95_115, x95_118, x95_119, x95_121, x95_124, x95_125, x95_128, x95_131, x95_134, aft_some, aft_void, Option.bind_some, Option.toList_some, Option.toList_none, List.cons_append, List.nil_append, if_true, if_false, ↓reduceIte, eq_self, z0_o, ↓z0_0, ↓z0_1, ↓z0_2, ↓z0_3, ↓z0_4, ↓z0_5, ↓z0_5p0, ↓z0_5p1, ↓z0n h1, f0_o ho, ↓f0_0 ho, ↓f0_0p ho, ↓f0_1 ho, ↓f0_1p ho, ↓f0_2 ho, ↓f0_2p ho, ↓f0_3 ho, ↓f0_3p ho, ↓f0_4 ho, ↓f0_5 ho, ↓f0_6 ho, ↓f0_7 ho, ↓f0_8 ho, ↓f0_9 ho, ↓f0_10 ho, ↓f0_11 ho, ↓f1_g ho, ↓f1_s ho, ↓f2_g ho, ↓f2_s ho, f7_o ho, ↓f7_0 ho, ↓f7_1 ho, ↓f7_1p ho, ↓f7_2 ho, ↓f7_2p ho, ↓f8_g ho, f45_o ho, ↓f45_0 ho, ↓f45_1 ho, ↓f45_2 ho, ↓f45_2p ho, ↓f46_g ho, ↓f46_s ho, ↓f47_g ho, ↓f47_s ho, ↓aft_of (ew), ↓aft_of (eh)]
  · rw [if_neg ch] at eh
    have hr : gFind p x s = (-1, s) := by
      unfold gFind
      cases wnK x s.1.2 with
      | none => rfl
      | some i =>
        show @ite _ (hsI (s.1.1.1 3) p) (Classical.propDecidable _) _ _ = _
        exact if_neg ch
    rw [hr]
    refine ⟨T, ?_, h⟩
    rcases s_wn (x := x) ho hc h8 with ⟨i, e, hi, ei, ew⟩ | ⟨e, ew⟩
    · simp +decide only [x95_0, x95_1, x95_4, x95_7, x95_8, x95_11, x95_11N, x95_12, x95_13, x95_16, x95_19, x95_20, x95_23, x95_26, x95_26N, x95_27, x95_27N, x95_30, x95_31, x95_32, x95_33, x95_36, x95_39, x95_42, x95_43, x95_44, x95_46, x95_46N, x95_47, x95_49, x95_50, x95_53, x95_56, x95_59, x95_60, x95_61, x95_64, x95_67, x95_69, x95_70, x95_71, x95_74, x95_75, x95_78, x95_81, x95_81N, x95_82, x95_85, x95_87, x95_88, x95_89, x95_90, x95_91, x95_92, x95_93, x95_96, x95_99, x95_100, x95_103, x95_104, x95_107, x95_110, x95_111, x95_112, x95_115, x95_118, x95_119, x95_121, x95_124, x95_125, x95_128, x95_131, x95_134, aft_some, aft_void, Option.bind_some, Option.toList_some, Option.toList_none, List.cons_append, List.nil_append, if_true, if_false, ↓reduceIte, eq_self, z0_o, ↓z0_0, ↓z0_1, ↓z0_2, ↓z0_3, ↓z0_4, ↓z0_5, ↓z0_5p0, ↓z0_5p1, ↓z0n h1, f0_o ho, ↓f0_0 ho, ↓f0_0p ho, ↓f0_1 ho, ↓f0_1p ho, ↓f0_2 ho, ↓f0_2p ho, ↓f0_3 ho, ↓f0_3p ho, ↓f0_4 ho, ↓f0_5 ho, ↓f0_6 ho, ↓f0_7 ho, ↓f0_8 ho, ↓f0_9 ho, ↓f0_10 ho, ↓f0_11 ho, ↓f1_g ho, ↓f1_s ho, ↓f2_g ho, ↓f2_s ho, f7_o ho, ↓f7_0 ho, ↓f7_1 ho, ↓f7_1p ho, ↓f7_2 ho, ↓f7_2p ho, ↓f8_g ho, f45_o ho, ↓f45_0 ho, ↓f45_1 ho, ↓f45_2 ho, ↓f45_2p ho, ↓f46_g ho, ↓f46_s ho, ↓f47_g ho, ↓f47_s ho, ↓aft_of (ew), ↓aft_of (eh)]
    · simp +decide only [x95_0, x95_1, x95_4, x95_7, x95_8, x95_11, x95_11N, x95_12, x95_13, x95_16, x95_19, x95_20, x95_23, x95_26, x95_26N, x95_27, x95_27N, x95_30, x95_31, x95_32, x95_33, x95_36, x95_39, x95_42, x95_43, x95_44, x95_46, x95_46N, x95_47, x95_49, x95_50, x95_53, x95_56, x95_59, x95_60, x95_61, x95_64, x95_67, x95_69, x95_70, x95_71, x95_74, x95_75, x95_78, x95_81, x95_81N, x95_82, x95_85, x95_87, x95_88, x95_89, x95_90, x95_91, x95_92, x95_93, x95_96, x95_99, x95_100, x95_103, x95_104, x95_107, x95_110, x95_111, x95_112, x95_115, x95_118, x95_119, x95_121, x95_124, x95_125, x95_128, x95_131, x95_134, aft_some, aft_void, Option.bind_some, Option.toList_some, Option.toList_none, List.cons_append, List.nil_append, if_true, if_false, ↓reduceIte, eq_self, z0_o, ↓z0_0, ↓z0_1, ↓z0_2, ↓z0_3, ↓z0_4, ↓z0_5, ↓z0_5p0, ↓z0_5p1, ↓z0n h1, f0_o ho, ↓f0_0 ho, ↓f0_0p ho, ↓f0_1 ho, ↓f0_1p ho, ↓f0_2 ho, ↓f0_2p ho, ↓f0_3 ho, ↓f0_3p ho, ↓f0_4 ho, ↓f0_5 ho, ↓f0_6 ho, ↓f0_7 ho, ↓f0_8 ho, ↓f0_9 ho, ↓f0_10 ho, ↓f0_11 ho, ↓f1_g ho, ↓f1_s ho, ↓f2_g ho, ↓f2_s ho, f7_o ho, ↓f7_0 ho, ↓f7_1 ho, ↓f7_1p ho, ↓f7_2 ho, ↓f7_2p ho, ↓f8_g ho, f45_o ho, ↓f45_0 ho, ↓f45_1 ho, ↓f45_2 ho, ↓f45_2p ho, ↓f46_g ho, ↓f46_s ho, ↓f47_g ho, ↓f47_s ho, ↓aft_of (ew), ↓aft_of (eh)]
end FI
end
section
/-! the text is read: the small steps -/
abbrev rS : Type := Nat × Int32 × Int32 × (Nat → Int32) × (Nat → Int32) × (Nat → Int32) × (Nat → Int32)
def RD (T : Nat → Nat → Int32) (r : rS) : Prop := r.1 ≤ 12 ∧ T 360 2 = nI r.1 ∧ T 360 7 = r.2.1 ∧ T 360 8 = r.2.2.1 ∧ T 362 = r.2.2.2.1 ∧ T 363 = r.2.2.2.2.1 ∧ T 364 = r.2.2.2.2.2.1 ∧ T 365 = r.2.2.2.2.2.2
def FR (T U : Nat → Nat → Int32) : Prop := (∀ a, a ≠ 360 → a ≠ 362 → a ≠ 363 → a ≠ 364 → a ≠ 365 → U a = T a) ∧ U 360 1 = T 360 1
theorem FR.rfl' (T : Nat → Nat → Int32) : FR T T := ⟨fun _ _ _ _ _ _ => rfl, rfl⟩
theorem FR.trans {T U W : Nat → Nat → Int32} (h : FR T U) (g : FR U W) : FR T W := ⟨fun a h0 h2 h3 h4 h5 => (g.1 a h0 h2 h3 h4 h5).trans (h.1 a h0 h2 h3 h4 h5), g.2.trans h.2⟩
def kdI (c : Int32) : Int32 := if c = 115 then 0 else if c = 98 then 1 else if c = 116 then 2 else if c = 108 then 3 else -5
def sgS (c sg pl : Int32) (r : rS) : Int32 × rS := if c = sg then (1, r.1, pl, r.2.2) else (0, r)
def enS (c : Int32) (r : rS) : Int32 × rS := if c = 45 then (1, r.1, 7, r.2.2) else if c = 59 then (1, r.1, 0, r.2.2) else (0, r)
def cuS (c : Int32) (r : rS) : Int32 × rS := if inI c 48 57 = 0 then (0, r) else if r.1 < 12 then (1, r.1 + 1, 1, -5, upA r.2.2.2.1 r.1 (c - 48), upA r.2.2.2.2.1 r.1 0, upA r.2.2.2.2.2.1 r.1 0, upA r.2.2.2.2.2.2 r.1 0) else (0, r)
def knS (c : Int32) (r : rS) : Int32 × rS := if kdI c = -5 then (0, r) else if r.2.2.1 < kdI c then (1, r.1, 3, kdI c, r.2.2.2) else (0, r)
section RX
variable {T U EE : Nat → Nat → Int32} {P Q : Nat → Nat → Nat} {r : rS} {c sg pl : Int32} {h0 : List hC}
theorem c_digit {l m : Int32} : X 27 0 [.int c, .int l, .int m] [] h0 = some (some (.int (inI c (48 + l) (48 + m))), h0) := by
  unfold inI
  by_cases c1 : c < 48 + l
  · simp +decide only [x27_0, x27_1, x27_3, x27_4, x27_5, x27_8, x27_9, x27_11, x27_12, x27_13, x27_16, x27_17, x27_20, x27_21, aft_some, aft_void, Option.bind_some, Option.toList_some, Option.toList_none, List.cons_append, List.nil_append, if_true, if_false, ↓reduceIte, eq_self, c1]
  · by_cases c2 : 48 + m < c
    · simp +decide only [x27_0, x27_1, x27_3, x27_4, x27_5, x27_8, x27_9, x27_11, x27_12, x27_13, x27_16, x27_17, x27_20, x27_21, aft_some, aft_void, Option.bind_some, Option.toList_some, Option.toList_none, List.cons_append, List.nil_append, if_true, if_false, ↓reduceIte, eq_self, c1, c2]
    · simp +decide only [x27_0, x27_1, x27_3, x27_4, x27_5, x27_8, x27_9, x27_11, x27_12, x27_13, x27_16, x27_17, x27_20, x27_21, aft_some, aft_void, Option.bind_some, Option.toList_some, Option.toList_none, List.cons_append, List.nil_append, if_true, if_false, ↓reduceIte, eq_self, c1, c2]
theorem c_kind : X 28 0 [.int c] [] h0 = some (some (.int (kdI c)), h0) := by
  unfold kdI
  by_cases c1 : c = 115
  · simp +decide only [x28_0, x28_1, x28_3, x28_6, x28_7, x28_10, x28_11, x28_13, x28_16, x28_17, x28_20, x28_21, x28_23, x28_26, x28_27, x28_30, x28_31, x28_33, x28_36, x28_37, x28_40, x28_42, aft_some, aft_void, Option.bind_some, Option.toList_some, Option.toList_none, List.cons_append, List.nil_append, if_true, if_false, ↓reduceIte, eq_self, c1]
  by_cases c2 : c = 98
  · simp +decide only [x28_0, x28_1, x28_3, x28_6, x28_7, x28_10, x28_11, x28_13, x28_16, x28_17, x28_20, x28_21, x28_23, x28_26, x28_27, x28_30, x28_31, x28_33, x28_36, x28_37, x28_40, x28_42, aft_some, aft_void, Option.bind_some, Option.toList_some, Option.toList_none, List.cons_append, List.nil_append, if_true, if_false, ↓reduceIte, eq_self, c1, c2]
  by_cases c3 : c = 116
  · simp +decide only [x28_0, x28_1, x28_3, x28_6, x28_7, x28_10, x28_11, x28_13, x28_16, x28_17, x28_20, x28_21, x28_23, x28_26, x28_27, x28_30, x28_31, x28_33, x28_36, x28_37, x28_40, x28_42, aft_some, aft_void, Option.bind_some, Option.toList_some, Option.toList_none, List.cons_append, List.nil_append, if_true, if_false, ↓reduceIte, eq_self, c1, c2, c3]
  by_cases c4 : c = 108
  · simp +decide only [x28_0, x28_1, x28_3, x28_6, x28_7, x28_10, x28_11, x28_13, x28_16, x28_17, x28_20, x28_21, x28_23, x28_26, x28_27, x28_30, x28_31, x28_33, x28_36, x28_37, x28_40, x28_42, aft_some, aft_void, Option.bind_some, Option.toList_some, Option.toList_none, List.cons_append, List.nil_append, if_true, if_false, ↓reduceIte, eq_self, c1, c2, c3, c4]
  simp +decide only [x28_0, x28_1, x28_3, x28_6, x28_7, x28_10, x28_11, x28_13, x28_16, x28_17, x28_20, x28_21, x28_23, x28_26, x28_27, x28_30, x28_31, x28_33, x28_36, x28_37, x28_40, x28_42, aft_some, aft_void, Option.bind_some, Option.toList_some, Option.toList_none, List.cons_append, List.nil_append, if_true, if_false, ↓reduceIte, eq_self, c1, c2, c3, c4]
theorem c_sign (h : RD T r) : ∃ T', X 26 0 [.ref 360, .int c, .int sg, .int pl] [] (H T P) = some (some (.int (sgS c sg pl r).1), H T' P) ∧ RD T' (sgS c sg pl r).2 ∧ FR T T' := by
  unfold sgS
  by_cases c1 : c = sg
  · rw [if_pos c1]
    refine ⟨up1 T 360 7 pl, ?_, ?_, ?_⟩
    · simp +decide only [x26_0, x26_1, x26_2, x26_5, x26_6, x26_7, x26_8, x26_9, x26_12, x26_13, aft_some, aft_void, Option.bind_some, Option.toList_some, Option.toList_none, List.cons_append, List.nil_append, if_true, if_false, ↓reduceIte, eq_self, z360_o, ↓z360_0, ↓z360_1, ↓z360_1p, ↓z360_2, ↓z360_2p, ↓z360_3, ↓z360_4, ↓z360_5, ↓z360_6, ↓z360_7, ↓z360_7p, ↓z360_8, ↓z360_8p, ↓z361_g, ↓z361_s, ↓z362_g, ↓z362_s, ↓z363_g, ↓z363_s, ↓z364_g, ↓z364_s, ↓z365_g, ↓z365_s, c1]
    · obtain ⟨h1, h2, h3, h4, h5⟩ := h
      refine ⟨h1, ?_, ?_, ?_, ?_⟩
      · simp +decide only [upA_s, u_n]; exact h2
      · simp +decide only [upA_s]
      · simp +decide only [upA_s, u_n]; exact h4
      · simp +decide only [u_n]; exact h5
    · exact ⟨fun a g1 g2 g3 g4 g5 => upA_n _ _ g1, by simp +decide only [upA_s, u_n]⟩
  · rw [if_neg c1]
    refine ⟨T, ?_, h, FR.rfl' T⟩
    simp +decide only [x26_0, x26_1, x26_2, x26_5, x26_6, x26_7, x26_8, x26_9, x26_12, x26_13, aft_some, aft_void, Option.bind_some, Option.toList_some, Option.toList_none, List.cons_append, List.nil_append, if_true, if_false, ↓reduceIte, eq_self, z360_o, ↓z360_0, ↓z360_1, ↓z360_1p, ↓z360_2, ↓z360_2p, ↓z360_3, ↓z360_4, ↓z360_5, ↓z360_6, ↓z360_7, ↓z360_7p, ↓z360_8, ↓z360_8p, ↓z361_g, ↓z361_s, ↓z362_g, ↓z362_s, ↓z363_g, ↓z363_s, ↓z364_g, ↓z364_s, ↓z365_g, ↓z365_s, c1]
theorem c_ending (h : RD T r) : ∃ T', X 25 0 [.ref 360, .int c] [] (H T P) = some (some (.int (enS c r).1), H T' P) ∧ RD T' (enS c r).2 ∧ FR T T' := by
  obtain ⟨T1, e1, r1, f1⟩ := c_sign (P := P) (c := c) (sg := 45) (pl := 7) h
  unfold enS
  by_cases c1 : c = 45
  · rw [if_pos c1]
    have hs : sgS c 45 7 r = (1, r.1, 7, r.2.2) := by unfold sgS; exact if_pos c1
    rw [hs] at e1 r1
    refine ⟨T1, ?_, r1, f1⟩
    simp +decide only [x25_0, x25_1, x25_2, x25_4, x25_6, x25_9, x25_12, x25_13, x25_14, x25_16, x25_17, x25_20, x25_23, x25_24, x25_27, x25_28, aft_some, aft_void, Option.bind_some, Option.toList_some, Option.toList_none, List.cons_append, List.nil_append, if_true, if_false, ↓reduceIte, eq_self, z360_o, ↓z360_0, ↓z360_1, ↓z360_1p, ↓z360_2, ↓z360_2p, ↓z360_3, ↓z360_4, ↓z360_5, ↓z360_6, ↓z360_7, ↓z360_7p, ↓z360_8, ↓z360_8p, ↓z361_g, ↓z361_s, ↓z362_g, ↓z362_s, ↓z363_g, ↓z363_s, ↓z364_g, ↓z364_s, ↓z365_g, ↓z365_s, ↓aft_of (e1)]
  · rw [if_neg c1]
    have hs : sgS c 45 7 r = (0, r) := by unfold sgS; exact if_neg c1
    rw [hs] at e1 r1
    obtain ⟨T2, e2, r2, f2⟩ := c_sign (P := P) (c := c) (sg := 59) (pl := 0) r1
    by_cases c2 : c = 59
    · rw [if_pos c2]
      have hs : sgS c 59 0 r = (1, r.1, 0, r.2.2) := by unfold sgS; exact if_pos c2
      rw [hs] at e2 r2
      refine ⟨T2, ?_, r2, f1.trans f2⟩
      simp +decide only [x25_0, x25_1, x25_2, x25_4, x25_6, x25_9, x25_12, x25_13, x25_14, x25_16, x25_17, x25_20, x25_23, x25_24, x25_27, x25_28, aft_some, aft_void, Option.bind_some, Option.toList_some, Option.toList_none, List.cons_append, List.nil_append, if_true, if_false, ↓reduceIte, eq_self, z360_o, ↓z360_0, ↓z360_1, ↓z360_1p, ↓z360_2, ↓z360_2p, ↓z360_3, ↓z360_4, ↓z360_5, ↓z360_6, ↓z360_7, ↓z360_7p, ↓z360_8, ↓z360_8p, ↓z361_g, ↓z361_s, ↓z362_g, ↓z362_s, ↓z363_g, ↓z363_s, ↓z364_g, ↓z364_s, ↓z365_g, ↓z365_s, ↓aft_of (e1), ↓aft_of (e2)]
    · rw [if_neg c2]
      have hs : sgS c 59 0 r = (0, r) := by unfold sgS; exact if_neg c2
      rw [hs] at e2 r2
      refine ⟨T2, ?_, r2, f1.trans f2⟩
      simp +decide only [x25_0, x25_1, x25_2, x25_4, x25_6, x25_9, x25_12, x25_13, x25_14, x25_16, x25_17, x25_20, x25_23, x25_24, x25_27, x25_28, aft_some, aft_void, Option.bind_some, Option.toList_some, Option.toList_none, List.cons_append, List.nil_append, if_true, if_false, ↓reduceIte, eq_self, z360_o, ↓z360_0, ↓z360_1, ↓z360_1p, ↓z360_2, ↓z360_2p, ↓z360_3, ↓z360_4, ↓z360_5, ↓z360_6, ↓z360_7, ↓z360_7p, ↓z360_8, ↓z360_8p, ↓z361_g, ↓z361_s, ↓z362_g, ↓z362_s, ↓z363_g, ↓z363_s, ↓z364_g, ↓z364_s, ↓z365_g, ↓z365_s, ↓aft_of (e1), ↓aft_of (e2)]
theorem c_takeKind (h : RD T r) : ∃ T', X 21 0 [.ref 360, .int c, .long 0] [] (H T P) = some (some (.int (knS c r).1), H T' P) ∧ RD T' (knS c r).2 ∧ FR T T' := by
  have hk : T 360 8 = r.2.2.1 := h.2.2.2.1
  unfold knS
  by_cases c1 : kdI c = -5
  · rw [if_pos c1]
    refine ⟨T, ?_, h, FR.rfl' T⟩
    simp +decide only [x21_0, x21_1, x21_4, x21_5, x21_6, x21_8, x21_11, x21_12, x21_13, x21_16, x21_19, x21_20, x21_21, x21_22, x21_23, x21_26, x21_27, x21_28, x21_31, x21_32, aft_some, aft_void, Option.bind_some, Option.toList_some, Option.toList_none, List.cons_append, List.nil_append, if_true, if_false, ↓reduceIte, eq_self, z360_o, ↓z360_0, ↓z360_1, ↓z360_1p, ↓z360_2, ↓z360_2p, ↓z360_3, ↓z360_4, ↓z360_5, ↓z360_6, ↓z360_7, ↓z360_7p, ↓z360_8, ↓z360_8p, ↓z361_g, ↓z361_s, ↓z362_g, ↓z362_s, ↓z363_g, ↓z363_s, ↓z364_g, ↓z364_s, ↓z365_g, ↓z365_s, ↓aft_of (c_kind), c1]
  rw [if_neg c1]
  by_cases c2 : r.2.2.1 < kdI c
  · rw [if_pos c2]
    refine ⟨up1 (up1 T 360 8 (kdI c)) 360 7 3, ?_, ?_, ?_⟩
    · simp +decide only [x21_0, x21_1, x21_4, x21_5, x21_6, x21_8, x21_11, x21_12, x21_13, x21_16, x21_19, x21_20, x21_21, x21_22, x21_23, x21_26, x21_27, x21_28, x21_31, x21_32, aft_some, aft_void, Option.bind_some, Option.toList_some, Option.toList_none, List.cons_append, List.nil_append, if_true, if_false, ↓reduceIte, eq_self, z360_o, ↓z360_0, ↓z360_1, ↓z360_1p, ↓z360_2, ↓z360_2p, ↓z360_3, ↓z360_4, ↓z360_5, ↓z360_6, ↓z360_7, ↓z360_7p, ↓z360_8, ↓z360_8p, ↓z361_g, ↓z361_s, ↓z362_g, ↓z362_s, ↓z363_g, ↓z363_s, ↓z364_g, ↓z364_s, ↓z365_g, ↓z365_s, upA_s, u_oo, u_o0, u_0o, u_n, ↓aft_of (c_kind), c1, hk, c2]
    · obtain ⟨h1, h2, h3, h4, h5⟩ := h
      refine ⟨h1, ?_, ?_, ?_, ?_⟩
      · simp +decide only [upA_s, u_n]; exact h2
      · simp +decide only [upA_s]
      · simp +decide only [upA_s, u_n]
      · simp +decide only [u_n]; exact h5
    · exact ⟨fun a g1 g2 g3 g4 g5 => by simp only [upA_n _ _ g1], by simp +decide only [upA_s, u_n]⟩
  · rw [if_neg c2]
    refine ⟨T, ?_, h, FR.rfl' T⟩
    simp +decide only [x21_0, x21_1, x21_4, x21_5, x21_6, x21_8, x21_11, x21_12, x21_13, x21_16, x21_19, x21_20, x21_21, x21_22, x21_23, x21_26, x21_27, x21_28, x21_31, x21_32, aft_some, aft_void, Option.bind_some, Option.toList_some, Option.toList_none, List.cons_append, List.nil_append, if_true, if_false, ↓reduceIte, eq_self, z360_o, ↓z360_0, ↓z360_1, ↓z360_1p, ↓z360_2, ↓z360_2p, ↓z360_3, ↓z360_4, ↓z360_5, ↓z360_6, ↓z360_7, ↓z360_7p, ↓z360_8, ↓z360_8p, ↓z361_g, ↓z361_s, ↓z362_g, ↓z362_s, ↓z363_g, ↓z363_s, ↓z364_g, ↓z364_s, ↓z365_g, ↓z365_s, ↓aft_of (c_kind), c1, hk, c2]
theorem c_takeCustomer (h : RD T r) : ∃ T', X 20 0 [.ref 360, .int c] [] (H T P) = some (some (.int (cuS c r).1), H T' P) ∧ RD T' (cuS c r).2 ∧ FR T T' := by
  have hn : T 360 2 = nI r.1 := h.2.1
  have hn12 := h.1
  have ed := c_digit (c := c) (l := 0) (m := 9) (h0 := H T P)
  rw [show (48 : Int32) + 0 = 48 by decide, show (48 : Int32) + 9 = 57 by decide] at ed
  have h12 : (nI r.1 < 12) = (r.1 < 12) := nI_ltp (a := r.1) (b := 12) (by omega) (by decide)
  unfold cuS
  by_cases c1 : inI c 48 57 = 0
  · rw [if_pos c1]
    refine ⟨T, ?_, h, FR.rfl' T⟩
    simp +decide only [x20_0, x20_1, x20_2, x20_4, x20_7, x20_10, x20_11, x20_14, x20_16, x20_19, x20_20, x20_21, x20_22, x20_25, x20_26, x20_29, x20_30, x20_32, x20_33, x20_34, x20_35, x20_38, x20_39, x20_42, x20_43, x20_44, x20_45, x20_48, x20_49, x20_52, x20_53, x20_54, x20_55, x20_58, x20_59, x20_62, x20_63, x20_64, x20_65, x20_66, x20_69, x20_70, x20_71, x20_74, x20_75, x20_77, x20_80, x20_81, x20_82, x20_85, x20_86, aft_some, aft_void, Option.bind_some, Option.toList_some, Option.toList_none, List.cons_append, List.nil_append, if_true, if_false, ↓reduceIte, eq_self, z360_o, ↓z360_0, ↓z360_1, ↓z360_1p, ↓z360_2, ↓z360_2p, ↓z360_3, ↓z360_4, ↓z360_5, ↓z360_6, ↓z360_7, ↓z360_7p, ↓z360_8, ↓z360_8p, ↓z361_g, ↓z361_s, ↓z362_g, ↓z362_s, ↓z363_g, ↓z363_s, ↓z364_g, ↓z364_s, ↓z365_g, ↓z365_s, ↓aft_of (ed), c1]
  rw [if_neg c1]
  by_cases c2 : r.1 < 12
  · rw [if_pos c2]
    have ok := okx_nI c2 (show (12 : Nat) < 2 ^ 31 by decide)
    have cl := nI_clamp (show r.1 < 2 ^ 31 by omega)
    refine ⟨_, by
      simp +decide only [x20_0, x20_1, x20_2, x20_4, x20_7, x20_10, x20_11, x20_14, x20_16, x20_19, x20_20, x20_21, x20_22, x20_25, x20_26, x20_29, x20_30, x20_32, x20_33, x20_34, x20_35, x20_38, x20_39, x20_42, x20_43, x20_44, x20_45, x20_48, x20_49, x20_52, x20_53, x20_54, x20_55, x20_58, x20_59, x20_62, x20_63, x20_64, x20_65, x20_66, x20_69, x20_70, x20_71, x20_74, x20_75, x20_77, x20_80, x20_81, x20_82, x20_85, x20_86, aft_some, aft_void, Option.bind_some, Option.toList_some, Option.toList_none, List.cons_append, List.nil_append, if_true, if_false, ↓reduceIte, eq_self, z360_o, ↓z360_0, ↓z360_1, ↓z360_1p, ↓z360_2, ↓z360_2p, ↓z360_3, ↓z360_4, ↓z360_5, ↓z360_6, ↓z360_7, ↓z360_7p, ↓z360_8, ↓z360_8p, ↓z361_g, ↓z361_s, ↓z362_g, ↓z362_s, ↓z363_g, ↓z363_s, ↓z364_g, ↓z364_s, ↓z365_g, ↓z365_s, upA_s, u_oo, u_o0, u_0o, u_n, ↓aft_of (ed), c1, hn, h12, c2, ok, cl, nI_1]
      rfl, ?_, ?_⟩
    · obtain ⟨h1, h2, h3, h4, h5, h6, h7, h8⟩ := h
      refine ⟨c2, ?_, ?_, ?_, ?_, ?_, ?_, ?_⟩
      · simp +decide only [upA_s, u_n]
      · simp +decide only [upA_s, u_n]
      · simp +decide only [upA_s, u_n]
      · simp +decide only [upA_s, u_n]; rw [h5]
      · simp +decide only [upA_s, u_n]; rw [h6]
      · simp +decide only [upA_s, u_n]; rw [h7]
      · simp +decide only [upA_s, u_n]; rw [h8]
    · refine ⟨fun a g1 g2 g3 g4 g5 => ?_, ?_⟩
      · simp only [upA_n _ _ g1, upA_n _ _ g2, upA_n _ _ g3, upA_n _ _ g4, upA_n _ _ g5]
      · simp +decide only [upA_s, u_n]
  · rw [if_neg c2]
    refine ⟨T, ?_, h, FR.rfl' T⟩
    simp +decide only [x20_0, x20_1, x20_2, x20_4, x20_7, x20_10, x20_11, x20_14, x20_16, x20_19, x20_20, x20_21, x20_22, x20_25, x20_26, x20_29, x20_30, x20_32, x20_33, x20_34, x20_35, x20_38, x20_39, x20_42, x20_43, x20_44, x20_45, x20_48, x20_49, x20_52, x20_53, x20_54, x20_55, x20_58, x20_59, x20_62, x20_63, x20_64, x20_65, x20_66, x20_69, x20_70, x20_71, x20_74, x20_75, x20_77, x20_80, x20_81, x20_82, x20_85, x20_86, aft_some, aft_void, Option.bind_some, Option.toList_some, Option.toList_none, List.cons_append, List.nil_append, if_true, if_false, ↓reduceIte, eq_self, z360_o, ↓z360_0, ↓z360_1, ↓z360_1p, ↓z360_2, ↓z360_2p, ↓z360_3, ↓z360_4, ↓z360_5, ↓z360_6, ↓z360_7, ↓z360_7p, ↓z360_8, ↓z360_8p, ↓z361_g, ↓z361_s, ↓z362_g, ↓z362_s, ↓z363_g, ↓z363_s, ↓z364_g, ↓z364_s, ↓z365_g, ↓z365_s, ↓aft_of (ed), c1, hn, h12, c2]
end RX
end
section
/-! the text is read: pieces, starch, hangers -/
def wtI (k : Int32) : Int32 := if k = 0 then 1000 else if k = 1 then 100 else if k = 2 then 10 else 1
def KD (r : rS) : Prop := r.1 < 1 ∨ r.2.2.1 = -5 ∨ ∃ k, k < 4 ∧ r.2.2.1 = nI k
def pcS (c : Int32) (r : rS) : Int32 × rS := if inI c 49 57 = 0 then (0, r) else if r.1 < 1 then (0, r) else if r.2.2.1 < 0 then (0, r) else (1, r.1, 4, r.2.2.1, r.2.2.2.1, upA r.2.2.2.2.1 (r.1 - 1) (r.2.2.2.2.1 (r.1 - 1) + (c - 48) * wtI r.2.2.1), r.2.2.2.2.2)
def stS (c : Int32) (r : rS) : Int32 × rS := if inI c 49 51 = 0 then (0, r) else if r.1 < 1 then (0, r) else (1, r.1, 6, r.2.2.1, r.2.2.2.1, r.2.2.2.2.1, upA r.2.2.2.2.2.1 (r.1 - 1) (c - 48), r.2.2.2.2.2.2)
def haS (c pl : Int32) (r : rS) : Int32 × rS := if inI c 48 57 = 0 then (0, r) else if r.1 < 1 then (0, r) else (1, r.1, pl, r.2.2.1, r.2.2.2.1, r.2.2.2.2.1, r.2.2.2.2.2.1, upA r.2.2.2.2.2.2 (r.1 - 1) (r.2.2.2.2.2.2 (r.1 - 1) * 10 + (c - 48)))
section RX2
variable {T U EE : Nat → Nat → Int32} {P Q : Nat → Nat → Nat} {r : rS} {c sg pl : Int32} {h0 : List hC}
theorem c_takeStarch' (h : RD T r) : ∃ T', X 23 0 [.ref 360, .int c] [] (H T P) = some (some (.int (stS c r).1), H T' P) ∧ RD T' (stS c r).2 ∧ FR T T' := by
  have hn : T 360 2 = nI r.1 := h.2.1
  have hn12 := h.1
  have ed := c_digit (c := c) (l := 1) (m := 3) (h0 := H T P)
  rw [show (48 : Int32) + 1 = 49 by decide, show (48 : Int32) + 3 = 51 by decide] at ed
  have h12 : (nI r.1 < 1) = (r.1 < 1) := nI_ltp (a := r.1) (b := 1) (by omega) (by decide)
  unfold stS
  by_cases c1 : inI c 49 51 = 0
  · rw [if_pos c1]
    refine ⟨T, ?_, h, FR.rfl' T⟩
    simp +decide only [x23_0, x23_1, x23_2, x23_3, x23_6, x23_9, x23_10, x23_13, x23_14, x23_17, x23_18, x23_19, x23_20, x23_23, x23_24, x23_27, x23_28, x23_29, x23_30, x23_32, x23_33, x23_34, x23_35, x23_37, x23_40, x23_41, aft_some, aft_void, Option.bind_some, Option.toList_some, Option.toList_none, List.cons_append, List.nil_append, if_true, if_false, ↓reduceIte, eq_self, z360_o, ↓z360_0, ↓z360_1, ↓z360_1p, ↓z360_2, ↓z360_2p, ↓z360_3, ↓z360_4, ↓z360_5, ↓z360_6, ↓z360_7, ↓z360_7p, ↓z360_8, ↓z360_8p, ↓z361_g, ↓z361_s, ↓z362_g, ↓z362_s, ↓z363_g, ↓z363_s, ↓z364_g, ↓z364_s, ↓z365_g, ↓z365_s, ↓aft_of (ed), c1]
  rw [if_neg c1]
  by_cases c2 : r.1 < 1
  · rw [if_pos c2]
    refine ⟨T, ?_, h, FR.rfl' T⟩
    simp +decide only [x23_0, x23_1, x23_2, x23_3, x23_6, x23_9, x23_10, x23_13, x23_14, x23_17, x23_18, x23_19, x23_20, x23_23, x23_24, x23_27, x23_28, x23_29, x23_30, x23_32, x23_33, x23_34, x23_35, x23_37, x23_40, x23_41, aft_some, aft_void, Option.bind_some, Option.toList_some, Option.toList_none, List.cons_append, List.nil_append, if_true, if_false, ↓reduceIte, eq_self, z360_o, ↓z360_0, ↓z360_1, ↓z360_1p, ↓z360_2, ↓z360_2p, ↓z360_3, ↓z360_4, ↓z360_5, ↓z360_6, ↓z360_7, ↓z360_7p, ↓z360_8, ↓z360_8p, ↓z361_g, ↓z361_s, ↓z362_g, ↓z362_s, ↓z363_g, ↓z363_s, ↓z364_g, ↓z364_s, ↓z365_g, ↓z365_s, ↓aft_of (ed), c1, hn, h12, c2]
  rw [if_neg c2]
  have e1 : nI r.1 - 1 = nI (r.1 - 1) := nI_sub (a := r.1) (b := 1) (by omega)
  have ok := okx_nI (show r.1 - 1 < 12 by omega) (show (12 : Nat) < 2 ^ 31 by decide)
  have cl := nI_clamp (show r.1 - 1 < 2 ^ 31 by omega)
  refine ⟨_, by
    simp +decide only [x23_0, x23_1, x23_2, x23_3, x23_6, x23_9, x23_10, x23_13, x23_14, x23_17, x23_18, x23_19, x23_20, x23_23, x23_24, x23_27, x23_28, x23_29, x23_30, x23_32, x23_33, x23_34, x23_35, x23_37, x23_40, x23_41, aft_some, aft_void, Option.bind_some, Option.toList_some, Option.toList_none, List.cons_append, List.nil_append, if_true, if_false, ↓reduceIte, eq_self, z360_o, ↓z360_0, ↓z360_1, ↓z360_1p, ↓z360_2, ↓z360_2p, ↓z360_3, ↓z360_4, ↓z360_5, ↓z360_6, ↓z360_7, ↓z360_7p, ↓z360_8, ↓z360_8p, ↓z361_g, ↓z361_s, ↓z362_g, ↓z362_s, ↓z363_g, ↓z363_s, ↓z364_g, ↓z364_s, ↓z365_g, ↓z365_s, upA_s, u_oo, u_o0, u_0o, u_n, ↓aft_of (ed), c1, hn, h12, c2, e1, ok, cl]
    rfl, ?_, ?_⟩
  · obtain ⟨h1, h2, h3, h4, h5, h6, h7, h8⟩ := h
    refine ⟨h1, ?_, ?_, ?_, ?_, ?_, ?_, ?_⟩
    · simp +decide only [upA_s, u_n]; exact h2
    · simp +decide only [upA_s, u_n]
    · simp +decide only [upA_s, u_n]; exact h4
    · simp +decide only [upA_s, u_n]; exact h5
    · simp +decide only [upA_s, u_n]; exact h6
    · simp +decide only [upA_s, u_n]; rw [h7]
    · simp +decide only [upA_s, u_n]; exact h8
  · refine ⟨fun a g1 g2 g3 g4 g5 => ?_, ?_⟩
    · simp only [upA_n _ _ g1, upA_n _ _ g2, upA_n _ _ g3, upA_n _ _ g4, upA_n _ _ g5]
    · simp +decide only [upA_s, u_n]
theorem c_takeHangers (h : RD T r) : ∃ T', X 24 0 [.ref 360, .int c, .int pl] [] (H T P) = some (some (.int (haS c pl r).1), H T' P) ∧ RD T' (haS c pl r).2 ∧ FR T T' := by
  have hn : T 360 2 = nI r.1 := h.2.1
  have hn12 := h.1
  have hg : T 365 = r.2.2.2.2.2.2 := h.2.2.2.2.2.2.2
  have ed := c_digit (c := c) (l := 0) (m := 9) (h0 := H T P)
  rw [show (48 : Int32) + 0 = 48 by decide, show (48 : Int32) + 9 = 57 by decide] at ed
  have h12 : (nI r.1 < 1) = (r.1 < 1) := nI_ltp (a := r.1) (b := 1) (by omega) (by decide)
  unfold haS
  by_cases c1 : inI c 48 57 = 0
  · rw [if_pos c1]
    refine ⟨T, ?_, h, FR.rfl' T⟩
    simp +decide only [x24_0, x24_1, x24_2, x24_4, x24_7, x24_10, x24_11, x24_14, x24_15, x24_18, x24_19, x24_20, x24_21, x24_24, x24_25, x24_28, x24_29, x24_30, x24_31, x24_34, x24_35, x24_38, x24_39, x24_40, x24_41, x24_43, x24_44, x24_45, x24_47, x24_48, x24_49, x24_50, x24_51, x24_52, x24_55, x24_56, aft_some, aft_void, Option.bind_some, Option.toList_some, Option.toList_none, List.cons_append, List.nil_append, if_true, if_false, ↓reduceIte, eq_self, z360_o, ↓z360_0, ↓z360_1, ↓z360_1p, ↓z360_2, ↓z360_2p, ↓z360_3, ↓z360_4, ↓z360_5, ↓z360_6, ↓z360_7, ↓z360_7p, ↓z360_8, ↓z360_8p, ↓z361_g, ↓z361_s, ↓z362_g, ↓z362_s, ↓z363_g, ↓z363_s, ↓z364_g, ↓z364_s, ↓z365_g, ↓z365_s, ↓aft_of (ed), c1]
  rw [if_neg c1]
  by_cases c2 : r.1 < 1
  · rw [if_pos c2]
    refine ⟨T, ?_, h, FR.rfl' T⟩
    simp +decide only [x24_0, x24_1, x24_2, x24_4, x24_7, x24_10, x24_11, x24_14, x24_15, x24_18, x24_19, x24_20, x24_21, x24_24, x24_25, x24_28, x24_29, x24_30, x24_31, x24_34, x24_35, x24_38, x24_39, x24_40, x24_41, x24_43, x24_44, x24_45, x24_47, x24_48, x24_49, x24_50, x24_51, x24_52, x24_55, x24_56, aft_some, aft_void, Option.bind_some, Option.toList_some, Option.toList_none, List.cons_append, List.nil_append, if_true, if_false, ↓reduceIte, eq_self, z360_o, ↓z360_0, ↓z360_1, ↓z360_1p, ↓z360_2, ↓z360_2p, ↓z360_3, ↓z360_4, ↓z360_5, ↓z360_6, ↓z360_7, ↓z360_7p, ↓z360_8, ↓z360_8p, ↓z361_g, ↓z361_s, ↓z362_g, ↓z362_s, ↓z363_g, ↓z363_s, ↓z364_g, ↓z364_s, ↓z365_g, ↓z365_s, ↓aft_of (ed), c1, hn, h12, c2]
  rw [if_neg c2]
  have e1 : nI r.1 - 1 = nI (r.1 - 1) := nI_sub (a := r.1) (b := 1) (by omega)
  have ok := okx_nI (show r.1 - 1 < 12 by omega) (show (12 : Nat) < 2 ^ 31 by decide)
  have cl := nI_clamp (show r.1 - 1 < 2 ^ 31 by omega)
  refine ⟨_, by
    simp +decide only [x24_0, x24_1, x24_2, x24_4, x24_7, x24_10, x24_11, x24_14, x24_15, x24_18, x24_19, x24_20, x24_21, x24_24, x24_25, x24_28, x24_29, x24_30, x24_31, x24_34, x24_35, x24_38, x24_39, x24_40, x24_41, x24_43, x24_44, x24_45, x24_47, x24_48, x24_49, x24_50, x24_51, x24_52, x24_55, x24_56, aft_some, aft_void, Option.bind_some, Option.toList_some, Option.toList_none, List.cons_append, List.nil_append, if_true, if_false, ↓reduceIte, eq_self, z360_o, ↓z360_0, ↓z360_1, ↓z360_1p, ↓z360_2, ↓z360_2p, ↓z360_3, ↓z360_4, ↓z360_5, ↓z360_6, ↓z360_7, ↓z360_7p, ↓z360_8, ↓z360_8p, ↓z361_g, ↓z361_s, ↓z362_g, ↓z362_s, ↓z363_g, ↓z363_s, ↓z364_g, ↓z364_s, ↓z365_g, ↓z365_s, upA_s, u_oo, u_o0, u_0o, u_n, ↓aft_of (ed), c1, hn, h12, c2, e1, ok, cl, hg]
    rfl, ?_, ?_⟩
  · obtain ⟨h1, h2, h3, h4, h5, h6, h7, h8⟩ := h
    refine ⟨h1, ?_, ?_, ?_, ?_, ?_, ?_, ?_⟩
    · simp +decide only [upA_s, u_n]; exact h2
    · simp +decide only [upA_s, u_n]
    · simp +decide only [upA_s, u_n]; exact h4
    · simp +decide only [upA_s, u_n]; exact h5
    · simp +decide only [upA_s, u_n]; exact h6
    · simp +decide only [upA_s, u_n]; exact h7
    · simp +decide only [upA_s, u_n]; rw [h8]
  · refine ⟨fun a g1 g2 g3 g4 g5 => ?_, ?_⟩
    · simp only [upA_n _ _ g1, upA_n _ _ g2, upA_n _ _ g3, upA_n _ _ g4, upA_n _ _ g5]
    · simp +decide only [upA_s, u_n]
theorem c_takePieces (h : RD T r) (hk : KD r) : ∃ T', X 22 0 [.ref 360, .int c] [] (H T P) = some (some (.int (pcS c r).1), H T' P) ∧ RD T' (pcS c r).2 ∧ FR T T' := by
  have hn : T 360 2 = nI r.1 := h.2.1
  have hn12 := h.1
  have h8 : T 360 8 = r.2.2.1 := h.2.2.2.1
  have hg : T 363 = r.2.2.2.2.1 := h.2.2.2.2.2.1
  have ed := c_digit (c := c) (l := 1) (m := 9) (h0 := H T P)
  rw [show (48 : Int32) + 1 = 49 by decide, show (48 : Int32) + 9 = 57 by decide] at ed
  have h12 : (nI r.1 < 1) = (r.1 < 1) := nI_ltp (a := r.1) (b := 1) (by omega) (by decide)
  unfold pcS
  by_cases c1 : inI c 49 57 = 0
  · rw [if_pos c1]
    refine ⟨T, ?_, h, FR.rfl' T⟩
    simp +decide only [x22_0, x22_1, x22_2, x22_4, x22_7, x22_10, x22_11, x22_14, x22_15, x22_18, x22_19, x22_22, x22_25, x22_26, x22_27, x22_28, x22_31, x22_32, x22_35, x22_36, x22_37, x22_38, x22_39, x22_40, x22_42, x22_43, x22_46, x22_47, x22_50, x22_51, x22_52, x22_53, x22_54, x22_55, x22_56, x22_59, x22_60, aft_some, aft_void, Option.bind_some, Option.toList_some, Option.toList_none, List.cons_append, List.nil_append, if_true, if_false, ↓reduceIte, eq_self, z360_o, ↓z360_0, ↓z360_1, ↓z360_1p, ↓z360_2, ↓z360_2p, ↓z360_3, ↓z360_4, ↓z360_5, ↓z360_6, ↓z360_7, ↓z360_7p, ↓z360_8, ↓z360_8p, ↓z361_g, ↓z361_s, ↓z362_g, ↓z362_s, ↓z363_g, ↓z363_s, ↓z364_g, ↓z364_s, ↓z365_g, ↓z365_s, ↓aft_of (ed), c1]
  rw [if_neg c1]
  by_cases c2 : r.1 < 1
  · rw [if_pos c2]
    refine ⟨T, ?_, h, FR.rfl' T⟩
    simp +decide only [x22_0, x22_1, x22_2, x22_4, x22_7, x22_10, x22_11, x22_14, x22_15, x22_18, x22_19, x22_22, x22_25, x22_26, x22_27, x22_28, x22_31, x22_32, x22_35, x22_36, x22_37, x22_38, x22_39, x22_40, x22_42, x22_43, x22_46, x22_47, x22_50, x22_51, x22_52, x22_53, x22_54, x22_55, x22_56, x22_59, x22_60, aft_some, aft_void, Option.bind_some, Option.toList_some, Option.toList_none, List.cons_append, List.nil_append, if_true, if_false, ↓reduceIte, eq_self, z360_o, ↓z360_0, ↓z360_1, ↓z360_1p, ↓z360_2, ↓z360_2p, ↓z360_3, ↓z360_4, ↓z360_5, ↓z360_6, ↓z360_7, ↓z360_7p, ↓z360_8, ↓z360_8p, ↓z361_g, ↓z361_s, ↓z362_g, ↓z362_s, ↓z363_g, ↓z363_s, ↓z364_g, ↓z364_s, ↓z365_g, ↓z365_s, ↓aft_of (ed), c1, hn, h12, c2]
  rw [if_neg c2]
  by_cases c3 : r.2.2.1 < 0
  · rw [if_pos c3]
    refine ⟨T, ?_, h, FR.rfl' T⟩
    simp +decide only [x22_0, x22_1, x22_2, x22_4, x22_7, x22_10, x22_11, x22_14, x22_15, x22_18, x22_19, x22_22, x22_25, x22_26, x22_27, x22_28, x22_31, x22_32, x22_35, x22_36, x22_37, x22_38, x22_39, x22_40, x22_42, x22_43, x22_46, x22_47, x22_50, x22_51, x22_52, x22_53, x22_54, x22_55, x22_56, x22_59, x22_60, aft_some, aft_void, Option.bind_some, Option.toList_some, Option.toList_none, List.cons_append, List.nil_append, if_true, if_false, ↓reduceIte, eq_self, z360_o, ↓z360_0, ↓z360_1, ↓z360_1p, ↓z360_2, ↓z360_2p, ↓z360_3, ↓z360_4, ↓z360_5, ↓z360_6, ↓z360_7, ↓z360_7p, ↓z360_8, ↓z360_8p, ↓z361_g, ↓z361_s, ↓z362_g, ↓z362_s, ↓z363_g, ↓z363_s, ↓z364_g, ↓z364_s, ↓z365_g, ↓z365_s, ↓aft_of (ed), c1, hn, h12, c2, h8, c3]
  rw [if_neg c3]
  have e1 : nI r.1 - 1 = nI (r.1 - 1) := nI_sub (a := r.1) (b := 1) (by omega)
  have ok := okx_nI (show r.1 - 1 < 12 by omega) (show (12 : Nat) < 2 ^ 31 by decide)
  have cl := nI_clamp (show r.1 - 1 < 2 ^ 31 by omega)
  obtain ⟨k, hk4, ek⟩ := (hk.resolve_left c2).resolve_left (fun z => c3 (by rw [z]; decide))
  refine ⟨up1 (up1 T 363 (r.1 - 1) (r.2.2.2.2.1 (r.1 - 1) + (c - 48) * wtI r.2.2.1)) 360 7 4, ?_, ?_, ?_⟩
  · have h8 : T 360 8 = nI k := h8.trans ek
    rw [ek] at c3 ⊢
    match k, hk4 with
    | 0, _ => simp +decide only [x22_0, x22_1, x22_2, x22_4, x22_7, x22_10, x22_11, x22_14, x22_15, x22_18, x22_19, x22_22, x22_25, x22_26, x22_27, x22_28, x22_31, x22_32, x22_35, x22_36, x22_37, x22_38, x22_39, x22_40, x22_42, x22_43, x22_46, x22_47, x22_50, x22_51, x22_52, x22_53, x22_54, x22_55, x22_56, x22_59, x22_60, aft_some, aft_void, Option.bind_some, Option.toList_some, Option.toList_none, List.cons_append, List.nil_append, if_true, if_false, ↓reduceIte, eq_self, z360_o, ↓z360_0, ↓z360_1, ↓z360_1p, ↓z360_2, ↓z360_2p, ↓z360_3, ↓z360_4, ↓z360_5, ↓z360_6, ↓z360_7, ↓z360_7p, ↓z360_8, ↓z360_8p, ↓z361_g, ↓z361_s, ↓z362_g, ↓z362_s, ↓z363_g, ↓z363_s, ↓z364_g, ↓z364_s, ↓z365_g, ↓z365_s, upA_s, u_oo, u_o0, u_0o, u_n, ↓aft_of (ed), c1, hn, h12, c2, h8, c3, e1, ok, cl, hg, nl0, ↓b_st (show (1 : Nat) < 4 by decide), cl0, sArr, wtI]
    | 1, _ => simp +decide only [x22_0, x22_1, x22_2, x22_4, x22_7, x22_10, x22_11, x22_14, x22_15, x22_18, x22_19, x22_22, x22_25, x22_26, x22_27, x22_28, x22_31, x22_32, x22_35, x22_36, x22_37, x22_38, x22_39, x22_40, x22_42, x22_43, x22_46, x22_47, x22_50, x22_51, x22_52, x22_53, x22_54, x22_55, x22_56, x22_59, x22_60, aft_some, aft_void, Option.bind_some, Option.toList_some, Option.toList_none, List.cons_append, List.nil_append, if_true, if_false, ↓reduceIte, eq_self, z360_o, ↓z360_0, ↓z360_1, ↓z360_1p, ↓z360_2, ↓z360_2p, ↓z360_3, ↓z360_4, ↓z360_5, ↓z360_6, ↓z360_7, ↓z360_7p, ↓z360_8, ↓z360_8p, ↓z361_g, ↓z361_s, ↓z362_g, ↓z362_s, ↓z363_g, ↓z363_s, ↓z364_g, ↓z364_s, ↓z365_g, ↓z365_s, upA_s, u_oo, u_o0, u_0o, u_n, ↓aft_of (ed), c1, hn, h12, c2, h8, c3, e1, ok, cl, hg, nl1, ↓b_st (show (1 : Nat) < 4 by decide), cl1, sArr, wtI]
    | 2, _ => simp +decide only [x22_0, x22_1, x22_2, x22_4, x22_7, x22_10, x22_11, x22_14, x22_15, x22_18, x22_19, x22_22, x22_25, x22_26, x22_27, x22_28, x22_31, x22_32, x22_35, x22_36, x22_37, x22_38, x22_39, x22_40, x22_42, x22_43, x22_46, x22_47, x22_50, x22_51, x22_52, x22_53, x22_54, x22_55, x22_56, x22_59, x22_60, aft_some, aft_void, Option.bind_some, Option.toList_some, Option.toList_none, List.cons_append, List.nil_append, if_true, if_false, ↓reduceIte, eq_self, z360_o, ↓z360_0, ↓z360_1, ↓z360_1p, ↓z360_2, ↓z360_2p, ↓z360_3, ↓z360_4, ↓z360_5, ↓z360_6, ↓z360_7, ↓z360_7p, ↓z360_8, ↓z360_8p, ↓z361_g, ↓z361_s, ↓z362_g, ↓z362_s, ↓z363_g, ↓z363_s, ↓z364_g, ↓z364_s, ↓z365_g, ↓z365_s, upA_s, u_oo, u_o0, u_0o, u_n, ↓aft_of (ed), c1, hn, h12, c2, h8, c3, e1, ok, cl, hg, nl2, ↓b_st (show (1 : Nat) < 4 by decide), cl2, sArr, wtI]
    | 3, _ => simp +decide only [x22_0, x22_1, x22_2, x22_4, x22_7, x22_10, x22_11, x22_14, x22_15, x22_18, x22_19, x22_22, x22_25, x22_26, x22_27, x22_28, x22_31, x22_32, x22_35, x22_36, x22_37, x22_38, x22_39, x22_40, x22_42, x22_43, x22_46, x22_47, x22_50, x22_51, x22_52, x22_53, x22_54, x22_55, x22_56, x22_59, x22_60, aft_some, aft_void, Option.bind_some, Option.toList_some, Option.toList_none, List.cons_append, List.nil_append, if_true, if_false, ↓reduceIte, eq_self, z360_o, ↓z360_0, ↓z360_1, ↓z360_1p, ↓z360_2, ↓z360_2p, ↓z360_3, ↓z360_4, ↓z360_5, ↓z360_6, ↓z360_7, ↓z360_7p, ↓z360_8, ↓z360_8p, ↓z361_g, ↓z361_s, ↓z362_g, ↓z362_s, ↓z363_g, ↓z363_s, ↓z364_g, ↓z364_s, ↓z365_g, ↓z365_s, upA_s, u_oo, u_o0, u_0o, u_n, ↓aft_of (ed), c1, hn, h12, c2, h8, c3, e1, ok, cl, hg, nl3, ↓b_st (show (1 : Nat) < 4 by decide), cl3, sArr, wtI]
  · obtain ⟨h1, h2, h3, h4, h5, h6, h7, h8⟩ := h
    refine ⟨h1, ?_, ?_, ?_, ?_, ?_, ?_, ?_⟩
    · simp +decide only [upA_s, u_n]; exact h2
    · simp +decide only [upA_s, u_n]
    · simp +decide only [upA_s, u_n]; exact h4
    · simp +decide only [upA_s, u_n]; exact h5
    · simp +decide only [upA_s, u_n]; rw [h6]
    · simp +decide only [upA_s, u_n]; exact h7
    · simp +decide only [upA_s, u_n]; exact h8
  · refine ⟨fun a g1 g2 g3 g4 g5 => ?_, ?_⟩
    · simp only [upA_n _ _ g1, upA_n _ _ g2, upA_n _ _ g3, upA_n _ _ g4, upA_n _ _ g5]
    · simp +decide only [upA_s, u_n]
end RX2
end
section
/-! the text is read: one letter -/
def OKs (a : Int32 × rS) (r : rS) : Prop := ((a.1 = 0 ∧ a.2 = r) ∨ a.1 = 1) ∧ KD a.2
def tkS (c : Int32) (r : rS) : Int32 × rS := if r.2.1 = 0 then cuS c r else if r.2.1 = 1 then sgS c 58 2 r else if r.2.1 = 2 then knS c r else if r.2.1 = 3 then pcS c r else if r.2.1 = 4 then (if (knS c r).1 = 0 then (if (sgS c 42 5 r).1 = 0 then enS c r else sgS c 42 5 r) else knS c r) else if r.2.1 = 5 then stS c r else if r.2.1 = 6 then enS c r else if r.2.1 = 7 then (if inI c 49 57 = 0 then (0, r) else haS c 8 r) else if r.2.1 = 8 then (if (haS c 9 r).1 = 0 then sgS c 59 0 r else haS c 9 r) else sgS c 59 0 r
section RT
variable {T U EE : Nat → Nat → Int32} {P Q : Nat → Nat → Nat} {r : rS} {c sg pl : Int32} {h0 : List hC}
theorem ok_0 (h : KD r) : OKs (0, r) r := ⟨Or.inl ⟨rfl, rfl⟩, h⟩
theorem ok_1 {r' : rS} (h : KD r') : OKs (1, r') r := ⟨Or.inr rfl, h⟩
theorem ok_sg (h : KD r) : OKs (sgS c sg pl r) r := by
  unfold sgS
  split
  · exact ok_1 h
  · exact ok_0 h
theorem ok_en (h : KD r) : OKs (enS c r) r := by
  unfold enS
  split
  · exact ok_1 h
  · split
    · exact ok_1 h
    · exact ok_0 h
theorem ok_cu (h : KD r) : OKs (cuS c r) r := by
  unfold cuS
  split
  · exact ok_0 h
  · split
    · exact ok_1 (Or.inr (Or.inl rfl))
    · exact ok_0 h
theorem kd_ok (c : Int32) : kdI c = -5 ∨ ∃ k, k < 4 ∧ kdI c = nI k := by
  unfold kdI
  split
  · exact Or.inr ⟨0, by decide, rfl⟩
  · split
    · exact Or.inr ⟨1, by decide, rfl⟩
    · split
      · exact Or.inr ⟨2, by decide, rfl⟩
      · split
        · exact Or.inr ⟨3, by decide, rfl⟩
        · exact Or.inl rfl
theorem ok_kn (h : KD r) : OKs (knS c r) r := by
  unfold knS
  split
  · exact ok_0 h
  · split
    · exact ok_1 (Or.inr (kd_ok c))
    · exact ok_0 h
theorem ok_pc (h : KD r) : OKs (pcS c r) r := by
  unfold pcS
  split
  · exact ok_0 h
  · split
    · exact ok_0 h
    · split
      · exact ok_0 h
      · exact ok_1 h
theorem ok_st (h : KD r) : OKs (stS c r) r := by
  unfold stS
  split
  · exact ok_0 h
  · split
    · exact ok_0 h
    · exact ok_1 h
theorem ok_ha (h : KD r) : OKs (haS c pl r) r := by
  unfold haS
  split
  · exact ok_0 h
  · split
    · exact ok_0 h
    · exact ok_1 h
theorem ok_v {a : Int32 × rS} (h : OKs a r) : (a.1 = 0 ∨ a.1 = 1) = True := eq_true (h.1.imp And.left id)
theorem c_take (h : RD T r) (hk : KD r) : ∃ T', X 19 0 [.ref 360, .int c] [] (H T P) = some (some (.int (tkS c r).1), H T' P) ∧ RD T' (tkS c r).2 ∧ FR T T' ∧ OKs (tkS c r) r := by
  have hp : T 360 7 = r.2.1 := h.2.2.1
  unfold tkS
  by_cases p0 : r.2.1 = 0
  · rw [if_pos p0]
    obtain ⟨T1, e1, r1, f1⟩ := c_takeCustomer (P := P) (c := c) h
    have k1 := ok_cu (c := c) hk
    exact ⟨T1, by simp +decide only [x19_0, x19_1, x19_4, x19_56, x19_57, x19_58, x19_61, x19_62, x19_63, x19_64, x19_66, x19_67, x19_70, x19_71, x19_72, x19_73, x19_76, x19_77, x19_78, x19_79, x19_82, x19_83, x19_84, x19_85, x19_88, x19_91, x19_92, x19_93, x19_95, x19_96, x19_99, x19_102, x19_103, x19_104, x19_107, x19_110, x19_111, x19_114, x19_115, x19_116, x19_117, x19_118, x19_121, x19_122, x19_123, x19_124, x19_127, x19_128, x19_129, x19_130, x19_132, x19_135, x19_138, x19_139, x19_140, x19_142, x19_145, x19_148, x19_149, x19_152, x19_153, x19_154, x19_155, x19_156, x19_158, x19_161, x19_164, x19_165, x19_166, x19_168, x19_169, x19_172, x19_175, x19_176, x19_179, x19_180, x19_181, x19_182, x19_183, x19_185, x19_186, x19_189, aft_some, aft_void, Option.bind_some, Option.toList_some, Option.toList_none, List.cons_append, List.nil_append, if_true, if_false, ↓reduceIte, eq_self, z360_o, ↓z360_0, ↓z360_1, ↓z360_1p, ↓z360_2, ↓z360_2p, ↓z360_3, ↓z360_4, ↓z360_5, ↓z360_6, ↓z360_7, ↓z360_7p, ↓z360_8, ↓z360_8p, ↓z361_g, ↓z361_s, ↓z362_g, ↓z362_s, ↓z363_g, ↓z363_s, ↓z364_g, ↓z364_s, ↓z365_g, ↓z365_s, hp, p0, ↓aft_of (e1), ok_v k1], r1, f1, k1⟩
  rw [if_neg p0]
  by_cases p1 : r.2.1 = 1
  · rw [if_pos p1]
    obtain ⟨T1, e1, r1, f1⟩ := c_sign (P := P) (c := c) (sg := 58) (pl := 2) h
    have k1 := ok_sg (c := c) (sg := 58) (pl := 2) hk
    exact ⟨T1, by simp +decide only [x19_0, x19_1, x19_4, x19_56, x19_57, x19_58, x19_61, x19_62, x19_63, x19_64, x19_66, x19_67, x19_70, x19_71, x19_72, x19_73, x19_76, x19_77, x19_78, x19_79, x19_82, x19_83, x19_84, x19_85, x19_88, x19_91, x19_92, x19_93, x19_95, x19_96, x19_99, x19_102, x19_103, x19_104, x19_107, x19_110, x19_111, x19_114, x19_115, x19_116, x19_117, x19_118, x19_121, x19_122, x19_123, x19_124, x19_127, x19_128, x19_129, x19_130, x19_132, x19_135, x19_138, x19_139, x19_140, x19_142, x19_145, x19_148, x19_149, x19_152, x19_153, x19_154, x19_155, x19_156, x19_158, x19_161, x19_164, x19_165, x19_166, x19_168, x19_169, x19_172, x19_175, x19_176, x19_179, x19_180, x19_181, x19_182, x19_183, x19_185, x19_186, x19_189, aft_some, aft_void, Option.bind_some, Option.toList_some, Option.toList_none, List.cons_append, List.nil_append, if_true, if_false, ↓reduceIte, eq_self, z360_o, ↓z360_0, ↓z360_1, ↓z360_1p, ↓z360_2, ↓z360_2p, ↓z360_3, ↓z360_4, ↓z360_5, ↓z360_6, ↓z360_7, ↓z360_7p, ↓z360_8, ↓z360_8p, ↓z361_g, ↓z361_s, ↓z362_g, ↓z362_s, ↓z363_g, ↓z363_s, ↓z364_g, ↓z364_s, ↓z365_g, ↓z365_s, hp, p1, ↓aft_of (e1), ok_v k1], r1, f1, k1⟩
  rw [if_neg p1]
  by_cases p2 : r.2.1 = 2
  · rw [if_pos p2]
    obtain ⟨T1, e1, r1, f1⟩ := c_takeKind (P := P) (c := c) h
    have k1 := ok_kn (c := c) hk
    exact ⟨T1, by simp +decide only [x19_0, x19_1, x19_4, x19_56, x19_57, x19_58, x19_61, x19_62, x19_63, x19_64, x19_66, x19_67, x19_70, x19_71, x19_72, x19_73, x19_76, x19_77, x19_78, x19_79, x19_82, x19_83, x19_84, x19_85, x19_88, x19_91, x19_92, x19_93, x19_95, x19_96, x19_99, x19_102, x19_103, x19_104, x19_107, x19_110, x19_111, x19_114, x19_115, x19_116, x19_117, x19_118, x19_121, x19_122, x19_123, x19_124, x19_127, x19_128, x19_129, x19_130, x19_132, x19_135, x19_138, x19_139, x19_140, x19_142, x19_145, x19_148, x19_149, x19_152, x19_153, x19_154, x19_155, x19_156, x19_158, x19_161, x19_164, x19_165, x19_166, x19_168, x19_169, x19_172, x19_175, x19_176, x19_179, x19_180, x19_181, x19_182, x19_183, x19_185, x19_186, x19_189, aft_some, aft_void, Option.bind_some, Option.toList_some, Option.toList_none, List.cons_append, List.nil_append, if_true, if_false, ↓reduceIte, eq_self, z360_o, ↓z360_0, ↓z360_1, ↓z360_1p, ↓z360_2, ↓z360_2p, ↓z360_3, ↓z360_4, ↓z360_5, ↓z360_6, ↓z360_7, ↓z360_7p, ↓z360_8, ↓z360_8p, ↓z361_g, ↓z361_s, ↓z362_g, ↓z362_s, ↓z363_g, ↓z363_s, ↓z364_g, ↓z364_s, ↓z365_g, ↓z365_s, hp, p2, ↓aft_of (e1), ok_v k1], r1, f1, k1⟩
  rw [if_neg p2]
  by_cases p3 : r.2.1 = 3
  · rw [if_pos p3]
    obtain ⟨T1, e1, r1, f1⟩ := c_takePieces (P := P) (c := c) h hk
    have k1 := ok_pc (c := c) hk
    exact ⟨T1, by simp +decide only [x19_0, x19_1, x19_4, x19_56, x19_57, x19_58, x19_61, x19_62, x19_63, x19_64, x19_66, x19_67, x19_70, x19_71, x19_72, x19_73, x19_76, x19_77, x19_78, x19_79, x19_82, x19_83, x19_84, x19_85, x19_88, x19_91, x19_92, x19_93, x19_95, x19_96, x19_99, x19_102, x19_103, x19_104, x19_107, x19_110, x19_111, x19_114, x19_115, x19_116, x19_117, x19_118, x19_121, x19_122, x19_123, x19_124, x19_127, x19_128, x19_129, x19_130, x19_132, x19_135, x19_138, x19_139, x19_140, x19_142, x19_145, x19_148, x19_149, x19_152, x19_153, x19_154, x19_155, x19_156, x19_158, x19_161, x19_164, x19_165, x19_166, x19_168, x19_169, x19_172, x19_175, x19_176, x19_179, x19_180, x19_181, x19_182, x19_183, x19_185, x19_186, x19_189, aft_some, aft_void, Option.bind_some, Option.toList_some, Option.toList_none, List.cons_append, List.nil_append, if_true, if_false, ↓reduceIte, eq_self, z360_o, ↓z360_0, ↓z360_1, ↓z360_1p, ↓z360_2, ↓z360_2p, ↓z360_3, ↓z360_4, ↓z360_5, ↓z360_6, ↓z360_7, ↓z360_7p, ↓z360_8, ↓z360_8p, ↓z361_g, ↓z361_s, ↓z362_g, ↓z362_s, ↓z363_g, ↓z363_s, ↓z364_g, ↓z364_s, ↓z365_g, ↓z365_s, hp, p3, ↓aft_of (e1), ok_v k1], r1, f1, k1⟩
  rw [if_neg p3]
  by_cases p4 : r.2.1 = 4
  · rw [if_pos p4]
    obtain ⟨T1, e1, r1, f1⟩ := c_takeKind (P := P) (c := c) h
    have k1 := ok_kn (c := c) hk
    rcases k1.1 with ⟨z1, y1⟩ | z1
    · rw [if_pos z1]
      rw [z1] at e1
      rw [y1] at r1
      obtain ⟨T2, e2, r2, f2⟩ := c_sign (P := P) (c := c) (sg := 42) (pl := 5) r1
      have k2 := ok_sg (c := c) (sg := 42) (pl := 5) hk
      rcases k2.1 with ⟨z2, y2⟩ | z2
      · rw [if_pos z2]
        rw [z2] at e2
        rw [y2] at r2
        obtain ⟨T3, e3, r3, f3⟩ := c_ending (P := P) (c := c) r2
        have k3 := ok_en (c := c) hk
        refine ⟨T3, ?_, r3, (f1.trans f2).trans f3, k3⟩
        rcases k3.1 with ⟨z3, -⟩ | z3
        · rw [z3] at e3 ⊢
          simp +decide only [x19_0, x19_1, x19_4, x19_56, x19_57, x19_58, x19_61, x19_62, x19_63, x19_64, x19_66, x19_67, x19_70, x19_71, x19_72, x19_73, x19_76, x19_77, x19_78, x19_79, x19_82, x19_83, x19_84, x19_85, x19_88, x19_91, x19_92, x19_93, x19_95, x19_96, x19_99, x19_102, x19_103, x19_104, x19_107, x19_110, x19_111, x19_114, x19_115, x19_116, x19_117, x19_118, x19_121, x19_122, x19_123, x19_124, x19_127, x19_128, x19_129, x19_130, x19_132, x19_135, x19_138, x19_139, x19_140, x19_142, x19_145, x19_148, x19_149, x19_152, x19_153, x19_154, x19_155, x19_156, x19_158, x19_161, x19_164, x19_165, x19_166, x19_168, x19_169, x19_172, x19_175, x19_176, x19_179, x19_180, x19_181, x19_182, x19_183, x19_185, x19_186, x19_189, aft_some, aft_void, Option.bind_some, Option.toList_some, Option.toList_none, List.cons_append, List.nil_append, if_true, if_false, ↓reduceIte, eq_self, z360_o, ↓z360_0, ↓z360_1, ↓z360_1p, ↓z360_2, ↓z360_2p, ↓z360_3, ↓z360_4, ↓z360_5, ↓z360_6, ↓z360_7, ↓z360_7p, ↓z360_8, ↓z360_8p, ↓z361_g, ↓z361_s, ↓z362_g, ↓z362_s, ↓z363_g, ↓z363_s, ↓z364_g, ↓z364_s, ↓z365_g, ↓z365_s, hp, p4, ↓aft_of (e1), ↓aft_of (e2), ↓aft_of (e3)]
        · rw [z3] at e3 ⊢
          simp +decide only [x19_0, x19_1, x19_4, x19_56, x19_57, x19_58, x19_61, x19_62, x19_63, x19_64, x19_66, x19_67, x19_70, x19_71, x19_72, x19_73, x19_76, x19_77, x19_78, x19_79, x19_82, x19_83, x19_84, x19_85, x19_88, x19_91, x19_92, x19_93, x19_95, x19_96, x19_99, x19_102, x19_103, x19_104, x19_107, x19_110, x19_111, x19_114, x19_115, x19_116, x19_117, x19_118, x19_121, x19_122, x19_123, x19_124, x19_127, x19_128, x19_129, x19_130, x19_132, x19_135, x19_138, x19_139, x19_140, x19_142, x19_145, x19_148, x19_149, x19_152, x19_153, x19_154, x19_155, x19_156, x19_158, x19_161, x19_164, x19_165, x19_166, x19_168, x19_169, x19_172, x19_175, x19_176, x19_179, x19_180, x19_181, x19_182, x19_183, x19_185, x19_186, x19_189, aft_some, aft_void, Option.bind_some, Option.toList_some, Option.toList_none, List.cons_append, List.nil_append, if_true, if_false, ↓reduceIte, eq_self, z360_o, ↓z360_0, ↓z360_1, ↓z360_1p, ↓z360_2, ↓z360_2p, ↓z360_3, ↓z360_4, ↓z360_5, ↓z360_6, ↓z360_7, ↓z360_7p, ↓z360_8, ↓z360_8p, ↓z361_g, ↓z361_s, ↓z362_g, ↓z362_s, ↓z363_g, ↓z363_s, ↓z364_g, ↓z364_s, ↓z365_g, ↓z365_s, hp, p4, ↓aft_of (e1), ↓aft_of (e2), ↓aft_of (e3)]
      · rw [if_neg (by rw [z2]; decide)]
        refine ⟨T2, ?_, r2, f1.trans f2, k2⟩
        rw [z2] at e2 ⊢
        simp +decide only [x19_0, x19_1, x19_4, x19_56, x19_57, x19_58, x19_61, x19_62, x19_63, x19_64, x19_66, x19_67, x19_70, x19_71, x19_72, x19_73, x19_76, x19_77, x19_78, x19_79, x19_82, x19_83, x19_84, x19_85, x19_88, x19_91, x19_92, x19_93, x19_95, x19_96, x19_99, x19_102, x19_103, x19_104, x19_107, x19_110, x19_111, x19_114, x19_115, x19_116, x19_117, x19_118, x19_121, x19_122, x19_123, x19_124, x19_127, x19_128, x19_129, x19_130, x19_132, x19_135, x19_138, x19_139, x19_140, x19_142, x19_145, x19_148, x19_149, x19_152, x19_153, x19_154, x19_155, x19_156, x19_158, x19_161, x19_164, x19_165, x19_166, x19_168, x19_169, x19_172, x19_175, x19_176, x19_179, x19_180, x19_181, x19_182, x19_183, x19_185, x19_186, x19_189, aft_some, aft_void, Option.bind_some, Option.toList_some, Option.toList_none, List.cons_append, List.nil_append, if_true, if_false, ↓reduceIte, eq_self, z360_o, ↓z360_0, ↓z360_1, ↓z360_1p, ↓z360_2, ↓z360_2p, ↓z360_3, ↓z360_4, ↓z360_5, ↓z360_6, ↓z360_7, ↓z360_7p, ↓z360_8, ↓z360_8p, ↓z361_g, ↓z361_s, ↓z362_g, ↓z362_s, ↓z363_g, ↓z363_s, ↓z364_g, ↓z364_s, ↓z365_g, ↓z365_s, hp, p4, ↓aft_of (e1), ↓aft_of (e2)]
    · rw [if_neg (by rw [z1]; decide)]
      refine ⟨T1, ?_, r1, f1, k1⟩
      rw [z1] at e1 ⊢
      simp +decide only [x19_0, x19_1, x19_4, x19_56, x19_57, x19_58, x19_61, x19_62, x19_63, x19_64, x19_66, x19_67, x19_70, x19_71, x19_72, x19_73, x19_76, x19_77, x19_78, x19_79, x19_82, x19_83, x19_84, x19_85, x19_88, x19_91, x19_92, x19_93, x19_95, x19_96, x19_99, x19_102, x19_103, x19_104, x19_107, x19_110, x19_111, x19_114, x19_115, x19_116, x19_117, x19_118, x19_121, x19_122, x19_123, x19_124, x19_127, x19_128, x19_129, x19_130, x19_132, x19_135, x19_138, x19_139, x19_140, x19_142, x19_145, x19_148, x19_149, x19_152, x19_153, x19_154, x19_155, x19_156, x19_158, x19_161, x19_164, x19_165, x19_166, x19_168, x19_169, x19_172, x19_175, x19_176, x19_179, x19_180, x19_181, x19_182, x19_183, x19_185, x19_186, x19_189, aft_some, aft_void, Option.bind_some, Option.toList_some, Option.toList_none, List.cons_append, List.nil_append, if_true, if_false, ↓reduceIte, eq_self, z360_o, ↓z360_0, ↓z360_1, ↓z360_1p, ↓z360_2, ↓z360_2p, ↓z360_3, ↓z360_4, ↓z360_5, ↓z360_6, ↓z360_7, ↓z360_7p, ↓z360_8, ↓z360_8p, ↓z361_g, ↓z361_s, ↓z362_g, ↓z362_s, ↓z363_g, ↓z363_s, ↓z364_g, ↓z364_s, ↓z365_g, ↓z365_s, hp, p4, ↓aft_of (e1)]
  rw [if_neg p4]
  by_cases p5 : r.2.1 = 5
  · rw [if_pos p5]
    obtain ⟨T1, e1, r1, f1⟩ := c_takeStarch' (P := P) (c := c) h
    have k1 := ok_st (c := c) hk
    exact ⟨T1, by simp +decide only [x19_0, x19_1, x19_4, x19_56, x19_57, x19_58, x19_61, x19_62, x19_63, x19_64, x19_66, x19_67, x19_70, x19_71, x19_72, x19_73, x19_76, x19_77, x19_78, x19_79, x19_82, x19_83, x19_84, x19_85, x19_88, x19_91, x19_92, x19_93, x19_95, x19_96, x19_99, x19_102, x19_103, x19_104, x19_107, x19_110, x19_111, x19_114, x19_115, x19_116, x19_117, x19_118, x19_121, x19_122, x19_123, x19_124, x19_127, x19_128, x19_129, x19_130, x19_132, x19_135, x19_138, x19_139, x19_140, x19_142, x19_145, x19_148, x19_149, x19_152, x19_153, x19_154, x19_155, x19_156, x19_158, x19_161, x19_164, x19_165, x19_166, x19_168, x19_169, x19_172, x19_175, x19_176, x19_179, x19_180, x19_181, x19_182, x19_183, x19_185, x19_186, x19_189, aft_some, aft_void, Option.bind_some, Option.toList_some, Option.toList_none, List.cons_append, List.nil_append, if_true, if_false, ↓reduceIte, eq_self, z360_o, ↓z360_0, ↓z360_1, ↓z360_1p, ↓z360_2, ↓z360_2p, ↓z360_3, ↓z360_4, ↓z360_5, ↓z360_6, ↓z360_7, ↓z360_7p, ↓z360_8, ↓z360_8p, ↓z361_g, ↓z361_s, ↓z362_g, ↓z362_s, ↓z363_g, ↓z363_s, ↓z364_g, ↓z364_s, ↓z365_g, ↓z365_s, hp, p5, ↓aft_of (e1), ok_v k1], r1, f1, k1⟩
  rw [if_neg p5]
  by_cases p6 : r.2.1 = 6
  · rw [if_pos p6]
    obtain ⟨T1, e1, r1, f1⟩ := c_ending (P := P) (c := c) h
    have k1 := ok_en (c := c) hk
    exact ⟨T1, by simp +decide only [x19_0, x19_1, x19_4, x19_56, x19_57, x19_58, x19_61, x19_62, x19_63, x19_64, x19_66, x19_67, x19_70, x19_71, x19_72, x19_73, x19_76, x19_77, x19_78, x19_79, x19_82, x19_83, x19_84, x19_85, x19_88, x19_91, x19_92, x19_93, x19_95, x19_96, x19_99, x19_102, x19_103, x19_104, x19_107, x19_110, x19_111, x19_114, x19_115, x19_116, x19_117, x19_118, x19_121, x19_122, x19_123, x19_124, x19_127, x19_128, x19_129, x19_130, x19_132, x19_135, x19_138, x19_139, x19_140, x19_142, x19_145, x19_148, x19_149, x19_152, x19_153, x19_154, x19_155, x19_156, x19_158, x19_161, x19_164, x19_165, x19_166, x19_168, x19_169, x19_172, x19_175, x19_176, x19_179, x19_180, x19_181, x19_182, x19_183, x19_185, x19_186, x19_189, aft_some, aft_void, Option.bind_some, Option.toList_some, Option.toList_none, List.cons_append, List.nil_append, if_true, if_false, ↓reduceIte, eq_self, z360_o, ↓z360_0, ↓z360_1, ↓z360_1p, ↓z360_2, ↓z360_2p, ↓z360_3, ↓z360_4, ↓z360_5, ↓z360_6, ↓z360_7, ↓z360_7p, ↓z360_8, ↓z360_8p, ↓z361_g, ↓z361_s, ↓z362_g, ↓z362_s, ↓z363_g, ↓z363_s, ↓z364_g, ↓z364_s, ↓z365_g, ↓z365_s, hp, p6, ↓aft_of (e1), ok_v k1], r1, f1, k1⟩
  rw [if_neg p6]
  by_cases p7 : r.2.1 = 7
  · rw [if_pos p7]
    have ed := c_digit (c := c) (l := 1) (m := 9) (h0 := H T P)
    rw [show (48 : Int32) + 1 = 49 by decide, show (48 : Int32) + 9 = 57 by decide] at ed
    by_cases d1 : inI c 49 57 = 0
    · rw [if_pos d1]
      refine ⟨T, ?_, h, FR.rfl' T, ok_0 hk⟩
      simp +decide only [x19_0, x19_1, x19_4, x19_56, x19_57, x19_58, x19_61, x19_62, x19_63, x19_64, x19_66, x19_67, x19_70, x19_71, x19_72, x19_73, x19_76, x19_77, x19_78, x19_79, x19_82, x19_83, x19_84, x19_85, x19_88, x19_91, x19_92, x19_93, x19_95, x19_96, x19_99, x19_102, x19_103, x19_104, x19_107, x19_110, x19_111, x19_114, x19_115, x19_116, x19_117, x19_118, x19_121, x19_122, x19_123, x19_124, x19_127, x19_128, x19_129, x19_130, x19_132, x19_135, x19_138, x19_139, x19_140, x19_142, x19_145, x19_148, x19_149, x19_152, x19_153, x19_154, x19_155, x19_156, x19_158, x19_161, x19_164, x19_165, x19_166, x19_168, x19_169, x19_172, x19_175, x19_176, x19_179, x19_180, x19_181, x19_182, x19_183, x19_185, x19_186, x19_189, aft_some, aft_void, Option.bind_some, Option.toList_some, Option.toList_none, List.cons_append, List.nil_append, if_true, if_false, ↓reduceIte, eq_self, z360_o, ↓z360_0, ↓z360_1, ↓z360_1p, ↓z360_2, ↓z360_2p, ↓z360_3, ↓z360_4, ↓z360_5, ↓z360_6, ↓z360_7, ↓z360_7p, ↓z360_8, ↓z360_8p, ↓z361_g, ↓z361_s, ↓z362_g, ↓z362_s, ↓z363_g, ↓z363_s, ↓z364_g, ↓z364_s, ↓z365_g, ↓z365_s, hp, p7, ↓aft_of (ed), d1]
    · rw [if_neg d1]
      obtain ⟨T1, e1, r1, f1⟩ := c_takeHangers (P := P) (c := c) (pl := 8) h
      have k1 := ok_ha (c := c) (pl := 8) hk
      refine ⟨T1, ?_, r1, f1, k1⟩
      rcases k1.1 with ⟨z1, -⟩ | z1
      · rw [z1] at e1 ⊢
        simp +decide only [x19_0, x19_1, x19_4, x19_56, x19_57, x19_58, x19_61, x19_62, x19_63, x19_64, x19_66, x19_67, x19_70, x19_71, x19_72, x19_73, x19_76, x19_77, x19_78, x19_79, x19_82, x19_83, x19_84, x19_85, x19_88, x19_91, x19_92, x19_93, x19_95, x19_96, x19_99, x19_102, x19_103, x19_104, x19_107, x19_110, x19_111, x19_114, x19_115, x19_116, x19_117, x19_118, x19_121, x19_122, x19_123, x19_124, x19_127, x19_128, x19_129, x19_130, x19_132, x19_135, x19_138, x19_139, x19_140, x19_142, x19_145, x19_148, x19_149, x19_152, x19_153, x19_154, x19_155, x19_156, x19_158, x19_161, x19_164, x19_165, x19_166, x19_168, x19_169, x19_172, x19_175, x19_176, x19_179, x19_180, x19_181, x19_182, x19_183, x19_185, x19_186, x19_189, aft_some, aft_void, Option.bind_some, Option.toList_some, Option.toList_none, List.cons_append, List.nil_append, if_true, if_false, ↓reduceIte, eq_self, z360_o, ↓z360_0, ↓z360_1, ↓z360_1p, ↓z360_2, ↓z360_2p, ↓z360_3, ↓z360_4, ↓z360_5, ↓z360_6, ↓z360_7, ↓z360_7p, ↓z360_8, ↓z360_8p, ↓z361_g, ↓z361_s, ↓z362_g, ↓z362_s, ↓z363_g, ↓z363_s, ↓z364_g, ↓z364_s, ↓z365_g, ↓z365_s, hp, p7, ↓aft_of (ed), d1, ↓aft_of (e1)]
      · rw [z1] at e1 ⊢
        simp +decide only [x19_0, x19_1, x19_4, x19_56, x19_57, x19_58, x19_61, x19_62, x19_63, x19_64, x19_66, x19_67, x19_70, x19_71, x19_72, x19_73, x19_76, x19_77, x19_78, x19_79, x19_82, x19_83, x19_84, x19_85, x19_88, x19_91, x19_92, x19_93, x19_95, x19_96, x19_99, x19_102, x19_103, x19_104, x19_107, x19_110, x19_111, x19_114, x19_115, x19_116, x19_117, x19_118, x19_121, x19_122, x19_123, x19_124, x19_127, x19_128, x19_129, x19_130, x19_132, x19_135, x19_138, x19_139, x19_140, x19_142, x19_145, x19_148, x19_149, x19_152, x19_153, x19_154, x19_155, x19_156, x19_158, x19_161, x19_164, x19_165, x19_166, x19_168, x19_169, x19_172, x19_175, x19_176, x19_179, x19_180, x19_181, x19_182, x19_183, x19_185, x19_186, x19_189, aft_some, aft_void, Option.bind_some, Option.toList_some, Option.toList_none, List.cons_append, List.nil_append, if_true, if_false, ↓reduceIte, eq_self, z360_o, ↓z360_0, ↓z360_1, ↓z360_1p, ↓z360_2, ↓z360_2p, ↓z360_3, ↓z360_4, ↓z360_5, ↓z360_6, ↓z360_7, ↓z360_7p, ↓z360_8, ↓z360_8p, ↓z361_g, ↓z361_s, ↓z362_g, ↓z362_s, ↓z363_g, ↓z363_s, ↓z364_g, ↓z364_s, ↓z365_g, ↓z365_s, hp, p7, ↓aft_of (ed), d1, ↓aft_of (e1)]
  rw [if_neg p7]
  by_cases p8 : r.2.1 = 8
  · rw [if_pos p8]
    obtain ⟨T1, e1, r1, f1⟩ := c_takeHangers (P := P) (c := c) (pl := 9) h
    have k1 := ok_ha (c := c) (pl := 9) hk
    rcases k1.1 with ⟨z1, y1⟩ | z1
    · rw [if_pos z1]
      rw [z1] at e1
      rw [y1] at r1
      obtain ⟨T2, e2, r2, f2⟩ := c_sign (P := P) (c := c) (sg := 59) (pl := 0) r1
      have k2 := ok_sg (c := c) (sg := 59) (pl := 0) hk
      refine ⟨T2, ?_, r2, f1.trans f2, k2⟩
      rcases k2.1 with ⟨z2, -⟩ | z2
      · rw [z2] at e2 ⊢
        simp +decide only [x19_0, x19_1, x19_4, x19_56, x19_57, x19_58, x19_61, x19_62, x19_63, x19_64, x19_66, x19_67, x19_70, x19_71, x19_72, x19_73, x19_76, x19_77, x19_78, x19_79, x19_82, x19_83, x19_84, x19_85, x19_88, x19_91, x19_92, x19_93, x19_95, x19_96, x19_99, x19_102, x19_103, x19_104, x19_107, x19_110, x19_111, x19_114, x19_115, x19_116, x19_117, x19_118, x19_121, x19_122, x19_123, x19_124, x19_127, x19_128, x19_129, x19_130, x19_132, x19_135, x19_138, x19_139, x19_140, x19_142, x19_145, x19_148, x19_149, x19_152, x19_153, x19_154, x19_155, x19_156, x19_158, x19_161, x19_164, x19_165, x19_166, x19_168, x19_169, x19_172, x19_175, x19_176, x19_179, x19_180, x19_181, x19_182, x19_183, x19_185, x19_186, x19_189, aft_some, aft_void, Option.bind_some, Option.toList_some, Option.toList_none, List.cons_append, List.nil_append, if_true, if_false, ↓reduceIte, eq_self, z360_o, ↓z360_0, ↓z360_1, ↓z360_1p, ↓z360_2, ↓z360_2p, ↓z360_3, ↓z360_4, ↓z360_5, ↓z360_6, ↓z360_7, ↓z360_7p, ↓z360_8, ↓z360_8p, ↓z361_g, ↓z361_s, ↓z362_g, ↓z362_s, ↓z363_g, ↓z363_s, ↓z364_g, ↓z364_s, ↓z365_g, ↓z365_s, hp, p8, ↓aft_of (e1), ↓aft_of (e2)]
      · rw [z2] at e2 ⊢
        simp +decide only [x19_0, x19_1, x19_4, x19_56, x19_57, x19_58, x19_61, x19_62, x19_63, x19_64, x19_66, x19_67, x19_70, x19_71, x19_72, x19_73, x19_76, x19_77, x19_78, x19_79, x19_82, x19_83, x19_84, x19_85, x19_88, x19_91, x19_92, x19_93, x19_95, x19_96, x19_99, x19_102, x19_103, x19_104, x19_107, x19_110, x19_111, x19_114, x19_115, x19_116, x19_117, x19_118, x19_121, x19_122, x19_123, x19_124, x19_127, x19_128, x19_129, x19_130, x19_132, x19_135, x19_138, x19_139, x19_140, x19_142, x19_145, x19_148, x19_149, x19_152, x19_153, x19_154, x19_155, x19_156, x19_158, x19_161, x19_164, x19_165, x19_166, x19_168, x19_169, x19_172, x19_175, x19_176, x19_179, x19_180, x19_181, x19_182, x19_183, x19_185, x19_186, x19_189, aft_some, aft_void, Option.bind_some, Option.toList_some, Option.toList_none, List.cons_append, List.nil_append, if_true, if_false, ↓reduceIte, eq_self, z360_o, ↓z360_0, ↓z360_1, ↓z360_1p, ↓z360_2, ↓z360_2p, ↓z360_3, ↓z360_4, ↓z360_5, ↓z360_6, ↓z360_7, ↓z360_7p, ↓z360_8, ↓z360_8p, ↓z361_g, ↓z361_s, ↓z362_g, ↓z362_s, ↓z363_g, ↓z363_s, ↓z364_g, ↓z364_s, ↓z365_g, ↓z365_s, hp, p8, ↓aft_of (e1), ↓aft_of (e2)]
    · rw [if_neg (by rw [z1]; decide)]
      refine ⟨T1, ?_, r1, f1, k1⟩
      rw [z1] at e1 ⊢
      simp +decide only [x19_0, x19_1, x19_4, x19_56, x19_57, x19_58, x19_61, x19_62, x19_63, x19_64, x19_66, x19_67, x19_70, x19_71, x19_72, x19_73, x19_76, x19_77, x19_78, x19_79, x19_82, x19_83, x19_84, x19_85, x19_88, x19_91, x19_92, x19_93, x19_95, x19_96, x19_99, x19_102, x19_103, x19_104, x19_107, x19_110, x19_111, x19_114, x19_115, x19_116, x19_117, x19_118, x19_121, x19_122, x19_123, x19_124, x19_127, x19_128, x19_129, x19_130, x19_132, x19_135, x19_138, x19_139, x19_140, x19_142, x19_145, x19_148, x19_149, x19_152, x19_153, x19_154, x19_155, x19_156, x19_158, x19_161, x19_164, x19_165, x19_166, x19_168, x19_169, x19_172, x19_175, x19_176, x19_179, x19_180, x19_181, x19_182, x19_183, x19_185, x19_186, x19_189, aft_some, aft_void, Option.bind_some, Option.toList_some, Option.toList_none, List.cons_append, List.nil_append, if_true, if_false, ↓reduceIte, eq_self, z360_o, ↓z360_0, ↓z360_1, ↓z360_1p, ↓z360_2, ↓z360_2p, ↓z360_3, ↓z360_4, ↓z360_5, ↓z360_6, ↓z360_7, ↓z360_7p, ↓z360_8, ↓z360_8p, ↓z361_g, ↓z361_s, ↓z362_g, ↓z362_s, ↓z363_g, ↓z363_s, ↓z364_g, ↓z364_s, ↓z365_g, ↓z365_s, hp, p8, ↓aft_of (e1)]
  rw [if_neg p8]
  obtain ⟨T1, e1, r1, f1⟩ := c_sign (P := P) (c := c) (sg := 59) (pl := 0) h
  have k1 := ok_sg (c := c) (sg := 59) (pl := 0) hk
  exact ⟨T1, by simp +decide only [x19_0, x19_1, x19_4, x19_56, x19_57, x19_58, x19_61, x19_62, x19_63, x19_64, x19_66, x19_67, x19_70, x19_71, x19_72, x19_73, x19_76, x19_77, x19_78, x19_79, x19_82, x19_83, x19_84, x19_85, x19_88, x19_91, x19_92, x19_93, x19_95, x19_96, x19_99, x19_102, x19_103, x19_104, x19_107, x19_110, x19_111, x19_114, x19_115, x19_116, x19_117, x19_118, x19_121, x19_122, x19_123, x19_124, x19_127, x19_128, x19_129, x19_130, x19_132, x19_135, x19_138, x19_139, x19_140, x19_142, x19_145, x19_148, x19_149, x19_152, x19_153, x19_154, x19_155, x19_156, x19_158, x19_161, x19_164, x19_165, x19_166, x19_168, x19_169, x19_172, x19_175, x19_176, x19_179, x19_180, x19_181, x19_182, x19_183, x19_185, x19_186, x19_189, aft_some, aft_void, Option.bind_some, Option.toList_some, Option.toList_none, List.cons_append, List.nil_append, if_true, if_false, ↓reduceIte, eq_self, z360_o, ↓z360_0, ↓z360_1, ↓z360_1p, ↓z360_2, ↓z360_2p, ↓z360_3, ↓z360_4, ↓z360_5, ↓z360_6, ↓z360_7, ↓z360_7p, ↓z360_8, ↓z360_8p, ↓z361_g, ↓z361_s, ↓z362_g, ↓z362_s, ↓z363_g, ↓z363_s, ↓z364_g, ↓z364_s, ↓z365_g, ↓z365_s, hp, p0, p1, p2, p3, p4, p5, p6, p7, p8, ↓aft_of (e1), ok_v k1], r1, f1, k1⟩
end RT
end
section
/-! the text is read: the whole -/
def rdG (f : Nat → Int32) : Nat → Nat → rS → Option Nat × rS
  | 0, _, r => (none, r)
  | m + 1, i, r => if (tkS (f i) r).1 = 0 then (some i, (tkS (f i) r).2) else rdG f m (i + 1) (tkS (f i) r).2
def meI (pl : Int32) : Int32 := if pl = 4 then 1 else if pl = 6 then 1 else if pl = 8 then 1 else if pl = 9 then 1 else 0
def rdA (n : Nat) (a : Option Nat × rS) : Int32 := match a.1 with
  | some i => nI i
  | none => if meI a.2.2.1 = 0 then nI n else -5
section RE
variable {T U EE : Nat → Nat → Int32} {P Q : Nat → Nat → Nat} {r : rS} {c sg pl : Int32} {h0 : List hC}
theorem c_mayEnd (h : RD T r) : X 18 0 [.ref 360] [] (H T P) = some (some (.int (meI r.2.1)), H T P) := by
  have hp : T 360 7 = r.2.1 := h.2.2.1
  unfold meI
  by_cases p4 : r.2.1 = 4
  · simp +decide only [x18_0, x18_1, x18_4, x18_5, x18_8, x18_9, x18_12, x18_14, x18_17, x18_18, x18_21, x18_23, x18_26, x18_27, x18_30, x18_32, x18_35, x18_36, x18_39, x18_40, aft_some, aft_void, Option.bind_some, Option.toList_some, Option.toList_none, List.cons_append, List.nil_append, if_true, if_false, ↓reduceIte, eq_self, z360_o, ↓z360_0, ↓z360_1, ↓z360_1p, ↓z360_2, ↓z360_2p, ↓z360_3, ↓z360_4, ↓z360_5, ↓z360_6, ↓z360_7, ↓z360_7p, ↓z360_8, ↓z360_8p, ↓z361_g, ↓z361_s, ↓z362_g, ↓z362_s, ↓z363_g, ↓z363_s, ↓z364_g, ↓z364_s, ↓z365_g, ↓z365_s, hp, p4]
  by_cases p6 : r.2.1 = 6
  · simp +decide only [x18_0, x18_1, x18_4, x18_5, x18_8, x18_9, x18_12, x18_14, x18_17, x18_18, x18_21, x18_23, x18_26, x18_27, x18_30, x18_32, x18_35, x18_36, x18_39, x18_40, aft_some, aft_void, Option.bind_some, Option.toList_some, Option.toList_none, List.cons_append, List.nil_append, if_true, if_false, ↓reduceIte, eq_self, z360_o, ↓z360_0, ↓z360_1, ↓z360_1p, ↓z360_2, ↓z360_2p, ↓z360_3, ↓z360_4, ↓z360_5, ↓z360_6, ↓z360_7, ↓z360_7p, ↓z360_8, ↓z360_8p, ↓z361_g, ↓z361_s, ↓z362_g, ↓z362_s, ↓z363_g, ↓z363_s, ↓z364_g, ↓z364_s, ↓z365_g, ↓z365_s, hp, p4, p6]
  by_cases p8 : r.2.1 = 8
  · simp +decide only [x18_0, x18_1, x18_4, x18_5, x18_8, x18_9, x18_12, x18_14, x18_17, x18_18, x18_21, x18_23, x18_26, x18_27, x18_30, x18_32, x18_35, x18_36, x18_39, x18_40, aft_some, aft_void, Option.bind_some, Option.toList_some, Option.toList_none, List.cons_append, List.nil_append, if_true, if_false, ↓reduceIte, eq_self, z360_o, ↓z360_0, ↓z360_1, ↓z360_1p, ↓z360_2, ↓z360_2p, ↓z360_3, ↓z360_4, ↓z360_5, ↓z360_6, ↓z360_7, ↓z360_7p, ↓z360_8, ↓z360_8p, ↓z361_g, ↓z361_s, ↓z362_g, ↓z362_s, ↓z363_g, ↓z363_s, ↓z364_g, ↓z364_s, ↓z365_g, ↓z365_s, hp, p4, p6, p8]
  by_cases p9 : r.2.1 = 9
  · simp +decide only [x18_0, x18_1, x18_4, x18_5, x18_8, x18_9, x18_12, x18_14, x18_17, x18_18, x18_21, x18_23, x18_26, x18_27, x18_30, x18_32, x18_35, x18_36, x18_39, x18_40, aft_some, aft_void, Option.bind_some, Option.toList_some, Option.toList_none, List.cons_append, List.nil_append, if_true, if_false, ↓reduceIte, eq_self, z360_o, ↓z360_0, ↓z360_1, ↓z360_1p, ↓z360_2, ↓z360_2p, ↓z360_3, ↓z360_4, ↓z360_5, ↓z360_6, ↓z360_7, ↓z360_7p, ↓z360_8, ↓z360_8p, ↓z361_g, ↓z361_s, ↓z362_g, ↓z362_s, ↓z363_g, ↓z363_s, ↓z364_g, ↓z364_s, ↓z365_g, ↓z365_s, hp, p4, p6, p8, p9]
  simp +decide only [x18_0, x18_1, x18_4, x18_5, x18_8, x18_9, x18_12, x18_14, x18_17, x18_18, x18_21, x18_23, x18_26, x18_27, x18_30, x18_32, x18_35, x18_36, x18_39, x18_40, aft_some, aft_void, Option.bind_some, Option.toList_some, Option.toList_none, List.cons_append, List.nil_append, if_true, if_false, ↓reduceIte, eq_self, z360_o, ↓z360_0, ↓z360_1, ↓z360_1p, ↓z360_2, ↓z360_2p, ↓z360_3, ↓z360_4, ↓z360_5, ↓z360_6, ↓z360_7, ↓z360_7p, ↓z360_8, ↓z360_8p, ↓z361_g, ↓z361_s, ↓z362_g, ↓z362_s, ↓z363_g, ↓z363_s, ↓z364_g, ↓z364_s, ↓z365_g, ↓z365_s, hp, p4, p6, p8, p9]
theorem c_read {t : Nat × (Nat → Int32)} (h : TX EE T t) : ∃ T' r', X 17 0 [.ref 360, .long 0] [] (H T P) = some (some (.int (rdA t.1 (rdG t.2 t.1 0 r'))), H T' P) ∧ r'.1 = 0 ∧ r'.2.1 = 0 ∧ RD T' (rdG t.2 t.1 0 r').2 ∧ FR T T' ∧ KD (rdG t.2 t.1 0 r').2 := by
  obtain ⟨t1, t2, t3, -⟩ := h
  have key : ∀ (m i : Nat) (r : rS) (T : Nat → Nat → Int32), i + m = t.1 → T 360 1 = nI t.1 → (∀ j, j < t.1 → T 361 j = t.2 j) → RD T r → KD r → ∃ T', X 17 12 [.ref 360, .int (nI i)] [] (H T P) = some (some (.int (rdA t.1 (rdG t.2 m i r))), H T' P) ∧ RD T' (rdG t.2 m i r).2 ∧ FR T T' ∧ KD (rdG t.2 m i r).2 := by
    intro m
    induction m with
    | zero =>
      intro i r T hi h1 h2 hr hk
      have hi : i = t.1 := by omega
      subst hi
      have em := c_mayEnd (P := P) hr
      refine ⟨T, ?_, hr, FR.rfl' T, hk⟩
      show X 17 12 [.ref 360, .int (nI t.1)] [] (H T P) = some (some (.int (if meI r.2.1 = 0 then nI t.1 else -5)), H T P)
      rw [x17_12]
      by_cases c : meI r.2.1 = 0
      · simp +decide only [x17_0, x17_1, x17_2, x17_5, x17_6, x17_7, x17_10, x17_11, x17_13, x17_14, x17_17, x17_20, x17_21, x17_22, x17_25, x17_26, x17_27, x17_30, x17_33, x17_34, x17_35, x17_38, x17_41, x17_42, x17_45, x17_48, x17_50, x17_53, x17_54, x17_57, aft_some, aft_void, Option.bind_some, Option.toList_some, Option.toList_none, List.cons_append, List.nil_append, if_true, if_false, ↓reduceIte, eq_self, z360_o, ↓z360_0, ↓z360_1, ↓z360_1p, ↓z360_2, ↓z360_2p, ↓z360_3, ↓z360_4, ↓z360_5, ↓z360_6, ↓z360_7, ↓z360_7p, ↓z360_8, ↓z360_8p, ↓z361_g, ↓z361_s, ↓z362_g, ↓z362_s, ↓z363_g, ↓z363_s, ↓z364_g, ↓z364_s, ↓z365_g, ↓z365_s, h1, nI_nlt (Nat.le_refl t.1) (show t.1 < 2 ^ 31 by omega), ↓aft_of (em), c]
      · simp +decide only [x17_0, x17_1, x17_2, x17_5, x17_6, x17_7, x17_10, x17_11, x17_13, x17_14, x17_17, x17_20, x17_21, x17_22, x17_25, x17_26, x17_27, x17_30, x17_33, x17_34, x17_35, x17_38, x17_41, x17_42, x17_45, x17_48, x17_50, x17_53, x17_54, x17_57, aft_some, aft_void, Option.bind_some, Option.toList_some, Option.toList_none, List.cons_append, List.nil_append, if_true, if_false, ↓reduceIte, eq_self, z360_o, ↓z360_0, ↓z360_1, ↓z360_1p, ↓z360_2, ↓z360_2p, ↓z360_3, ↓z360_4, ↓z360_5, ↓z360_6, ↓z360_7, ↓z360_7p, ↓z360_8, ↓z360_8p, ↓z361_g, ↓z361_s, ↓z362_g, ↓z362_s, ↓z363_g, ↓z363_s, ↓z364_g, ↓z364_s, ↓z365_g, ↓z365_s, h1, nI_nlt (Nat.le_refl t.1) (show t.1 < 2 ^ 31 by omega), ↓aft_of (em), c]
    | succ m ih =>
      intro i r T hi h1 h2 hr hk
      have hlt : nI i < nI t.1 := nI_lt (show i < t.1 by omega) (by omega)
      have ok := okx_nI (show i < 60 by omega) (show (60 : Nat) < 2 ^ 31 by decide)
      have cl := nI_clamp (show i < 2 ^ 31 by omega)
      have hc := h2 i (by omega)
      obtain ⟨T1, e1, r1, f1, k1⟩ := c_take (P := P) (c := t.2 i) hr hk
      by_cases c0 : (tkS (t.2 i) r).1 = 0
      · have hG : rdG t.2 (m + 1) i r = (some i, (tkS (t.2 i) r).2) := if_pos c0
        rw [hG]
        refine ⟨T1, ?_, r1, f1, k1.2⟩
        show X 17 12 [.ref 360, .int (nI i)] [] (H T P) = some (some (.int (nI i)), H T1 P)
        rw [x17_12]
        simp +decide only [x17_0, x17_1, x17_2, x17_5, x17_6, x17_7, x17_10, x17_11, x17_13, x17_14, x17_17, x17_20, x17_21, x17_22, x17_25, x17_26, x17_27, x17_30, x17_33, x17_34, x17_35, x17_38, x17_41, x17_42, x17_45, x17_48, x17_50, x17_53, x17_54, x17_57, aft_some, aft_void, Option.bind_some, Option.toList_some, Option.toList_none, List.cons_append, List.nil_append, if_true, if_false, ↓reduceIte, eq_self, z360_o, ↓z360_0, ↓z360_1, ↓z360_1p, ↓z360_2, ↓z360_2p, ↓z360_3, ↓z360_4, ↓z360_5, ↓z360_6, ↓z360_7, ↓z360_7p, ↓z360_8, ↓z360_8p, ↓z361_g, ↓z361_s, ↓z362_g, ↓z362_s, ↓z363_g, ↓z363_s, ↓z364_g, ↓z364_s, ↓z365_g, ↓z365_s, h1, hlt, ok, cl, hc, ↓aft_of (e1), c0]
      · have hG : rdG t.2 (m + 1) i r = rdG t.2 m (i + 1) (tkS (t.2 i) r).2 := if_neg c0
        rw [hG]
        obtain ⟨T2, e2, r2, f2, k2⟩ := ih (i + 1) (tkS (t.2 i) r).2 T1 (by omega) (by rw [f1.2]; exact h1) (fun j hj => by rw [f1.1 361 (by decide) (by decide) (by decide) (by decide) (by decide)]; exact h2 j hj) r1 k1.2
        refine ⟨T2, ?_, r2, f1.trans f2, k2⟩
        rw [← e2, x17_12]
        simp +decide only [x17_0, x17_1, x17_2, x17_5, x17_6, x17_7, x17_10, x17_11, x17_13, x17_14, x17_17, x17_20, x17_21, x17_22, x17_25, x17_26, x17_27, x17_30, x17_33, x17_34, x17_35, x17_38, x17_41, x17_42, x17_45, x17_48, x17_50, x17_53, x17_54, x17_57, aft_some, aft_void, Option.bind_some, Option.toList_some, Option.toList_none, List.cons_append, List.nil_append, if_true, if_false, ↓reduceIte, eq_self, z360_o, ↓z360_0, ↓z360_1, ↓z360_1p, ↓z360_2, ↓z360_2p, ↓z360_3, ↓z360_4, ↓z360_5, ↓z360_6, ↓z360_7, ↓z360_7p, ↓z360_8, ↓z360_8p, ↓z361_g, ↓z361_s, ↓z362_g, ↓z362_s, ↓z363_g, ↓z363_s, ↓z364_g, ↓z364_s, ↓z365_g, ↓z365_s, h1, hlt, ok, cl, hc, ↓aft_of (e1), c0, nI_1]
  obtain ⟨T1, hT1⟩ : ∃ T1, T1 = up1 (up1 T 360 2 0) 360 7 0 := ⟨_, rfl⟩
  have hr : RD T1 (0, 0, T 360 8, T 362, T 363, T 364, T 365) := by
    rw [hT1]
    refine ⟨Nat.zero_le _, ?_, ?_, ?_, ?_, ?_, ?_, ?_⟩ <;> simp +decide only [upA_s, u_n]
  have f1 : FR T T1 := by
    rw [hT1]
    exact ⟨fun a g1 _ _ _ _ => by simp only [upA_n _ _ g1], by simp +decide only [upA_s, u_n]⟩
  obtain ⟨T2, e2, r2, f2, k2⟩ := key t.1 0 (0, 0, T 360 8, T 362, T 363, T 364, T 365) T1 (by omega) (by rw [f1.2]; exact t2) (fun j hj => by rw [f1.1 361 (by decide) (by decide) (by decide) (by decide) (by decide)]; exact t3 j hj) hr (Or.inl Nat.zero_lt_one)
  refine ⟨T2, (0, 0, T 360 8, T 362, T 363, T 364, T 365), ?_, rfl, rfl, r2, f1.trans f2, k2⟩
  rw [← e2, hT1]
  simp +decide only [x17_0, x17_1, x17_2, x17_5, x17_6, x17_7, x17_10, x17_11, x17_13, x17_14, x17_17, x17_20, x17_21, x17_22, x17_25, x17_26, x17_27, x17_30, x17_33, x17_34, x17_35, x17_38, x17_41, x17_42, x17_45, x17_48, x17_50, x17_53, x17_54, x17_57, aft_some, aft_void, Option.bind_some, Option.toList_some, Option.toList_none, List.cons_append, List.nil_append, if_true, if_false, ↓reduceIte, eq_self, z360_o, ↓z360_0, ↓z360_1, ↓z360_1p, ↓z360_2, ↓z360_2p, ↓z360_3, ↓z360_4, ↓z360_5, ↓z360_6, ↓z360_7, ↓z360_7p, ↓z360_8, ↓z360_8p, ↓z361_g, ↓z361_s, ↓z362_g, ↓z362_s, ↓z363_g, ↓z363_s, ↓z364_g, ↓z364_s, ↓z365_g, ↓z365_s, upA_s, u_oo, u_o0, u_0o, u_n]
  rfl
end RE
end
section
/-! fault -/
section FA
variable {T U EE : Nat → Nat → Int32} {P Q : Nat → Nat → Nat} {s : gT}
theorem CG.fr (h : CG EE T P s) (f : FR T U) : CG EE U P s := by
  obtain ⟨h1, h2, h3, h4, t1, t2, t3, t4⟩ := h
  have g : ∀ a, a < 360 → U a = T a := fun a ha => f.1 a (by omega) (by omega) (by omega) (by omega) (by omega)
  refine ⟨h1, ⟨CS.same h2.1 h2.2.1.1.2.2.2.1 (fun a _ _ => g a (by omega)) rfl, h2.2⟩, h3.same (g 0 (by decide)) (fun a _ _ => g a (by omega)) rfl, h4.same (fun a _ _ => g a (by omega)) (fun _ _ _ => rfl), t1, by rw [f.2]; exact t2, fun i hi => ?_, fun a ha => (f.1 a (by omega) (by omega) (by omega) (by omega) (by omega)).trans (t4 a ha)⟩
  rw [f.1 361 (by decide) (by decide) (by decide) (by decide) (by decide)]; exact t3 i hi
/-- the same of what counts: the number, the place, the kind, the rows below the number -/
def SR (r w : rS) : Prop := r.1 = w.1 ∧ r.2.1 = w.2.1 ∧ r.2.2.1 = w.2.2.1 ∧ ∀ i, i < r.1 → r.2.2.2.1 i = w.2.2.2.1 i ∧ r.2.2.2.2.1 i = w.2.2.2.2.1 i ∧ r.2.2.2.2.2.1 i = w.2.2.2.2.2.1 i ∧ r.2.2.2.2.2.2 i = w.2.2.2.2.2.2 i
abbrev S2 (a b : Int32 × rS) : Prop := a.1 = b.1 ∧ SR a.2 b.2
variable {r w : rS} {c sn pl : Int32}
theorem sr_sg (h : SR r w) : S2 (sgS c sn pl r) (sgS c sn pl w) := by
  unfold sgS
  by_cases c1 : c = sn
  · rw [if_pos c1, if_pos c1]
    exact ⟨rfl, h.1, rfl, h.2.2⟩
  · rw [if_neg c1, if_neg c1]
    exact ⟨rfl, h⟩
theorem sr_en (h : SR r w) : S2 (enS c r) (enS c w) := by
  unfold enS
  by_cases c1 : c = 45
  · rw [if_pos c1, if_pos c1]
    exact ⟨rfl, h.1, rfl, h.2.2⟩
  · rw [if_neg c1, if_neg c1]
    by_cases c2 : c = 59
    · rw [if_pos c2, if_pos c2]
      exact ⟨rfl, h.1, rfl, h.2.2⟩
    · rw [if_neg c2, if_neg c2]
      exact ⟨rfl, h⟩
theorem sr_cu (hn : r.1 = w.1) (h0 : SR r w ∨ (r.1 = 0 ∧ (cuS c r).1 = 1)) : S2 (cuS c r) (cuS c w) := by
  unfold cuS at h0 ⊢
  by_cases c1 : inI c 48 57 = 0
  · rw [if_pos c1] at h0
    rw [if_pos c1, if_pos c1]
    exact ⟨rfl, h0.resolve_right (fun z => absurd (show (0 : Int32) = 1 from z.2) (by decide))⟩
  · rw [if_neg c1] at h0
    rw [if_neg c1, if_neg c1, ← hn]
    by_cases c2 : r.1 < 12
    · rw [if_pos c2, if_pos c2]
      refine ⟨rfl, rfl, rfl, rfl, fun i hi => ?_⟩
      have hi : i < r.1 + 1 := hi
      unfold upA
      by_cases e : i = r.1
      · simp only [e, if_true, and_self]
      · simp only [e, if_false]
        rcases h0 with h0 | h0
        · exact h0.2.2.2 i (by omega)
        · omega
    · rw [if_neg c2] at h0
      rw [if_neg c2, if_neg c2]
      exact ⟨rfl, h0.resolve_right (fun z => absurd (show (0 : Int32) = 1 from z.2) (by decide))⟩
theorem sr_kn (h : SR r w) : S2 (knS c r) (knS c w) := by
  unfold knS
  by_cases c1 : kdI c = -5
  · rw [if_pos c1, if_pos c1]; exact ⟨rfl, h⟩
  · rw [if_neg c1, if_neg c1, ← h.2.2.1]
    by_cases c2 : r.2.2.1 < kdI c
    · rw [if_pos c2, if_pos c2]
      exact ⟨rfl, h.1, rfl, rfl, h.2.2.2⟩
    · rw [if_neg c2, if_neg c2]; exact ⟨rfl, h⟩
theorem sr_st (h : SR r w) : S2 (stS c r) (stS c w) := by
  unfold stS
  by_cases c1 : inI c 49 51 = 0
  · rw [if_pos c1, if_pos c1]; exact ⟨rfl, h⟩
  · rw [if_neg c1, if_neg c1, ← h.1]
    by_cases c2 : r.1 < 1
    · rw [if_pos c2, if_pos c2]; exact ⟨rfl, h⟩
    · rw [if_neg c2, if_neg c2]
      refine ⟨rfl, rfl, rfl, h.2.2.1, fun i hi => ?_⟩
      have := h.2.2.2 i hi
      refine ⟨this.1, this.2.1, ?_, this.2.2.2⟩
      show upA _ _ _ i = upA _ _ _ i
      unfold upA
      split
      · rfl
      · exact this.2.2.1
theorem sr_ha (h : SR r w) : S2 (haS c pl r) (haS c pl w) := by
  unfold haS
  by_cases c1 : inI c 48 57 = 0
  · rw [if_pos c1, if_pos c1]; exact ⟨rfl, h⟩
  · rw [if_neg c1, if_neg c1, ← h.1]
    by_cases c2 : r.1 < 1
    · rw [if_pos c2, if_pos c2]; exact ⟨rfl, h⟩
    · rw [if_neg c2, if_neg c2, (h.2.2.2 (r.1 - 1) (by omega)).2.2.2]
      refine ⟨rfl, rfl, rfl, h.2.2.1, fun i hi => ?_⟩
      have := h.2.2.2 i hi
      refine ⟨this.1, this.2.1, this.2.2.1, ?_⟩
      show upA _ _ _ i = upA _ _ _ i
      unfold upA
      split
      · rfl
      · exact this.2.2.2
theorem sr_pc (h : SR r w) : S2 (pcS c r) (pcS c w) := by
  unfold pcS
  by_cases c1 : inI c 49 57 = 0
  · rw [if_pos c1, if_pos c1]; exact ⟨rfl, h⟩
  · rw [if_neg c1, if_neg c1, ← h.1, ← h.2.2.1]
    by_cases c2 : r.1 < 1
    · rw [if_pos c2, if_pos c2]; exact ⟨rfl, h⟩
    · rw [if_neg c2, if_neg c2, (h.2.2.2 (r.1 - 1) (by omega)).2.1]
      by_cases c3 : r.2.2.1 < 0
      · rw [if_pos c3, if_pos c3]; exact ⟨rfl, h⟩
      · rw [if_neg c3, if_neg c3]
        refine ⟨rfl, rfl, rfl, rfl, fun i hi => ?_⟩
        have := h.2.2.2 i hi
        refine ⟨this.1, ?_, this.2.2.1, this.2.2.2⟩
        show upA _ _ _ i = upA _ _ _ i
        unfold upA
        split
        · rfl
        · exact this.2.1
end FA
end
section
/-! fault: the answer hangs on the text alone -/
section FB
variable {T U EE : Nat → Nat → Int32} {P Q : Nat → Nat → Nat} {s : gT} {r w : rS} {c : Int32} {f : Nat → Int32}
theorem sr_tk (h : SR r w) : S2 (tkS c r) (tkS c w) := by
  unfold tkS
  rw [← h.2.1]
  by_cases p0 : r.2.1 = 0
  · rw [if_pos p0, if_pos p0]; exact sr_cu h.1 (Or.inl h)
  rw [if_neg p0, if_neg p0]
  by_cases p1 : r.2.1 = 1
  · rw [if_pos p1, if_pos p1]; exact sr_sg h
  rw [if_neg p1, if_neg p1]
  by_cases p2 : r.2.1 = 2
  · rw [if_pos p2, if_pos p2]; exact sr_kn h
  rw [if_neg p2, if_neg p2]
  by_cases p3 : r.2.1 = 3
  · rw [if_pos p3, if_pos p3]; exact sr_pc h
  rw [if_neg p3, if_neg p3]
  by_cases p4 : r.2.1 = 4
  · rw [if_pos p4, if_pos p4]
    have a := sr_kn (c := c) h
    have b := sr_sg (c := c) (sn := 42) (pl := 5) h
    rw [← a.1, ← b.1]
    by_cases z : (knS c r).1 = 0
    · rw [if_pos z, if_pos z]
      by_cases y : (sgS c 42 5 r).1 = 0
      · rw [if_pos y, if_pos y]; exact sr_en h
      · rw [if_neg y, if_neg y]; exact b
    · rw [if_neg z, if_neg z]; exact a
  rw [if_neg p4, if_neg p4]
  by_cases p5 : r.2.1 = 5
  · rw [if_pos p5, if_pos p5]; exact sr_st h
  rw [if_neg p5, if_neg p5]
  by_cases p6 : r.2.1 = 6
  · rw [if_pos p6, if_pos p6]; exact sr_en h
  rw [if_neg p6, if_neg p6]
  by_cases p7 : r.2.1 = 7
  · rw [if_pos p7, if_pos p7]
    by_cases d : inI c 49 57 = 0
    · rw [if_pos d, if_pos d]; exact ⟨rfl, h⟩
    · rw [if_neg d, if_neg d]; exact sr_ha h
  rw [if_neg p7, if_neg p7]
  by_cases p8 : r.2.1 = 8
  · rw [if_pos p8, if_pos p8]
    have a := sr_ha (c := c) (pl := 9) h
    rw [← a.1]
    by_cases z : (haS c 9 r).1 = 0
    · rw [if_pos z, if_pos z]; exact sr_sg h
    · rw [if_neg z, if_neg z]; exact a
  rw [if_neg p8, if_neg p8]
  exact sr_sg h
theorem sr_G : ∀ (m i : Nat) (r w : rS), SR r w → (rdG f m i r).1 = (rdG f m i w).1 ∧ SR (rdG f m i r).2 (rdG f m i w).2
  | 0, _, _, _, h => ⟨rfl, h⟩
  | m + 1, i, r, w, h => by
    have a := sr_tk (c := f i) h
    unfold rdG
    rw [← a.1]
    by_cases z : (tkS (f i) r).1 = 0
    · rw [if_pos z, if_pos z]; exact ⟨rfl, a.2⟩
    · rw [if_neg z, if_neg z]; exact sr_G m (i + 1) _ _ a.2
/-- of two readings that begin: the same place of a fault, the same place, the same number, the same rows below the number -/
theorem sr_0 {m i : Nat} {r w : rS} (h0 : r.1 = 0) (h1 : w.1 = 0) (p0 : r.2.1 = 0) (p1 : w.2.1 = 0) : (rdG f m i r).1 = (rdG f m i w).1 ∧ (rdG f m i r).2.2.1 = (rdG f m i w).2.2.1 ∧ (rdG f m i r).2.1 = (rdG f m i w).2.1 ∧ ∀ j, j < (rdG f m i r).2.1 → (rdG f m i r).2.2.2.2.1 j = (rdG f m i w).2.2.2.2.1 j ∧ (rdG f m i r).2.2.2.2.2.1 j = (rdG f m i w).2.2.2.2.2.1 j ∧ (rdG f m i r).2.2.2.2.2.2.1 j = (rdG f m i w).2.2.2.2.2.2.1 j ∧ (rdG f m i r).2.2.2.2.2.2.2 j = (rdG f m i w).2.2.2.2.2.2.2 j := by
  cases m with
  | zero =>
    have e : ∀ x : rS, rdG f 0 i x = (none, x) := fun _ => rfl
    rw [e, e]
    refine ⟨rfl, p0.trans p1.symm, h0.trans h1.symm, fun j hj => ?_⟩
    have hj : j < r.1 := hj
    omega
  | succ m =>
    have er : tkS (f i) r = cuS (f i) r := if_pos p0
    have ew : tkS (f i) w = cuS (f i) w := if_pos p1
    unfold rdG
    rw [er, ew]
    by_cases z : (cuS (f i) r).1 = 1
    · have a := sr_cu (c := f i) (r := r) (w := w) (h0.trans h1.symm) (Or.inr ⟨h0, z⟩)
      rw [← a.1, if_neg (by rw [z]; decide), if_neg (by rw [z]; decide)]
      have g := sr_G (f := f) m (i + 1) _ _ a.2
      exact ⟨g.1, g.2.2.1, g.2.1, g.2.2.2.2⟩
    · have hc : ∀ x : rS, x.1 = 0 → ¬ (cuS (f i) x).1 = 1 → cuS (f i) x = (0, x) := by
        intro x hx hz
        unfold cuS at hz ⊢
        by_cases c1 : inI (f i) 48 57 = 0
        · rw [if_pos c1]
        · rw [if_neg c1, if_pos (by omega)] at hz
          exact absurd rfl hz
      have z2 : ¬ (cuS (f i) w).1 = 1 := by
        intro q
        apply z
        unfold cuS at q ⊢
        by_cases c1 : inI (f i) 48 57 = 0
        · rw [if_pos c1] at q
          exact absurd (show (0 : Int32) = 1 from q) (by decide)
        · rw [if_neg c1, if_pos (by omega)]
      rw [hc r h0 z, hc w h1 z2, if_pos rfl, if_pos rfl]
      refine ⟨rfl, p0.trans p1.symm, h0.trans h1.symm, fun j hj => ?_⟩
      have hj : j < r.1 := hj
      omega
def r00 : rS := (0, 0, 0, fun _ => 0, fun _ => 0, fun _ => 0, fun _ => 0)
def gFault (s : gT) : Int32 := rdA s.2.2.2.1 (rdG s.2.2.2.2 s.2.2.2.1 0 r00)
theorem g_fault (h : CG EE T P s) : ∃ T', X 103 0 [.ref 0] [] (H T P) = some (some (.int (gFault s)), H T' P) ∧ CG EE T' P s := by
  obtain ⟨T1, r', e1, n0, p0, r1, f1, k1⟩ := c_read (P := P) h.2.2.2.2
  have g := sr_0 (f := s.2.2.2.2) (m := s.2.2.2.1) (i := 0) (r := r') (w := r00) n0 rfl p0 rfl
  have e : rdA s.2.2.2.1 (rdG s.2.2.2.2 s.2.2.2.1 0 r') = gFault s := by
    unfold gFault rdA
    rw [g.1, g.2.1]
  rw [e] at e1
  refine ⟨T1, ?_, h.fr f1⟩
  simp +decide only [x103_0, x103_1, x103_4, x103_7, aft_some, aft_void, Option.bind_some, Option.toList_some, Option.toList_none, List.cons_append, List.nil_append, if_true, if_false, ↓reduceIte, eq_self, z0_o, ↓z0_0, ↓z0_1, ↓z0_2, ↓z0_3, ↓z0_4, ↓z0_5, ↓z0_5p0, ↓z0_5p1, z360_o, ↓z360_0, ↓z360_1, ↓z360_1p, ↓z360_2, ↓z360_2p, ↓z360_3, ↓z360_4, ↓z360_5, ↓z360_6, ↓z360_7, ↓z360_7p, ↓z360_8, ↓z360_8p, ↓z361_g, ↓z361_s, ↓z362_g, ↓z362_s, ↓z363_g, ↓z363_s, ↓z364_g, ↓z364_s, ↓z365_g, ↓z365_s, ↓aft_of (e1)]
end FB
end
section
/-! baskets: all that a text tells, or none -/
/-- the baskets from i on, m of them, one after the other: an error, or the state behind them -/
noncomputable def bsF (c p st g : Nat → Int32) : Nat → Nat → uT → Option Int32 × uT
  | 0, _, u => (none, u)
  | m + 1, i, u => if rfU u (c i) (p i) (st i) (g i) < 0 then (some (rfU u (c i) (p i) (st i) (g i)), u) else bsF c p st g m (i + 1) (bkU u (c i).toNatClampNeg (g i).toNatClampNeg (p i) (st i))
theorem bsF_congr {c p st g c' p' st' g' : Nat → Int32} : ∀ {m i : Nat} {u : uT}, (∀ j, i ≤ j → j < i + m → c j = c' j ∧ p j = p' j ∧ st j = st' j ∧ g j = g' j) → bsF c p st g m i u = bsF c' p' st' g' m i u
  | 0, _, _, _ => rfl
  | m + 1, i, u, h => by
    obtain ⟨e1, e2, e3, e4⟩ := h i (Nat.le_refl _) (by omega)
    simp only [bsF]
    rw [e1, e2, e3, e4, bsF_congr (m := m) (i := i + 1) (fun j a b => h j (by omega) (by omega))]
theorem bkU_wf {u : uT} (hw : WFu u) {c p st g : Int32} (h : ¬ rfU u c p st g < 0) : WFu (bkU u c.toNatClampNeg g.toNatClampNeg p st) := by
  obtain ⟨-, k, x, y, z, hk, rfl, hx, rfl, hy, rfl, hz, hzo, rfl, h8, h99⟩ := rf_ok hw h
  have hN1 := hw.1.1.2.1
  rw [nI_clamp (by omega), nI_clamp (by omega)]
  refine ⟨WF_come hw.1 hk h8 h99 hzo ⟨x, hx, rfl⟩ ⟨y, hy, rfl⟩, ?_⟩
  show rcN u.1.1 0 ≤ 9999
  simp +decide only [u_n]
  exact hw.2
theorem bsF_wf {c p st g : Nat → Int32} : ∀ {m i : Nat} {u : uT}, WFu u → WFu (bsF c p st g m i u).2
  | 0, _, _, h => h
  | m + 1, i, u, h => by
    simp only [bsF]
    by_cases q : rfU u (c i) (p i) (st i) (g i) < 0
    · rw [if_pos q]; exact h
    · rw [if_neg q]; exact bsF_wf (bkU_wf h q)
/-- what the text tells, read from nothing -/
abbrev txC (s : gT) : Option Nat × rS := rdG s.2.2.2.2 s.2.2.2.1 0 r00
noncomputable abbrev bkS (s : gT) : Option Int32 × uT := bsF (txC s).2.2.2.2.1 (txC s).2.2.2.2.2.1 (txC s).2.2.2.2.2.2.1 (txC s).2.2.2.2.2.2.2 (txC s).2.1 0 s.1
noncomputable def gBkts (s : gT) : Int32 × gT := if gFault s = -5 then (match (bkS s).1 with
    | some e => (e, s)
    | none => (nI (txC s).2.1, (bkS s).2, s.2.1, psL s, s.2.2.2)) else (-100 - gFault s, s)
section BKT
variable {T U EE : Nat → Nat → Int32} {P Q : Nat → Nat → Nat} {o q : Nat} {s : gT} {u : uT}
theorem g_bkts (h1 : o = 1) (hq1 : q = 103) (h : CG EE T P s) : ∃ T', X 93 0 [.ref 0, .long 0, .long 0, .long 0] [] (H T P) = some (some (.int (gBkts s).1), H T' P) ∧ CG EE T' P (gBkts s).2 := by
  have ho : isB o := by subst h1; exact isB_1
  have hq : isB q := by subst hq1; exact isB_103
  obtain ⟨T1, r', e1, n0, p0, r1, f1, k1⟩ := c_read (P := P) h.2.2.2.2
  have g := sr_0 (f := s.2.2.2.2) (m := s.2.2.2.1) (i := 0) (r := r') (w := r00) n0 rfl p0 rfl
  have e : rdA s.2.2.2.1 (rdG s.2.2.2.2 s.2.2.2.1 0 r') = gFault s := by
    unfold gFault rdA
    rw [g.1, g.2.1]
  rw [e] at e1
  have hC1 := h.fr f1
  unfold gBkts
  by_cases c1 : gFault s = -5
  · rw [if_pos c1]
    rw [c1] at e1
    have hn : T1 360 2 = nI (txC s).2.1 := by rw [r1.2.1, g.2.2.1]
    have hn12 : (txC s).2.1 ≤ 12 := by have := r1.1; rw [g.2.2.1] at this; exact this
    have rows : ∀ j, j < (txC s).2.1 → T1 362 j = (txC s).2.2.2.2.1 j ∧ T1 363 j = (txC s).2.2.2.2.2.1 j ∧ T1 364 j = (txC s).2.2.2.2.2.2.1 j ∧ T1 365 j = (txC s).2.2.2.2.2.2.2 j := by
      intro j hj
      obtain ⟨q1, q2, q3, q4⟩ := g.2.2.2 j (by rw [g.2.2.1]; exact hj)
      obtain ⟨-, -, -, -, z1, z2, z3, z4⟩ := r1
      exact ⟨by rw [z1]; exact q1, by rw [z2]; exact q2, by rw [z3]; exact q3, by rw [z4]; exact q4⟩
    have hc : CSu o T1 P s.1 := by subst h1; exact hC1.2.1.1
    have hw := hC1.2.1.2
    obtain ⟨T2, e2, f2, c2⟩ := c_stCopy (o := q) (q := o) hq ho (by omega) (hC1.1.1 _ hq) hc hw.1.1.2.1 hw.1.1.2.2.2.1
    have hf : ∀ a, (a < 103 ∨ 154 ≤ a) → T2 a = T1 a := fun a ha => f2 a (by omega)
    have key : ∀ (m i : Nat) (u : uT) (W : Nat → Nat → Int32) (v3 : Value), i + m = (txC s).2.1 → (∀ a, (a < 103 ∨ 154 ≤ a) → W a = T1 a) → CSu q W P u → WFu u → ∃ W', (∀ a, (a < 103 ∨ 154 ≤ a) → W' a = T1 a) ∧ PK P q ∧
        ((∃ e, (bsF (txC s).2.2.2.2.1 (txC s).2.2.2.2.2.1 (txC s).2.2.2.2.2.2.1 (txC s).2.2.2.2.2.2.2 m i u).1 = some e ∧ X 93 32 [.ref 0, .int (-5), .int (nI i), v3] [] (H W P) = some (some (.int e), H W' P)) ∨
         ((bsF (txC s).2.2.2.2.1 (txC s).2.2.2.2.2.1 (txC s).2.2.2.2.2.2.1 (txC s).2.2.2.2.2.2.2 m i u).1 = none ∧ (∃ v2 v3', X 93 32 [.ref 0, .int (-5), .int (nI i), v3] [] (H W P) = X 93 143 [.ref 0, .int (-5), v2, v3'] [] (H W' P)) ∧ CSu q W' P (bsF (txC s).2.2.2.2.1 (txC s).2.2.2.2.2.1 (txC s).2.2.2.2.2.2.1 (txC s).2.2.2.2.2.2.2 m i u).2)) := by
      intro m
      induction m with
      | zero =>
        intro i u W v3 hi hW hcu hwu
        have hi : i = (txC s).2.1 := by omega
        subst hi
        have hnW : W 360 2 = nI (txC s).2.1 := by rw [hW 360 (by decide)]; exact hn
        refine ⟨W, hW, hcu.pk, Or.inr ⟨rfl, ⟨.int (nI (txC s).2.1), v3, ?_⟩, hcu⟩⟩
        rw [x93_32]
        simp +decide only [x93_0, x93_1, x93_4, x93_7, x93_8, x93_9, x93_11, x93_14, x93_16, x93_17, x93_18, x93_19, x93_20, x93_23, x93_24, x93_27, x93_30, x93_31, x93_33, x93_34, x93_37, x93_40, x93_43, x93_44, x93_47, x93_48, x93_51, x93_54, x93_55, x93_56, x93_57, x93_60, x93_63, x93_64, x93_65, x93_66, x93_69, x93_72, x93_73, x93_74, x93_75, x93_78, x93_81, x93_82, x93_83, x93_86, x93_87, x93_88, x93_91, x93_92, x93_93, x93_94, x93_97, x93_98, x93_101, x93_104, x93_105, x93_106, x93_107, x93_110, x93_113, x93_114, x93_115, x93_116, x93_119, x93_122, x93_123, x93_124, x93_125, x93_128, x93_131, x93_132, x93_133, x93_136, x93_137, x93_140, x93_144, x93_147, x93_148, x93_151, x93_154, x93_155, x93_158, x93_159, x93_162, x93_165, x93_166, x93_169, x93_172, aft_some, aft_void, Option.bind_some, Option.toList_some, Option.toList_none, List.cons_append, List.nil_append, if_true, if_false, ↓reduceIte, eq_self, z0_o, ↓z0_0, ↓z0_1, ↓z0_2, ↓z0_3, ↓z0_4, ↓z0_5, ↓z0_5p0, ↓z0_5p1, z360_o, ↓z360_0, ↓z360_1, ↓z360_1p, ↓z360_2, ↓z360_2p, ↓z360_3, ↓z360_4, ↓z360_5, ↓z360_6, ↓z360_7, ↓z360_7p, ↓z360_8, ↓z360_8p, ↓z361_g, ↓z361_s, ↓z362_g, ↓z362_s, ↓z363_g, ↓z363_s, ↓z364_g, ↓z364_s, ↓z365_g, ↓z365_s, hnW, nI_nlt (Nat.le_refl (txC s).2.1) (show (txC s).2.1 < 2 ^ 31 by omega)]
      | succ m ih =>
        intro i u W v3 hi hW hcu hwu
        have hnW : W 360 2 = nI (txC s).2.1 := by rw [hW 360 (by decide)]; exact hn
        have hlt : nI i < nI (txC s).2.1 := nI_lt (show i < (txC s).2.1 by omega) (by omega)
        have ok := okx_nI (show i < 12 by omega) (show (12 : Nat) < 2 ^ 31 by decide)
        have cl := nI_clamp (show i < 2 ^ 31 by omega)
        obtain ⟨w1, w2, w3, w4⟩ := rows i (by omega)
        have w1 : W 362 i = (txC s).2.2.2.2.1 i := by rw [hW 362 (by decide)]; exact w1
        have w2 : W 363 i = (txC s).2.2.2.2.2.1 i := by rw [hW 363 (by decide)]; exact w2
        have w3 : W 364 i = (txC s).2.2.2.2.2.2.1 i := by rw [hW 364 (by decide)]; exact w3
        have w4 : W 365 i = (txC s).2.2.2.2.2.2.2 i := by rw [hW 365 (by decide)]; exact w4
        have er := c_refusal (P := P) (x := (txC s).2.2.2.2.1 i) (y := (txC s).2.2.2.2.2.1 i) (z := (txC s).2.2.2.2.2.2.1 i) (w := (txC s).2.2.2.2.2.2.2 i) hq hcu hwu.1
        rw [show rfI (u.1.1 1) u.1.2.2.1 u.2.length (u.1.1 2) ((txC s).2.2.2.2.1 i) ((txC s).2.2.2.2.2.1 i) ((txC s).2.2.2.2.2.2.1 i) ((txC s).2.2.2.2.2.2.2 i) = rfU u ((txC s).2.2.2.2.1 i) ((txC s).2.2.2.2.2.1 i) ((txC s).2.2.2.2.2.2.1 i) ((txC s).2.2.2.2.2.2.2 i) from rfl] at er
        by_cases c2 : rfU u ((txC s).2.2.2.2.1 i) ((txC s).2.2.2.2.2.1 i) ((txC s).2.2.2.2.2.2.1 i) ((txC s).2.2.2.2.2.2.2 i) < 0
        · have hb : bsF (txC s).2.2.2.2.1 (txC s).2.2.2.2.2.1 (txC s).2.2.2.2.2.2.1 (txC s).2.2.2.2.2.2.2 (m + 1) i u = (some (rfU u ((txC s).2.2.2.2.1 i) ((txC s).2.2.2.2.2.1 i) ((txC s).2.2.2.2.2.2.1 i) ((txC s).2.2.2.2.2.2.2 i)), u) := if_pos c2
          rw [hb]
          refine ⟨W, hW, hcu.pk, Or.inl ⟨_, rfl, ?_⟩⟩
          rw [x93_32]
          simp +decide only [x93_0, x93_1, x93_4, x93_7, x93_8, x93_9, x93_11, x93_14, x93_16, x93_17, x93_18, x93_19, x93_20, x93_23, x93_24, x93_27, x93_30, x93_31, x93_33, x93_34, x93_37, x93_40, x93_43, x93_44, x93_47, x93_48, x93_51, x93_54, x93_55, x93_56, x93_57, x93_60, x93_63, x93_64, x93_65, x93_66, x93_69, x93_72, x93_73, x93_74, x93_75, x93_78, x93_81, x93_82, x93_83, x93_86, x93_87, x93_88, x93_91, x93_92, x93_93, x93_94, x93_97, x93_98, x93_101, x93_104, x93_105, x93_106, x93_107, x93_110, x93_113, x93_114, x93_115, x93_116, x93_119, x93_122, x93_123, x93_124, x93_125, x93_128, x93_131, x93_132, x93_133, x93_136, x93_137, x93_140, x93_144, x93_147, x93_148, x93_151, x93_154, x93_155, x93_158, x93_159, x93_162, x93_165, x93_166, x93_169, x93_172, aft_some, aft_void, Option.bind_some, Option.toList_some, Option.toList_none, List.cons_append, List.nil_append, if_true, if_false, ↓reduceIte, eq_self, z0_o, ↓z0_0, ↓z0_1, ↓z0_2, ↓z0_3, ↓z0_4, ↓z0_5, ↓z0_5p0, ↓z0_5p1, z360_o, ↓z360_0, ↓z360_1, ↓z360_1p, ↓z360_2, ↓z360_2p, ↓z360_3, ↓z360_4, ↓z360_5, ↓z360_6, ↓z360_7, ↓z360_7p, ↓z360_8, ↓z360_8p, ↓z361_g, ↓z361_s, ↓z362_g, ↓z362_s, ↓z363_g, ↓z363_s, ↓z364_g, ↓z364_s, ↓z365_g, ↓z365_s, ↓z0t hq1, f0_o hq, ↓f0_0 hq, ↓f0_0p hq, ↓f0_1 hq, ↓f0_1p hq, ↓f0_2 hq, ↓f0_2p hq, ↓f0_3 hq, ↓f0_3p hq, ↓f0_4 hq, ↓f0_5 hq, ↓f0_6 hq, ↓f0_7 hq, ↓f0_8 hq, ↓f0_9 hq, ↓f0_10 hq, ↓f0_11 hq, ↓f1_g hq, ↓f1_s hq, ↓f2_g hq, ↓f2_s hq, hnW, hlt, ok, cl, w1, w2, w3, w4, ↓aft_of (er), c2]
        · have hb : bsF (txC s).2.2.2.2.1 (txC s).2.2.2.2.2.1 (txC s).2.2.2.2.2.2.1 (txC s).2.2.2.2.2.2.2 (m + 1) i u = bsF (txC s).2.2.2.2.1 (txC s).2.2.2.2.2.1 (txC s).2.2.2.2.2.2.1 (txC s).2.2.2.2.2.2.2 m (i + 1) (bkU u ((txC s).2.2.2.2.1 i).toNatClampNeg ((txC s).2.2.2.2.2.2.2 i).toNatClampNeg ((txC s).2.2.2.2.2.1 i) ((txC s).2.2.2.2.2.2.1 i)) := if_neg c2
          rw [hb]
          have hwn := bkU_wf hwu c2
          obtain ⟨a0, a1, a2, a3, b0, b1, b2, b3⟩ : ∃ a b c d, a = (txC s).2.2.2.2.1 i ∧ b = (txC s).2.2.2.2.2.1 i ∧ c = (txC s).2.2.2.2.2.2.1 i ∧ d = (txC s).2.2.2.2.2.2.2 i := ⟨_, _, _, _, rfl, rfl, rfl, rfl⟩
          rw [← b0, ← b1, ← b2, ← b3] at er c2 hwn ⊢
          rw [← b0] at w1
          rw [← b1] at w2
          rw [← b2] at w3
          rw [← b3] at w4
          obtain ⟨e0, k, x, y, z, hk, ek, hx, ex, hy, ey, hz, hzo, ez, h8, h99⟩ := rf_ok hwu c2
          rw [e0] at er
          have hN1 := hwu.1.1.2.1
          obtain ⟨W2, e3, f3, c3⟩ := c_receive (p := nI x) (st := nI y) hq hcu hwu.1 hk h8 hz
          rw [← ek, ← ex, ← ey, ← ez] at e3
          have hcl1 : a0.toNatClampNeg = k := by rw [ek, nI_clamp (by omega)]
          have hcl4 : a3.toNatClampNeg = z := by rw [ez, nI_clamp (by omega)]
          have c3' : CSu q W2 P (bkU u a0.toNatClampNeg a3.toNatClampNeg a1 a2) := by rw [hcl1, hcl4, ex, ey]; exact c3
          obtain ⟨W3, f4, pk, hI⟩ := ih (i + 1) _ W2 (.int 0) (by omega) (fun a ha => by rw [f3 a (by omega)]; exact hW a ha) c3' hwn
          have nxt : X 93 32 [.ref 0, .int (-5), .int (nI i), v3] [] (H W P) = X 93 32 [.ref 0, .int (-5), .int (nI (i + 1)), .int 0] [] (H W2 P) := by
            rw [x93_32]
            simp +decide only [x93_0, x93_1, x93_4, x93_7, x93_8, x93_9, x93_11, x93_14, x93_16, x93_17, x93_18, x93_19, x93_20, x93_23, x93_24, x93_27, x93_30, x93_31, x93_33, x93_34, x93_37, x93_40, x93_43, x93_44, x93_47, x93_48, x93_51, x93_54, x93_55, x93_56, x93_57, x93_60, x93_63, x93_64, x93_65, x93_66, x93_69, x93_72, x93_73, x93_74, x93_75, x93_78, x93_81, x93_82, x93_83, x93_86, x93_87, x93_88, x93_91, x93_92, x93_93, x93_94, x93_97, x93_98, x93_101, x93_104, x93_105, x93_106, x93_107, x93_110, x93_113, x93_114, x93_115, x93_116, x93_119, x93_122, x93_123, x93_124, x93_125, x93_128, x93_131, x93_132, x93_133, x93_136, x93_137, x93_140, x93_144, x93_147, x93_148, x93_151, x93_154, x93_155, x93_158, x93_159, x93_162, x93_165, x93_166, x93_169, x93_172, aft_some, aft_void, Option.bind_some, Option.toList_some, Option.toList_none, List.cons_append, List.nil_append, if_true, if_false, ↓reduceIte, eq_self, z0_o, ↓z0_0, ↓z0_1, ↓z0_2, ↓z0_3, ↓z0_4, ↓z0_5, ↓z0_5p0, ↓z0_5p1, z360_o, ↓z360_0, ↓z360_1, ↓z360_1p, ↓z360_2, ↓z360_2p, ↓z360_3, ↓z360_4, ↓z360_5, ↓z360_6, ↓z360_7, ↓z360_7p, ↓z360_8, ↓z360_8p, ↓z361_g, ↓z361_s, ↓z362_g, ↓z362_s, ↓z363_g, ↓z363_s, ↓z364_g, ↓z364_s, ↓z365_g, ↓z365_s, ↓z0t hq1, f0_o hq, ↓f0_0 hq, ↓f0_0p hq, ↓f0_1 hq, ↓f0_1p hq, ↓f0_2 hq, ↓f0_2p hq, ↓f0_3 hq, ↓f0_3p hq, ↓f0_4 hq, ↓f0_5 hq, ↓f0_6 hq, ↓f0_7 hq, ↓f0_8 hq, ↓f0_9 hq, ↓f0_10 hq, ↓f0_11 hq, ↓f1_g hq, ↓f1_s hq, ↓f2_g hq, ↓f2_s hq, hnW, hlt, ok, cl, w1, w2, w3, w4, ↓aft_of (er), ↓aft_of (e3), nI_1]
          refine ⟨W3, f4, pk, ?_⟩
          rw [nxt]
          exact hI
    obtain ⟨W, fW, pk, hI⟩ := key (txC s).2.1 0 s.1 T2 (.long 0) (by omega) hf c2 hw
    have hCW : CG EE W P s := by
      subst hq1
      exact hC1.tri pk (fun a ha => fW a ha) (fun _ _ => rfl)
    have hst : X 93 0 [.ref 0, .long 0, .long 0, .long 0] [] (H T P) = X 93 32 [.ref 0, .int (-5), .int 0, .long 0] [] (H T2 P) := by
      simp +decide only [x93_0, x93_1, x93_4, x93_7, x93_8, x93_9, x93_11, x93_14, x93_16, x93_17, x93_18, x93_19, x93_20, x93_23, x93_24, x93_27, x93_30, x93_31, x93_33, x93_34, x93_37, x93_40, x93_43, x93_44, x93_47, x93_48, x93_51, x93_54, x93_55, x93_56, x93_57, x93_60, x93_63, x93_64, x93_65, x93_66, x93_69, x93_72, x93_73, x93_74, x93_75, x93_78, x93_81, x93_82, x93_83, x93_86, x93_87, x93_88, x93_91, x93_92, x93_93, x93_94, x93_97, x93_98, x93_101, x93_104, x93_105, x93_106, x93_107, x93_110, x93_113, x93_114, x93_115, x93_116, x93_119, x93_122, x93_123, x93_124, x93_125, x93_128, x93_131, x93_132, x93_133, x93_136, x93_137, x93_140, x93_144, x93_147, x93_148, x93_151, x93_154, x93_155, x93_158, x93_159, x93_162, x93_165, x93_166, x93_169, x93_172, aft_some, aft_void, Option.bind_some, Option.toList_some, Option.toList_none, List.cons_append, List.nil_append, if_true, if_false, ↓reduceIte, eq_self, z0_o, ↓z0_0, ↓z0_1, ↓z0_2, ↓z0_3, ↓z0_4, ↓z0_5, ↓z0_5p0, ↓z0_5p1, z360_o, ↓z360_0, ↓z360_1, ↓z360_1p, ↓z360_2, ↓z360_2p, ↓z360_3, ↓z360_4, ↓z360_5, ↓z360_6, ↓z360_7, ↓z360_7p, ↓z360_8, ↓z360_8p, ↓z361_g, ↓z361_s, ↓z362_g, ↓z362_s, ↓z363_g, ↓z363_s, ↓z364_g, ↓z364_s, ↓z365_g, ↓z365_s, ↓z0n h1, ↓z0t hq1, f0_o hq, ↓f0_0 hq, ↓f0_0p hq, ↓f0_1 hq, ↓f0_1p hq, ↓f0_2 hq, ↓f0_2p hq, ↓f0_3 hq, ↓f0_3p hq, ↓f0_4 hq, ↓f0_5 hq, ↓f0_6 hq, ↓f0_7 hq, ↓f0_8 hq, ↓f0_9 hq, ↓f0_10 hq, ↓f0_11 hq, ↓f1_g hq, ↓f1_s hq, ↓f2_g hq, ↓f2_s hq, f0_o ho, ↓f0_0 ho, ↓f0_0p ho, ↓f0_1 ho, ↓f0_1p ho, ↓f0_2 ho, ↓f0_2p ho, ↓f0_3 ho, ↓f0_3p ho, ↓f0_4 ho, ↓f0_5 ho, ↓f0_6 ho, ↓f0_7 ho, ↓f0_8 ho, ↓f0_9 ho, ↓f0_10 ho, ↓f0_11 ho, ↓f1_g ho, ↓f1_s ho, ↓f2_g ho, ↓f2_s ho, ↓aft_of (e1), ↓aft_of (e2)]
    rw [hst]
    rcases hI with ⟨er, hb, ex⟩ | ⟨hb, ⟨v2, v3', ex⟩, cW⟩
    · have hb : (bkS s).1 = some er := hb
      rw [hb]
      exact ⟨W, ex, hCW⟩
    · have hb : (bkS s).1 = none := hb
      have cW : CSu q W P (bkS s).2 := cW
      rw [hb]
      have hwb : WFu (bkS s).2 := bsF_wf hw
      obtain ⟨T3, e3, f3, g3⟩ := hCW.push h1
      have cW3 : CSu q T3 P (bkS s).2 := CS.same cW hwb.1.1.2.2.2.1 (fun a ha hb => f3 a (by omega)) rfl
      obtain ⟨T4, e4, f4, c4⟩ := c_stCopy (o := o) (q := q) ho hq (by omega) (g3.1.1 _ ho) cW3 hwb.1.1.2.1 hwb.1.1.2.2.2.1
      have hn4 : T4 360 2 = nI (txC s).2.1 := by rw [f4 360 (by omega), f3 360 (by decide), fW 360 (by decide)]; exact hn
      refine ⟨T4, ?_, ?_⟩
      · have ex : X 93 32 [.ref 0, .int (-5), .int 0, .long 0] [] (H T2 P) = X 93 143 [.ref 0, .int (-5), v2, v3'] [] (H W P) := ex
        rw [ex, x93_143]
        simp +decide only [x93_0, x93_1, x93_4, x93_7, x93_8, x93_9, x93_11, x93_14, x93_16, x93_17, x93_18, x93_19, x93_20, x93_23, x93_24, x93_27, x93_30, x93_31, x93_33, x93_34, x93_37, x93_40, x93_43, x93_44, x93_47, x93_48, x93_51, x93_54, x93_55, x93_56, x93_57, x93_60, x93_63, x93_64, x93_65, x93_66, x93_69, x93_72, x93_73, x93_74, x93_75, x93_78, x93_81, x93_82, x93_83, x93_86, x93_87, x93_88, x93_91, x93_92, x93_93, x93_94, x93_97, x93_98, x93_101, x93_104, x93_105, x93_106, x93_107, x93_110, x93_113, x93_114, x93_115, x93_116, x93_119, x93_122, x93_123, x93_124, x93_125, x93_128, x93_131, x93_132, x93_133, x93_136, x93_137, x93_140, x93_144, x93_147, x93_148, x93_151, x93_154, x93_155, x93_158, x93_159, x93_162, x93_165, x93_166, x93_169, x93_172, aft_some, aft_void, Option.bind_some, Option.toList_some, Option.toList_none, List.cons_append, List.nil_append, if_true, if_false, ↓reduceIte, eq_self, z0_o, ↓z0_0, ↓z0_1, ↓z0_2, ↓z0_3, ↓z0_4, ↓z0_5, ↓z0_5p0, ↓z0_5p1, z360_o, ↓z360_0, ↓z360_1, ↓z360_1p, ↓z360_2, ↓z360_2p, ↓z360_3, ↓z360_4, ↓z360_5, ↓z360_6, ↓z360_7, ↓z360_7p, ↓z360_8, ↓z360_8p, ↓z361_g, ↓z361_s, ↓z362_g, ↓z362_s, ↓z363_g, ↓z363_s, ↓z364_g, ↓z364_s, ↓z365_g, ↓z365_s, z154_o, ↓z154_0, ↓z154_1, ↓z154_1p, ↓z154_2, ↓z154_2p, ↓z155_g, ↓z0n h1, ↓z0t hq1, f0_o hq, ↓f0_0 hq, ↓f0_0p hq, ↓f0_1 hq, ↓f0_1p hq, ↓f0_2 hq, ↓f0_2p hq, ↓f0_3 hq, ↓f0_3p hq, ↓f0_4 hq, ↓f0_5 hq, ↓f0_6 hq, ↓f0_7 hq, ↓f0_8 hq, ↓f0_9 hq, ↓f0_10 hq, ↓f0_11 hq, ↓f1_g hq, ↓f1_s hq, ↓f2_g hq, ↓f2_s hq, f0_o ho, ↓f0_0 ho, ↓f0_0p ho, ↓f0_1 ho, ↓f0_1p ho, ↓f0_2 ho, ↓f0_2p ho, ↓f0_3 ho, ↓f0_3p ho, ↓f0_4 ho, ↓f0_5 ho, ↓f0_6 ho, ↓f0_7 ho, ↓f0_8 ho, ↓f0_9 ho, ↓f0_10 ho, ↓f0_11 ho, ↓f1_g ho, ↓f1_s ho, ↓f2_g ho, ↓f2_s ho, ↓aft_of (e3), ↓aft_of (e4), hn4]
      · subst h1
        exact g3.now c4 hwb (fun a ha => f4 a (by omega)) (fun _ _ => rfl)
  · rw [if_neg c1]
    refine ⟨T1, ?_, hC1⟩
    simp +decide only [x93_0, x93_1, x93_4, x93_7, x93_8, x93_9, x93_11, x93_14, x93_16, x93_17, x93_18, x93_19, x93_20, x93_23, x93_24, x93_27, x93_30, x93_31, x93_33, x93_34, x93_37, x93_40, x93_43, x93_44, x93_47, x93_48, x93_51, x93_54, x93_55, x93_56, x93_57, x93_60, x93_63, x93_64, x93_65, x93_66, x93_69, x93_72, x93_73, x93_74, x93_75, x93_78, x93_81, x93_82, x93_83, x93_86, x93_87, x93_88, x93_91, x93_92, x93_93, x93_94, x93_97, x93_98, x93_101, x93_104, x93_105, x93_106, x93_107, x93_110, x93_113, x93_114, x93_115, x93_116, x93_119, x93_122, x93_123, x93_124, x93_125, x93_128, x93_131, x93_132, x93_133, x93_136, x93_137, x93_140, x93_144, x93_147, x93_148, x93_151, x93_154, x93_155, x93_158, x93_159, x93_162, x93_165, x93_166, x93_169, x93_172, aft_some, aft_void, Option.bind_some, Option.toList_some, Option.toList_none, List.cons_append, List.nil_append, if_true, if_false, ↓reduceIte, eq_self, z0_o, ↓z0_0, ↓z0_1, ↓z0_2, ↓z0_3, ↓z0_4, ↓z0_5, ↓z0_5p0, ↓z0_5p1, z360_o, ↓z360_0, ↓z360_1, ↓z360_1p, ↓z360_2, ↓z360_2p, ↓z360_3, ↓z360_4, ↓z360_5, ↓z360_6, ↓z360_7, ↓z360_7p, ↓z360_8, ↓z360_8p, ↓z361_g, ↓z361_s, ↓z362_g, ↓z362_s, ↓z363_g, ↓z363_s, ↓z364_g, ↓z364_s, ↓z365_g, ↓z365_s, ↓aft_of (e1), c1]
end BKT
end
