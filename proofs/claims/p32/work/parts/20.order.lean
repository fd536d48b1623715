/-! a state's refusals, its order, the next to iron -/
def inI (v lo hi : Int32) : Int32 := if v < lo then 0 else if hi < v then 0 else 1
def rfI (nc : Nat) (B : List bT) (n cm : Nat) (c p s g : Int32) : Int32 := if c < 0 then -1 else if c < nI nc then (if p < 1 ∨ 9999 < p ∨ s < 0 ∨ 3 < s ∨ g < 0 ∨ 99 < g then -2 else if nI (outL c.toNatClampNeg B) < g then -4 else if n < 8 ∧ cm < 99 then 0 else -3) else -1
def rkI (t : Nat → Int32) (n p : Nat) : Int32 := smI (fun i => if t i < t p ∨ (t i = t p ∧ i < p) then 1 else 0) n
/-- the first of those that can be ironed with the least turn, of the first i -/
noncomputable def nxS (f : Nat → Prop) (t : Nat → Int32) : Nat → Option Nat
  | 0 => none
  | i + 1 => @ite _ (f i) (Classical.propDecidable _) (match nxS f t i with
    | none => some i
    | some j => if t i < t j then some i else some j) (nxS f t i)
theorem nxS_s {f : Nat → Prop} {t : Nat → Int32} {i : Nat} (h : f i) : nxS f t (i + 1) = (match nxS f t i with
    | none => some i
    | some j => if t i < t j then some i else some j) := by
  show (@ite _ (f i) (Classical.propDecidable _) _ _) = _
  exact if_pos h
theorem nxS_n {f : Nat → Prop} {t : Nat → Int32} {i : Nat} (h : ¬ f i) : nxS f t (i + 1) = nxS f t i := by
  show (@ite _ (f i) (Classical.propDecidable _) _ _) = _
  exact if_neg h
section OR
variable {T : Nat → Nat → Int32} {P : Nat → Nat → Nat} {o : Nat} {N : Nat → Nat} {V : Nat → Nat → Int32} {K : List kT} {B : List bT} {R : Nat → Nat → Int32} {x y z w : Int32} {h0 : List hC}
theorem c_within : X 120 0 [.int x, .int y, .int z] [] h0 = some (some (.int (inI x y z)), h0) := by
  simp +decide only [x120_0, x120_1, x120_2, x120_5, x120_6, x120_7, x120_10, x120_11, x120_14, x120_15, aft_some, aft_void, Option.bind_some, Option.toList_some, Option.toList_none, List.cons_append, List.nil_append, if_true, if_false, ↓reduceIte, eq_self, or_true, true_or]
  unfold inI
  repeat' split
  all_goals rfl
theorem nI_ex {c : Int32} (h : ¬ c < 0) {n : Nat} (hn : n < 2 ^ 31) (h2 : c < nI n) : ∃ k, k < n ∧ c = nI k := by
  obtain ⟨j, hj, rfl⟩ := nI_of h
  exact ⟨j, by rwa [nI_ltp hj hn] at h2, rfl⟩
theorem OS.of_wf (hw : WF N V K B) : OS B := by
  intro q hq
  have h1 := hw.2.2.2.2.2.1.1 q hq
  have h2 := hw.1
  exact ⟨by omega, by omega, by omega⟩
theorem c_refusal (ho : isB o) (h : CS o T P N V K B R) (hw : WF N V K B) : X 74 0 [.ref o, .int x, .int y, .int z, .int w] [] (H T P) = some (some (.int (rfI (N 1) B K.length (N 2) x y z w)), H T P) := by
  have hN1 : N 1 ≤ 10 := hw.1.2.1
  have hN2 : N 2 ≤ 99 := hw.1.2.2.1
  have h8 : K.length ≤ 8 := hw.1.2.2.2.1
  have hf := c_isFull (T := T) (P := P) ho
  have hh := c_has (T := T) (P := P) (x := x) ho
  rw [h.2.1.1] at hh
  rw [h.n, h.2.2.1.2.2.1, show (8 : Int32) = nI 8 from rfl, show (99 : Int32) = nI 99 from rfl] at hf
  simp only [nI_ltp (show K.length < 2 ^ 31 by omega) (show 8 < 2 ^ 31 by decide), nI_ltp (show N 2 < 2 ^ 31 by omega) (show 99 < 2 ^ 31 by decide)] at hf
  unfold rfI
  by_cases c0 : x < 0
  · simp only [c0, if_true] at hh ⊢
    simp +decide only [x74_0, x74_1, x74_4, x74_5, x74_8, x74_11, x74_12, x74_13, x74_14, x74_15, x74_18, x74_21, x74_24, x74_25, x74_26, x74_27, x74_30, x74_33, x74_35, x74_36, x74_38, x74_41, x74_44, x74_46, x74_47, x74_48, x74_51, x74_52, x74_55, x74_57, x74_60, x74_62, x74_63, x74_64, x74_67, x74_70, x74_73, x74_75, x74_78, x74_79, aft_some, aft_void, Option.bind_some, Option.toList_some, Option.toList_none, List.cons_append, List.nil_append, if_true, if_false, ↓reduceIte, eq_self, f0_o ho, ↓f0_0 ho, ↓f0_0p ho, ↓f0_1 ho, ↓f0_1p ho, ↓f0_2 ho, ↓f0_2p ho, ↓f0_3 ho, ↓f0_3p ho, ↓f0_4 ho, ↓f0_5 ho, ↓f0_6 ho, ↓f0_7 ho, ↓f0_8 ho, ↓f0_9 ho, ↓f0_10 ho, ↓f0_11 ho, ↓f1_g ho, ↓f1_s ho, ↓f2_g ho, ↓f2_s ho, f3_o ho, ↓f3_0 ho, ↓f3_0p ho, ↓f3_1 ho, ↓f3_2 ho, ↓f3_3 ho, ↓f4_g ho, ↓f4_s ho, ↓f5_g ho, ↓f5_s ho, ↓f6_g ho, ↓f6_s ho, ↓aft_of (hh)]
  · by_cases c1 : x < nI (N 1)
    · obtain ⟨c, hc, rfl⟩ := nI_ex c0 (by omega) c1
      have hout := c_outTo (T := T) (P := P) ho h.2.2.2.1 (OS.of_wf hw) (show c < 10 by omega)
      simp only [c0, c1, if_true, if_false] at hh ⊢
      rw [nI_clamp (by omega)]
      by_cases y1 : y < 1
      · simp +decide only [x74_0, x74_1, x74_4, x74_5, x74_8, x74_11, x74_12, x74_13, x74_14, x74_15, x74_18, x74_21, x74_24, x74_25, x74_26, x74_27, x74_30, x74_33, x74_35, x74_36, x74_38, x74_41, x74_44, x74_46, x74_47, x74_48, x74_51, x74_52, x74_55, x74_57, x74_60, x74_62, x74_63, x74_64, x74_67, x74_70, x74_73, x74_75, x74_78, x74_79, aft_some, aft_void, Option.bind_some, Option.toList_some, Option.toList_none, List.cons_append, List.nil_append, if_true, if_false, ↓reduceIte, eq_self, f0_o ho, ↓f0_0 ho, ↓f0_0p ho, ↓f0_1 ho, ↓f0_1p ho, ↓f0_2 ho, ↓f0_2p ho, ↓f0_3 ho, ↓f0_3p ho, ↓f0_4 ho, ↓f0_5 ho, ↓f0_6 ho, ↓f0_7 ho, ↓f0_8 ho, ↓f0_9 ho, ↓f0_10 ho, ↓f0_11 ho, ↓f1_g ho, ↓f1_s ho, ↓f2_g ho, ↓f2_s ho, f3_o ho, ↓f3_0 ho, ↓f3_0p ho, ↓f3_1 ho, ↓f3_2 ho, ↓f3_3 ho, ↓f4_g ho, ↓f4_s ho, ↓f5_g ho, ↓f5_s ho, ↓f6_g ho, ↓f6_s ho, f41_o ho, ↓f41_0 ho, ↓f41_1 ho, ↓f41_2 ho, ↓f41_3 ho, ↓f41_3p ho, ↓f42_g ho, ↓f42_s ho, ↓f43_g ho, ↓f43_s ho, ↓f44_g ho, ↓f44_s ho, f7_o ho, ↓f7_0 ho, ↓f7_1 ho, ↓f7_1p ho, ↓f7_2 ho, ↓f7_2p ho, ↓f8_g ho, ↓aft_of (hh), ↓aft_of (c_within), inI, y1, true_or]
      by_cases y2 : 9999 < y
      · simp +decide only [x74_0, x74_1, x74_4, x74_5, x74_8, x74_11, x74_12, x74_13, x74_14, x74_15, x74_18, x74_21, x74_24, x74_25, x74_26, x74_27, x74_30, x74_33, x74_35, x74_36, x74_38, x74_41, x74_44, x74_46, x74_47, x74_48, x74_51, x74_52, x74_55, x74_57, x74_60, x74_62, x74_63, x74_64, x74_67, x74_70, x74_73, x74_75, x74_78, x74_79, aft_some, aft_void, Option.bind_some, Option.toList_some, Option.toList_none, List.cons_append, List.nil_append, if_true, if_false, ↓reduceIte, eq_self, f0_o ho, ↓f0_0 ho, ↓f0_0p ho, ↓f0_1 ho, ↓f0_1p ho, ↓f0_2 ho, ↓f0_2p ho, ↓f0_3 ho, ↓f0_3p ho, ↓f0_4 ho, ↓f0_5 ho, ↓f0_6 ho, ↓f0_7 ho, ↓f0_8 ho, ↓f0_9 ho, ↓f0_10 ho, ↓f0_11 ho, ↓f1_g ho, ↓f1_s ho, ↓f2_g ho, ↓f2_s ho, f3_o ho, ↓f3_0 ho, ↓f3_0p ho, ↓f3_1 ho, ↓f3_2 ho, ↓f3_3 ho, ↓f4_g ho, ↓f4_s ho, ↓f5_g ho, ↓f5_s ho, ↓f6_g ho, ↓f6_s ho, f41_o ho, ↓f41_0 ho, ↓f41_1 ho, ↓f41_2 ho, ↓f41_3 ho, ↓f41_3p ho, ↓f42_g ho, ↓f42_s ho, ↓f43_g ho, ↓f43_s ho, ↓f44_g ho, ↓f44_s ho, f7_o ho, ↓f7_0 ho, ↓f7_1 ho, ↓f7_1p ho, ↓f7_2 ho, ↓f7_2p ho, ↓f8_g ho, ↓aft_of (hh), ↓aft_of (c_within), inI, y1, y2, true_or, or_true]
      by_cases z1 : z < 0
      · simp +decide only [x74_0, x74_1, x74_4, x74_5, x74_8, x74_11, x74_12, x74_13, x74_14, x74_15, x74_18, x74_21, x74_24, x74_25, x74_26, x74_27, x74_30, x74_33, x74_35, x74_36, x74_38, x74_41, x74_44, x74_46, x74_47, x74_48, x74_51, x74_52, x74_55, x74_57, x74_60, x74_62, x74_63, x74_64, x74_67, x74_70, x74_73, x74_75, x74_78, x74_79, aft_some, aft_void, Option.bind_some, Option.toList_some, Option.toList_none, List.cons_append, List.nil_append, if_true, if_false, ↓reduceIte, eq_self, f0_o ho, ↓f0_0 ho, ↓f0_0p ho, ↓f0_1 ho, ↓f0_1p ho, ↓f0_2 ho, ↓f0_2p ho, ↓f0_3 ho, ↓f0_3p ho, ↓f0_4 ho, ↓f0_5 ho, ↓f0_6 ho, ↓f0_7 ho, ↓f0_8 ho, ↓f0_9 ho, ↓f0_10 ho, ↓f0_11 ho, ↓f1_g ho, ↓f1_s ho, ↓f2_g ho, ↓f2_s ho, f3_o ho, ↓f3_0 ho, ↓f3_0p ho, ↓f3_1 ho, ↓f3_2 ho, ↓f3_3 ho, ↓f4_g ho, ↓f4_s ho, ↓f5_g ho, ↓f5_s ho, ↓f6_g ho, ↓f6_s ho, f41_o ho, ↓f41_0 ho, ↓f41_1 ho, ↓f41_2 ho, ↓f41_3 ho, ↓f41_3p ho, ↓f42_g ho, ↓f42_s ho, ↓f43_g ho, ↓f43_s ho, ↓f44_g ho, ↓f44_s ho, f7_o ho, ↓f7_0 ho, ↓f7_1 ho, ↓f7_1p ho, ↓f7_2 ho, ↓f7_2p ho, ↓f8_g ho, ↓aft_of (hh), ↓aft_of (c_within), inI, y1, y2, z1, true_or, or_true]
      by_cases z2 : 3 < z
      · simp +decide only [x74_0, x74_1, x74_4, x74_5, x74_8, x74_11, x74_12, x74_13, x74_14, x74_15, x74_18, x74_21, x74_24, x74_25, x74_26, x74_27, x74_30, x74_33, x74_35, x74_36, x74_38, x74_41, x74_44, x74_46, x74_47, x74_48, x74_51, x74_52, x74_55, x74_57, x74_60, x74_62, x74_63, x74_64, x74_67, x74_70, x74_73, x74_75, x74_78, x74_79, aft_some, aft_void, Option.bind_some, Option.toList_some, Option.toList_none, List.cons_append, List.nil_append, if_true, if_false, ↓reduceIte, eq_self, f0_o ho, ↓f0_0 ho, ↓f0_0p ho, ↓f0_1 ho, ↓f0_1p ho, ↓f0_2 ho, ↓f0_2p ho, ↓f0_3 ho, ↓f0_3p ho, ↓f0_4 ho, ↓f0_5 ho, ↓f0_6 ho, ↓f0_7 ho, ↓f0_8 ho, ↓f0_9 ho, ↓f0_10 ho, ↓f0_11 ho, ↓f1_g ho, ↓f1_s ho, ↓f2_g ho, ↓f2_s ho, f3_o ho, ↓f3_0 ho, ↓f3_0p ho, ↓f3_1 ho, ↓f3_2 ho, ↓f3_3 ho, ↓f4_g ho, ↓f4_s ho, ↓f5_g ho, ↓f5_s ho, ↓f6_g ho, ↓f6_s ho, f41_o ho, ↓f41_0 ho, ↓f41_1 ho, ↓f41_2 ho, ↓f41_3 ho, ↓f41_3p ho, ↓f42_g ho, ↓f42_s ho, ↓f43_g ho, ↓f43_s ho, ↓f44_g ho, ↓f44_s ho, f7_o ho, ↓f7_0 ho, ↓f7_1 ho, ↓f7_1p ho, ↓f7_2 ho, ↓f7_2p ho, ↓f8_g ho, ↓aft_of (hh), ↓aft_of (c_within), inI, y1, y2, z1, z2, true_or, or_true]
      by_cases w1 : w < 0
      · simp +decide only [x74_0, x74_1, x74_4, x74_5, x74_8, x74_11, x74_12, x74_13, x74_14, x74_15, x74_18, x74_21, x74_24, x74_25, x74_26, x74_27, x74_30, x74_33, x74_35, x74_36, x74_38, x74_41, x74_44, x74_46, x74_47, x74_48, x74_51, x74_52, x74_55, x74_57, x74_60, x74_62, x74_63, x74_64, x74_67, x74_70, x74_73, x74_75, x74_78, x74_79, aft_some, aft_void, Option.bind_some, Option.toList_some, Option.toList_none, List.cons_append, List.nil_append, if_true, if_false, ↓reduceIte, eq_self, f0_o ho, ↓f0_0 ho, ↓f0_0p ho, ↓f0_1 ho, ↓f0_1p ho, ↓f0_2 ho, ↓f0_2p ho, ↓f0_3 ho, ↓f0_3p ho, ↓f0_4 ho, ↓f0_5 ho, ↓f0_6 ho, ↓f0_7 ho, ↓f0_8 ho, ↓f0_9 ho, ↓f0_10 ho, ↓f0_11 ho, ↓f1_g ho, ↓f1_s ho, ↓f2_g ho, ↓f2_s ho, f3_o ho, ↓f3_0 ho, ↓f3_0p ho, ↓f3_1 ho, ↓f3_2 ho, ↓f3_3 ho, ↓f4_g ho, ↓f4_s ho, ↓f5_g ho, ↓f5_s ho, ↓f6_g ho, ↓f6_s ho, f41_o ho, ↓f41_0 ho, ↓f41_1 ho, ↓f41_2 ho, ↓f41_3 ho, ↓f41_3p ho, ↓f42_g ho, ↓f42_s ho, ↓f43_g ho, ↓f43_s ho, ↓f44_g ho, ↓f44_s ho, f7_o ho, ↓f7_0 ho, ↓f7_1 ho, ↓f7_1p ho, ↓f7_2 ho, ↓f7_2p ho, ↓f8_g ho, ↓aft_of (hh), ↓aft_of (c_within), inI, y1, y2, z1, z2, w1, true_or, or_true]
      by_cases w2 : 99 < w
      · simp +decide only [x74_0, x74_1, x74_4, x74_5, x74_8, x74_11, x74_12, x74_13, x74_14, x74_15, x74_18, x74_21, x74_24, x74_25, x74_26, x74_27, x74_30, x74_33, x74_35, x74_36, x74_38, x74_41, x74_44, x74_46, x74_47, x74_48, x74_51, x74_52, x74_55, x74_57, x74_60, x74_62, x74_63, x74_64, x74_67, x74_70, x74_73, x74_75, x74_78, x74_79, aft_some, aft_void, Option.bind_some, Option.toList_some, Option.toList_none, List.cons_append, List.nil_append, if_true, if_false, ↓reduceIte, eq_self, f0_o ho, ↓f0_0 ho, ↓f0_0p ho, ↓f0_1 ho, ↓f0_1p ho, ↓f0_2 ho, ↓f0_2p ho, ↓f0_3 ho, ↓f0_3p ho, ↓f0_4 ho, ↓f0_5 ho, ↓f0_6 ho, ↓f0_7 ho, ↓f0_8 ho, ↓f0_9 ho, ↓f0_10 ho, ↓f0_11 ho, ↓f1_g ho, ↓f1_s ho, ↓f2_g ho, ↓f2_s ho, f3_o ho, ↓f3_0 ho, ↓f3_0p ho, ↓f3_1 ho, ↓f3_2 ho, ↓f3_3 ho, ↓f4_g ho, ↓f4_s ho, ↓f5_g ho, ↓f5_s ho, ↓f6_g ho, ↓f6_s ho, f41_o ho, ↓f41_0 ho, ↓f41_1 ho, ↓f41_2 ho, ↓f41_3 ho, ↓f41_3p ho, ↓f42_g ho, ↓f42_s ho, ↓f43_g ho, ↓f43_s ho, ↓f44_g ho, ↓f44_s ho, f7_o ho, ↓f7_0 ho, ↓f7_1 ho, ↓f7_1p ho, ↓f7_2 ho, ↓f7_2p ho, ↓f8_g ho, ↓aft_of (hh), ↓aft_of (c_within), inI, y1, y2, z1, z2, w1, w2, true_or, or_true]
      simp +decide only [x74_0, x74_1, x74_4, x74_5, x74_8, x74_11, x74_12, x74_13, x74_14, x74_15, x74_18, x74_21, x74_24, x74_25, x74_26, x74_27, x74_30, x74_33, x74_35, x74_36, x74_38, x74_41, x74_44, x74_46, x74_47, x74_48, x74_51, x74_52, x74_55, x74_57, x74_60, x74_62, x74_63, x74_64, x74_67, x74_70, x74_73, x74_75, x74_78, x74_79, aft_some, aft_void, Option.bind_some, Option.toList_some, Option.toList_none, List.cons_append, List.nil_append, if_true, if_false, ↓reduceIte, eq_self, f0_o ho, ↓f0_0 ho, ↓f0_0p ho, ↓f0_1 ho, ↓f0_1p ho, ↓f0_2 ho, ↓f0_2p ho, ↓f0_3 ho, ↓f0_3p ho, ↓f0_4 ho, ↓f0_5 ho, ↓f0_6 ho, ↓f0_7 ho, ↓f0_8 ho, ↓f0_9 ho, ↓f0_10 ho, ↓f0_11 ho, ↓f1_g ho, ↓f1_s ho, ↓f2_g ho, ↓f2_s ho, f3_o ho, ↓f3_0 ho, ↓f3_0p ho, ↓f3_1 ho, ↓f3_2 ho, ↓f3_3 ho, ↓f4_g ho, ↓f4_s ho, ↓f5_g ho, ↓f5_s ho, ↓f6_g ho, ↓f6_s ho, f41_o ho, ↓f41_0 ho, ↓f41_1 ho, ↓f41_2 ho, ↓f41_3 ho, ↓f41_3p ho, ↓f42_g ho, ↓f42_s ho, ↓f43_g ho, ↓f43_s ho, ↓f44_g ho, ↓f44_s ho, f7_o ho, ↓f7_0 ho, ↓f7_1 ho, ↓f7_1p ho, ↓f7_2 ho, ↓f7_2p ho, ↓f8_g ho, ↓aft_of (hh), ↓aft_of (c_within), inI, y1, y2, z1, z2, w1, w2, or_false, ↓aft_of (hout), ↓aft_of (hf)]
      by_cases g1 : nI (outL c B) < w
      · simp only [g1, if_true]
      · simp only [g1, if_false]
        by_cases g2 : K.length < 8
        · by_cases g3 : N 2 < 99
          · simp +decide only [g2, g3, if_true, and_self]
          · simp +decide only [g2, g3, if_true, if_false, and_false]
        · simp +decide only [g2, if_false, false_and]
    · simp only [c0, c1, if_false] at hh ⊢
      simp +decide only [x74_0, x74_1, x74_4, x74_5, x74_8, x74_11, x74_12, x74_13, x74_14, x74_15, x74_18, x74_21, x74_24, x74_25, x74_26, x74_27, x74_30, x74_33, x74_35, x74_36, x74_38, x74_41, x74_44, x74_46, x74_47, x74_48, x74_51, x74_52, x74_55, x74_57, x74_60, x74_62, x74_63, x74_64, x74_67, x74_70, x74_73, x74_75, x74_78, x74_79, aft_some, aft_void, Option.bind_some, Option.toList_some, Option.toList_none, List.cons_append, List.nil_append, if_true, if_false, ↓reduceIte, eq_self, f0_o ho, ↓f0_0 ho, ↓f0_0p ho, ↓f0_1 ho, ↓f0_1p ho, ↓f0_2 ho, ↓f0_2p ho, ↓f0_3 ho, ↓f0_3p ho, ↓f0_4 ho, ↓f0_5 ho, ↓f0_6 ho, ↓f0_7 ho, ↓f0_8 ho, ↓f0_9 ho, ↓f0_10 ho, ↓f0_11 ho, ↓f1_g ho, ↓f1_s ho, ↓f2_g ho, ↓f2_s ho, f3_o ho, ↓f3_0 ho, ↓f3_0p ho, ↓f3_1 ho, ↓f3_2 ho, ↓f3_3 ho, ↓f4_g ho, ↓f4_s ho, ↓f5_g ho, ↓f5_s ho, ↓f6_g ho, ↓f6_s ho, ↓aft_of (hh)]
theorem c_service (ho : isB o) (h : CS o T P N V K B R) (hw : WF N V K B) : X 76 0 [.ref o] [] (H T P) = some (some (.int (V 0 1 + smI (fun i => nhI (gK K i 2)) K.length + nI (allL B))), H T P) := by
  have h8 : K.length ≤ 8 := hw.1.2.2.2.1
  have e1 := c_onPieces (T := T) (P := P) ho h.pk h.n h8
  have e2 := c_outAll (T := T) (P := P) ho h.2.2.2.1
  rw [smI_congr (fun i hi => (h.at hi).nh2)] at e1
  simp +decide only [x76_0, x76_1, x76_4, x76_5, x76_8, x76_11, x76_12, x76_13, x76_16, x76_19, x76_20, aft_some, aft_void, Option.bind_some, Option.toList_some, Option.toList_none, List.cons_append, List.nil_append, if_true, if_false, ↓reduceIte, eq_self, f0_o ho, ↓f0_0 ho, ↓f0_0p ho, ↓f0_1 ho, ↓f0_1p ho, ↓f0_2 ho, ↓f0_2p ho, ↓f0_3 ho, ↓f0_3p ho, ↓f0_4 ho, ↓f0_5 ho, ↓f0_6 ho, ↓f0_7 ho, ↓f0_8 ho, ↓f0_9 ho, ↓f0_10 ho, ↓f0_11 ho, ↓f1_g ho, ↓f1_s ho, ↓f2_g ho, ↓f2_s ho, fK_o, f7_o ho, f41_o ho, ↓aft_of (e1), ↓aft_of (e2), h.1.1 1 (by decide)]
theorem c_rankOf (ho : isB o) (h : CS o T P N V K B R) (hw : WF N V K B) {p : Nat} (hp : p < K.length) : X 81 0 [.ref o, .int (nI p), .long 0, .long 0, .long 0, .long 0] [] (H T P) = some (some (.int (rkI (fun i => tnK N V (gK K i)) K.length p)), H T P) := by
  have h8 : K.length ≤ 8 := hw.1.2.2.2.1
  have ep := c_turn ho h hw hp
  obtain ⟨w1, e1, i1⟩ := loop_ex (fun i (v : Value) => X 81 19 [.ref o, .int (nI p), .int (tnK N V (gK K p)), .int (smI (fun i => if tnK N V (gK K i) < tnK N V (gK K p) ∨ (tnK N V (gK K i) = tnK N V (gK K p) ∧ i < p) then 1 else 0) i), .int (nI i), v] [] (H T P)) (fun _ _ => True) K.length (.long 0) trivial (by
    intro i v hi _
    have e := c_turn ho h hw hi
    refine ⟨.int (tnK N V (gK K i)), ?_, trivial⟩
    show X 81 19 _ _ _ = _
    rw [x81_19]
    simp +decide only [x81_0, x81_1, x81_2, x81_5, x81_8, x81_9, x81_10, x81_13, x81_14, x81_15, x81_16, x81_17, x81_21, x81_22, x81_25, x81_28, x81_31, x81_32, x81_33, x81_36, x81_39, x81_41, x81_42, x81_45, x81_47, x81_49, x81_50, x81_53, x81_55, x81_56, x81_59, x81_61, x81_62, x81_65, x81_68, x81_71, x81_74, x81_75, aft_some, aft_void, Option.bind_some, Option.toList_some, Option.toList_none, List.cons_append, List.nil_append, if_true, if_false, ↓reduceIte, eq_self, f0_o ho, ↓f0_0 ho, ↓f0_0p ho, ↓f0_1 ho, ↓f0_1p ho, ↓f0_2 ho, ↓f0_2p ho, ↓f0_3 ho, ↓f0_3p ho, ↓f0_4 ho, ↓f0_5 ho, ↓f0_6 ho, ↓f0_7 ho, ↓f0_8 ho, ↓f0_9 ho, ↓f0_10 ho, ↓f0_11 ho, ↓f1_g ho, ↓f1_s ho, ↓f2_g ho, ↓f2_s ho, f7_o ho, ↓f7_0 ho, ↓f7_1 ho, ↓f7_1p ho, ↓f7_2 ho, ↓f7_2p ho, ↓f8_g ho, h.n, nI_lt hi (show K.length < 2 ^ 31 by omega), okx_nI (show i < 8 by omega) (show (8 : Nat) < 2 ^ 31 by decide), nI_clamp (show i < 2 ^ 31 by omega), nI_1, smI, ↓aft_of (e), nI_ltp (show i < 2 ^ 31 by omega) (show p < 2 ^ 31 by omega)]
    by_cases a1 : tnK N V (gK K i) < tnK N V (gK K p)
    · simp only [a1, if_true, true_or]
    · by_cases a2 : tnK N V (gK K i) = tnK N V (gK K p)
      · by_cases a3 : i < p
        · simp only [a1, a2, a3, if_true, if_false, and_self, or_true]
          try split <;> rfl
        · rw [a2] at a1
          simp only [a1, a2, a3, if_true, if_false, and_false, or_false, Int32.add_zero]
      · simp only [a1, a2, if_false, false_and, or_false, Int32.add_zero])
  simp +decide only [x81_0, x81_1, x81_2, x81_5, x81_8, x81_9, x81_10, x81_13, x81_14, x81_15, x81_16, x81_17, x81_21, x81_22, x81_25, x81_28, x81_31, x81_32, x81_33, x81_36, x81_39, x81_41, x81_42, x81_45, x81_47, x81_49, x81_50, x81_53, x81_55, x81_56, x81_59, x81_61, x81_62, x81_65, x81_68, x81_71, x81_74, x81_75, aft_some, aft_void, Option.bind_some, Option.toList_some, Option.toList_none, List.cons_append, List.nil_append, if_true, if_false, ↓reduceIte, eq_self, f0_o ho, ↓f0_0 ho, ↓f0_0p ho, ↓f0_1 ho, ↓f0_1p ho, ↓f0_2 ho, ↓f0_2p ho, ↓f0_3 ho, ↓f0_3p ho, ↓f0_4 ho, ↓f0_5 ho, ↓f0_6 ho, ↓f0_7 ho, ↓f0_8 ho, ↓f0_9 ho, ↓f0_10 ho, ↓f0_11 ho, ↓f1_g ho, ↓f1_s ho, ↓f2_g ho, ↓f2_s ho, f7_o ho, ↓f7_0 ho, ↓f7_1 ho, ↓f7_1p ho, ↓f7_2 ho, ↓f7_2p ho, ↓f8_g ho, okx_nI (show p < 8 by omega) (show (8 : Nat) < 2 ^ 31 by decide), nI_clamp (show p < 2 ^ 31 by omega), ↓aft_of (ep)]
  rw [show X 81 19 [.ref o, .int (nI p), .int (tnK N V (gK K p)), .int 0, .int 0, .long 0] [] (H T P) = _ from e1, x81_19]
  simp +decide only [x81_0, x81_1, x81_2, x81_5, x81_8, x81_9, x81_10, x81_13, x81_14, x81_15, x81_16, x81_17, x81_21, x81_22, x81_25, x81_28, x81_31, x81_32, x81_33, x81_36, x81_39, x81_41, x81_42, x81_45, x81_47, x81_49, x81_50, x81_53, x81_55, x81_56, x81_59, x81_61, x81_62, x81_65, x81_68, x81_71, x81_74, x81_75, aft_some, aft_void, Option.bind_some, Option.toList_some, Option.toList_none, List.cons_append, List.nil_append, if_true, if_false, ↓reduceIte, eq_self, f0_o ho, ↓f0_0 ho, ↓f0_0p ho, ↓f0_1 ho, ↓f0_1p ho, ↓f0_2 ho, ↓f0_2p ho, ↓f0_3 ho, ↓f0_3p ho, ↓f0_4 ho, ↓f0_5 ho, ↓f0_6 ho, ↓f0_7 ho, ↓f0_8 ho, ↓f0_9 ho, ↓f0_10 ho, ↓f0_11 ho, ↓f1_g ho, ↓f1_s ho, ↓f2_g ho, ↓f2_s ho, f7_o ho, ↓f7_0 ho, ↓f7_1 ho, ↓f7_1p ho, ↓f7_2 ho, ↓f7_2p ho, ↓f8_g ho, h.n, nI_nlt (Nat.le_refl K.length) (show K.length < 2 ^ 31 by omega)]
  rfl
theorem c_atRank (ho : isB o) (h : CS o T P N V K B R) (hw : WF N V K B) : X 80 0 [.ref o, .int x, .long 0] [] (H T P) = some (some (.int (match fstN (fun i => rkI (fun i => tnK N V (gK K i)) K.length i = x) 0 K.length with
    | some i => gK K i 0 0
    | none => -5)), H T P) := by
  have h8 : K.length ≤ 8 := hw.1.2.2.2.1
  have key : ∀ m i, i + m = K.length → X 80 2 [.ref o, .int x, .int (nI i)] [] (H T P) = some (some (.int (match fstN (fun i => rkI (fun i => tnK N V (gK K i)) K.length i = x) i m with
    | some i => gK K i 0 0
    | none => -5)), H T P) := by
    intro m
    induction m with
    | zero =>
      intro i hi
      have hi : i = K.length := by omega
      subst hi
      rw [x80_2]
      simp +decide only [x80_0, x80_1, x80_3, x80_4, x80_7, x80_10, x80_13, x80_14, x80_15, x80_18, x80_19, x80_22, x80_23, x80_26, x80_29, x80_30, x80_31, x80_34, x80_35, x80_38, x80_41, x80_43, aft_some, aft_void, Option.bind_some, Option.toList_some, Option.toList_none, List.cons_append, List.nil_append, if_true, if_false, ↓reduceIte, eq_self, f0_o ho, ↓f0_0 ho, ↓f0_0p ho, ↓f0_1 ho, ↓f0_1p ho, ↓f0_2 ho, ↓f0_2p ho, ↓f0_3 ho, ↓f0_3p ho, ↓f0_4 ho, ↓f0_5 ho, ↓f0_6 ho, ↓f0_7 ho, ↓f0_8 ho, ↓f0_9 ho, ↓f0_10 ho, ↓f0_11 ho, ↓f1_g ho, ↓f1_s ho, ↓f2_g ho, ↓f2_s ho, f7_o ho, ↓f7_0 ho, ↓f7_1 ho, ↓f7_1p ho, ↓f7_2 ho, ↓f7_2p ho, ↓f8_g ho, h.n, nI_nlt (Nat.le_refl K.length) (show K.length < 2 ^ 31 by omega), fstN]
    | succ m ih =>
      intro i hi
      have hi' : i < K.length := by omega
      have e := c_rankOf ho h hw hi'
      have hk := h.pk.k ho (show i < 8 by omega)
      rw [x80_2]
      simp +decide only [x80_0, x80_1, x80_3, x80_4, x80_7, x80_10, x80_13, x80_14, x80_15, x80_18, x80_19, x80_22, x80_23, x80_26, x80_29, x80_30, x80_31, x80_34, x80_35, x80_38, x80_41, x80_43, aft_some, aft_void, Option.bind_some, Option.toList_some, Option.toList_none, List.cons_append, List.nil_append, if_true, if_false, ↓reduceIte, eq_self, f0_o ho, ↓f0_0 ho, ↓f0_0p ho, ↓f0_1 ho, ↓f0_1p ho, ↓f0_2 ho, ↓f0_2p ho, ↓f0_3 ho, ↓f0_3p ho, ↓f0_4 ho, ↓f0_5 ho, ↓f0_6 ho, ↓f0_7 ho, ↓f0_8 ho, ↓f0_9 ho, ↓f0_10 ho, ↓f0_11 ho, ↓f1_g ho, ↓f1_s ho, ↓f2_g ho, ↓f2_s ho, f7_o ho, ↓f7_0 ho, ↓f7_1 ho, ↓f7_1p ho, ↓f7_2 ho, ↓f7_2p ho, ↓f8_g ho, fK_o hk, ↓fK_0 hk, ↓fK_0p hk, ↓fK_1 hk, ↓fK_1p hk, ↓fK_2 hk, ↓fK_2p hk, ↓fK_3 hk, ↓fK_3p hk, ↓fK_4 hk, ↓fK_4p hk, ↓fK_5 hk, ↓fK_6 hk, ↓fK_7 hk, ↓fK1_g hk, ↓fK1_s hk, ↓fK2_g hk, ↓fK2_s hk, ↓fK3_g hk, ↓fK3_s hk, h.n, nI_lt hi' (show K.length < 2 ^ 31 by omega), okx_nI (show i < 8 by omega) (show (8 : Nat) < 2 ^ 31 by decide), nI_clamp (show i < 2 ^ 31 by omega), nI_1, fstN, ↓aft_of (e), (h.at hi').1 0 (by decide)]
      by_cases hx : rkI (fun i => tnK N V (gK K i)) K.length i = x
      · simp only [hx, if_true]
      · simp only [hx, if_false]
        exact ih (i + 1) (by omega)
  simp +decide only [x80_0, x80_1, x80_3, x80_4, x80_7, x80_10, x80_13, x80_14, x80_15, x80_18, x80_19, x80_22, x80_23, x80_26, x80_29, x80_30, x80_31, x80_34, x80_35, x80_38, x80_41, x80_43, aft_some, aft_void, Option.bind_some, Option.toList_some, Option.toList_none, List.cons_append, List.nil_append, if_true, if_false, ↓reduceIte, eq_self]
  exact key K.length 0 (by omega)
/-- has a basket a piece that can be ironed now -/
def irK (V : Nat → Nat → Int32) (b : kT) : Prop := ¬ lkK b (if 0 < V 0 1 then 1 else 0) = -5
theorem c_nextToIron (ho : isB o) (h : CS o T P N V K B R) (hw : WF N V K B) : X 82 0 [.ref o, .long 0, .long 0, .long 0, .long 0, .long 0] [] (H T P) = some (some (match nxS (fun i => irK V (gK K i)) (fun i => tnK N V (gK K i)) K.length with
    | some i => .ref (P (o + 8) i)
    | none => .null), H T P) := by
  have h8 : K.length ≤ 8 := hw.1.2.2.2.1
  have hlt : ∀ i j, nxS (fun i => irK V (gK K i)) (fun i => tnK N V (gK K i)) i = some j → j < i := by
    intro i
    induction i with
    | zero => intro j hj; simp [nxS] at hj
    | succ i ih =>
      intro j hj
      simp only [nxS] at hj
      split at hj
      · split at hj
        · cases hj; omega
        · rename_i q hq
          split at hj
          · cases hj; omega
          · cases hj; have := ih _ hq; omega
      · have := ih _ hj; omega
  obtain ⟨⟨w1, w2⟩, e1, i1⟩ := loop_ex (fun i (v : Value × Value) => X 82 6 [.ref o, (match nxS (fun i => irK V (gK K i)) (fun i => tnK N V (gK K i)) i with
      | some j => .ref (P (o + 8) j)
      | none => .null), .int (match nxS (fun i => irK V (gK K i)) (fun i => tnK N V (gK K i)) i with
      | some j => tnK N V (gK K j)
      | none => 0), .int (nI i), v.1, v.2] [] (H T P)) (fun _ _ => True) K.length (.long 0, .long 0) trivial (by
    intro i v hi _
    have e := c_turn ho h hw hi
    have hk := h.pk.k ho (show i < 8 by omega)
    have el := c_lowest (T := T) (P := P) hk (if 0 < V 0 1 then 1 else 0)
    rw [(h.at hi).lk] at el
    have hst : T o 1 = V 0 1 := h.1.1 1 (by decide)
    by_cases s1 : 0 < V 0 1
    · simp only [s1, if_true] at el
      by_cases f1 : lkK (gK K i) 1 = -5
      · refine ⟨(.ref (P (o + 8) i), v.2), ?_, trivial⟩
        have hn : nxS (fun i => irK V (gK K i)) (fun i => tnK N V (gK K i)) (i + 1) = nxS (fun i => irK V (gK K i)) (fun i => tnK N V (gK K i)) i := nxS_n (by unfold irK; simp only [s1, if_true, if_false, f1, not_true_eq_false, not_false_eq_true])
        show X 82 6 _ _ _ = _
        rw [x82_6, hn]
        simp +decide only [x82_0, x82_1, x82_1N, x82_2, x82_3, x82_4, x82_5, x82_7, x82_8, x82_11, x82_14, x82_17, x82_18, x82_21, x82_24, x82_25, x82_26, x82_26N, x82_28, x82_28N, x82_30, x82_31, x82_34, x82_37, x82_38, x82_41, x82_42, x82_45, x82_47, x82_50, x82_51, x82_51N, x82_53, x82_56, x82_58, x82_58N, x82_59, x82_59N, x82_62, x82_64, x82_65, x82_68, x82_68N, x82_70, x82_70N, x82_71, x82_73, x82_74, x82_77, x82_80, x82_80N, x82_81, x82_81N, aft_some, aft_void, Option.bind_some, Option.toList_some, Option.toList_none, List.cons_append, List.nil_append, if_true, if_false, ↓reduceIte, eq_self, f0_o ho, ↓f0_0 ho, ↓f0_0p ho, ↓f0_1 ho, ↓f0_1p ho, ↓f0_2 ho, ↓f0_2p ho, ↓f0_3 ho, ↓f0_3p ho, ↓f0_4 ho, ↓f0_5 ho, ↓f0_6 ho, ↓f0_7 ho, ↓f0_8 ho, ↓f0_9 ho, ↓f0_10 ho, ↓f0_11 ho, ↓f1_g ho, ↓f1_s ho, ↓f2_g ho, ↓f2_s ho, f7_o ho, ↓f7_0 ho, ↓f7_1 ho, ↓f7_1p ho, ↓f7_2 ho, ↓f7_2p ho, ↓f8_g ho, fK_o hk, h.n, nI_lt hi (show K.length < 2 ^ 31 by omega), okx_nI (show i < 8 by omega) (show (8 : Nat) < 2 ^ 31 by decide), nI_clamp (show i < 2 ^ 31 by omega), nI_1, ↓aft_of (el), hst, s1, f1]
      · refine ⟨(.ref (P (o + 8) i), .int (tnK N V (gK K i))), ?_, trivial⟩
        have hn : nxS (fun i => irK V (gK K i)) (fun i => tnK N V (gK K i)) (i + 1) = (match nxS (fun i => irK V (gK K i)) (fun i => tnK N V (gK K i)) i with
          | none => some i
          | some j => if tnK N V (gK K i) < tnK N V (gK K j) then some i else some j) := nxS_s (by unfold irK; simp only [s1, if_true, if_false, f1, not_true_eq_false, not_false_eq_true])
        show X 82 6 _ _ _ = _
        rw [x82_6, hn]
        simp +decide only [x82_0, x82_1, x82_1N, x82_2, x82_3, x82_4, x82_5, x82_7, x82_8, x82_11, x82_14, x82_17, x82_18, x82_21, x82_24, x82_25, x82_26, x82_26N, x82_28, x82_28N, x82_30, x82_31, x82_34, x82_37, x82_38, x82_41, x82_42, x82_45, x82_47, x82_50, x82_51, x82_51N, x82_53, x82_56, x82_58, x82_58N, x82_59, x82_59N, x82_62, x82_64, x82_65, x82_68, x82_68N, x82_70, x82_70N, x82_71, x82_73, x82_74, x82_77, x82_80, x82_80N, x82_81, x82_81N, aft_some, aft_void, Option.bind_some, Option.toList_some, Option.toList_none, List.cons_append, List.nil_append, if_true, if_false, ↓reduceIte, eq_self, f0_o ho, ↓f0_0 ho, ↓f0_0p ho, ↓f0_1 ho, ↓f0_1p ho, ↓f0_2 ho, ↓f0_2p ho, ↓f0_3 ho, ↓f0_3p ho, ↓f0_4 ho, ↓f0_5 ho, ↓f0_6 ho, ↓f0_7 ho, ↓f0_8 ho, ↓f0_9 ho, ↓f0_10 ho, ↓f0_11 ho, ↓f1_g ho, ↓f1_s ho, ↓f2_g ho, ↓f2_s ho, f7_o ho, ↓f7_0 ho, ↓f7_1 ho, ↓f7_1p ho, ↓f7_2 ho, ↓f7_2p ho, ↓f8_g ho, fK_o hk, h.n, nI_lt hi (show K.length < 2 ^ 31 by omega), okx_nI (show i < 8 by omega) (show (8 : Nat) < 2 ^ 31 by decide), nI_clamp (show i < 2 ^ 31 by omega), nI_1, ↓aft_of (el), hst, s1, f1, ↓aft_of (e)]
        cases hq : nxS (fun i => irK V (gK K i)) (fun i => tnK N V (gK K i)) i with
        | none => simp +decide only [x82_0, x82_1, x82_1N, x82_2, x82_3, x82_4, x82_5, x82_7, x82_8, x82_11, x82_14, x82_17, x82_18, x82_21, x82_24, x82_25, x82_26, x82_26N, x82_28, x82_28N, x82_30, x82_31, x82_34, x82_37, x82_38, x82_41, x82_42, x82_45, x82_47, x82_50, x82_51, x82_51N, x82_53, x82_56, x82_58, x82_58N, x82_59, x82_59N, x82_62, x82_64, x82_65, x82_68, x82_68N, x82_70, x82_70N, x82_71, x82_73, x82_74, x82_77, x82_80, x82_80N, x82_81, x82_81N, aft_some, aft_void, Option.bind_some, Option.toList_some, Option.toList_none, List.cons_append, List.nil_append, if_true, if_false, ↓reduceIte, eq_self, nI_1]
        | some j =>
          by_cases t1 : tnK N V (gK K i) < tnK N V (gK K j)
          · simp +decide only [x82_0, x82_1, x82_1N, x82_2, x82_3, x82_4, x82_5, x82_7, x82_8, x82_11, x82_14, x82_17, x82_18, x82_21, x82_24, x82_25, x82_26, x82_26N, x82_28, x82_28N, x82_30, x82_31, x82_34, x82_37, x82_38, x82_41, x82_42, x82_45, x82_47, x82_50, x82_51, x82_51N, x82_53, x82_56, x82_58, x82_58N, x82_59, x82_59N, x82_62, x82_64, x82_65, x82_68, x82_68N, x82_70, x82_70N, x82_71, x82_73, x82_74, x82_77, x82_80, x82_80N, x82_81, x82_81N, aft_some, aft_void, Option.bind_some, Option.toList_some, Option.toList_none, List.cons_append, List.nil_append, if_true, if_false, ↓reduceIte, eq_self, t1, nI_1]
          · simp +decide only [x82_0, x82_1, x82_1N, x82_2, x82_3, x82_4, x82_5, x82_7, x82_8, x82_11, x82_14, x82_17, x82_18, x82_21, x82_24, x82_25, x82_26, x82_26N, x82_28, x82_28N, x82_30, x82_31, x82_34, x82_37, x82_38, x82_41, x82_42, x82_45, x82_47, x82_50, x82_51, x82_51N, x82_53, x82_56, x82_58, x82_58N, x82_59, x82_59N, x82_62, x82_64, x82_65, x82_68, x82_68N, x82_70, x82_70N, x82_71, x82_73, x82_74, x82_77, x82_80, x82_80N, x82_81, x82_81N, aft_some, aft_void, Option.bind_some, Option.toList_some, Option.toList_none, List.cons_append, List.nil_append, if_true, if_false, ↓reduceIte, eq_self, t1, nI_1]
    · simp only [s1, if_false] at el
      by_cases f1 : lkK (gK K i) 0 = -5
      · refine ⟨(.ref (P (o + 8) i), v.2), ?_, trivial⟩
        have hn : nxS (fun i => irK V (gK K i)) (fun i => tnK N V (gK K i)) (i + 1) = nxS (fun i => irK V (gK K i)) (fun i => tnK N V (gK K i)) i := nxS_n (by unfold irK; simp only [s1, if_true, if_false, f1, not_true_eq_false, not_false_eq_true])
        show X 82 6 _ _ _ = _
        rw [x82_6, hn]
        simp +decide only [x82_0, x82_1, x82_1N, x82_2, x82_3, x82_4, x82_5, x82_7, x82_8, x82_11, x82_14, x82_17, x82_18, x82_21, x82_24, x82_25, x82_26, x82_26N, x82_28, x82_28N, x82_30, x82_31, x82_34, x82_37, x82_38, x82_41, x82_42, x82_45, x82_47, x82_50, x82_51, x82_51N, x82_53, x82_56, x82_58, x82_58N, x82_59, x82_59N, x82_62, x82_64, x82_65, x82_68, x82_68N, x82_70, x82_70N, x82_71, x82_73, x82_74, x82_77, x82_80, x82_80N, x82_81, x82_81N, aft_some, aft_void, Option.bind_some, Option.toList_some, Option.toList_none, List.cons_append, List.nil_append, if_true, if_false, ↓reduceIte, eq_self, f0_o ho, ↓f0_0 ho, ↓f0_0p ho, ↓f0_1 ho, ↓f0_1p ho, ↓f0_2 ho, ↓f0_2p ho, ↓f0_3 ho, ↓f0_3p ho, ↓f0_4 ho, ↓f0_5 ho, ↓f0_6 ho, ↓f0_7 ho, ↓f0_8 ho, ↓f0_9 ho, ↓f0_10 ho, ↓f0_11 ho, ↓f1_g ho, ↓f1_s ho, ↓f2_g ho, ↓f2_s ho, f7_o ho, ↓f7_0 ho, ↓f7_1 ho, ↓f7_1p ho, ↓f7_2 ho, ↓f7_2p ho, ↓f8_g ho, fK_o hk, h.n, nI_lt hi (show K.length < 2 ^ 31 by omega), okx_nI (show i < 8 by omega) (show (8 : Nat) < 2 ^ 31 by decide), nI_clamp (show i < 2 ^ 31 by omega), nI_1, ↓aft_of (el), hst, s1, f1]
      · refine ⟨(.ref (P (o + 8) i), .int (tnK N V (gK K i))), ?_, trivial⟩
        have hn : nxS (fun i => irK V (gK K i)) (fun i => tnK N V (gK K i)) (i + 1) = (match nxS (fun i => irK V (gK K i)) (fun i => tnK N V (gK K i)) i with
          | none => some i
          | some j => if tnK N V (gK K i) < tnK N V (gK K j) then some i else some j) := nxS_s (by unfold irK; simp only [s1, if_true, if_false, f1, not_true_eq_false, not_false_eq_true])
        show X 82 6 _ _ _ = _
        rw [x82_6, hn]
        simp +decide only [x82_0, x82_1, x82_1N, x82_2, x82_3, x82_4, x82_5, x82_7, x82_8, x82_11, x82_14, x82_17, x82_18, x82_21, x82_24, x82_25, x82_26, x82_26N, x82_28, x82_28N, x82_30, x82_31, x82_34, x82_37, x82_38, x82_41, x82_42, x82_45, x82_47, x82_50, x82_51, x82_51N, x82_53, x82_56, x82_58, x82_58N, x82_59, x82_59N, x82_62, x82_64, x82_65, x82_68, x82_68N, x82_70, x82_70N, x82_71, x82_73, x82_74, x82_77, x82_80, x82_80N, x82_81, x82_81N, aft_some, aft_void, Option.bind_some, Option.toList_some, Option.toList_none, List.cons_append, List.nil_append, if_true, if_false, ↓reduceIte, eq_self, f0_o ho, ↓f0_0 ho, ↓f0_0p ho, ↓f0_1 ho, ↓f0_1p ho, ↓f0_2 ho, ↓f0_2p ho, ↓f0_3 ho, ↓f0_3p ho, ↓f0_4 ho, ↓f0_5 ho, ↓f0_6 ho, ↓f0_7 ho, ↓f0_8 ho, ↓f0_9 ho, ↓f0_10 ho, ↓f0_11 ho, ↓f1_g ho, ↓f1_s ho, ↓f2_g ho, ↓f2_s ho, f7_o ho, ↓f7_0 ho, ↓f7_1 ho, ↓f7_1p ho, ↓f7_2 ho, ↓f7_2p ho, ↓f8_g ho, fK_o hk, h.n, nI_lt hi (show K.length < 2 ^ 31 by omega), okx_nI (show i < 8 by omega) (show (8 : Nat) < 2 ^ 31 by decide), nI_clamp (show i < 2 ^ 31 by omega), nI_1, ↓aft_of (el), hst, s1, f1, ↓aft_of (e)]
        cases hq : nxS (fun i => irK V (gK K i)) (fun i => tnK N V (gK K i)) i with
        | none => simp +decide only [x82_0, x82_1, x82_1N, x82_2, x82_3, x82_4, x82_5, x82_7, x82_8, x82_11, x82_14, x82_17, x82_18, x82_21, x82_24, x82_25, x82_26, x82_26N, x82_28, x82_28N, x82_30, x82_31, x82_34, x82_37, x82_38, x82_41, x82_42, x82_45, x82_47, x82_50, x82_51, x82_51N, x82_53, x82_56, x82_58, x82_58N, x82_59, x82_59N, x82_62, x82_64, x82_65, x82_68, x82_68N, x82_70, x82_70N, x82_71, x82_73, x82_74, x82_77, x82_80, x82_80N, x82_81, x82_81N, aft_some, aft_void, Option.bind_some, Option.toList_some, Option.toList_none, List.cons_append, List.nil_append, if_true, if_false, ↓reduceIte, eq_self, nI_1]
        | some j =>
          by_cases t1 : tnK N V (gK K i) < tnK N V (gK K j)
          · simp +decide only [x82_0, x82_1, x82_1N, x82_2, x82_3, x82_4, x82_5, x82_7, x82_8, x82_11, x82_14, x82_17, x82_18, x82_21, x82_24, x82_25, x82_26, x82_26N, x82_28, x82_28N, x82_30, x82_31, x82_34, x82_37, x82_38, x82_41, x82_42, x82_45, x82_47, x82_50, x82_51, x82_51N, x82_53, x82_56, x82_58, x82_58N, x82_59, x82_59N, x82_62, x82_64, x82_65, x82_68, x82_68N, x82_70, x82_70N, x82_71, x82_73, x82_74, x82_77, x82_80, x82_80N, x82_81, x82_81N, aft_some, aft_void, Option.bind_some, Option.toList_some, Option.toList_none, List.cons_append, List.nil_append, if_true, if_false, ↓reduceIte, eq_self, t1, nI_1]
          · simp +decide only [x82_0, x82_1, x82_1N, x82_2, x82_3, x82_4, x82_5, x82_7, x82_8, x82_11, x82_14, x82_17, x82_18, x82_21, x82_24, x82_25, x82_26, x82_26N, x82_28, x82_28N, x82_30, x82_31, x82_34, x82_37, x82_38, x82_41, x82_42, x82_45, x82_47, x82_50, x82_51, x82_51N, x82_53, x82_56, x82_58, x82_58N, x82_59, x82_59N, x82_62, x82_64, x82_65, x82_68, x82_68N, x82_70, x82_70N, x82_71, x82_73, x82_74, x82_77, x82_80, x82_80N, x82_81, x82_81N, aft_some, aft_void, Option.bind_some, Option.toList_some, Option.toList_none, List.cons_append, List.nil_append, if_true, if_false, ↓reduceIte, eq_self, t1, nI_1])
  simp +decide only [x82_0, x82_1, x82_1N, x82_2, x82_3, x82_4, x82_5, x82_7, x82_8, x82_11, x82_14, x82_17, x82_18, x82_21, x82_24, x82_25, x82_26, x82_26N, x82_28, x82_28N, x82_30, x82_31, x82_34, x82_37, x82_38, x82_41, x82_42, x82_45, x82_47, x82_50, x82_51, x82_51N, x82_53, x82_56, x82_58, x82_58N, x82_59, x82_59N, x82_62, x82_64, x82_65, x82_68, x82_68N, x82_70, x82_70N, x82_71, x82_73, x82_74, x82_77, x82_80, x82_80N, x82_81, x82_81N, aft_some, aft_void, Option.bind_some, Option.toList_some, Option.toList_none, List.cons_append, List.nil_append, if_true, if_false, ↓reduceIte, eq_self]
  rw [show X 82 6 [.ref o, .null, .int 0, .int 0, .long 0, .long 0] [] (H T P) = _ from e1, x82_6]
  simp +decide only [x82_0, x82_1, x82_1N, x82_2, x82_3, x82_4, x82_5, x82_7, x82_8, x82_11, x82_14, x82_17, x82_18, x82_21, x82_24, x82_25, x82_26, x82_26N, x82_28, x82_28N, x82_30, x82_31, x82_34, x82_37, x82_38, x82_41, x82_42, x82_45, x82_47, x82_50, x82_51, x82_51N, x82_53, x82_56, x82_58, x82_58N, x82_59, x82_59N, x82_62, x82_64, x82_65, x82_68, x82_68N, x82_70, x82_70N, x82_71, x82_73, x82_74, x82_77, x82_80, x82_80N, x82_81, x82_81N, aft_some, aft_void, Option.bind_some, Option.toList_some, Option.toList_none, List.cons_append, List.nil_append, if_true, if_false, ↓reduceIte, eq_self, f0_o ho, ↓f0_0 ho, ↓f0_0p ho, ↓f0_1 ho, ↓f0_1p ho, ↓f0_2 ho, ↓f0_2p ho, ↓f0_3 ho, ↓f0_3p ho, ↓f0_4 ho, ↓f0_5 ho, ↓f0_6 ho, ↓f0_7 ho, ↓f0_8 ho, ↓f0_9 ho, ↓f0_10 ho, ↓f0_11 ho, ↓f1_g ho, ↓f1_s ho, ↓f2_g ho, ↓f2_s ho, f7_o ho, ↓f7_0 ho, ↓f7_1 ho, ↓f7_1p ho, ↓f7_2 ho, ↓f7_2p ho, ↓f8_g ho, h.n, nI_nlt (Nat.le_refl K.length) (show K.length < 2 ^ 31 by omega)]
  cases hq : nxS (fun i => irK V (gK K i)) (fun i => tnK N V (gK K i)) K.length with
  | none => simp +decide only [x82_0, x82_1, x82_1N, x82_2, x82_3, x82_4, x82_5, x82_7, x82_8, x82_11, x82_14, x82_17, x82_18, x82_21, x82_24, x82_25, x82_26, x82_26N, x82_28, x82_28N, x82_30, x82_31, x82_34, x82_37, x82_38, x82_41, x82_42, x82_45, x82_47, x82_50, x82_51, x82_51N, x82_53, x82_56, x82_58, x82_58N, x82_59, x82_59N, x82_62, x82_64, x82_65, x82_68, x82_68N, x82_70, x82_70N, x82_71, x82_73, x82_74, x82_77, x82_80, x82_80N, x82_81, x82_81N, aft_some, aft_void, Option.bind_some, Option.toList_some, Option.toList_none, List.cons_append, List.nil_append, if_true, if_false, ↓reduceIte, eq_self]
  | some j => simp +decide only [x82_0, x82_1, x82_1N, x82_2, x82_3, x82_4, x82_5, x82_7, x82_8, x82_11, x82_14, x82_17, x82_18, x82_21, x82_24, x82_25, x82_26, x82_26N, x82_28, x82_28N, x82_30, x82_31, x82_34, x82_37, x82_38, x82_41, x82_42, x82_45, x82_47, x82_50, x82_51, x82_51N, x82_53, x82_56, x82_58, x82_58N, x82_59, x82_59N, x82_62, x82_64, x82_65, x82_68, x82_68N, x82_70, x82_70N, x82_71, x82_73, x82_74, x82_77, x82_80, x82_80N, x82_81, x82_81N, aft_some, aft_void, Option.bind_some, Option.toList_some, Option.toList_none, List.cons_append, List.nil_append, if_true, if_false, ↓reduceIte, eq_self]
end OR
