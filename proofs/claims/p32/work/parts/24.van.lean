/-! the van -/
theorem nh_small {N : Nat → Nat} {V : Nat → Nat → Int32} {K : List kT} {B : List bT} (hw : WF N V K B) {i : Nat} (hi : i < K.length) : ∃ h, h ≤ 27 ∧ nhI (gK K i 2) = nI h := by
  obtain ⟨-, -, -, -, hk⟩ := hw.2.2.2.1 i _ (gK_at hi)
  obtain ⟨x0, y0, z0, a0, b0, -, c0, -⟩ := hk 0 (by decide)
  obtain ⟨x1, y1, z1, a1, b1, -, c1, -⟩ := hk 1 (by decide)
  obtain ⟨x2, y2, z2, a2, b2, -, c2, -⟩ := hk 2 (by decide)
  refine ⟨y0 + y1 + y2, by omega, ?_⟩
  unfold nhI
  rw [c0, c1, c2, Int32.zero_add, nI_add, nI_add]
abbrev hoN (N : Nat → Nat) : Nat → Nat := upA N 4 (min (N 4 + 1) 10)
abbrev cuK (b : kT) : Nat := (b 0 1).toNatClampNeg
abbrev hoV (V : Nat → Nat → Int32) (b : kT) : Nat → Nat → Int32 := up1 V 5 (cuK b) (V 5 (cuK b) + prK b)
abbrev hoB (N : Nat → Nat) (B : List bT) (b : kT) : List bT := if 0 < (nhI (b 2)).toNatClampNeg then B ++ [(cuK b, N 0, (nhI (b 2)).toNatClampNeg)] else B
section VN
variable {T : Nat → Nat → Int32} {P : Nat → Nat → Nat} {o : Nat} {N : Nat → Nat} {V : Nat → Nat → Int32} {K : List kT} {B : List bT} {R : Nat → Nat → Int32}
theorem c_handOver (ho : isB o) (h : CS o T P N V K B R) (hN1 : N 1 ≤ 10) (h8 : K.length ≤ 8) {i c hh : Nat} (hi : i < K.length) (hc : c < N 1) (ec : gK K i 0 1 = nI c) (hh31 : hh < 2 ^ 31) (eh : nhI (gK K i 2) = nI hh) (hB : B.length < 99) : ∃ T', X 88 0 [.ref o, .ref (P (o + 8) i), .long 0] [] (H T P) = some (none, H T' P) ∧ (∀ a, (a < o ∨ o + 51 ≤ a) → T' a = T a) ∧ CS o T' P (hoN N) (hoV V (gK K i)) K (hoB N B (gK K i)) (wrB R 1 (V 0 0) (gK K i 0 0) (prK (gK K i))) := by
  obtain ⟨⟨k0, k1, k2, k00⟩, ⟨k3, k4, k5, k6⟩, ⟨kP, kn, kc, kK⟩, kB, kL, k48, kJ⟩ := id h
  have hk := kP.k ho (show i < 8 by omega)
  have hr := kP.rg (show i < 8 by omega)
  have hb := h.at hi
  have e1 := c_price (T := T) (P := P) hk
  rw [hb.pr] at e1
  have ecu : T (P (o + 8) i) 1 = nI c := by rw [hb.1 1 (by decide), ec]
  have hcu : cuK (gK K i) = c := by unfold cuK; rw [ec, nI_clamp (by omega)]
  have hnh : (nhI (gK K i 2)).toNatClampNeg = hh := by rw [eh, nI_clamp (by omega)]
  have how : T (o + 5) c = V 5 c := k5 c hc
  have hB1 : OB (up1 T (o + 5) c (V 5 c + prK (gK K i))) o B := kB.other (upA_n _ _ (by omega)) (upA_n _ _ (by omega)) (upA_n _ _ (by omega)) (upA_n _ _ (by omega))
  have e2 : X 14 0 [.ref (P (o + 8) i + 2), .long 0, .long 0] [] (H (up1 T (o + 5) c (V 5 c + prK (gK K i))) P) = some (some (.int (nI hh)), H (up1 T (o + 5) c (V 5 c + prK (gK K i))) P) := by
    rw [c_needing (sh_k hk).2.2.1]
    simp only [upA_n _ _ (show P (o + 8) i + 2 ≠ o + 5 by omega)]
    rw [hb.nh2, eh]
  obtain ⟨T2, e3, f3, g3⟩ := c_send (P := P) (c := c) (d := N 0) (n := hh) ho hB1 hB hh31
  have hJ2 : JO T2 o (N 4) R := kJ.same (by rw [f3 _ (by omega) (by omega) (by omega) (by omega)]; exact upA_n _ _ (by omega)) (by rw [f3 _ (by omega) (by omega) (by omega) (by omega)]; exact upA_n _ _ (by omega))
  obtain ⟨T3, e4, f4, g4⟩ := c_write (P := P) (e := 1) (d := V 0 0) (x := gK K i 0 0) (y := prK (gK K i)) ho hJ2
  have hf : ∀ a, a ≠ o + 5 → (a < o + 41 ∨ o + 44 < a) → a ≠ o + 49 → a ≠ o + 50 → T3 a = T a := by
    intro a g5 g41 g49 g50
    rw [f4 a g49 g50, f3 a (by omega) (by omega) (by omega) (by omega)]
    exact upA_n _ _ g5
  have hday : T o 0 = nI (N 0) := by rw [k0 0 (by decide)]; exact k00
  have hday1 : up1 T (o + 5) c (V 5 c + prK (gK K i)) o 0 = nI (N 0) := by
    simp only [upA_n _ _ (show o ≠ o + 5 by omega)]; exact hday
  have hday2 : T2 o 0 = V 0 0 := by
    rw [f3 o (by omega) (by omega) (by omega) (by omega)]
    simp only [upA_n _ _ (show o ≠ o + 5 by omega)]; exact k0 0 (by decide)
  have hcu1 : up1 T (o + 5) c (V 5 c + prK (gK K i)) (P (o + 8) i) 1 = nI c := by
    simp only [upA_n _ _ (show P (o + 8) i ≠ o + 5 by omega)]; exact ecu
  have hnum2 : T2 (P (o + 8) i) 0 = gK K i 0 0 := by
    rw [f3 _ (by omega) (by omega) (by omega) (by omega)]
    simp only [upA_n _ _ (show P (o + 8) i ≠ o + 5 by omega)]; exact hb.1 0 (by decide)
  refine ⟨T3, by
    simp +decide only [x88_0, x88_0N, x88_1, x88_4, x88_5, x88_6, x88_9, x88_12, x88_12N, x88_13, x88_16, x88_17, x88_18, x88_19, x88_20, x88_21, x88_22, x88_25, x88_25N, x88_26, x88_29, x88_30, x88_33, x88_33N, x88_34, x88_37, x88_40, x88_43, x88_44, x88_47, x88_48, x88_49, x88_52, x88_52N, x88_53, x88_56, x88_57, x88_60, aft_some, aft_void, Option.bind_some, Option.toList_some, Option.toList_none, List.cons_append, List.nil_append, if_true, if_false, ↓reduceIte, eq_self, f0_o ho, ↓f0_0 ho, ↓f0_0p ho, ↓f0_1 ho, ↓f0_1p ho, ↓f0_2 ho, ↓f0_2p ho, ↓f0_3 ho, ↓f0_3p ho, ↓f0_4 ho, ↓f0_5 ho, ↓f0_6 ho, ↓f0_7 ho, ↓f0_8 ho, ↓f0_9 ho, ↓f0_10 ho, ↓f0_11 ho, ↓f1_g ho, ↓f1_s ho, ↓f2_g ho, ↓f2_s ho, f3_o ho, ↓f3_0 ho, ↓f3_0p ho, ↓f3_1 ho, ↓f3_2 ho, ↓f3_3 ho, ↓f4_g ho, ↓f4_s ho, ↓f5_g ho, ↓f5_s ho, ↓f6_g ho, ↓f6_s ho, fK_o hk, ↓fK_0 hk, ↓fK_0p hk, ↓fK_1 hk, ↓fK_1p hk, ↓fK_2 hk, ↓fK_2p hk, ↓fK_3 hk, ↓fK_3p hk, ↓fK_4 hk, ↓fK_4p hk, ↓fK_5 hk, ↓fK_6 hk, ↓fK_7 hk, ↓fK1_g hk, ↓fK1_s hk, ↓fK2_g hk, ↓fK2_s hk, ↓fK3_g hk, ↓fK3_s hk, f41_o ho, f49_o ho, ↓aft_of (e1), ↓aft_of (e2), ↓aft_of (e3), ↓aft_of (e4), ecu, okx_nI (show c < 10 by omega) (show (10 : Nat) < 2 ^ 31 by decide), nI_clamp (show c < 2 ^ 31 by omega), how, hday1, hday2, hcu1, hnum2], fun a ha => hf a (by omega) (by omega) (by omega) (by omega), ⟨?_, ?_, ?_, ?_⟩, ⟨?_, ?_, ?_, ?_⟩, ⟨kP, ?_, ?_, ?_⟩, ?_, ?_, ?_, ?_⟩
  · intro j hj
    rw [hf _ (by omega) (by omega) (by omega) (by omega)]; simp +decide only [u_n]; exact k0 j hj
  · intro j hj
    rw [hf _ (by omega) (by omega) (by omega) (by omega)]; simp +decide only [u_n]; exact k1 j hj
  · intro j hj
    rw [hf _ (by omega) (by omega) (by omega) (by omega)]; simp +decide only [u_n]; exact k2 j hj
  · simp +decide only [u_n]; exact k00
  · rw [hf _ (by omega) (by omega) (by omega) (by omega)]; simp +decide only [u_n]; exact k3
  · intro j hj
    rw [hf _ (by omega) (by omega) (by omega) (by omega)]; simp +decide only [u_n] at hj ⊢; exact k4 j hj
  · intro j hj
    rw [f4 _ (by omega) (by omega), f3 _ (by omega) (by omega) (by omega) (by omega)]
    simp +decide only [u_n, upA_s] at hj ⊢
    rw [hcu]
    unfold upA
    by_cases hjc : j = c
    · rw [if_pos hjc, if_pos hjc]
    · rw [if_neg hjc, if_neg hjc]; exact k5 j hj
  · intro j hj
    rw [hf _ (by omega) (by omega) (by omega) (by omega)]; simp +decide only [u_n] at hj ⊢; exact k6 j hj
  · rw [hf _ (by omega) (by omega) (by omega) (by omega)]; exact kn
  · rw [hf _ (by omega) (by omega) (by omega) (by omega)]; simp +decide only [u_n]; exact kc
  · intro j q hq
    have hjl : j < K.length := (List.getElem?_eq_some_iff.mp hq).1
    have hrj := kP.rg (show j < 8 by omega)
    exact (kK j q hq).same (fun x hx => hf _ (by omega) (by omega) (by omega) (by omega))
  · unfold hoB
    rw [hnh, hcu]
    exact g3.other (f4 _ (by omega) (by omega)) (f4 _ (by omega) (by omega)) (f4 _ (by omega) (by omega)) (f4 _ (by omega) (by omega))
  · have := kL.same (U := T3) (hf _ (by omega) (by omega) (by omega) (by omega)) (hf _ (by omega) (by omega) (by omega) (by omega)) (hf _ (by omega) (by omega) (by omega) (by omega))
    simp +decide only [u_n]; exact this
  · intro j hj
    rw [hf _ (by omega) (by omega) (by omega) (by omega)]; simp +decide only [u_n]; exact k48 j hj
  · simp +decide only [upA_s]; exact g4
/-- two places change -/
theorem CS.swap (h : CS o T P N V K B R) (h8 : K.length ≤ 8) {i j : Nat} (hi : i < K.length) (hj : j < K.length) : CS o T (upA P (o + 8) (upA (upA (P (o + 8)) i (P (o + 8) j)) j (P (o + 8) i))) N V ((K.set i (gK K j)).set j (gK K i)) B R := by
  obtain ⟨r1, r2, ⟨kP, kn, kc, kK⟩, r4⟩ := h
  refine ⟨r1, r2, ⟨⟨fun a ha => ?_, fun a ha b hb hab => ?_⟩, by rw [List.length_set, List.length_set]; exact kn, kc, fun a q hq => ?_⟩, r4⟩
  · simp only [upA_s]
    unfold upA
    split
    · exact kP.1 i (by omega)
    · split
      · exact kP.1 j (by omega)
      · exact kP.1 a ha
  · simp only [upA_s] at hab
    unfold upA at hab
    have key : ∀ x y, x < 8 → y < 8 → P (o + 8) x = P (o + 8) y → x = y := fun x y hx hy => kP.2 x hx y hy
    by_cases a1 : a = j
    · rw [if_pos a1] at hab
      by_cases b1 : b = j
      · omega
      · rw [if_neg b1] at hab
        by_cases b2 : b = i
        · rw [if_pos b2] at hab; have := key i j (by omega) (by omega) hab; omega
        · rw [if_neg b2] at hab; have := key i b (by omega) hb hab; omega
    · rw [if_neg a1] at hab
      by_cases a2 : a = i
      · rw [if_pos a2] at hab
        by_cases b1 : b = j
        · rw [if_pos b1] at hab; have := key j i (by omega) (by omega) hab; omega
        · rw [if_neg b1] at hab
          by_cases b2 : b = i
          · omega
          · rw [if_neg b2] at hab; have := key j b (by omega) hb hab; omega
      · rw [if_neg a2] at hab
        by_cases b1 : b = j
        · rw [if_pos b1] at hab; have := key a i ha (by omega) hab; omega
        · rw [if_neg b1] at hab
          by_cases b2 : b = i
          · rw [if_pos b2] at hab; have := key a j ha (by omega) hab; omega
          · rw [if_neg b2] at hab; exact key a b ha hb hab
  · simp only [upA_s]
    by_cases a1 : a = j
    · subst a1
      rw [List.getElem?_set_self (by rw [List.length_set]; exact hj)] at hq
      cases hq
      rw [upA_s]
      exact kK i _ (gK_at hi)
    · rw [List.getElem?_set_ne (Ne.symm a1)] at hq
      rw [upA_n _ _ a1]
      by_cases a2 : a = i
      · subst a2
        rw [List.getElem?_set_self hi] at hq
        cases hq
        rw [upA_s]
        exact kK j _ (gK_at hj)
      · rw [List.getElem?_set_ne (Ne.symm a2)] at hq
        rw [upA_n _ _ a2]
        exact kK a q hq
end VN
