/-! lost pieces, and the book -/
/-- the lost pieces of the state o are these: kind and degree -/
def LO (T : Nat → Nat → Int32) (o : Nat) (n : Nat) (kd dg : Nat → Int32) : Prop := T (o + 45) 2 = nI n ∧ n ≤ 20 ∧ ∀ i, i < n → T (o + 46) i = kd i ∧ T (o + 47) i = dg i
/-- the book of the state o: how many it knows, and the row of the one so many ago -/
def JO (T : Nat → Nat → Int32) (o : Nat) (n : Nat) (R : Nat → Nat → Int32) : Prop := n ≤ 10 ∧ T (o + 49) 1 = nI n ∧ ∃ l, l < 10 ∧ T (o + 49) 2 = nI l ∧ ∀ g, g < n → ∀ k, k < 4 → T (o + 50) (((l + 10 - g) % 10) * 4 + k) = R g k
theorem nI_divp {a b : Nat} (ha : a < 2 ^ 31) (hb : b < 2 ^ 31) (h0 : 0 < b) : nI a / nI b = nI (a / b) := by
  apply Int32.toInt_inj.mp
  rw [nI_toInt (Nat.lt_of_le_of_lt (Nat.div_le_self _ _) ha), Int32.toInt_div_of_ne_right _ _ (by
    intro q
    have := congrArg Int32.toInt q
    rw [nI_toInt hb] at this
    simp at this
    first | omega | done), nI_toInt ha, nI_toInt hb]
  rfl
theorem nI_modp {a b : Nat} (ha : a < 2 ^ 31) (hb : b < 2 ^ 31) (h0 : 0 < b) : nI a - nI a / nI b * nI b = nI (a % b) := by
  rw [nI_divp ha hb h0]
  have e1 : nI (a / b) * nI b = nI (a / b * b) := by
    unfold nI; exact (Int32.ofNat_mul _ _).symm
  rw [e1, nI_sub (Nat.div_mul_le_self a b)]
  congr 1
  have := Nat.div_add_mod a b
  rw [Nat.mul_comm] at this
  omega
section LB
variable {T : Nat → Nat → Int32} {P : Nat → Nat → Nat} {o n : Nat} {kd dg : Nat → Int32} {R : Nat → Nat → Int32} {x y : Int32}
theorem c_lhas (ho : isB o) : X 57 0 [.ref (o + 45), .int x] [] (H T P) = some (some (.int (if x < 0 then 0 else if x < T (o + 45) 2 then 1 else 0)), H T P) := by
  simp +decide only [x57_0, x57_1, x57_4, x57_5, x57_6, x57_9, x57_12, x57_13, x57_16, x57_17, aft_some, aft_void, Option.bind_some, Option.toList_some, Option.toList_none, List.cons_append, List.nil_append, if_true, if_false, ↓reduceIte, eq_self, f45_o ho, ↓f45_0 ho, ↓f45_1 ho, ↓f45_2 ho, ↓f45_2p ho, ↓f46_g ho, ↓f46_s ho, ↓f47_g ho, ↓f47_s ho, or_true, true_or]
  repeat' split
  all_goals rfl
theorem c_lappend (ho : isB o) (hL : LO T o n kd dg) (hn : n < 20) : ∃ T', X 58 0 [.ref (o + 45), .int x, .int y] [] (H T P) = some (none, H T' P) ∧ (∀ a, a ≠ o + 45 → a ≠ o + 46 → a ≠ o + 47 → T' a = T a) ∧ LO T' o (n + 1) (fun i => if i < n then kd i else x) (fun i => if i < n then dg i else y) := by
  obtain ⟨h1, h2, h3⟩ := hL
  refine ⟨_, by
    simp +decide only [x58_0, x58_1, x58_4, x58_5, x58_8, x58_9, x58_10, x58_11, x58_14, x58_15, x58_18, x58_19, x58_20, x58_21, x58_22, x58_25, x58_26, x58_27, x58_30, aft_some, aft_void, Option.bind_some, Option.toList_some, Option.toList_none, List.cons_append, List.nil_append, if_true, if_false, ↓reduceIte, eq_self, f45_o ho, ↓f45_0 ho, ↓f45_1 ho, ↓f45_2 ho, ↓f45_2p ho, ↓f46_g ho, ↓f46_s ho, ↓f47_g ho, ↓f47_s ho, upA_s, u_oo, u_o0, u_0o, u_n, h1, nI_1, okx_nI hn (show (20 : Nat) < 2 ^ 31 by decide), nI_clamp (show n < 2 ^ 31 by omega)]
    rfl, ?_, ?_⟩
  · intro a h45 h46 h47
    simp only [upA_n _ _ h45, upA_n _ _ h46, upA_n _ _ h47]
  · refine ⟨by simp only [upA_s], by omega, fun i hi => ?_⟩
    simp +decide only [u_oo, upA_s]
    by_cases hin : i < n
    · have hne : i ≠ n := by omega
      rw [if_pos hin, if_pos hin, upA_n _ _ hne, upA_n _ _ hne]
      exact h3 i hin
    · have hie : i = n := by omega
      subst hie
      rw [if_neg hin, if_neg hin, upA_s, upA_s]
      exact ⟨rfl, rfl⟩
theorem c_lremove (ho : isB o) (hL : LO T o n kd dg) {p : Nat} (hp : p < n) : ∃ T', X 59 0 [.ref (o + 45), .int (nI p), .long 0] [] (H T P) = some (none, H T' P) ∧ (∀ a, a ≠ o + 45 → a ≠ o + 46 → a ≠ o + 47 → T' a = T a) ∧ LO T' o (n - 1) (fun i => if i < p then kd i else kd (i + 1)) (fun i => if i < p then dg i else dg (i + 1)) := by
  obtain ⟨h1, h2, h3⟩ := hL
  obtain ⟨T1, e1, i1, i2⟩ := loop_ex (fun j (U : Nat → Nat → Int32) => X 59 4 [.ref (o + 45), .int (nI p), .int (nI (p + 1 + j))] [] (H U P))
    (fun j U => (∀ a, a ≠ o + 46 → a ≠ o + 47 → U a = T a) ∧ (∀ i, i < n → U (o + 46) i = (if p ≤ i ∧ i < p + j then kd (i + 1) else kd i) ∧ U (o + 47) i = (if p ≤ i ∧ i < p + j then dg (i + 1) else dg i))) (n - (p + 1)) T
    ⟨fun _ _ _ => rfl, fun i hi => by
      rw [if_neg (by omega), if_neg (by omega)]; exact h3 i hi⟩ (by
      intro j U hj ⟨j1, j2⟩
      have hb : U (o + 45) 2 = nI n := by rw [j1 (o + 45) (by omega) (by omega)]; exact h1
      refine ⟨_, by
        show X 59 4 _ _ _ = _
        rw [x59_4]
        simp +decide only [x59_0, x59_1, x59_2, x59_3, x59_5, x59_6, x59_9, x59_12, x59_13, x59_16, x59_17, x59_18, x59_19, x59_20, x59_23, x59_24, x59_25, x59_26, x59_27, x59_30, x59_31, x59_32, x59_33, x59_34, x59_37, x59_38, x59_39, x59_40, x59_43, x59_46, x59_47, x59_48, x59_51, x59_52, x59_53, x59_56, aft_some, aft_void, Option.bind_some, Option.toList_some, Option.toList_none, List.cons_append, List.nil_append, if_true, if_false, ↓reduceIte, eq_self, f45_o ho, ↓f45_0 ho, ↓f45_1 ho, ↓f45_2 ho, ↓f45_2p ho, ↓f46_g ho, ↓f46_s ho, ↓f47_g ho, ↓f47_s ho, upA_s, u_oo, u_o0, u_0o, u_n, hb, nI_lt (show p + 1 + j < n by omega) (show n < 2 ^ 31 by omega), nI_1, show nI (p + 1 + j) - 1 = nI (p + j) from by rw [show (1 : Int32) = nI 1 from rfl, nI_sub (by omega)]; congr 1; omega, okx_nI (show p + 1 + j < 20 by omega) (show (20 : Nat) < 2 ^ 31 by decide), okx_nI (show p + j < 20 by omega) (show (20 : Nat) < 2 ^ 31 by decide), nI_clamp (show p + 1 + j < 2 ^ 31 by omega), nI_clamp (show p + j < 2 ^ 31 by omega)]
        rfl, ?_, ?_⟩
      · intro a h46 h47
        simp only [upA_n _ _ h46, upA_n _ _ h47]
        exact j1 a h46 h47
      · intro i hi
        simp +decide only [u_oo, upA_s]
        have g1 := j2 (p + 1 + j) (by omega)
        rw [if_neg (by omega), if_neg (by omega)] at g1
        by_cases hie : i = p + j
        · subst hie
          rw [upA_s, upA_s, if_pos ⟨by omega, by omega⟩, if_pos ⟨by omega, by omega⟩, g1.1, g1.2, show p + 1 + j = p + j + 1 by omega]
          exact ⟨rfl, rfl⟩
        · rw [upA_n _ _ hie, upA_n _ _ hie]
          have g2 := j2 i hi
          rw [g2.1, g2.2]
          by_cases hq : p ≤ i ∧ i < p + j
          · rw [if_pos hq, if_pos hq, if_pos ⟨hq.1, by omega⟩, if_pos ⟨hq.1, by omega⟩]; exact ⟨rfl, rfl⟩
          · rw [if_neg hq, if_neg hq, if_neg (by omega), if_neg (by omega)]; exact ⟨rfl, rfl⟩)
  have hb : T1 (o + 45) 2 = nI n := by rw [i1 (o + 45) (by omega) (by omega)]; exact h1
  rw [show p + 1 + (n - (p + 1)) = n by omega] at e1
  refine ⟨_, by
    simp +decide only [x59_0, x59_1, x59_2, x59_3, x59_5, x59_6, x59_9, x59_12, x59_13, x59_16, x59_17, x59_18, x59_19, x59_20, x59_23, x59_24, x59_25, x59_26, x59_27, x59_30, x59_31, x59_32, x59_33, x59_34, x59_37, x59_38, x59_39, x59_40, x59_43, x59_46, x59_47, x59_48, x59_51, x59_52, x59_53, x59_56, aft_some, aft_void, Option.bind_some, Option.toList_some, Option.toList_none, List.cons_append, List.nil_append, if_true, if_false, ↓reduceIte, eq_self, nI_1]
    rw [show X 59 4 [.ref (o + 45), .int (nI p), .int (nI (p + 1))] [] (H T P) = _ from e1, x59_4]
    simp +decide only [x59_0, x59_1, x59_2, x59_3, x59_5, x59_6, x59_9, x59_12, x59_13, x59_16, x59_17, x59_18, x59_19, x59_20, x59_23, x59_24, x59_25, x59_26, x59_27, x59_30, x59_31, x59_32, x59_33, x59_34, x59_37, x59_38, x59_39, x59_40, x59_43, x59_46, x59_47, x59_48, x59_51, x59_52, x59_53, x59_56, aft_some, aft_void, Option.bind_some, Option.toList_some, Option.toList_none, List.cons_append, List.nil_append, if_true, if_false, ↓reduceIte, eq_self, f45_o ho, ↓f45_0 ho, ↓f45_1 ho, ↓f45_2 ho, ↓f45_2p ho, ↓f46_g ho, ↓f46_s ho, ↓f47_g ho, ↓f47_s ho, hb, nI_nlt (Nat.le_refl n) (show n < 2 ^ 31 by omega), show nI n - 1 = nI (n - 1) from by rw [show (1 : Int32) = nI 1 from rfl, nI_sub (by omega)]]
    rfl, ?_, ?_⟩
  · intro a h45 h46 h47
    simp only [upA_n _ _ h45]
    exact i1 a h46 h47
  · refine ⟨by simp only [upA_s], by omega, fun i hi => ?_⟩
    simp +decide only [u_oo]
    have g := i2 i (by omega)
    rw [g.1, g.2]
    by_cases hq : i < p
    · have q1 : ¬ (p ≤ i ∧ i < p + (n - (p + 1))) := by omega
      simp only [q1, hq, if_true, if_false, and_self]
    · have q1 : p ≤ i ∧ i < p + (n - (p + 1)) := by omega
      simp only [q1, hq, if_true, if_false, and_self]
/-- what the book says behind one more event -/
def wrB (R : Nat → Nat → Int32) (e d x y : Int32) : Nat → Nat → Int32 := fun g k => match g with
  | 0 => (match k with | 0 => e | 1 => d | 2 => x | _ => y)
  | g + 1 => R g k
theorem c_write (ho : isB o) (hJ : JO T o n R) {e d : Int32} : ∃ T', X 53 0 [.ref (o + 49), .int e, .int d, .int x, .int y, .long 0] [] (H T P) = some (none, H T' P) ∧ (∀ a, a ≠ o + 49 → a ≠ o + 50 → T' a = T a) ∧ JO T' o (min (n + 1) 10) (wrB R e d x y) := by
  obtain ⟨h1, h2, l, hl, h3, h4⟩ := hJ
  have e1 : nI (l + 1) - nI (l + 1) / 10 * 10 = nI ((l + 1) % 10) := nI_modp (by omega) (by decide) (by decide)
  have hm : (l + 1) % 10 < 10 := Nat.mod_lt _ (by decide)
  have e2 : nI ((l + 1) % 10) * 4 = nI ((l + 1) % 10 * 4) := by unfold nI; exact (Int32.ofNat_mul _ _).symm
  have ek : ∀ k : Nat, nI ((l + 1) % 10 * 4) + nI k = nI ((l + 1) % 10 * 4 + k) := fun k => nI_add _ _
  have e5 := ek 1
  have e6 := ek 2
  have e7 := ek 3
  simp only [nl1, nl2, nl3] at e5 e6 e7
  have m1 : (if 10 < nI (n + 1) then (10 : Int32) else nI (n + 1)) = nI (min (n + 1) 10) := min_nI (a := n + 1) (b := 10) (by omega) (by decide)
  refine ⟨_, by
    simp +decide only [x53_0, x53_1, x53_2, x53_5, x53_6, x53_7, x53_9, x53_10, x53_13, x53_14, x53_15, x53_18, x53_19, x53_20, x53_22, x53_25, x53_28, x53_29, x53_32, x53_33, x53_34, x53_36, x53_37, x53_40, x53_42, x53_43, x53_44, x53_45, x53_48, x53_50, x53_51, x53_52, x53_53, x53_54, x53_55, x53_58, x53_60, x53_61, x53_62, x53_63, x53_64, x53_65, x53_68, x53_70, x53_71, x53_72, x53_74, x53_75, aft_some, aft_void, Option.bind_some, Option.toList_some, Option.toList_none, List.cons_append, List.nil_append, if_true, if_false, ↓reduceIte, eq_self, f49_o ho, ↓f49_0 ho, ↓f49_1 ho, ↓f49_1p ho, ↓f49_2 ho, ↓f49_2p ho, ↓f50_g ho, ↓f50_s ho, upA_s, u_oo, u_o0, u_0o, u_n, h2, h3, nI_1, e1, e2, e5, e6, e7, m1, okx_nI (show (l + 1) % 10 * 4 < 40 by omega) (show (40 : Nat) < 2 ^ 31 by decide), okx_nI (show (l + 1) % 10 * 4 + 1 < 40 by omega) (show (40 : Nat) < 2 ^ 31 by decide), okx_nI (show (l + 1) % 10 * 4 + 2 < 40 by omega) (show (40 : Nat) < 2 ^ 31 by decide), okx_nI (show (l + 1) % 10 * 4 + 3 < 40 by omega) (show (40 : Nat) < 2 ^ 31 by decide), nI_clamp (show (l + 1) % 10 * 4 < 2 ^ 31 by omega), nI_clamp (show (l + 1) % 10 * 4 + 1 < 2 ^ 31 by omega), nI_clamp (show (l + 1) % 10 * 4 + 2 < 2 ^ 31 by omega), nI_clamp (show (l + 1) % 10 * 4 + 3 < 2 ^ 31 by omega)]
    rfl, ?_, ?_⟩
  · intro a h49 h50
    simp only [upA_n _ _ h49, upA_n _ _ h50]
  · refine ⟨Nat.min_le_right _ _, by simp +decide only [upA_s, u_oo], (l + 1) % 10, hm, by simp +decide only [upA_s, u_oo, upA_n], fun g hg k hk => ?_⟩
    simp +decide only [upA_s, u_oo]
    cases g with
    | zero =>
      rw [show ((l + 1) % 10 + 10 - 0) % 10 * 4 + k = (l + 1) % 10 * 4 + k by omega]
      match k, hk with
      | 0, _ => simp [upA, wrB]
      | 1, _ => simp [upA, wrB]
      | 2, _ => simp [upA, wrB]
      | 3, _ => simp [upA, wrB]
    | succ g =>
      have hg' : g < n := by omega
      have hr : ((l + 1) % 10 + 10 - (g + 1)) % 10 = (l + 10 - g) % 10 := by omega
      have hne : (l + 10 - g) % 10 ≠ (l + 1) % 10 := by omega
      rw [hr]
      simp only [upA]
      rw [if_neg (by omega), if_neg (by omega), if_neg (by omega), if_neg (by omega)]
      exact h4 g hg' k hk
theorem c_tell (ho : isB o) (hJ : JO T o n R) {g k : Nat} (hg : g < 10) (hk : k < 4) : X 54 0 [.ref (o + 49), .int (nI g), .int (nI k)] [] (H T P) = some (some (.int (if g < n then R g k else -5)), H T P) := by
  obtain ⟨h1, h2, l, hl, h3, h4⟩ := hJ
  have c1 : (nI g < 0) = False := eq_false (nI_pos (by omega))
  have c2 : (nI k < 0) = False := eq_false (nI_pos (by omega))
  have c3 : (nI k < 4) = True := eq_true (nI_lt hk (show 4 < 2 ^ 31 by decide))
  by_cases hgn : g < n
  · have e0 : nI l - nI g + 10 = nI (l + 10 - g) := by
      rw [show (10 : Int32) = nI 10 from rfl, show nI l - nI g + nI 10 = nI l + nI 10 - nI g by
        rw [Int32.sub_eq_add_neg, Int32.sub_eq_add_neg, Int32.add_assoc, Int32.add_comm (-nI g), ← Int32.add_assoc], nI_add, nI_sub (by omega)]
    have e1 : nI (l + 10 - g) - nI (l + 10 - g) / 10 * 10 = nI ((l + 10 - g) % 10) := nI_modp (by omega) (by decide) (by decide)
    have e2 : nI ((l + 10 - g) % 10) * 4 = nI ((l + 10 - g) % 10 * 4) := by unfold nI; exact (Int32.ofNat_mul _ _).symm
    have hm : (l + 10 - g) % 10 < 10 := Nat.mod_lt _ (by decide)
    simp +decide only [x54_0, x54_1, x54_4, x54_5, x54_6, x54_9, x54_12, x54_13, x54_16, x54_17, x54_18, x54_21, x54_23, x54_24, x54_25, x54_28, x54_29, x54_32, x54_33, x54_34, x54_36, x54_37, x54_39, x54_40, x54_41, x54_42, x54_43, x54_44, x54_45, aft_some, aft_void, Option.bind_some, Option.toList_some, Option.toList_none, List.cons_append, List.nil_append, if_true, if_false, ↓reduceIte, eq_self, f49_o ho, ↓f49_0 ho, ↓f49_1 ho, ↓f49_1p ho, ↓f49_2 ho, ↓f49_2p ho, ↓f50_g ho, ↓f50_s ho, h2, h3, c1, c2, c3, nI_lt hgn (show n < 2 ^ 31 by omega), e0, e1, e2, nI_add, okx_nI (show (l + 10 - g) % 10 * 4 + k < 40 by omega) (show (40 : Nat) < 2 ^ 31 by decide), nI_clamp (show (l + 10 - g) % 10 * 4 + k < 2 ^ 31 by omega), h4 g hgn k hk, hgn]
  · simp +decide only [x54_0, x54_1, x54_4, x54_5, x54_6, x54_9, x54_12, x54_13, x54_16, x54_17, x54_18, x54_21, x54_23, x54_24, x54_25, x54_28, x54_29, x54_32, x54_33, x54_34, x54_36, x54_37, x54_39, x54_40, x54_41, x54_42, x54_43, x54_44, x54_45, aft_some, aft_void, Option.bind_some, Option.toList_some, Option.toList_none, List.cons_append, List.nil_append, if_true, if_false, ↓reduceIte, eq_self, f49_o ho, ↓f49_0 ho, ↓f49_1 ho, ↓f49_1p ho, ↓f49_2 ho, ↓f49_2p ho, ↓f50_g ho, ↓f50_s ho, h2, h3, c1, c2, c3, nI_nlt (show n ≤ g by omega) (show g < 2 ^ 31 by omega), hgn]
end LB
