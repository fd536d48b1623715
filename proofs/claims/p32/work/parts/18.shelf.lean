/-! the shelf -/
/-- the shelf's places hold the state's own baskets, each once -/
def PK (P : Nat → Nat → Nat) (o : Nat) : Prop := (∀ i, i < 8 → ∃ j, j < 8 ∧ P (o + 8) i = o + 9 + 4 * j) ∧ ∀ i, i < 8 → ∀ j, j < 8 → P (o + 8) i = P (o + 8) j → i = j
theorem PK.k {P : Nat → Nat → Nat} {o i : Nat} (h : PK P o) (ho : isB o) (hi : i < 8) : isK (P (o + 8) i) := by
  obtain ⟨j, hj, e⟩ := h.1 i hi
  exact ⟨o, j, ho, hj, e⟩
theorem PK.rg {P : Nat → Nat → Nat} {o i : Nat} (h : PK P o) (hi : i < 8) : o + 9 ≤ P (o + 8) i ∧ P (o + 8) i + 3 < o + 41 := by
  obtain ⟨j, hj, e⟩ := h.1 i hi
  omega
theorem PK.ap {P : Nat → Nat → Nat} {o i j : Nat} (h : PK P o) (hi : i < 8) (hj : j < 8) (hne : i ≠ j) : ∀ x y : Nat, x < 4 → y < 4 → P (o + 8) i + x ≠ P (o + 8) j + y := by
  intro x y hx hy
  obtain ⟨a, ha, e1⟩ := h.1 i hi
  obtain ⟨b, hb, e2⟩ := h.1 j hj
  have hab : a ≠ b := fun q => hne (h.2 i hi j hj (by rw [e1, e2, q]))
  omega
theorem isB_far {o q : Nat} (hb : isB o) (hq : isB q) (h : o ≠ q) : o + 51 ≤ q ∨ q + 51 ≤ o := by
  rcases hb with rfl | rfl | rfl | rfl | rfl | rfl | rfl <;> rcases hq with rfl | rfl | rfl | rfl | rfl | rfl | rfl <;> omega
/-- the basket at b is as that at c -/
def BE (T : Nat → Nat → Int32) (b : Nat) (U : Nat → Nat → Int32) (c : Nat) : Prop := (∀ k, k < 5 → T b k = U c k) ∧ ∀ k, k < 4 → T (b + 1) k = U (c + 1) k ∧ T (b + 2) k = U (c + 2) k ∧ T (b + 3) k = U (c + 3) k
section SH
variable {T : Nat → Nat → Int32} {P : Nat → Nat → Nat} {o q n : Nat} {x y : Int32} {b c : Nat}
theorem c_bcopy (hb : isK b) (hc : isK c) (hne : b ≠ c) : ∃ T', X 1 0 [.ref b, .ref c] [] (H T P) = some (none, H T' P) ∧ (∀ a, (a < b ∨ b + 3 < a) → T' a = T a) ∧ BE T' b T c := by
  have ap : ∀ x y : Nat, x < 4 → y < 4 → c + y ≠ b + x := fun x y hx hy h => isK_apart hb hc hne x y hx hy h.symm
  have a00 : c ≠ b := fun h => ap 0 0 (by decide) (by decide) h
  have a1 : ∀ y, y < 4 → c + y ≠ b := fun y hy h => ap 0 y (by decide) hy h
  have a2 : ∀ x, x < 4 → c ≠ b + x := fun x hx h => ap x 0 hx (by decide) h
  have f0 : ∀ (U : Nat → Nat → Int32) f, upA U b f c = U c := fun U f => upA_n _ _ a00
  have f1 : ∀ (U : Nat → Nat → Int32) f, upA U b f (c + 1) = U (c + 1) := fun U f => upA_n _ _ (a1 1 (by decide))
  have f2 : ∀ (U : Nat → Nat → Int32) f, upA U b f (c + 2) = U (c + 2) := fun U f => upA_n _ _ (a1 2 (by decide))
  have f3 : ∀ (U : Nat → Nat → Int32) f, upA U b f (c + 3) = U (c + 3) := fun U f => upA_n _ _ (a1 3 (by decide))
  have g : ∀ (x y : Nat) (hx : x < 4) (hy : y < 4) (U : Nat → Nat → Int32) f, upA U (b + x) f (c + y) = U (c + y) := fun x y hx hy U f => upA_n _ _ (ap x y hx hy)
  refine ⟨_, by
    simp +decide only [x1_0, x1_1, x1_1N, x1_2, x1_5, x1_8, x1_9, x1_9N, x1_10, x1_13, x1_16, x1_17, x1_17N, x1_18, x1_21, x1_24, x1_25, x1_25N, x1_26, x1_29, x1_32, x1_33, x1_33N, x1_34, x1_37, x1_40, x1_40N, x1_41, x1_44, x1_45, x1_46, x1_49, x1_50, x1_51, x1_54, x1_54N, x1_55, x1_58, x1_59, x1_60, x1_63, x1_64, x1_65, x1_68, x1_68N, x1_69, x1_72, x1_73, x1_74, x1_77, x1_78, x1_79, x1_82, aft_some, aft_void, Option.bind_some, Option.toList_some, Option.toList_none, List.cons_append, List.nil_append, if_true, if_false, ↓reduceIte, eq_self, fK_o hb, ↓fK_0 hb, ↓fK_0p hb, ↓fK_1 hb, ↓fK_1p hb, ↓fK_2 hb, ↓fK_2p hb, ↓fK_3 hb, ↓fK_3p hb, ↓fK_4 hb, ↓fK_4p hb, ↓fK_5 hb, ↓fK_6 hb, ↓fK_7 hb, ↓fK1_g hb, ↓fK1_s hb, ↓fK2_g hb, ↓fK2_s hb, ↓fK3_g hb, ↓fK3_s hb, fK_o hc, ↓fK_0 hc, ↓fK_0p hc, ↓fK_1 hc, ↓fK_1p hc, ↓fK_2 hc, ↓fK_2p hc, ↓fK_3 hc, ↓fK_3p hc, ↓fK_4 hc, ↓fK_4p hc, ↓fK_5 hc, ↓fK_6 hc, ↓fK_7 hc, ↓fK1_g hc, ↓fK1_s hc, ↓fK2_g hc, ↓fK2_s hc, ↓fK3_g hc, ↓fK3_s hc, upA_s, u_oo, u_o0, u_0o, u_n, f0, f1, f2, f3, g 1 2 (by decide) (by decide), g 1 3 (by decide) (by decide), g 2 3 (by decide) (by decide), ↓g_cp0 (sh_k hc).2.1 (sh_k hb).2.1 (show (4 : Int32) = nI 4 from rfl) (Nat.le_refl 4) (Nat.le_refl 4) (by decide), ↓g_cp0 (sh_k hc).2.2.1 (sh_k hb).2.2.1 (show (4 : Int32) = nI 4 from rfl) (Nat.le_refl 4) (Nat.le_refl 4) (by decide), ↓g_cp0 (sh_k hc).2.2.2 (sh_k hb).2.2.2 (show (4 : Int32) = nI 4 from rfl) (Nat.le_refl 4) (Nat.le_refl 4) (by decide)]
    rfl, ?_, ?_, ?_⟩
  · intro a ha
    simp only [upA_n _ _ (show a ≠ b by omega), upA_n _ _ (show a ≠ b + 1 by omega), upA_n _ _ (show a ≠ b + 2 by omega), upA_n _ _ (show a ≠ b + 3 by omega)]
  · intro k hk
    match k, hk with
    | 0, _ => simp [upA]
    | 1, _ => simp [upA]
    | 2, _ => simp [upA]
    | 3, _ => simp [upA]
    | 4, _ => simp [upA]
  · intro k hk
    simp +decide only [upA_s, u_oo, u_0o, cpy0 hk, and_self]
theorem c_shCopy (ho : isB o) (hq : isB q) (hne : o ≠ q) (hPo : PK P o) (hPq : PK P q) (hn : T (q + 7) 1 = nI n) (h8 : n ≤ 8) : ∃ T', X 61 0 [.ref (o + 7), .ref (q + 7), .long 0] [] (H T P) = some (none, H T' P) ∧
    (∀ a, a ≠ o + 7 → (a < o + 9 ∨ o + 41 ≤ a) → T' a = T a) ∧ T' (o + 7) 1 = nI n ∧ T' (o + 7) 2 = T (q + 7) 2 ∧ ∀ i, i < n → BE T' (P (o + 8) i) T (P (q + 8) i) := by
  have hfar := isB_far ho hq hne
  obtain ⟨T1, e1, i1, hb, i3, i2⟩ := loop_ex (fun i (U : Nat → Nat → Int32) => X 61 18 [.ref (o + 7), .ref (q + 7), .int (nI i)] [] (H U P))
    (fun i U => (∀ a, a ≠ o + 7 → (a < o + 9 ∨ o + 41 ≤ a) → U a = T a) ∧ U (o + 7) 1 = nI n ∧ U (o + 7) 2 = T (q + 7) 2 ∧ ∀ j, j < i → BE U (P (o + 8) j) T (P (q + 8) j)) n (up1 (up1 T (o + 7) 1 (nI n)) (o + 7) 2 (T (q + 7) 2))
    ⟨fun a h7 _ => by simp only [upA_n _ _ h7], by simp +decide only [upA_s, u_n], by simp only [upA_s], fun j hj => absurd hj (Nat.not_lt_zero _)⟩ (by
      intro i U hi ⟨j1, hU1, hU2, j2⟩
      have hbo := hPo.k ho (show i < 8 by omega)
      have hbq := hPq.k hq (show i < 8 by omega)
      have r1 := hPo.rg (show i < 8 by omega)
      have r2 := hPq.rg (show i < 8 by omega)
      obtain ⟨U', e, f1, f2⟩ := c_bcopy (T := U) (P := P) hbo hbq (by omega)
      refine ⟨U', by
        show X 61 18 _ _ _ = _
        rw [x61_18]
        simp +decide only [x61_0, x61_1, x61_1N, x61_2, x61_5, x61_8, x61_9, x61_9N, x61_10, x61_13, x61_16, x61_17, x61_19, x61_20, x61_23, x61_26, x61_27, x61_30, x61_31, x61_32, x61_32N, x61_33, x61_36, x61_37, x61_38, x61_41, x61_44, x61_47, aft_some, aft_void, Option.bind_some, Option.toList_some, Option.toList_none, List.cons_append, List.nil_append, if_true, if_false, ↓reduceIte, eq_self, f7_o ho, ↓f7_0 ho, ↓f7_1 ho, ↓f7_1p ho, ↓f7_2 ho, ↓f7_2p ho, ↓f8_g ho, f7_o hq, ↓f7_0 hq, ↓f7_1 hq, ↓f7_1p hq, ↓f7_2 hq, ↓f7_2p hq, ↓f8_g hq, fK_o hbo, hU1, nI_lt hi (show n < 2 ^ 31 by omega), okx_nI (show i < 8 by omega) (show (8 : Nat) < 2 ^ 31 by decide), nI_clamp (show i < 2 ^ 31 by omega), ↓aft_of (e), nI_1], ?_, ?_, ?_, ?_⟩
      · intro a h7 ha
        rw [f1 a (by omega)]
        exact j1 a h7 ha
      · rw [f1 _ (by omega)]; exact hU1
      · rw [f1 _ (by omega)]; exact hU2
      · intro j hj
        by_cases hji : j = i
        · subst hji
          refine ⟨fun k hk => ?_, fun k hk => ?_⟩
          · rw [f2.1 k hk, j1 _ (by omega) (by omega)]
          · have := f2.2 k hk
            rw [this.1, this.2.1, this.2.2, j1 _ (by omega) (by omega), j1 _ (by omega) (by omega), j1 _ (by omega) (by omega)]
            exact ⟨rfl, rfl, rfl⟩
        · have g := j2 j (by omega)
          have ap := hPo.ap (show j < 8 by omega) (show i < 8 by omega) hji
          have hz : ∀ x, x < 4 → U' (P (o + 8) j + x) = U (P (o + 8) j + x) := fun x hx => f1 _ (by
            have h0 := ap x 0 hx (by decide)
            have h1 := ap x 1 hx (by decide)
            have h2 := ap x 2 hx (by decide)
            have h3 := ap x 3 hx (by decide)
            omega)
          have hz0 := hz 0 (by decide)
          refine ⟨fun k hk => ?_, fun k hk => ?_⟩
          · rw [show P (o + 8) j = P (o + 8) j + 0 from rfl, hz0]; exact g.1 k hk
          · rw [hz 1 (by decide), hz 2 (by decide), hz 3 (by decide)]; exact g.2 k hk)
  refine ⟨T1, by
    simp +decide only [x61_0, x61_1, x61_1N, x61_2, x61_5, x61_8, x61_9, x61_9N, x61_10, x61_13, x61_16, x61_17, x61_19, x61_20, x61_23, x61_26, x61_27, x61_30, x61_31, x61_32, x61_32N, x61_33, x61_36, x61_37, x61_38, x61_41, x61_44, x61_47, aft_some, aft_void, Option.bind_some, Option.toList_some, Option.toList_none, List.cons_append, List.nil_append, if_true, if_false, ↓reduceIte, eq_self, f7_o ho, ↓f7_0 ho, ↓f7_1 ho, ↓f7_1p ho, ↓f7_2 ho, ↓f7_2p ho, ↓f8_g ho, f7_o hq, ↓f7_0 hq, ↓f7_1 hq, ↓f7_1p hq, ↓f7_2 hq, ↓f7_2p hq, ↓f8_g hq, upA_s, u_oo, u_o0, u_0o, u_n, u_ap ho hq hne, hn]
    rw [show X 61 18 [.ref (o + 7), .ref (q + 7), .int 0] [] (H (up1 (up1 T (o + 7) 1 (nI n)) (o + 7) 2 (T (q + 7) 2)) P) = _ from e1, x61_18]
    simp +decide only [x61_0, x61_1, x61_1N, x61_2, x61_5, x61_8, x61_9, x61_9N, x61_10, x61_13, x61_16, x61_17, x61_19, x61_20, x61_23, x61_26, x61_27, x61_30, x61_31, x61_32, x61_32N, x61_33, x61_36, x61_37, x61_38, x61_41, x61_44, x61_47, aft_some, aft_void, Option.bind_some, Option.toList_some, Option.toList_none, List.cons_append, List.nil_append, if_true, if_false, ↓reduceIte, eq_self, f7_o ho, ↓f7_0 ho, ↓f7_1 ho, ↓f7_1p ho, ↓f7_2 ho, ↓f7_2p ho, ↓f8_g ho, hb, nI_nlt (Nat.le_refl n) (show n < 2 ^ 31 by omega)], i1, hb, i3, i2⟩
theorem c_isFull (ho : isB o) : X 62 0 [.ref (o + 7)] [] (H T P) = some (some (.int (if T (o + 7) 1 < 8 then (if T (o + 7) 2 < 99 then 0 else 1) else 1)), H T P) := by
  simp +decide only [x62_0, x62_1, x62_4, x62_6, x62_9, x62_10, x62_13, x62_15, x62_18, x62_19, x62_22, x62_23, aft_some, aft_void, Option.bind_some, Option.toList_some, Option.toList_none, List.cons_append, List.nil_append, if_true, if_false, ↓reduceIte, eq_self, f7_o ho, ↓f7_0 ho, ↓f7_1 ho, ↓f7_1p ho, ↓f7_2 ho, ↓f7_2p ho, ↓f8_g ho, or_true, true_or]
  repeat' split
  all_goals rfl
/-- the pins in use, as bits -/
def usI (f : Nat → Int32) : Nat → Int32
  | 0 => 0
  | i + 1 => usI f i ||| ((1 : Int32) <<< (f i &&& 31))
def fpI (u : Int32) : Int32 := if u >>> ((0 : Int32) &&& 31) &&& 1 = 0 then 0 else if u >>> ((1 : Int32) &&& 31) &&& 1 = 0 then 1 else if u >>> ((2 : Int32) &&& 31) &&& 1 = 0 then 2 else if u >>> ((3 : Int32) &&& 31) &&& 1 = 0 then 3 else if u >>> ((4 : Int32) &&& 31) &&& 1 = 0 then 4 else if u >>> ((5 : Int32) &&& 31) &&& 1 = 0 then 5 else if u >>> ((6 : Int32) &&& 31) &&& 1 = 0 then 6 else if u >>> ((7 : Int32) &&& 31) &&& 1 = 0 then 7 else 8
theorem c_freePin (ho : isB o) (hP : PK P o) (hn : T (o + 7) 1 = nI n) (h8 : n ≤ 8) : X 64 0 [.ref (o + 7), .long 0, .long 0] [] (H T P) = some (some (.int (fpI (usI (fun i => T (P (o + 8) i) 2) n))), H T P) := by
  have hstep : ∀ i, i < n → X 64 4 [.ref (o + 7), .int (usI (fun i => T (P (o + 8) i) 2) i), .int (nI i)] [] (H T P) = X 64 4 [.ref (o + 7), .int (usI (fun i => T (P (o + 8) i) 2) (i + 1)), .int (nI (i + 1))] [] (H T P) := by
    intro i hi
    have hk := hP.k ho (show i < 8 by omega)
    rw [x64_4]
    simp +decide only [x64_0, x64_1, x64_2, x64_3, x64_5, x64_6, x64_9, x64_12, x64_13, x64_14, x64_15, x64_18, x64_19, x64_20, x64_23, x64_24, x64_25, x64_26, x64_29, x64_32, x64_33, x64_34, x64_35, x64_37, x64_40, x64_41, x64_42, x64_43, x64_44, x64_45, x64_48, x64_51, x64_54, x64_55, aft_some, aft_void, Option.bind_some, Option.toList_some, Option.toList_none, List.cons_append, List.nil_append, if_true, if_false, ↓reduceIte, eq_self, f7_o ho, ↓f7_0 ho, ↓f7_1 ho, ↓f7_1p ho, ↓f7_2 ho, ↓f7_2p ho, ↓f8_g ho, fK_o hk, ↓fK_0 hk, ↓fK_0p hk, ↓fK_1 hk, ↓fK_1p hk, ↓fK_2 hk, ↓fK_2p hk, ↓fK_3 hk, ↓fK_3p hk, ↓fK_4 hk, ↓fK_4p hk, ↓fK_5 hk, ↓fK_6 hk, ↓fK_7 hk, ↓fK1_g hk, ↓fK1_s hk, ↓fK2_g hk, ↓fK2_s hk, ↓fK3_g hk, ↓fK3_s hk, hn, nI_lt hi (show n < 2 ^ 31 by omega), okx_nI (show i < 8 by omega) (show (8 : Nat) < 2 ^ 31 by decide), nI_clamp (show i < 2 ^ 31 by omega), nI_1, usI]
  simp +decide only [x64_0, x64_1, x64_2, x64_3, x64_5, x64_6, x64_9, x64_12, x64_13, x64_14, x64_15, x64_18, x64_19, x64_20, x64_23, x64_24, x64_25, x64_26, x64_29, x64_32, x64_33, x64_34, x64_35, x64_37, x64_40, x64_41, x64_42, x64_43, x64_44, x64_45, x64_48, x64_51, x64_54, x64_55, aft_some, aft_void, Option.bind_some, Option.toList_some, Option.toList_none, List.cons_append, List.nil_append, if_true, if_false, ↓reduceIte, eq_self]
  rw [show X 64 4 [.ref (o + 7), .int 0, .int 0] [] (H T P) = _ from loop_up (fun i => X 64 4 [.ref (o + 7), .int (usI (fun i => T (P (o + 8) i) 2) i), .int (nI i)] [] (H T P)) n hstep, x64_4]
  generalize usI (fun i => T (P (o + 8) i) 2) n = u
  simp +decide only [x64_0, x64_1, x64_2, x64_3, x64_5, x64_6, x64_9, x64_12, x64_13, x64_14, x64_15, x64_18, x64_19, x64_20, x64_23, x64_24, x64_25, x64_26, x64_29, x64_32, x64_33, x64_34, x64_35, x64_37, x64_40, x64_41, x64_42, x64_43, x64_44, x64_45, x64_48, x64_51, x64_54, x64_55, aft_some, aft_void, Option.bind_some, Option.toList_some, Option.toList_none, List.cons_append, List.nil_append, if_true, if_false, ↓reduceIte, eq_self, f7_o ho, ↓f7_0 ho, ↓f7_1 ho, ↓f7_1p ho, ↓f7_2 ho, ↓f7_2p ho, ↓f8_g ho, hn, nI_nlt (Nat.le_refl n) (show n < 2 ^ 31 by omega), Int32.reduceAdd]
  unfold fpI
  repeat' split
  all_goals first | rfl | contradiction
/-- the first place with a property -/
noncomputable def fstN (p : Nat → Prop) : Nat → Nat → Option Nat
  | _, 0 => none
  | i, n + 1 => (@ite _ (p i) (Classical.propDecidable _) (some i) (fstN p (i + 1) n))
theorem c_withNumber (ho : isB o) (hP : PK P o) (hn : T (o + 7) 1 = nI n) (h8 : n ≤ 8) : X 65 0 [.ref (o + 7), .int x, .long 0] [] (H T P) = some (some (match fstN (fun i => T (P (o + 8) i) 0 = x) 0 n with
    | some i => .ref (P (o + 8) i)
    | none => .null), H T P) := by
  have key : ∀ m i, i + m = n → X 65 2 [.ref (o + 7), .int x, .int (nI i)] [] (H T P) = some (some (match fstN (fun i => T (P (o + 8) i) 0 = x) i m with
    | some i => .ref (P (o + 8) i)
    | none => .null), H T P) := by
    intro m
    induction m with
    | zero =>
      intro i hi
      have hi : i = n := by omega
      subst hi
      rw [x65_2]
      simp +decide only [x65_0, x65_1, x65_3, x65_4, x65_7, x65_10, x65_11, x65_14, x65_15, x65_16, x65_19, x65_20, x65_23, x65_24, x65_27, x65_28, x65_29, x65_29N, x65_30, x65_33, x65_36, x65_37, x65_37N, aft_some, aft_void, Option.bind_some, Option.toList_some, Option.toList_none, List.cons_append, List.nil_append, if_true, if_false, ↓reduceIte, eq_self, f7_o ho, ↓f7_0 ho, ↓f7_1 ho, ↓f7_1p ho, ↓f7_2 ho, ↓f7_2p ho, ↓f8_g ho, hn, nI_nlt (Nat.le_refl i) (show i < 2 ^ 31 by omega), fstN]
    | succ m ih =>
      intro i hi
      have hk := hP.k ho (show i < 8 by omega)
      rw [x65_2]
      simp +decide only [x65_0, x65_1, x65_3, x65_4, x65_7, x65_10, x65_11, x65_14, x65_15, x65_16, x65_19, x65_20, x65_23, x65_24, x65_27, x65_28, x65_29, x65_29N, x65_30, x65_33, x65_36, x65_37, x65_37N, aft_some, aft_void, Option.bind_some, Option.toList_some, Option.toList_none, List.cons_append, List.nil_append, if_true, if_false, ↓reduceIte, eq_self, f7_o ho, ↓f7_0 ho, ↓f7_1 ho, ↓f7_1p ho, ↓f7_2 ho, ↓f7_2p ho, ↓f8_g ho, fK_o hk, ↓fK_0 hk, ↓fK_0p hk, ↓fK_1 hk, ↓fK_1p hk, ↓fK_2 hk, ↓fK_2p hk, ↓fK_3 hk, ↓fK_3p hk, ↓fK_4 hk, ↓fK_4p hk, ↓fK_5 hk, ↓fK_6 hk, ↓fK_7 hk, ↓fK1_g hk, ↓fK1_s hk, ↓fK2_g hk, ↓fK2_s hk, ↓fK3_g hk, ↓fK3_s hk, hn, nI_lt (show i < n by omega) (show n < 2 ^ 31 by omega), okx_nI (show i < 8 by omega) (show (8 : Nat) < 2 ^ 31 by decide), nI_clamp (show i < 2 ^ 31 by omega), nI_1, fstN]
      by_cases hx : T (P (o + 8) i) 0 = x
      · simp only [hx, if_true]
      · simp only [hx, if_false]
        exact ih (i + 1) (by omega)
  simp +decide only [x65_0, x65_1, x65_3, x65_4, x65_7, x65_10, x65_11, x65_14, x65_15, x65_16, x65_19, x65_20, x65_23, x65_24, x65_27, x65_28, x65_29, x65_29N, x65_30, x65_33, x65_36, x65_37, x65_37N, aft_some, aft_void, Option.bind_some, Option.toList_some, Option.toList_none, List.cons_append, List.nil_append, if_true, if_false, ↓reduceIte, eq_self]
  exact key n 0 (by omega)
/-- a sum over the shelf -/
theorem c_numberFrom (ho : isB o) (hP : PK P o) (hn : T (o + 7) 1 = nI n) (h8 : n ≤ 8) : X 66 0 [.ref (o + 7), .int x, .long 0, .long 0] [] (H T P) = some (some (.int (smI (fun i => if T (P (o + 8) i) 1 = x then 1 else 0) n)), H T P) := by
  have hstep : ∀ i, i < n → X 66 4 [.ref (o + 7), .int x, .int (smI (fun i => if T (P (o + 8) i) 1 = x then 1 else 0) i), .int (nI i)] [] (H T P) = X 66 4 [.ref (o + 7), .int x, .int (smI (fun i => if T (P (o + 8) i) 1 = x then 1 else 0) (i + 1)), .int (nI (i + 1))] [] (H T P) := by
    intro i hi
    have hk := hP.k ho (show i < 8 by omega)
    rw [x66_4]
    simp +decide only [x66_0, x66_1, x66_2, x66_3, x66_5, x66_6, x66_9, x66_12, x66_13, x66_16, x66_17, x66_18, x66_21, x66_22, x66_25, x66_28, x66_31, x66_34, x66_35, aft_some, aft_void, Option.bind_some, Option.toList_some, Option.toList_none, List.cons_append, List.nil_append, if_true, if_false, ↓reduceIte, eq_self, f7_o ho, ↓f7_0 ho, ↓f7_1 ho, ↓f7_1p ho, ↓f7_2 ho, ↓f7_2p ho, ↓f8_g ho, fK_o hk, ↓fK_0 hk, ↓fK_0p hk, ↓fK_1 hk, ↓fK_1p hk, ↓fK_2 hk, ↓fK_2p hk, ↓fK_3 hk, ↓fK_3p hk, ↓fK_4 hk, ↓fK_4p hk, ↓fK_5 hk, ↓fK_6 hk, ↓fK_7 hk, ↓fK1_g hk, ↓fK1_s hk, ↓fK2_g hk, ↓fK2_s hk, ↓fK3_g hk, ↓fK3_s hk, hn, nI_lt hi (show n < 2 ^ 31 by omega), okx_nI (show i < 8 by omega) (show (8 : Nat) < 2 ^ 31 by decide), nI_clamp (show i < 2 ^ 31 by omega), nI_1, smI]
    by_cases hx : T (P (o + 8) i) 1 = x
    · simp only [hx, if_true]
    · simp only [hx, if_false, Int32.add_zero]
  simp +decide only [x66_0, x66_1, x66_2, x66_3, x66_5, x66_6, x66_9, x66_12, x66_13, x66_16, x66_17, x66_18, x66_21, x66_22, x66_25, x66_28, x66_31, x66_34, x66_35, aft_some, aft_void, Option.bind_some, Option.toList_some, Option.toList_none, List.cons_append, List.nil_append, if_true, if_false, ↓reduceIte, eq_self]
  rw [show X 66 4 [.ref (o + 7), .int x, .int 0, .int 0] [] (H T P) = _ from loop_up (fun i => X 66 4 [.ref (o + 7), .int x, .int (smI (fun i => if T (P (o + 8) i) 1 = x then 1 else 0) i), .int (nI i)] [] (H T P)) n hstep, x66_4]
  simp +decide only [x66_0, x66_1, x66_2, x66_3, x66_5, x66_6, x66_9, x66_12, x66_13, x66_16, x66_17, x66_18, x66_21, x66_22, x66_25, x66_28, x66_31, x66_34, x66_35, aft_some, aft_void, Option.bind_some, Option.toList_some, Option.toList_none, List.cons_append, List.nil_append, if_true, if_false, ↓reduceIte, eq_self, f7_o ho, ↓f7_0 ho, ↓f7_1 ho, ↓f7_1p ho, ↓f7_2 ho, ↓f7_2p ho, ↓f8_g ho, hn, nI_nlt (Nat.le_refl n) (show n < 2 ^ 31 by omega)]
theorem c_numberReady (ho : isB o) (hP : PK P o) (hn : T (o + 7) 1 = nI n) (h8 : n ≤ 8) : X 67 0 [.ref (o + 7), .long 0, .long 0] [] (H T P) = some (some (.int (smI (fun i => rdI T (P (o + 8) i)) n)), H T P) := by
  have hstep : ∀ i, i < n → X 67 4 [.ref (o + 7), .int (smI (fun i => rdI T (P (o + 8) i)) i), .int (nI i)] [] (H T P) = X 67 4 [.ref (o + 7), .int (smI (fun i => rdI T (P (o + 8) i)) (i + 1)), .int (nI (i + 1))] [] (H T P) := by
    intro i hi
    have hk := hP.k ho (show i < 8 by omega)
    rw [x67_4]
    simp +decide only [x67_0, x67_1, x67_2, x67_3, x67_5, x67_6, x67_9, x67_12, x67_13, x67_16, x67_17, x67_18, x67_21, x67_24, x67_27, x67_30, x67_33, x67_34, aft_some, aft_void, Option.bind_some, Option.toList_some, Option.toList_none, List.cons_append, List.nil_append, if_true, if_false, ↓reduceIte, eq_self, f7_o ho, ↓f7_0 ho, ↓f7_1 ho, ↓f7_1p ho, ↓f7_2 ho, ↓f7_2p ho, ↓f8_g ho, fK_o hk, hn, nI_lt hi (show n < 2 ^ 31 by omega), okx_nI (show i < 8 by omega) (show (8 : Nat) < 2 ^ 31 by decide), nI_clamp (show i < 2 ^ 31 by omega), nI_1, smI, ↓aft_of (c_isReady hk)]
    rcases rdI_01 (T := T) (b := P (o + 8) i) with hx | hx
    · simp only [hx, if_true, Int32.add_zero]
    · simp +decide only [hx, if_false]
  simp +decide only [x67_0, x67_1, x67_2, x67_3, x67_5, x67_6, x67_9, x67_12, x67_13, x67_16, x67_17, x67_18, x67_21, x67_24, x67_27, x67_30, x67_33, x67_34, aft_some, aft_void, Option.bind_some, Option.toList_some, Option.toList_none, List.cons_append, List.nil_append, if_true, if_false, ↓reduceIte, eq_self]
  rw [show X 67 4 [.ref (o + 7), .int 0, .int 0] [] (H T P) = _ from loop_up (fun i => X 67 4 [.ref (o + 7), .int (smI (fun i => rdI T (P (o + 8) i)) i), .int (nI i)] [] (H T P)) n hstep, x67_4]
  simp +decide only [x67_0, x67_1, x67_2, x67_3, x67_5, x67_6, x67_9, x67_12, x67_13, x67_16, x67_17, x67_18, x67_21, x67_24, x67_27, x67_30, x67_33, x67_34, aft_some, aft_void, Option.bind_some, Option.toList_some, Option.toList_none, List.cons_append, List.nil_append, if_true, if_false, ↓reduceIte, eq_self, f7_o ho, ↓f7_0 ho, ↓f7_1 ho, ↓f7_1p ho, ↓f7_2 ho, ↓f7_2p ho, ↓f8_g ho, hn, nI_nlt (Nat.le_refl n) (show n < 2 ^ 31 by omega)]
/-- does the basket miss such a piece -/
def msI (T : Nat → Nat → Int32) (k : Nat) (d : Int32) (b : Nat) : Int32 := if 0 < T (b + 3) k ∧ dgI (T b 3) k = d then 1 else 0
theorem msI_01 {k : Nat} {d : Int32} : msI T k d b = 0 ∨ msI T k d b = 1 := by
  unfold msI; split <;> simp
theorem c_numberMissing (ho : isB o) (hP : PK P o) (hn : T (o + 7) 1 = nI n) (h8 : n ≤ 8) {k : Nat} (hk4 : k < 4) (d : Int32) : X 68 0 [.ref (o + 7), .int (nI k), .int d, .long 0, .long 0] [] (H T P) = some (some (.int (smI (fun i => msI T k d (P (o + 8) i)) n)), H T P) := by
  have hstep : ∀ i, i < n → X 68 5 [.ref (o + 7), .int (nI k), .int d, .int (smI (fun i => msI T k d (P (o + 8) i)) i), .int (nI i)] [] (H T P) = X 68 5 [.ref (o + 7), .int (nI k), .int d, .int (smI (fun i => msI T k d (P (o + 8) i)) (i + 1)), .int (nI (i + 1))] [] (H T P) := by
    intro i hi
    have hk := hP.k ho (show i < 8 by omega)
    have hm := c_misses (T := T) (P := P) hk k hk4 d
    have hms := msI_01 (T := T) (b := P (o + 8) i) (k := k) (d := d)
    have e : (if 0 < T (P (o + 8) i + 3) k ∧ dgI (T (P (o + 8) i) 3) k = d then (1 : Int32) else 0) = msI T k d (P (o + 8) i) := rfl
    rw [e] at hm
    rw [x68_5]
    simp +decide only [x68_0, x68_1, x68_2, x68_3, x68_7, x68_8, x68_11, x68_14, x68_15, x68_18, x68_20, x68_21, x68_22, x68_23, x68_26, x68_29, x68_32, x68_35, x68_38, x68_39, aft_some, aft_void, Option.bind_some, Option.toList_some, Option.toList_none, List.cons_append, List.nil_append, if_true, if_false, ↓reduceIte, eq_self, f7_o ho, ↓f7_0 ho, ↓f7_1 ho, ↓f7_1p ho, ↓f7_2 ho, ↓f7_2p ho, ↓f8_g ho, fK_o hk, hn, nI_lt hi (show n < 2 ^ 31 by omega), okx_nI (show i < 8 by omega) (show (8 : Nat) < 2 ^ 31 by decide), nI_clamp (show i < 2 ^ 31 by omega), nI_1, smI, ↓aft_of (hm)]
    rcases hms with hx | hx
    · simp only [hx, if_true, Int32.add_zero]
    · simp +decide only [hx, if_false]
  simp +decide only [x68_0, x68_1, x68_2, x68_3, x68_7, x68_8, x68_11, x68_14, x68_15, x68_18, x68_20, x68_21, x68_22, x68_23, x68_26, x68_29, x68_32, x68_35, x68_38, x68_39, aft_some, aft_void, Option.bind_some, Option.toList_some, Option.toList_none, List.cons_append, List.nil_append, if_true, if_false, ↓reduceIte, eq_self]
  rw [show X 68 5 [.ref (o + 7), .int (nI k), .int d, .int 0, .int 0] [] (H T P) = _ from loop_up (fun i => X 68 5 [.ref (o + 7), .int (nI k), .int d, .int (smI (fun i => msI T k d (P (o + 8) i)) i), .int (nI i)] [] (H T P)) n hstep, x68_5]
  simp +decide only [x68_0, x68_1, x68_2, x68_3, x68_7, x68_8, x68_11, x68_14, x68_15, x68_18, x68_20, x68_21, x68_22, x68_23, x68_26, x68_29, x68_32, x68_35, x68_38, x68_39, aft_some, aft_void, Option.bind_some, Option.toList_some, Option.toList_none, List.cons_append, List.nil_append, if_true, if_false, ↓reduceIte, eq_self, f7_o ho, ↓f7_0 ho, ↓f7_1 ho, ↓f7_1p ho, ↓f7_2 ho, ↓f7_2p ho, ↓f8_g ho, hn, nI_nlt (Nat.le_refl n) (show n < 2 ^ 31 by omega)]
theorem c_lowestMissing (ho : isB o) (hP : PK P o) (hn : T (o + 7) 1 = nI n) (h8 : n ≤ 8) {k : Nat} (hk4 : k < 4) (d : Int32) : X 69 0 [.ref (o + 7), .int (nI k), .int d, .long 0] [] (H T P) = some (some (.int (match fstN (fun i => msI T k d (P (o + 8) i) = 1) 0 n with
    | some i => T (P (o + 8) i) 0
    | none => -5)), H T P) := by
  have key : ∀ m i, i + m = n → X 69 2 [.ref (o + 7), .int (nI k), .int d, .int (nI i)] [] (H T P) = some (some (.int (match fstN (fun i => msI T k d (P (o + 8) i) = 1) i m with
    | some i => T (P (o + 8) i) 0
    | none => -5)), H T P) := by
    intro m
    induction m with
    | zero =>
      intro i hi
      have hi : i = n := by omega
      subst hi
      rw [x69_2]
      simp +decide only [x69_0, x69_1, x69_3, x69_4, x69_7, x69_10, x69_11, x69_14, x69_15, x69_16, x69_17, x69_18, x69_21, x69_24, x69_25, x69_28, x69_29, x69_30, x69_33, x69_34, x69_37, x69_40, x69_42, aft_some, aft_void, Option.bind_some, Option.toList_some, Option.toList_none, List.cons_append, List.nil_append, if_true, if_false, ↓reduceIte, eq_self, f7_o ho, ↓f7_0 ho, ↓f7_1 ho, ↓f7_1p ho, ↓f7_2 ho, ↓f7_2p ho, ↓f8_g ho, hn, nI_nlt (Nat.le_refl i) (show i < 2 ^ 31 by omega), fstN]
    | succ m ih =>
      intro i hi
      have hk := hP.k ho (show i < 8 by omega)
      have hm := c_misses (T := T) (P := P) hk k hk4 d
      have hms := msI_01 (T := T) (b := P (o + 8) i) (k := k) (d := d)
      have e : (if 0 < T (P (o + 8) i + 3) k ∧ dgI (T (P (o + 8) i) 3) k = d then (1 : Int32) else 0) = msI T k d (P (o + 8) i) := rfl
      rw [e] at hm
      rw [x69_2]
      simp +decide only [x69_0, x69_1, x69_3, x69_4, x69_7, x69_10, x69_11, x69_14, x69_15, x69_16, x69_17, x69_18, x69_21, x69_24, x69_25, x69_28, x69_29, x69_30, x69_33, x69_34, x69_37, x69_40, x69_42, aft_some, aft_void, Option.bind_some, Option.toList_some, Option.toList_none, List.cons_append, List.nil_append, if_true, if_false, ↓reduceIte, eq_self, f7_o ho, ↓f7_0 ho, ↓f7_1 ho, ↓f7_1p ho, ↓f7_2 ho, ↓f7_2p ho, ↓f8_g ho, fK_o hk, ↓fK_0 hk, ↓fK_0p hk, ↓fK_1 hk, ↓fK_1p hk, ↓fK_2 hk, ↓fK_2p hk, ↓fK_3 hk, ↓fK_3p hk, ↓fK_4 hk, ↓fK_4p hk, ↓fK_5 hk, ↓fK_6 hk, ↓fK_7 hk, ↓fK1_g hk, ↓fK1_s hk, ↓fK2_g hk, ↓fK2_s hk, ↓fK3_g hk, ↓fK3_s hk, hn, nI_lt (show i < n by omega) (show n < 2 ^ 31 by omega), okx_nI (show i < 8 by omega) (show (8 : Nat) < 2 ^ 31 by decide), nI_clamp (show i < 2 ^ 31 by omega), nI_1, fstN, ↓aft_of (hm)]
      rcases hms with hx | hx
      · simp +decide only [hx, if_true, if_false]
        exact ih (i + 1) (by omega)
      · simp +decide only [hx, if_true, if_false]
  simp +decide only [x69_0, x69_1, x69_3, x69_4, x69_7, x69_10, x69_11, x69_14, x69_15, x69_16, x69_17, x69_18, x69_21, x69_24, x69_25, x69_28, x69_29, x69_30, x69_33, x69_34, x69_37, x69_40, x69_42, aft_some, aft_void, Option.bind_some, Option.toList_some, Option.toList_none, List.cons_append, List.nil_append, if_true, if_false, ↓reduceIte, eq_self]
  exact key n 0 (by omega)
theorem c_onPieces (ho : isB o) (hP : PK P o) (hn : T (o + 7) 1 = nI n) (h8 : n ≤ 8) : X 70 0 [.ref (o + 7), .long 0, .long 0] [] (H T P) = some (some (.int (smI (fun i => nhI (T (P (o + 8) i + 2))) n)), H T P) := by
  have hstep : ∀ i, i < n → X 70 4 [.ref (o + 7), .int (smI (fun i => nhI (T (P (o + 8) i + 2))) i), .int (nI i)] [] (H T P) = X 70 4 [.ref (o + 7), .int (smI (fun i => nhI (T (P (o + 8) i + 2))) (i + 1)), .int (nI (i + 1))] [] (H T P) := by
    intro i hi
    have hk := hP.k ho (show i < 8 by omega)
    rw [x70_4]
    simp +decide only [x70_0, x70_1, x70_2, x70_3, x70_5, x70_6, x70_9, x70_12, x70_13, x70_14, x70_17, x70_18, x70_19, x70_22, x70_25, x70_26, x70_27, x70_30, x70_33, x70_34, aft_some, aft_void, Option.bind_some, Option.toList_some, Option.toList_none, List.cons_append, List.nil_append, if_true, if_false, ↓reduceIte, eq_self, f7_o ho, ↓f7_0 ho, ↓f7_1 ho, ↓f7_1p ho, ↓f7_2 ho, ↓f7_2p ho, ↓f8_g ho, fK_o hk, ↓fK_0 hk, ↓fK_0p hk, ↓fK_1 hk, ↓fK_1p hk, ↓fK_2 hk, ↓fK_2p hk, ↓fK_3 hk, ↓fK_3p hk, ↓fK_4 hk, ↓fK_4p hk, ↓fK_5 hk, ↓fK_6 hk, ↓fK_7 hk, ↓fK1_g hk, ↓fK1_s hk, ↓fK2_g hk, ↓fK2_s hk, ↓fK3_g hk, ↓fK3_s hk, hn, nI_lt hi (show n < 2 ^ 31 by omega), okx_nI (show i < 8 by omega) (show (8 : Nat) < 2 ^ 31 by decide), nI_clamp (show i < 2 ^ 31 by omega), nI_1, smI, ↓aft_of (c_needing (sh_k hk).2.2.1)]
  simp +decide only [x70_0, x70_1, x70_2, x70_3, x70_5, x70_6, x70_9, x70_12, x70_13, x70_14, x70_17, x70_18, x70_19, x70_22, x70_25, x70_26, x70_27, x70_30, x70_33, x70_34, aft_some, aft_void, Option.bind_some, Option.toList_some, Option.toList_none, List.cons_append, List.nil_append, if_true, if_false, ↓reduceIte, eq_self]
  rw [show X 70 4 [.ref (o + 7), .int 0, .int 0] [] (H T P) = _ from loop_up (fun i => X 70 4 [.ref (o + 7), .int (smI (fun i => nhI (T (P (o + 8) i + 2))) i), .int (nI i)] [] (H T P)) n hstep, x70_4]
  simp +decide only [x70_0, x70_1, x70_2, x70_3, x70_5, x70_6, x70_9, x70_12, x70_13, x70_14, x70_17, x70_18, x70_19, x70_22, x70_25, x70_26, x70_27, x70_30, x70_33, x70_34, aft_some, aft_void, Option.bind_some, Option.toList_some, Option.toList_none, List.cons_append, List.nil_append, if_true, if_false, ↓reduceIte, eq_self, f7_o ho, ↓f7_0 ho, ↓f7_1 ho, ↓f7_1p ho, ↓f7_2 ho, ↓f7_2p ho, ↓f8_g ho, hn, nI_nlt (Nat.le_refl n) (show n < 2 ^ 31 by omega)]
/-- a basket's place is taken -/
theorem c_add (ho : isB o) (hP : PK P o) (hn : T (o + 7) 1 = nI n) (h8 : n < 8) : ∃ T', X 63 0 [.ref (o + 7), .long 0, .long 0] [] (H T P) = some (some (.ref (P (o + 8) n)), H T' P) ∧
    (∀ a, a ≠ o + 7 → a ≠ P (o + 8) n → T' a = T a) ∧ T' (o + 7) 1 = nI (n + 1) ∧ T' (o + 7) 2 = T (o + 7) 2 + 1 ∧ T' (P (o + 8) n) 0 = T (o + 7) 2 ∧ T' (P (o + 8) n) 2 = fpI (usI (fun i => T (P (o + 8) i) 2) n) := by
  have hk := hP.k ho h8
  have hr := hP.rg h8
  have hp := c_freePin (T := T) (P := P) ho hP hn (by omega)
  have hne : P (o + 8) n ≠ o + 7 := by omega
  have g1 : ∀ (U : Nat → Nat → Int32) f, upA U (P (o + 8) n) f (o + 7) = U (o + 7) := fun U f => upA_n _ _ hne.symm
  have g2 : ∀ (U : Nat → Nat → Int32) f, upA U (o + 7) f (P (o + 8) n) = U (P (o + 8) n) := fun U f => upA_n _ _ hne
  refine ⟨_, by
    simp +decide only [x63_0, x63_1, x63_4, x63_5, x63_6, x63_9, x63_10, x63_13, x63_14, x63_14N, x63_15, x63_15N, x63_16, x63_17, x63_20, x63_23, x63_23N, x63_24, x63_25, x63_28, x63_29, x63_30, x63_33, x63_34, x63_35, x63_38, x63_39, x63_40, x63_43, x63_44, x63_45, x63_48, x63_48N, x63_49, x63_49N, aft_some, aft_void, Option.bind_some, Option.toList_some, Option.toList_none, List.cons_append, List.nil_append, if_true, if_false, ↓reduceIte, eq_self, f7_o ho, ↓f7_0 ho, ↓f7_1 ho, ↓f7_1p ho, ↓f7_2 ho, ↓f7_2p ho, ↓f8_g ho, fK_o hk, ↓fK_0 hk, ↓fK_0p hk, ↓fK_1 hk, ↓fK_1p hk, ↓fK_2 hk, ↓fK_2p hk, ↓fK_3 hk, ↓fK_3p hk, ↓fK_4 hk, ↓fK_4p hk, ↓fK_5 hk, ↓fK_6 hk, ↓fK_7 hk, ↓fK1_g hk, ↓fK1_s hk, ↓fK2_g hk, ↓fK2_s hk, ↓fK3_g hk, ↓fK3_s hk, ↓aft_of (hp), hn, okx_nI h8 (show (8 : Nat) < 2 ^ 31 by decide), nI_clamp (show n < 2 ^ 31 by omega), nI_1, upA_s, u_oo, u_o0, u_0o, u_n, g1, g2]
    rfl, ?_, ?_, ?_, ?_, ?_⟩
  · intro a h7 hb
    simp only [upA_n _ _ h7, upA_n _ _ hb]
  · simp +decide only [upA_s, u_n]
  · simp +decide only [upA_s, u_n]
  · simp +decide only [upA_s, u_n, g2]
  · simp +decide only [upA_s, u_n, g2]
end SH
