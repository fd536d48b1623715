/-! the reference's order, and who is next -/
theorem sH.n {f : Nat → Int32} {N : Nat → Nat} {V : Nat → Nat → Int32} {n : Nat} (h : sH f N V n) : f 16 = nI n := h.2.2.2.2.1.2.1
theorem sH.d {f : Nat → Int32} {N : Nat → Nat} {V : Nat → Nat → Int32} {n : Nat} (h : sH f N V n) : f 4 = nI (N 0) := h.2.1.1
/-- what the place of a number answers -/
noncomputable def plI (x : Int32) (K : List kT) : Int32 := match wnK x K with
  | some i => nI i
  | none => -5
/-- the reference's key of a basket -/
def kyK (N : Nat → Nat) (V : Nat → Nat → Int32) (b : kT) : Int32 := if V 1 0 = 0 then 0 else if V 1 0 = 1 then nvI 99999 (V 2 (V 4 (b 0 1).toNatClampNeg).toNatClampNeg) (N 0) else omK b
theorem nv_or (v : Int32) (D : Nat) : (∀ z, nvI z v D = z) ∨ ∃ a, a ≤ 7 ∧ ∀ z, nvI z v D = nI (D + a) := by
  unfold nvI
  by_cases h1 : vsI v (D + 1) = 0
  · simp only [h1, if_true]
    by_cases h2 : vsI v (D + 2) = 0
    · simp only [h2, if_true]
      by_cases h3 : vsI v (D + 3) = 0
      · simp only [h3, if_true]
        by_cases h4 : vsI v (D + 4) = 0
        · simp only [h4, if_true]
          by_cases h5 : vsI v (D + 5) = 0
          · simp only [h5, if_true]
            by_cases h6 : vsI v (D + 6) = 0
            · simp only [h6, if_true]
              by_cases h7 : vsI v (D + 7) = 0
              · simp only [h7, if_true]; exact Or.inl (fun _ => trivial)
              · simp only [h7, if_false]; exact Or.inr ⟨7, by decide, fun _ => rfl⟩
            · simp only [h6, if_false]; exact Or.inr ⟨6, by decide, fun _ => rfl⟩
          · simp only [h5, if_false]; exact Or.inr ⟨5, by decide, fun _ => rfl⟩
        · simp only [h4, if_false]; exact Or.inr ⟨4, by decide, fun _ => rfl⟩
      · simp only [h3, if_false]; exact Or.inr ⟨3, by decide, fun _ => rfl⟩
    · simp only [h2, if_false]; exact Or.inr ⟨2, by decide, fun _ => rfl⟩
  · simp only [h1, if_false]; exact Or.inr ⟨1, by decide, fun _ => rfl⟩
theorem nv_toInt {v : Int32} {D : Nat} (hD : D ≤ 10100) : ((nvI 99999 v D).toInt = 99999 ∧ (nvI 1000000 v D).toInt = 1000000) ∨ ∃ a : Nat, a ≤ 10107 ∧ (nvI 99999 v D).toInt = a ∧ (nvI 1000000 v D).toInt = a := by
  rcases nv_or v D with h | ⟨a, ha, h⟩
  · rw [h, h]; exact Or.inl ⟨by decide, by decide⟩
  · rw [h, h]; exact Or.inr ⟨D + a, by omega, nI_toInt (by omega), nI_toInt (by omega)⟩
section NX
variable {T : Nat → Nat → Int32} {P : Nat → Nat → Nat} {f : Nat → Int32} {N : Nat → Nat} {V : Nat → Nat → Int32} {K : List kT} {B : List bT} {R : Nat → Nat → Int32} {x : Int32} {i : Nat}
/-- the two orders are one -/
theorem ky_tn (hw : WF N V K B) {i j : Nat} (hi : i < K.length) (hj : j < K.length) : ltO (fun i => kyK N V (gK K i)) i j ↔ ltO (fun i => tnK N V (gK K i)) i j := by
  rw [ltO_i, ltO_i]
  obtain ⟨d, hd, ed⟩ := hw.2.2.1.1
  have hD := hw.1.1
  simp only [kyK, tnK, ed]
  match d, hd with
  | 0, _ =>
    have e1 : ¬ nI 0 = 1 := by decide
    have e2 : ¬ nI 0 = 2 := by decide
    simp +decide only [e1, e2, if_false, show nI 0 = 0 from rfl, if_true, show ((0 : Int32).toInt < (0 : Int32).toInt) = False by decide, false_or, true_and]
    by_cases hij : i < j
    · obtain ⟨a, b, h1, h2, h3, h4⟩ := hw.2.2.2.2.1 i j _ _ hij (gK_at hi) (gK_at hj)
      have hN2 := hw.1.2.2.1
      rw [h3, h4, nI_toInt (by omega), nI_toInt (by omega)]
      omega
    · by_cases hji : j < i
      · obtain ⟨a, b, h1, h2, h3, h4⟩ := hw.2.2.2.2.1 j i _ _ hji (gK_at hj) (gK_at hi)
        have hN2 := hw.1.2.2.1
        rw [h3, h4, nI_toInt (by omega), nI_toInt (by omega)]
        omega
      · have : i = j := by omega
        subst this
        omega
  | 1, _ =>
    have e1 : ¬ nI 1 = 0 := by decide
    simp +decide only [e1, if_false, show nI 1 = 1 from rfl, if_true]
    have h1 := nv_toInt (v := V 2 (V 4 (gK K i 0 1).toNatClampNeg).toNatClampNeg) hD
    have h2 := nv_toInt (v := V 2 (V 4 (gK K j 0 1).toNatClampNeg).toNatClampNeg) hD
    rcases h1 with ⟨a1, a2⟩ | ⟨a, ha, a1, a2⟩ <;> rcases h2 with ⟨b1, b2⟩ | ⟨b, hb, b1, b2⟩ <;> rw [a1, a2, b1, b2] <;> omega
  | 2, _ =>
    have e1 : ¬ nI 2 = 0 := by decide
    have e2 : ¬ nI 2 = 1 := by decide
    simp +decide only [e1, e2, if_false, show nI 2 = 2 from rfl, if_true]
theorem rd_E {b : kT} (h : ∀ k, k < 4 → ∃ x y z, x ≤ 9 ∧ y + z ≤ x ∧ b 1 k = nI x ∧ b 2 k = nI y ∧ b 3 k = nI z) : rdE b = rdK b := by
  have key : ∀ k, k < 4 → (b 2 k = b 1 k ↔ ¬ b 2 k < b 1 k) := by
    intro k hk
    obtain ⟨x, y, z, h1, h2, e1, e2, -⟩ := h k hk
    rw [e1, e2, nI_inj (by omega) (by omega), nI_ltp (by omega) (by omega)]
    omega
  unfold rdE rdK
  by_cases c0 : b 2 0 < b 1 0
  · rw [if_pos c0, if_neg (fun q => (key 0 (by decide)).mp q c0)]
  rw [if_neg c0, if_pos ((key 0 (by decide)).mpr c0)]
  by_cases c1 : b 2 1 < b 1 1
  · rw [if_pos c1, if_neg (fun q => (key 1 (by decide)).mp q c1)]
  rw [if_neg c1, if_pos ((key 1 (by decide)).mpr c1)]
  by_cases c2 : b 2 2 < b 1 2
  · rw [if_pos c2, if_neg (fun q => (key 2 (by decide)).mp q c2)]
  rw [if_neg c2, if_pos ((key 2 (by decide)).mpr c2)]
  by_cases c3 : b 2 3 < b 1 3
  · rw [if_pos c3, if_neg (fun q => (key 3 (by decide)).mp q c3)]
  rw [if_neg c3, if_pos ((key 3 (by decide)).mpr c3)]
theorem WF.rdE (hw : WF N V K B) (hi : i < K.length) : rdE (gK K i) = rdK (gK K i) := rd_E (hw.2.2.2.1 i _ (gK_at hi)).2.2.2.2
theorem WF.wn (hw : WF N V K B) : lsF (fun i => gK K i 0 0 = x) K.length = wnK x K := by
  refine ls_fst (fun i j hi hj h1 h2 => ?_)
  have hN2 := hw.1.2.2.1
  apply Classical.byContradiction
  intro hn
  rcases Nat.lt_or_gt_of_ne hn with hij | hij
  · obtain ⟨a, b, g1, g2, g3, g4⟩ := hw.2.2.2.2.1 i j _ _ hij (gK_at hi) (gK_at hj)
    have : nI a = nI b := by rw [← g3, ← g4, h1, h2]
    rw [nI_inj (by omega) (by omega)] at this
    omega
  · obtain ⟨a, b, g1, g2, g3, g4⟩ := hw.2.2.2.2.1 j i _ _ hij (gK_at hj) (gK_at hi)
    have : nI a = nI b := by rw [← g3, ← g4, h1, h2]
    rw [nI_inj (by omega) (by omega)] at this
    omega
theorem r_placeOf (h : sR f N V K B R) (hw : WF N V K B) : X 130 0 [.ref 366, .int x, .long 0, .long 0] [] (H (upA T 367 f) P) = some (some (.int (plI x K)), H (upA T 367 f) P) := by
  have h8 := hw.1.2.2.2.1
  have h16 := h.1.n
  have hstep : ∀ i, i < K.length → X 130 5 [.ref 366, .int x, .int (match lsF (fun i => gK K i 0 0 = x) i with
      | some j => nI j
      | none => -5), .int (nI i)] [] (H (upA T 367 f) P) = X 130 5 [.ref 366, .int x, .int (match lsF (fun i => gK K i 0 0 = x) (i + 1) with
      | some j => nI j
      | none => -5), .int (nI (i + 1))] [] (H (upA T 367 f) P) := by
    intro i hi
    have e := r_of (T := T) (P := P) (f := f) (i := i) (w := 0) (y := 0) rfl (by omega) (by decide)
    rw [(h.2.2.2.1 i hi).1.1] at e
    have hlt : nI i < nI K.length := nI_lt hi (by omega)
    rw [x130_5]
    by_cases c : gK K i 0 0 = x
    · have hl : lsF (fun i => gK K i 0 0 = x) (i + 1) = some i := if_pos c
      rw [hl]
      simp +decide only [x130_0, x130_2, x130_3, x130_4, x130_6, x130_6N, x130_7, x130_10, x130_12, x130_13, x130_16, x130_16N, x130_17, x130_18, x130_19, x130_22, x130_23, x130_26, x130_27, x130_30, x130_31, x130_32, x130_35, x130_38, x130_39, aft_some, aft_void, Option.bind_some, Option.toList_some, Option.toList_none, List.cons_append, List.nil_append, if_true, if_false, ↓reduceIte, eq_self, z366_o, ↓z366_0, ↓z366_0p, ↓z366_1, ↓z366_2, ↓z366_3, ↓z366_4, ↓z366_4p, ↓z366_5, ↓z366_6, ↓z366_6p0, ↓z366_6p1, ↓z366_7, ↓z366_8, ↓z366_8p, ↓z366_9, ↓z366_9p, ↓z366_10, ↓z366_10p0, ↓z366_10p1, ↓z366_11, ↓z366_12, ↓z366_12p, ↓sg0, ↓sg1, ↓sg2, ↓sg3, ↓sg4, ↓sg5, ↓sg6, ↓sg7, ↓sg8, ↓sg9, ↓sg10, ↓sg11, ↓sg12, ↓sg13, ↓sg14, ↓sg15, ↓sg16, ↓sg17, ↓ss0, ↓ss1, ↓ss2, ↓ss3, ↓ss4, ↓ss5, ↓ss6, ↓ss7, ↓ss8, ↓ss9, ↓ss10, ↓ss11, ↓ss12, ↓ss13, ↓ss14, ↓ss15, ↓ss16, ↓ss17, h16, hlt, ↓aft_of (e), c, nI_1]
    · have hl : lsF (fun i => gK K i 0 0 = x) (i + 1) = lsF (fun i => gK K i 0 0 = x) i := if_neg c
      rw [hl]
      simp +decide only [x130_0, x130_2, x130_3, x130_4, x130_6, x130_6N, x130_7, x130_10, x130_12, x130_13, x130_16, x130_16N, x130_17, x130_18, x130_19, x130_22, x130_23, x130_26, x130_27, x130_30, x130_31, x130_32, x130_35, x130_38, x130_39, aft_some, aft_void, Option.bind_some, Option.toList_some, Option.toList_none, List.cons_append, List.nil_append, if_true, if_false, ↓reduceIte, eq_self, z366_o, ↓z366_0, ↓z366_0p, ↓z366_1, ↓z366_2, ↓z366_3, ↓z366_4, ↓z366_4p, ↓z366_5, ↓z366_6, ↓z366_6p0, ↓z366_6p1, ↓z366_7, ↓z366_8, ↓z366_8p, ↓z366_9, ↓z366_9p, ↓z366_10, ↓z366_10p0, ↓z366_10p1, ↓z366_11, ↓z366_12, ↓z366_12p, ↓sg0, ↓sg1, ↓sg2, ↓sg3, ↓sg4, ↓sg5, ↓sg6, ↓sg7, ↓sg8, ↓sg9, ↓sg10, ↓sg11, ↓sg12, ↓sg13, ↓sg14, ↓sg15, ↓sg16, ↓sg17, ↓ss0, ↓ss1, ↓ss2, ↓ss3, ↓ss4, ↓ss5, ↓ss6, ↓ss7, ↓ss8, ↓ss9, ↓ss10, ↓ss11, ↓ss12, ↓ss13, ↓ss14, ↓ss15, ↓ss16, ↓ss17, h16, hlt, ↓aft_of (e), c, nI_1]
  simp +decide only [x130_0, x130_2, x130_3, x130_4, x130_6, x130_6N, x130_7, x130_10, x130_12, x130_13, x130_16, x130_16N, x130_17, x130_18, x130_19, x130_22, x130_23, x130_26, x130_27, x130_30, x130_31, x130_32, x130_35, x130_38, x130_39, aft_some, aft_void, Option.bind_some, Option.toList_some, Option.toList_none, List.cons_append, List.nil_append, if_true, if_false, ↓reduceIte, eq_self]
  rw [show X 130 5 [.ref 366, .int x, .int (-5), .int 0] [] (H (upA T 367 f) P) = _ from loop_up (fun i => X 130 5 [.ref 366, .int x, .int (match lsF (fun i => gK K i 0 0 = x) i with
      | some j => nI j
      | none => -5), .int (nI i)] [] (H (upA T 367 f) P)) K.length hstep, x130_5, hw.wn]
  simp +decide only [x130_0, x130_2, x130_3, x130_4, x130_6, x130_6N, x130_7, x130_10, x130_12, x130_13, x130_16, x130_16N, x130_17, x130_18, x130_19, x130_22, x130_23, x130_26, x130_27, x130_30, x130_31, x130_32, x130_35, x130_38, x130_39, aft_some, aft_void, Option.bind_some, Option.toList_some, Option.toList_none, List.cons_append, List.nil_append, if_true, if_false, ↓reduceIte, eq_self, z366_o, ↓z366_0, ↓z366_0p, ↓z366_1, ↓z366_2, ↓z366_3, ↓z366_4, ↓z366_4p, ↓z366_5, ↓z366_6, ↓z366_6p0, ↓z366_6p1, ↓z366_7, ↓z366_8, ↓z366_8p, ↓z366_9, ↓z366_9p, ↓z366_10, ↓z366_10p0, ↓z366_10p1, ↓z366_11, ↓z366_12, ↓z366_12p, ↓sg0, ↓sg1, ↓sg2, ↓sg3, ↓sg4, ↓sg5, ↓sg6, ↓sg7, ↓sg8, ↓sg9, ↓sg10, ↓sg11, ↓sg12, ↓sg13, ↓sg14, ↓sg15, ↓sg16, ↓sg17, ↓ss0, ↓ss1, ↓ss2, ↓ss3, ↓ss4, ↓ss5, ↓ss6, ↓ss7, ↓ss8, ↓ss9, ↓ss10, ↓ss11, ↓ss12, ↓ss13, ↓ss14, ↓ss15, ↓ss16, ↓ss17, h16, nI_nlt (Nat.le_refl K.length) (show K.length < 2 ^ 31 by omega)]
  rfl
theorem r_readyMany (h : sR f N V K B R) (hw : WF N V K B) : X 140 0 [.ref 366, .long 0, .long 0] [] (H (upA T 367 f) P) = some (some (.int (smI (fun i => rdK (gK K i)) K.length)), H (upA T 367 f) P) := by
  have h8 := hw.1.2.2.2.1
  have h16 := h.1.n
  have hstep : ∀ i, i < K.length → X 140 4 [.ref 366, .int (smI (fun i => rdK (gK K i)) i), .int (nI i)] [] (H (upA T 367 f) P) = X 140 4 [.ref 366, .int (smI (fun i => rdK (gK K i)) (i + 1)), .int (nI (i + 1))] [] (H (upA T 367 f) P) := by
    intro i hi
    have e := r_isReady (T := T) (P := P) (h.2.2.2.1 i hi) (show i < 8 by omega)
    rw [hw.rdE hi] at e
    have hlt : nI i < nI K.length := nI_lt hi (by omega)
    have h01 : rdK (gK K i) = 0 ∨ rdK (gK K i) = 1 := by
      unfold rdK
      repeat' split
      all_goals simp
    rw [x140_4]
    rcases h01 with hx | hx
    · rw [hx] at e
      simp +decide only [x140_0, x140_1, x140_2, x140_3, x140_5, x140_5N, x140_6, x140_9, x140_11, x140_12, x140_15, x140_16, x140_16N, x140_17, x140_18, x140_21, x140_24, x140_25, x140_28, x140_29, x140_30, x140_31, x140_34, x140_37, x140_38, aft_some, aft_void, Option.bind_some, Option.toList_some, Option.toList_none, List.cons_append, List.nil_append, if_true, if_false, ↓reduceIte, eq_self, z366_o, ↓z366_0, ↓z366_0p, ↓z366_1, ↓z366_2, ↓z366_3, ↓z366_4, ↓z366_4p, ↓z366_5, ↓z366_6, ↓z366_6p0, ↓z366_6p1, ↓z366_7, ↓z366_8, ↓z366_8p, ↓z366_9, ↓z366_9p, ↓z366_10, ↓z366_10p0, ↓z366_10p1, ↓z366_11, ↓z366_12, ↓z366_12p, ↓sg0, ↓sg1, ↓sg2, ↓sg3, ↓sg4, ↓sg5, ↓sg6, ↓sg7, ↓sg8, ↓sg9, ↓sg10, ↓sg11, ↓sg12, ↓sg13, ↓sg14, ↓sg15, ↓sg16, ↓sg17, ↓ss0, ↓ss1, ↓ss2, ↓ss3, ↓ss4, ↓ss5, ↓ss6, ↓ss7, ↓ss8, ↓ss9, ↓ss10, ↓ss11, ↓ss12, ↓ss13, ↓ss14, ↓ss15, ↓ss16, ↓ss17, h16, hlt, ↓aft_of (e), nI_1, smI, hx]
    · rw [hx] at e
      simp +decide only [x140_0, x140_1, x140_2, x140_3, x140_5, x140_5N, x140_6, x140_9, x140_11, x140_12, x140_15, x140_16, x140_16N, x140_17, x140_18, x140_21, x140_24, x140_25, x140_28, x140_29, x140_30, x140_31, x140_34, x140_37, x140_38, aft_some, aft_void, Option.bind_some, Option.toList_some, Option.toList_none, List.cons_append, List.nil_append, if_true, if_false, ↓reduceIte, eq_self, z366_o, ↓z366_0, ↓z366_0p, ↓z366_1, ↓z366_2, ↓z366_3, ↓z366_4, ↓z366_4p, ↓z366_5, ↓z366_6, ↓z366_6p0, ↓z366_6p1, ↓z366_7, ↓z366_8, ↓z366_8p, ↓z366_9, ↓z366_9p, ↓z366_10, ↓z366_10p0, ↓z366_10p1, ↓z366_11, ↓z366_12, ↓z366_12p, ↓sg0, ↓sg1, ↓sg2, ↓sg3, ↓sg4, ↓sg5, ↓sg6, ↓sg7, ↓sg8, ↓sg9, ↓sg10, ↓sg11, ↓sg12, ↓sg13, ↓sg14, ↓sg15, ↓sg16, ↓sg17, ↓ss0, ↓ss1, ↓ss2, ↓ss3, ↓ss4, ↓ss5, ↓ss6, ↓ss7, ↓ss8, ↓ss9, ↓ss10, ↓ss11, ↓ss12, ↓ss13, ↓ss14, ↓ss15, ↓ss16, ↓ss17, h16, hlt, ↓aft_of (e), nI_1, smI, hx]
  simp +decide only [x140_0, x140_1, x140_2, x140_3, x140_5, x140_5N, x140_6, x140_9, x140_11, x140_12, x140_15, x140_16, x140_16N, x140_17, x140_18, x140_21, x140_24, x140_25, x140_28, x140_29, x140_30, x140_31, x140_34, x140_37, x140_38, aft_some, aft_void, Option.bind_some, Option.toList_some, Option.toList_none, List.cons_append, List.nil_append, if_true, if_false, ↓reduceIte, eq_self]
  rw [show X 140 4 [.ref 366, .int 0, .int 0] [] (H (upA T 367 f) P) = _ from loop_up (fun i => X 140 4 [.ref 366, .int (smI (fun i => rdK (gK K i)) i), .int (nI i)] [] (H (upA T 367 f) P)) K.length hstep, x140_4]
  simp +decide only [x140_0, x140_1, x140_2, x140_3, x140_5, x140_5N, x140_6, x140_9, x140_11, x140_12, x140_15, x140_16, x140_16N, x140_17, x140_18, x140_21, x140_24, x140_25, x140_28, x140_29, x140_30, x140_31, x140_34, x140_37, x140_38, aft_some, aft_void, Option.bind_some, Option.toList_some, Option.toList_none, List.cons_append, List.nil_append, if_true, if_false, ↓reduceIte, eq_self, z366_o, ↓z366_0, ↓z366_0p, ↓z366_1, ↓z366_2, ↓z366_3, ↓z366_4, ↓z366_4p, ↓z366_5, ↓z366_6, ↓z366_6p0, ↓z366_6p1, ↓z366_7, ↓z366_8, ↓z366_8p, ↓z366_9, ↓z366_9p, ↓z366_10, ↓z366_10p0, ↓z366_10p1, ↓z366_11, ↓z366_12, ↓z366_12p, ↓sg0, ↓sg1, ↓sg2, ↓sg3, ↓sg4, ↓sg5, ↓sg6, ↓sg7, ↓sg8, ↓sg9, ↓sg10, ↓sg11, ↓sg12, ↓sg13, ↓sg14, ↓sg15, ↓sg16, ↓sg17, ↓ss0, ↓ss1, ↓ss2, ↓ss3, ↓ss4, ↓ss5, ↓ss6, ↓ss7, ↓ss8, ↓ss9, ↓ss10, ↓ss11, ↓ss12, ↓ss13, ↓ss14, ↓ss15, ↓ss16, ↓ss17, h16, nI_nlt (Nat.le_refl K.length) (show K.length < 2 ^ 31 by omega)]
theorem r_keyOf (h : sR f N V K B R) (hw : WF N V K B) (hi : i < K.length) : X 158 0 [.ref 366, .int (nI i)] [] (H (upA T 367 f) P) = some (some (.int (kyK N V (gK K i))), H (upA T 367 f) P) := by
  have h8 := hw.1.2.2.2.1
  have hN1 := hw.1.2.1
  have hb := h.2.2.2.1 i hi
  have e0 : f 0 = V 1 0 := h.1.1 0 (by decide)
  obtain ⟨⟨c, hc, ec⟩, -⟩ := hw.2.2.2.1 i _ (gK_at hi)
  obtain ⟨d, hd, ed⟩ := hw.2.1 c hc
  have e1 := r_of (T := T) (P := P) (f := f) (i := i) (w := 1) (y := 1) rfl (by omega) (by decide)
  rw [hb.1.2.1, ec] at e1
  have e2 := r_ofCust (T := T) (P := P) (f := f) (i := c) (w := 0) (y := 0) rfl (by omega) (by decide)
  rw [(h.2.1 c (by omega)).1 hc, ed] at e2
  have e3 := r_nextVisit (T := T) (P := P) h.1.d hw.1.1 hd
  rw [h.1.2.2.2.2.2.1 d hd] at e3
  have e4 := r_minutesLeft (T := T) (P := P) hb (by omega)
  unfold kyK
  rw [ec, nI_clamp (by omega), ed, nI_clamp (by omega)]
  by_cases o0 : V 1 0 = 0
  · simp +decide only [x158_0, x158_0N, x158_1, x158_4, x158_5, x158_6, x158_9, x158_10, x158_13, x158_13N, x158_14, x158_17, x158_18, x158_19, x158_20, x158_23, x158_23N, x158_24, x158_24N, x158_25, x158_25N, x158_26, x158_27, x158_28, x158_31, x158_32, x158_35, x158_38, x158_41, x158_41N, x158_42, x158_43, x158_46, aft_some, aft_void, Option.bind_some, Option.toList_some, Option.toList_none, List.cons_append, List.nil_append, if_true, if_false, ↓reduceIte, eq_self, z366_o, ↓z366_0, ↓z366_0p, ↓z366_1, ↓z366_2, ↓z366_3, ↓z366_4, ↓z366_4p, ↓z366_5, ↓z366_6, ↓z366_6p0, ↓z366_6p1, ↓z366_7, ↓z366_8, ↓z366_8p, ↓z366_9, ↓z366_9p, ↓z366_10, ↓z366_10p0, ↓z366_10p1, ↓z366_11, ↓z366_12, ↓z366_12p, ↓sg0, ↓sg1, ↓sg2, ↓sg3, ↓sg4, ↓sg5, ↓sg6, ↓sg7, ↓sg8, ↓sg9, ↓sg10, ↓sg11, ↓sg12, ↓sg13, ↓sg14, ↓sg15, ↓sg16, ↓sg17, ↓ss0, ↓ss1, ↓ss2, ↓ss3, ↓ss4, ↓ss5, ↓ss6, ↓ss7, ↓ss8, ↓ss9, ↓ss10, ↓ss11, ↓ss12, ↓ss13, ↓ss14, ↓ss15, ↓ss16, ↓ss17, e0, o0]
  · by_cases o1 : V 1 0 = 1
    · simp +decide only [x158_0, x158_0N, x158_1, x158_4, x158_5, x158_6, x158_9, x158_10, x158_13, x158_13N, x158_14, x158_17, x158_18, x158_19, x158_20, x158_23, x158_23N, x158_24, x158_24N, x158_25, x158_25N, x158_26, x158_27, x158_28, x158_31, x158_32, x158_35, x158_38, x158_41, x158_41N, x158_42, x158_43, x158_46, aft_some, aft_void, Option.bind_some, Option.toList_some, Option.toList_none, List.cons_append, List.nil_append, if_true, if_false, ↓reduceIte, eq_self, z366_o, ↓z366_0, ↓z366_0p, ↓z366_1, ↓z366_2, ↓z366_3, ↓z366_4, ↓z366_4p, ↓z366_5, ↓z366_6, ↓z366_6p0, ↓z366_6p1, ↓z366_7, ↓z366_8, ↓z366_8p, ↓z366_9, ↓z366_9p, ↓z366_10, ↓z366_10p0, ↓z366_10p1, ↓z366_11, ↓z366_12, ↓z366_12p, ↓sg0, ↓sg1, ↓sg2, ↓sg3, ↓sg4, ↓sg5, ↓sg6, ↓sg7, ↓sg8, ↓sg9, ↓sg10, ↓sg11, ↓sg12, ↓sg13, ↓sg14, ↓sg15, ↓sg16, ↓sg17, ↓ss0, ↓ss1, ↓ss2, ↓ss3, ↓ss4, ↓ss5, ↓ss6, ↓ss7, ↓ss8, ↓ss9, ↓ss10, ↓ss11, ↓ss12, ↓ss13, ↓ss14, ↓ss15, ↓ss16, ↓ss17, e0, o0, o1, ↓aft_of (e1), ↓aft_of (e2), ↓aft_of (e3)]
    · simp +decide only [x158_0, x158_0N, x158_1, x158_4, x158_5, x158_6, x158_9, x158_10, x158_13, x158_13N, x158_14, x158_17, x158_18, x158_19, x158_20, x158_23, x158_23N, x158_24, x158_24N, x158_25, x158_25N, x158_26, x158_27, x158_28, x158_31, x158_32, x158_35, x158_38, x158_41, x158_41N, x158_42, x158_43, x158_46, aft_some, aft_void, Option.bind_some, Option.toList_some, Option.toList_none, List.cons_append, List.nil_append, if_true, if_false, ↓reduceIte, eq_self, z366_o, ↓z366_0, ↓z366_0p, ↓z366_1, ↓z366_2, ↓z366_3, ↓z366_4, ↓z366_4p, ↓z366_5, ↓z366_6, ↓z366_6p0, ↓z366_6p1, ↓z366_7, ↓z366_8, ↓z366_8p, ↓z366_9, ↓z366_9p, ↓z366_10, ↓z366_10p0, ↓z366_10p1, ↓z366_11, ↓z366_12, ↓z366_12p, ↓sg0, ↓sg1, ↓sg2, ↓sg3, ↓sg4, ↓sg5, ↓sg6, ↓sg7, ↓sg8, ↓sg9, ↓sg10, ↓sg11, ↓sg12, ↓sg13, ↓sg14, ↓sg15, ↓sg16, ↓sg17, ↓ss0, ↓ss1, ↓ss2, ↓ss3, ↓ss4, ↓ss5, ↓ss6, ↓ss7, ↓ss8, ↓ss9, ↓ss10, ↓ss11, ↓ss12, ↓ss13, ↓ss14, ↓ss15, ↓ss16, ↓ss17, e0, o0, o1, ↓aft_of (e4)]
theorem r_ranked (h : sR f N V K B R) (hw : WF N V K B) : X 159 0 [.ref 366, .int x, .long 0, .long 0, .long 0] [] (H (upA T 367 f) P) = some (some (.int (match fstN (fun i => rkI (fun i => kyK N V (gK K i)) K.length i = x) 0 K.length with
    | some i => nI i
    | none => -5)), H (upA T 367 f) P) := by
  have h8 := hw.1.2.2.2.1
  have h16 := h.1.n
  have key : ∀ m i, i + m = K.length → ∀ v3 v4 : Value, X 159 2 [.ref 366, .int x, .int (nI i), v3, v4] [] (H (upA T 367 f) P) = some (some (.int (match fstN (fun i => rkI (fun i => kyK N V (gK K i)) K.length i = x) i m with
      | some i => nI i
      | none => -5)), H (upA T 367 f) P) := by
    intro m
    induction m with
    | zero =>
      intro i hi v3 v4
      have hi : i = K.length := by omega
      subst hi
      rw [x159_2]
      simp +decide only [x159_0, x159_1, x159_3, x159_3N, x159_4, x159_7, x159_9, x159_10, x159_13, x159_14, x159_15, x159_16, x159_20, x159_20N, x159_21, x159_24, x159_26, x159_27, x159_30, x159_31, x159_31N, x159_32, x159_34, x159_37, x159_37N, x159_38, x159_39, x159_42, x159_45, x159_45N, x159_46, x159_48, x159_51, x159_51N, x159_52, x159_53, x159_56, x159_59, x159_61, x159_62, x159_65, x159_66, x159_69, x159_70, x159_71, x159_72, x159_75, x159_78, x159_79, x159_80, x159_83, x159_84, x159_85, x159_88, x159_91, x159_93, aft_some, aft_void, Option.bind_some, Option.toList_some, Option.toList_none, List.cons_append, List.nil_append, if_true, if_false, ↓reduceIte, eq_self, z366_o, ↓z366_0, ↓z366_0p, ↓z366_1, ↓z366_2, ↓z366_3, ↓z366_4, ↓z366_4p, ↓z366_5, ↓z366_6, ↓z366_6p0, ↓z366_6p1, ↓z366_7, ↓z366_8, ↓z366_8p, ↓z366_9, ↓z366_9p, ↓z366_10, ↓z366_10p0, ↓z366_10p1, ↓z366_11, ↓z366_12, ↓z366_12p, ↓sg0, ↓sg1, ↓sg2, ↓sg3, ↓sg4, ↓sg5, ↓sg6, ↓sg7, ↓sg8, ↓sg9, ↓sg10, ↓sg11, ↓sg12, ↓sg13, ↓sg14, ↓sg15, ↓sg16, ↓sg17, ↓ss0, ↓ss1, ↓ss2, ↓ss3, ↓ss4, ↓ss5, ↓ss6, ↓ss7, ↓ss8, ↓ss9, ↓ss10, ↓ss11, ↓ss12, ↓ss13, ↓ss14, ↓ss15, ↓ss16, ↓ss17, h16, nI_nlt (Nat.le_refl K.length) (show K.length < 2 ^ 31 by omega), fstN]
    | succ m ih =>
      intro i hi v3 v4
      have hi' : i < K.length := by omega
      have hlt : nI i < nI K.length := nI_lt hi' (by omega)
      have ei := r_keyOf (T := T) (P := P) h hw hi'
      have hstep : ∀ j, j < K.length → X 159 18 [.ref 366, .int x, .int (nI i), .int (smI (fun j => if kyK N V (gK K j) < kyK N V (gK K i) ∨ (kyK N V (gK K j) = kyK N V (gK K i) ∧ j < i) then 1 else 0) j), .int (nI j)] [] (H (upA T 367 f) P) = X 159 18 [.ref 366, .int x, .int (nI i), .int (smI (fun j => if kyK N V (gK K j) < kyK N V (gK K i) ∨ (kyK N V (gK K j) = kyK N V (gK K i) ∧ j < i) then 1 else 0) (j + 1)), .int (nI (j + 1))] [] (H (upA T 367 f) P) := by
        intro j hj
        have ej := r_keyOf (T := T) (P := P) h hw hj
        have hjl : nI j < nI K.length := nI_lt hj (by omega)
        have hji : (nI j < nI i) = (j < i) := nI_ltp (by omega) (by omega)
        rw [x159_18]
        by_cases c1 : kyK N V (gK K j) < kyK N V (gK K i)
        · simp +decide only [x159_0, x159_1, x159_2, x159_3, x159_3N, x159_4, x159_7, x159_9, x159_10, x159_13, x159_14, x159_15, x159_16, x159_20, x159_20N, x159_21, x159_24, x159_26, x159_27, x159_30, x159_31, x159_31N, x159_32, x159_34, x159_37, x159_37N, x159_38, x159_39, x159_42, x159_45, x159_45N, x159_46, x159_48, x159_51, x159_51N, x159_52, x159_53, x159_56, x159_59, x159_61, x159_62, x159_65, x159_66, x159_69, x159_70, x159_71, x159_72, x159_75, x159_78, x159_79, x159_80, x159_83, x159_84, x159_85, x159_88, x159_91, x159_93, aft_some, aft_void, Option.bind_some, Option.toList_some, Option.toList_none, List.cons_append, List.nil_append, if_true, if_false, ↓reduceIte, eq_self, z366_o, ↓z366_0, ↓z366_0p, ↓z366_1, ↓z366_2, ↓z366_3, ↓z366_4, ↓z366_4p, ↓z366_5, ↓z366_6, ↓z366_6p0, ↓z366_6p1, ↓z366_7, ↓z366_8, ↓z366_8p, ↓z366_9, ↓z366_9p, ↓z366_10, ↓z366_10p0, ↓z366_10p1, ↓z366_11, ↓z366_12, ↓z366_12p, ↓sg0, ↓sg1, ↓sg2, ↓sg3, ↓sg4, ↓sg5, ↓sg6, ↓sg7, ↓sg8, ↓sg9, ↓sg10, ↓sg11, ↓sg12, ↓sg13, ↓sg14, ↓sg15, ↓sg16, ↓sg17, ↓ss0, ↓ss1, ↓ss2, ↓ss3, ↓ss4, ↓ss5, ↓ss6, ↓ss7, ↓ss8, ↓ss9, ↓ss10, ↓ss11, ↓ss12, ↓ss13, ↓ss14, ↓ss15, ↓ss16, ↓ss17, h16, hjl, ↓aft_of (ei), ↓aft_of (ej), c1, nI_1, smI, true_or]
        · by_cases c2 : kyK N V (gK K j) = kyK N V (gK K i)
          · have c1 : ¬ kyK N V (gK K i) < kyK N V (gK K i) := by rw [← c2] at c1 ⊢; rw [c2] at c1 ⊢; exact c1
            rw [c2] at ej
            by_cases c3 : j < i
            · simp +decide only [x159_0, x159_1, x159_2, x159_3, x159_3N, x159_4, x159_7, x159_9, x159_10, x159_13, x159_14, x159_15, x159_16, x159_20, x159_20N, x159_21, x159_24, x159_26, x159_27, x159_30, x159_31, x159_31N, x159_32, x159_34, x159_37, x159_37N, x159_38, x159_39, x159_42, x159_45, x159_45N, x159_46, x159_48, x159_51, x159_51N, x159_52, x159_53, x159_56, x159_59, x159_61, x159_62, x159_65, x159_66, x159_69, x159_70, x159_71, x159_72, x159_75, x159_78, x159_79, x159_80, x159_83, x159_84, x159_85, x159_88, x159_91, x159_93, aft_some, aft_void, Option.bind_some, Option.toList_some, Option.toList_none, List.cons_append, List.nil_append, if_true, if_false, ↓reduceIte, eq_self, z366_o, ↓z366_0, ↓z366_0p, ↓z366_1, ↓z366_2, ↓z366_3, ↓z366_4, ↓z366_4p, ↓z366_5, ↓z366_6, ↓z366_6p0, ↓z366_6p1, ↓z366_7, ↓z366_8, ↓z366_8p, ↓z366_9, ↓z366_9p, ↓z366_10, ↓z366_10p0, ↓z366_10p1, ↓z366_11, ↓z366_12, ↓z366_12p, ↓sg0, ↓sg1, ↓sg2, ↓sg3, ↓sg4, ↓sg5, ↓sg6, ↓sg7, ↓sg8, ↓sg9, ↓sg10, ↓sg11, ↓sg12, ↓sg13, ↓sg14, ↓sg15, ↓sg16, ↓sg17, ↓ss0, ↓ss1, ↓ss2, ↓ss3, ↓ss4, ↓ss5, ↓ss6, ↓ss7, ↓ss8, ↓ss9, ↓ss10, ↓ss11, ↓ss12, ↓ss13, ↓ss14, ↓ss15, ↓ss16, ↓ss17, h16, hjl, ↓aft_of (ei), ↓aft_of (ej), c1, c2, hji, c3, nI_1, smI, false_or, and_self]
            · simp +decide only [x159_0, x159_1, x159_2, x159_3, x159_3N, x159_4, x159_7, x159_9, x159_10, x159_13, x159_14, x159_15, x159_16, x159_20, x159_20N, x159_21, x159_24, x159_26, x159_27, x159_30, x159_31, x159_31N, x159_32, x159_34, x159_37, x159_37N, x159_38, x159_39, x159_42, x159_45, x159_45N, x159_46, x159_48, x159_51, x159_51N, x159_52, x159_53, x159_56, x159_59, x159_61, x159_62, x159_65, x159_66, x159_69, x159_70, x159_71, x159_72, x159_75, x159_78, x159_79, x159_80, x159_83, x159_84, x159_85, x159_88, x159_91, x159_93, aft_some, aft_void, Option.bind_some, Option.toList_some, Option.toList_none, List.cons_append, List.nil_append, if_true, if_false, ↓reduceIte, eq_self, z366_o, ↓z366_0, ↓z366_0p, ↓z366_1, ↓z366_2, ↓z366_3, ↓z366_4, ↓z366_4p, ↓z366_5, ↓z366_6, ↓z366_6p0, ↓z366_6p1, ↓z366_7, ↓z366_8, ↓z366_8p, ↓z366_9, ↓z366_9p, ↓z366_10, ↓z366_10p0, ↓z366_10p1, ↓z366_11, ↓z366_12, ↓z366_12p, ↓sg0, ↓sg1, ↓sg2, ↓sg3, ↓sg4, ↓sg5, ↓sg6, ↓sg7, ↓sg8, ↓sg9, ↓sg10, ↓sg11, ↓sg12, ↓sg13, ↓sg14, ↓sg15, ↓sg16, ↓sg17, ↓ss0, ↓ss1, ↓ss2, ↓ss3, ↓ss4, ↓ss5, ↓ss6, ↓ss7, ↓ss8, ↓ss9, ↓ss10, ↓ss11, ↓ss12, ↓ss13, ↓ss14, ↓ss15, ↓ss16, ↓ss17, h16, hjl, ↓aft_of (ei), ↓aft_of (ej), c1, c2, hji, c3, nI_1, smI, false_or, and_false]
          · simp +decide only [x159_0, x159_1, x159_2, x159_3, x159_3N, x159_4, x159_7, x159_9, x159_10, x159_13, x159_14, x159_15, x159_16, x159_20, x159_20N, x159_21, x159_24, x159_26, x159_27, x159_30, x159_31, x159_31N, x159_32, x159_34, x159_37, x159_37N, x159_38, x159_39, x159_42, x159_45, x159_45N, x159_46, x159_48, x159_51, x159_51N, x159_52, x159_53, x159_56, x159_59, x159_61, x159_62, x159_65, x159_66, x159_69, x159_70, x159_71, x159_72, x159_75, x159_78, x159_79, x159_80, x159_83, x159_84, x159_85, x159_88, x159_91, x159_93, aft_some, aft_void, Option.bind_some, Option.toList_some, Option.toList_none, List.cons_append, List.nil_append, if_true, if_false, ↓reduceIte, eq_self, z366_o, ↓z366_0, ↓z366_0p, ↓z366_1, ↓z366_2, ↓z366_3, ↓z366_4, ↓z366_4p, ↓z366_5, ↓z366_6, ↓z366_6p0, ↓z366_6p1, ↓z366_7, ↓z366_8, ↓z366_8p, ↓z366_9, ↓z366_9p, ↓z366_10, ↓z366_10p0, ↓z366_10p1, ↓z366_11, ↓z366_12, ↓z366_12p, ↓sg0, ↓sg1, ↓sg2, ↓sg3, ↓sg4, ↓sg5, ↓sg6, ↓sg7, ↓sg8, ↓sg9, ↓sg10, ↓sg11, ↓sg12, ↓sg13, ↓sg14, ↓sg15, ↓sg16, ↓sg17, ↓ss0, ↓ss1, ↓ss2, ↓ss3, ↓ss4, ↓ss5, ↓ss6, ↓ss7, ↓ss8, ↓ss9, ↓ss10, ↓ss11, ↓ss12, ↓ss13, ↓ss14, ↓ss15, ↓ss16, ↓ss17, h16, hjl, ↓aft_of (ei), ↓aft_of (ej), c1, c2, nI_1, smI, false_or, false_and]
      have el : X 159 18 [.ref 366, .int x, .int (nI i), .int 0, .int 0] [] (H (upA T 367 f) P) = X 159 18 [.ref 366, .int x, .int (nI i), .int (rkI (fun i => kyK N V (gK K i)) K.length i), .int (nI K.length)] [] (H (upA T 367 f) P) := loop_up (fun j => X 159 18 [.ref 366, .int x, .int (nI i), .int (smI (fun j => if kyK N V (gK K j) < kyK N V (gK K i) ∨ (kyK N V (gK K j) = kyK N V (gK K i) ∧ j < i) then 1 else 0) j), .int (nI j)] [] (H (upA T 367 f) P)) K.length hstep
      rw [x159_2]
      simp +decide only [x159_0, x159_1, x159_3, x159_3N, x159_4, x159_7, x159_9, x159_10, x159_13, x159_14, x159_15, x159_16, x159_20, x159_20N, x159_21, x159_24, x159_26, x159_27, x159_30, x159_31, x159_31N, x159_32, x159_34, x159_37, x159_37N, x159_38, x159_39, x159_42, x159_45, x159_45N, x159_46, x159_48, x159_51, x159_51N, x159_52, x159_53, x159_56, x159_59, x159_61, x159_62, x159_65, x159_66, x159_69, x159_70, x159_71, x159_72, x159_75, x159_78, x159_79, x159_80, x159_83, x159_84, x159_85, x159_88, x159_91, x159_93, aft_some, aft_void, Option.bind_some, Option.toList_some, Option.toList_none, List.cons_append, List.nil_append, if_true, if_false, ↓reduceIte, eq_self, z366_o, ↓z366_0, ↓z366_0p, ↓z366_1, ↓z366_2, ↓z366_3, ↓z366_4, ↓z366_4p, ↓z366_5, ↓z366_6, ↓z366_6p0, ↓z366_6p1, ↓z366_7, ↓z366_8, ↓z366_8p, ↓z366_9, ↓z366_9p, ↓z366_10, ↓z366_10p0, ↓z366_10p1, ↓z366_11, ↓z366_12, ↓z366_12p, ↓sg0, ↓sg1, ↓sg2, ↓sg3, ↓sg4, ↓sg5, ↓sg6, ↓sg7, ↓sg8, ↓sg9, ↓sg10, ↓sg11, ↓sg12, ↓sg13, ↓sg14, ↓sg15, ↓sg16, ↓sg17, ↓ss0, ↓ss1, ↓ss2, ↓ss3, ↓ss4, ↓ss5, ↓ss6, ↓ss7, ↓ss8, ↓ss9, ↓ss10, ↓ss11, ↓ss12, ↓ss13, ↓ss14, ↓ss15, ↓ss16, ↓ss17, h16, hlt]
      rw [el, x159_18]
      have hk : nI K.length < nI K.length → False := nI_nlt (Nat.le_refl K.length) (by omega)
      by_cases c : rkI (fun i => kyK N V (gK K i)) K.length i = x
      · have hf : fstN (fun i => rkI (fun i => kyK N V (gK K i)) K.length i = x) i (m + 1) = some i := if_pos c
        rw [hf]
        simp +decide only [x159_0, x159_1, x159_3, x159_3N, x159_4, x159_7, x159_9, x159_10, x159_13, x159_14, x159_15, x159_16, x159_20, x159_20N, x159_21, x159_24, x159_26, x159_27, x159_30, x159_31, x159_31N, x159_32, x159_34, x159_37, x159_37N, x159_38, x159_39, x159_42, x159_45, x159_45N, x159_46, x159_48, x159_51, x159_51N, x159_52, x159_53, x159_56, x159_59, x159_61, x159_62, x159_65, x159_66, x159_69, x159_70, x159_71, x159_72, x159_75, x159_78, x159_79, x159_80, x159_83, x159_84, x159_85, x159_88, x159_91, x159_93, aft_some, aft_void, Option.bind_some, Option.toList_some, Option.toList_none, List.cons_append, List.nil_append, if_true, if_false, ↓reduceIte, eq_self, z366_o, ↓z366_0, ↓z366_0p, ↓z366_1, ↓z366_2, ↓z366_3, ↓z366_4, ↓z366_4p, ↓z366_5, ↓z366_6, ↓z366_6p0, ↓z366_6p1, ↓z366_7, ↓z366_8, ↓z366_8p, ↓z366_9, ↓z366_9p, ↓z366_10, ↓z366_10p0, ↓z366_10p1, ↓z366_11, ↓z366_12, ↓z366_12p, ↓sg0, ↓sg1, ↓sg2, ↓sg3, ↓sg4, ↓sg5, ↓sg6, ↓sg7, ↓sg8, ↓sg9, ↓sg10, ↓sg11, ↓sg12, ↓sg13, ↓sg14, ↓sg15, ↓sg16, ↓sg17, ↓ss0, ↓ss1, ↓ss2, ↓ss3, ↓ss4, ↓ss5, ↓ss6, ↓ss7, ↓ss8, ↓ss9, ↓ss10, ↓ss11, ↓ss12, ↓ss13, ↓ss14, ↓ss15, ↓ss16, ↓ss17, h16, nI_nlt (Nat.le_refl K.length) (show K.length < 2 ^ 31 by omega), c]
      · have hf : fstN (fun i => rkI (fun i => kyK N V (gK K i)) K.length i = x) i (m + 1) = fstN (fun i => rkI (fun i => kyK N V (gK K i)) K.length i = x) (i + 1) m := if_neg c
        rw [hf]
        simp +decide only [x159_0, x159_1, x159_3, x159_3N, x159_4, x159_7, x159_9, x159_10, x159_13, x159_14, x159_15, x159_16, x159_20, x159_20N, x159_21, x159_24, x159_26, x159_27, x159_30, x159_31, x159_31N, x159_32, x159_34, x159_37, x159_37N, x159_38, x159_39, x159_42, x159_45, x159_45N, x159_46, x159_48, x159_51, x159_51N, x159_52, x159_53, x159_56, x159_59, x159_61, x159_62, x159_65, x159_66, x159_69, x159_70, x159_71, x159_72, x159_75, x159_78, x159_79, x159_80, x159_83, x159_84, x159_85, x159_88, x159_91, x159_93, aft_some, aft_void, Option.bind_some, Option.toList_some, Option.toList_none, List.cons_append, List.nil_append, if_true, if_false, ↓reduceIte, eq_self, z366_o, ↓z366_0, ↓z366_0p, ↓z366_1, ↓z366_2, ↓z366_3, ↓z366_4, ↓z366_4p, ↓z366_5, ↓z366_6, ↓z366_6p0, ↓z366_6p1, ↓z366_7, ↓z366_8, ↓z366_8p, ↓z366_9, ↓z366_9p, ↓z366_10, ↓z366_10p0, ↓z366_10p1, ↓z366_11, ↓z366_12, ↓z366_12p, ↓sg0, ↓sg1, ↓sg2, ↓sg3, ↓sg4, ↓sg5, ↓sg6, ↓sg7, ↓sg8, ↓sg9, ↓sg10, ↓sg11, ↓sg12, ↓sg13, ↓sg14, ↓sg15, ↓sg16, ↓sg17, ↓ss0, ↓ss1, ↓ss2, ↓ss3, ↓ss4, ↓ss5, ↓ss6, ↓ss7, ↓ss8, ↓ss9, ↓ss10, ↓ss11, ↓ss12, ↓ss13, ↓ss14, ↓ss15, ↓ss16, ↓ss17, h16, nI_nlt (Nat.le_refl K.length) (show K.length < 2 ^ 31 by omega), c, nI_1]
        exact ih (i + 1) (by omega) _ _
  simp +decide only [x159_0, x159_1, x159_3, x159_3N, x159_4, x159_7, x159_9, x159_10, x159_13, x159_14, x159_15, x159_16, x159_20, x159_20N, x159_21, x159_24, x159_26, x159_27, x159_30, x159_31, x159_31N, x159_32, x159_34, x159_37, x159_37N, x159_38, x159_39, x159_42, x159_45, x159_45N, x159_46, x159_48, x159_51, x159_51N, x159_52, x159_53, x159_56, x159_59, x159_61, x159_62, x159_65, x159_66, x159_69, x159_70, x159_71, x159_72, x159_75, x159_78, x159_79, x159_80, x159_83, x159_84, x159_85, x159_88, x159_91, x159_93, aft_some, aft_void, Option.bind_some, Option.toList_some, Option.toList_none, List.cons_append, List.nil_append, if_true, if_false, ↓reduceIte, eq_self]
  exact key K.length 0 (by omega) _ _
theorem r_nextBasket (h : sR f N V K B R) (hw : WF N V K B) : X 161 0 [.ref 366, .long 0, .long 0] [] (H (upA T 367 f) P) = some (some (.int (match nxS (fun i => irK V (gK K i)) (fun i => tnK N V (gK K i)) K.length with
    | some i => nI i
    | none => -5)), H (upA T 367 f) P) := by
  have h8 := hw.1.2.2.2.1
  have h16 := h.1.n
  have h7 : f 7 = V 0 1 := h.1.2.1.2.2.2
  rw [← nxS_cmp (f := fun i => irK V (gK K i)) (t := fun i => kyK N V (gK K i)) (u := fun i => tnK N V (gK K i)) (fun i j hi hj => ky_tn hw hi hj)]
  have key : ∀ m r, r + m = K.length → (∀ p, p < K.length → cO (fun i => kyK N V (gK K i)) K.length p < r → ¬ irK V (gK K p)) → ∀ v2 : Value, X 161 2 [.ref 366, .int (nI r), v2] [] (H (upA T 367 f) P) = some (some (.int (match nxS (fun i => irK V (gK K i)) (fun i => kyK N V (gK K i)) K.length with
      | some i => nI i
      | none => -5)), H (upA T 367 f) P) := by
    intro m
    induction m with
    | zero =>
      intro r hr hn v2
      have hr : r = K.length := by omega
      subst hr
      have e : nxS (fun i => irK V (gK K i)) (fun i => kyK N V (gK K i)) K.length = none := by
        cases hq : nxS (fun i => irK V (gK K i)) (fun i => kyK N V (gK K i)) K.length with
        | none => rfl
        | some j =>
          have h1 := nxS_ok hq
          exact absurd h1.2 (hn j h1.1 (cO_n h1.1))
      rw [e, x161_2]
      simp +decide only [x161_0, x161_1, x161_3, x161_3N, x161_4, x161_7, x161_9, x161_10, x161_13, x161_13N, x161_14, x161_15, x161_18, x161_19, x161_19N, x161_20, x161_21, x161_24, x161_26, x161_29, x161_30, x161_31, x161_34, x161_37, x161_39, aft_some, aft_void, Option.bind_some, Option.toList_some, Option.toList_none, List.cons_append, List.nil_append, if_true, if_false, ↓reduceIte, eq_self, z366_o, ↓z366_0, ↓z366_0p, ↓z366_1, ↓z366_2, ↓z366_3, ↓z366_4, ↓z366_4p, ↓z366_5, ↓z366_6, ↓z366_6p0, ↓z366_6p1, ↓z366_7, ↓z366_8, ↓z366_8p, ↓z366_9, ↓z366_9p, ↓z366_10, ↓z366_10p0, ↓z366_10p1, ↓z366_11, ↓z366_12, ↓z366_12p, ↓sg0, ↓sg1, ↓sg2, ↓sg3, ↓sg4, ↓sg5, ↓sg6, ↓sg7, ↓sg8, ↓sg9, ↓sg10, ↓sg11, ↓sg12, ↓sg13, ↓sg14, ↓sg15, ↓sg16, ↓sg17, ↓ss0, ↓ss1, ↓ss2, ↓ss3, ↓ss4, ↓ss5, ↓ss6, ↓ss7, ↓ss8, ↓ss9, ↓ss10, ↓ss11, ↓ss12, ↓ss13, ↓ss14, ↓ss15, ↓ss16, ↓ss17, h16, nI_nlt (Nat.le_refl K.length) (show K.length < 2 ^ 31 by omega)]
    | succ m ih =>
      intro r hr hn v2
      have hr' : r < K.length := by omega
      have hlt : nI r < nI K.length := nI_lt hr' (by omega)
      obtain ⟨p, hp, ep⟩ := cO_ex (fun i => kyK N V (gK K i)) K.length r hr'
      have er := r_ranked (T := T) (P := P) (x := nI r) h hw
      have hle : ∀ q, q < K.length → cO (fun i => kyK N V (gK K i)) K.length q < 2 ^ 31 := fun q _ => by
        have := cO_le (fun i => kyK N V (gK K i)) q K.length
        omega
      have hf : fstN (fun i => rkI (fun i => kyK N V (gK K i)) K.length i = nI r) 0 K.length = some p := by
        refine fst_uni (Nat.zero_le _) (by omega) ?_ (fun k _ hk hq => ?_)
        · rw [rk_c, ep]
        · rw [rk_c, nI_inj (hle k (by omega)) (by omega)] at hq
          exact cO_inj (by omega) hp (hq.trans ep.symm)
      rw [hf] at er
      simp only at er
      have ek := r_kindNow (T := T) (P := P) (h.2.2.2.1 p hp) (show p < 8 by omega)
      rw [h7] at ek
      rw [x161_2]
      by_cases c : lkK (gK K p) (if 0 < V 0 1 then 1 else 0) = -5
      · rw [c] at ek
        simp +decide only [x161_0, x161_1, x161_3, x161_3N, x161_4, x161_7, x161_9, x161_10, x161_13, x161_13N, x161_14, x161_15, x161_18, x161_19, x161_19N, x161_20, x161_21, x161_24, x161_26, x161_29, x161_30, x161_31, x161_34, x161_37, x161_39, aft_some, aft_void, Option.bind_some, Option.toList_some, Option.toList_none, List.cons_append, List.nil_append, if_true, if_false, ↓reduceIte, eq_self, z366_o, ↓z366_0, ↓z366_0p, ↓z366_1, ↓z366_2, ↓z366_3, ↓z366_4, ↓z366_4p, ↓z366_5, ↓z366_6, ↓z366_6p0, ↓z366_6p1, ↓z366_7, ↓z366_8, ↓z366_8p, ↓z366_9, ↓z366_9p, ↓z366_10, ↓z366_10p0, ↓z366_10p1, ↓z366_11, ↓z366_12, ↓z366_12p, ↓sg0, ↓sg1, ↓sg2, ↓sg3, ↓sg4, ↓sg5, ↓sg6, ↓sg7, ↓sg8, ↓sg9, ↓sg10, ↓sg11, ↓sg12, ↓sg13, ↓sg14, ↓sg15, ↓sg16, ↓sg17, ↓ss0, ↓ss1, ↓ss2, ↓ss3, ↓ss4, ↓ss5, ↓ss6, ↓ss7, ↓ss8, ↓ss9, ↓ss10, ↓ss11, ↓ss12, ↓ss13, ↓ss14, ↓ss15, ↓ss16, ↓ss17, h16, hlt, ↓aft_of (er), ↓aft_of (ek), nI_1]
        refine ih (r + 1) (by omega) (fun q hq hc => ?_) _
        by_cases e : cO (fun i => kyK N V (gK K i)) K.length q < r
        · exact hn q hq e
        · have : q = p := cO_inj (t := fun i => kyK N V (gK K i)) hq hp (by omega)
          subst this
          exact fun z => z c
      · have hs : nxS (fun i => irK V (gK K i)) (fun i => kyK N V (gK K i)) K.length = some p := by
          refine nxS_uni hp c (fun i hi hf' hl => ?_)
          have := cO_lt (n := K.length) hl hi
          exact hn i hi (by omega) hf'
        rw [hs]
        simp +decide only [x161_0, x161_1, x161_3, x161_3N, x161_4, x161_7, x161_9, x161_10, x161_13, x161_13N, x161_14, x161_15, x161_18, x161_19, x161_19N, x161_20, x161_21, x161_24, x161_26, x161_29, x161_30, x161_31, x161_34, x161_37, x161_39, aft_some, aft_void, Option.bind_some, Option.toList_some, Option.toList_none, List.cons_append, List.nil_append, if_true, if_false, ↓reduceIte, eq_self, z366_o, ↓z366_0, ↓z366_0p, ↓z366_1, ↓z366_2, ↓z366_3, ↓z366_4, ↓z366_4p, ↓z366_5, ↓z366_6, ↓z366_6p0, ↓z366_6p1, ↓z366_7, ↓z366_8, ↓z366_8p, ↓z366_9, ↓z366_9p, ↓z366_10, ↓z366_10p0, ↓z366_10p1, ↓z366_11, ↓z366_12, ↓z366_12p, ↓sg0, ↓sg1, ↓sg2, ↓sg3, ↓sg4, ↓sg5, ↓sg6, ↓sg7, ↓sg8, ↓sg9, ↓sg10, ↓sg11, ↓sg12, ↓sg13, ↓sg14, ↓sg15, ↓sg16, ↓sg17, ↓ss0, ↓ss1, ↓ss2, ↓ss3, ↓ss4, ↓ss5, ↓ss6, ↓ss7, ↓ss8, ↓ss9, ↓ss10, ↓ss11, ↓ss12, ↓ss13, ↓ss14, ↓ss15, ↓ss16, ↓ss17, h16, hlt, ↓aft_of (er), ↓aft_of (ek), c]
  simp +decide only [x161_0, x161_1, x161_3, x161_3N, x161_4, x161_7, x161_9, x161_10, x161_13, x161_13N, x161_14, x161_15, x161_18, x161_19, x161_19N, x161_20, x161_21, x161_24, x161_26, x161_29, x161_30, x161_31, x161_34, x161_37, x161_39, aft_some, aft_void, Option.bind_some, Option.toList_some, Option.toList_none, List.cons_append, List.nil_append, if_true, if_false, ↓reduceIte, eq_self]
  exact key K.length 0 (by omega) (fun _ _ h => absurd h (Nat.not_lt_zero _)) _
end NX
