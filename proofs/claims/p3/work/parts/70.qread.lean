/-! the reference reads the text: its methods -/
/-- the heap while the text is read: where, well or not, how many baskets, the row -/
def hT (T : Nat → Nat → Int32) (q : qT) (k : Nat) (g : Nat → Int32) : Nat → Nat → Int32 := upA (upA T 366 (upA (upA (upA (T 366) 9 (nI q.1)) 10 (if q.2 = true then 1 else 0)) 12 (nI k))) 372 g
section HTS
variable {T : Nat → Nat → Int32} {P : Nat → Nat → Nat} {q : qT} {k b j : Nat} {g : Nat → Int32} {v : Int32}
theorem hT_366 {j : Nat} (h9 : j ≠ 9) (h10 : j ≠ 10) (h12 : j ≠ 12) : hT T q k g 366 j = T 366 j := by
  unfold hT
  rw [upA_n _ _ (by decide), upA_s, upA_n _ _ h12, upA_n _ _ h10, upA_n _ _ h9]
theorem uhT_0 : hT T q k g 366 0 = T 366 0 := hT_366 (by decide) (by decide) (by decide)
theorem uhT_8 : hT T q k g 366 8 = T 366 8 := hT_366 (by decide) (by decide) (by decide)
theorem uhT_9 : hT T q k g 366 9 = nI q.1 := by
  unfold hT
  rw [upA_n _ _ (by decide), upA_s, upA_n _ _ (by decide), upA_n _ _ (by decide), upA_s]
theorem uhT_10 : hT T q k g 366 10 = if q.2 = true then 1 else 0 := by
  unfold hT
  rw [upA_n _ _ (by decide), upA_s, upA_n _ _ (by decide), upA_s]
theorem uhT_12 : hT T q k g 366 12 = nI k := by
  unfold hT
  rw [upA_n _ _ (by decide), upA_s, upA_s]
theorem uhT_371 : hT T q k g 371 = T 371 := by
  unfold hT
  rw [upA_n _ _ (by decide), upA_n _ _ (by decide)]
theorem uhT_372 : hT T q k g 372 = g := by
  unfold hT
  rw [upA_s]
theorem hT_n {a : Nat} (h6 : a ≠ 366) (h7 : a ≠ 372) : hT T q k g a = T a := by
  unfold hT
  rw [upA_n _ _ h7, upA_n _ _ h6]
theorem hT_ext {U W : Nat → Nat → Int32} (h : ∀ a, a ≠ 366 → a ≠ 372 → U a = W a) (h6 : ∀ j, U 366 j = W 366 j) (h7 : U 372 = W 372) : U = W := by
  funext a
  by_cases q6 : a = 366
  · subst q6; funext j; exact h6 j
  · by_cases q7 : a = 372
    · subst q7; exact h7
    · exact h a q6 q7
theorem uhT_a : up1 (hT T q k g) 366 9 (nI b) = hT T (b, q.2) k g := by
  refine hT_ext (fun a h6 h7 => by rw [up1_n h6, hT_n h6 h7, hT_n h6 h7]) (fun j => ?_) (by rw [up1_n (by decide), uhT_372, uhT_372])
  rw [up1_s]
  by_cases h9 : j = 9
  · subst h9; rw [upA_s, uhT_9]
  · rw [upA_n _ _ h9]
    by_cases h10 : j = 10
    · subst h10; rw [uhT_10, uhT_10]
    · by_cases h12 : j = 12
      · subst h12; rw [uhT_12, uhT_12]
      · rw [hT_366 h9 h10 h12, hT_366 h9 h10 h12]
theorem hT_w {w : Bool} : up1 (hT T q k g) 366 10 (if w = true then 1 else 0) = hT T (q.1, w) k g := by
  refine hT_ext (fun a h6 h7 => by rw [up1_n h6, hT_n h6 h7, hT_n h6 h7]) (fun j => ?_) (by rw [up1_n (by decide), uhT_372, uhT_372])
  rw [up1_s]
  by_cases h10 : j = 10
  · subst h10; rw [upA_s, uhT_10]
  · rw [upA_n _ _ h10]
    by_cases h9 : j = 9
    · subst h9; rw [uhT_9, uhT_9]
    · by_cases h12 : j = 12
      · subst h12; rw [uhT_12, uhT_12]
      · rw [hT_366 h9 h10 h12, hT_366 h9 h10 h12]
theorem uhT_w0 : up1 (hT T q k g) 366 10 0 = hT T (q.1, false) k g := hT_w (w := false)
theorem uhT_w1 : up1 (hT T q k g) 366 10 1 = hT T (q.1, true) k g := hT_w (w := true)
theorem uhT_k : up1 (hT T q k g) 366 12 (nI j) = hT T q j g := by
  refine hT_ext (fun a h6 h7 => by rw [up1_n h6, hT_n h6 h7, hT_n h6 h7]) (fun i => ?_) (by rw [up1_n (by decide), uhT_372, uhT_372])
  rw [up1_s]
  by_cases h12 : i = 12
  · subst h12; rw [upA_s, uhT_12]
  · rw [upA_n _ _ h12]
    by_cases h9 : i = 9
    · subst h9; rw [uhT_9, uhT_9]
    · by_cases h10 : i = 10
      · subst h10; rw [uhT_10, uhT_10]
      · rw [hT_366 h9 h10 h12, hT_366 h9 h10 h12]
theorem uhT_g : up1 (hT T q k g) 372 j v = hT T q k (upA g j v) := by
  refine hT_ext (fun a h6 h7 => by rw [up1_n h7, hT_n h6 h7, hT_n h6 h7]) (fun i => ?_) (by rw [up1_s, uhT_372, uhT_372])
  rw [up1_n (by decide)]
  by_cases h12 : i = 12
  · subst h12; rw [uhT_12, uhT_12]
  · by_cases h9 : i = 9
    · subst h9; rw [uhT_9, uhT_9]
    · by_cases h10 : i = 10
      · subst h10; rw [uhT_10, uhT_10]
      · rw [hT_366 h9 h10 h12, hT_366 h9 h10 h12]
end HTS
section QR
variable {T : Nat → Nat → Int32} {P : Nat → Nat → Nat} {t : Nat → Int32} {n k : Nat} {g : Nat → Int32} {q : qT} {c lo hi : Int32}
/-- the text is t, of n signs -/
def TT (T : Nat → Nat → Int32) (t : Nat → Int32) (n : Nat) : Prop := T 366 8 = nI n ∧ n ≤ 60 ∧ ∀ i, i < n → T 371 i = t i
theorem t_sign (h : TT T t n) (hq : q.1 ≤ n) : X 174 0 [.ref 366] [] (H (hT T q k g) P) = some (some (.int (gS t n q.1)), H (hT T q k g) P) := by
  obtain ⟨h8, h60, ht⟩ := h
  have elt : (nI q.1 < nI n) = (q.1 < n) := nI_ltp (by omega) (by omega)
  by_cases hl : q.1 < n
  · have ev := ht q.1 hl
    have e : gS t n q.1 = t q.1 := gS_lt hl
    rw [e]
    simp +decide only [x174_0, x174_0N, x174_1, x174_4, x174_4N, x174_5, x174_8, x174_11, x174_11N, x174_12, x174_15, x174_15N, x174_16, x174_19, x174_20, x174_23, x174_24, aft_some, aft_void, Option.bind_some, Option.toList_some, Option.toList_none, List.cons_append, List.nil_append, if_true, if_false, ↓reduceIte, eq_self, z366_o, ↓z366_0, ↓z366_0p, ↓z366_1, ↓z366_2, ↓z366_3, ↓z366_4, ↓z366_4p, ↓z366_5, ↓z366_6, ↓z366_6p0, ↓z366_6p1, ↓z366_7, ↓z366_8, ↓z366_8p, ↓z366_9, ↓z366_9p, ↓z366_10, ↓z366_10p0, ↓z366_10p1, ↓z366_11, ↓z366_12, ↓z366_12p, ↓sg0, ↓sg1, ↓sg2, ↓sg3, ↓sg4, ↓sg5, ↓sg6, ↓sg7, ↓sg8, ↓sg9, ↓sg10, ↓sg11, ↓sg12, ↓sg13, ↓sg14, ↓sg15, ↓sg16, ↓sg17, ↓ss0, ↓ss1, ↓ss2, ↓ss3, ↓ss4, ↓ss5, ↓ss6, ↓ss7, ↓ss8, ↓ss9, ↓ss10, ↓ss11, ↓ss12, ↓ss13, ↓ss14, ↓ss15, ↓ss16, ↓ss17, uhT_8, uhT_9, uhT_10, uhT_12, uhT_371, uhT_372, uhT_0, uhT_a, uhT_w0, uhT_w1, uhT_k, uhT_g, h8, elt, hl, ↓a371_g (show q.1 < 60 by omega), ev]
  · have e : gS t n q.1 = 0 := gS_ge (by omega)
    rw [e]
    simp +decide only [x174_0, x174_0N, x174_1, x174_4, x174_4N, x174_5, x174_8, x174_11, x174_11N, x174_12, x174_15, x174_15N, x174_16, x174_19, x174_20, x174_23, x174_24, aft_some, aft_void, Option.bind_some, Option.toList_some, Option.toList_none, List.cons_append, List.nil_append, if_true, if_false, ↓reduceIte, eq_self, z366_o, ↓z366_0, ↓z366_0p, ↓z366_1, ↓z366_2, ↓z366_3, ↓z366_4, ↓z366_4p, ↓z366_5, ↓z366_6, ↓z366_6p0, ↓z366_6p1, ↓z366_7, ↓z366_8, ↓z366_8p, ↓z366_9, ↓z366_9p, ↓z366_10, ↓z366_10p0, ↓z366_10p1, ↓z366_11, ↓z366_12, ↓z366_12p, ↓sg0, ↓sg1, ↓sg2, ↓sg3, ↓sg4, ↓sg5, ↓sg6, ↓sg7, ↓sg8, ↓sg9, ↓sg10, ↓sg11, ↓sg12, ↓sg13, ↓sg14, ↓sg15, ↓sg16, ↓sg17, ↓ss0, ↓ss1, ↓ss2, ↓ss3, ↓ss4, ↓ss5, ↓ss6, ↓ss7, ↓ss8, ↓ss9, ↓ss10, ↓ss11, ↓ss12, ↓ss13, ↓ss14, ↓ss15, ↓ss16, ↓ss17, uhT_8, uhT_9, uhT_10, uhT_12, uhT_371, uhT_372, uhT_0, uhT_a, uhT_w0, uhT_w1, uhT_k, uhT_g, h8, elt, hl]
theorem t_digit (h : TT T t n) (hq : q.1 ≤ n) : X 175 0 [.ref 366, .int lo, .int hi, .long 0] [] (H (hT T q k g) P) = some (some (.int (gS t n q.1 - 48)), H (hT T (dgW t n lo hi q) k g) P) := by
  have k1 : ∀ a : Nat, nI a + 1 = nI (a + 1) := fun a => nI_add a 1
  have k0 : ∀ a : Nat, nI a + 0 = nI a := fun a => Int32.add_zero _
  have es := t_sign (P := P) (k := k) (g := g) h hq
  obtain ⟨a, w⟩ := q
  cases w with
  | false =>
    rw [dg_f rfl]
    have esf := t_sign (P := P) (k := k) (g := g) (q := (a, false)) h hq
    simp +decide only [x175_0, x175_0N, x175_1, x175_1N, x175_2, x175_5, x175_8, x175_8N, x175_9, x175_12, x175_14, x175_15, x175_16, x175_18, x175_19, x175_20, x175_23, x175_26, x175_27, x175_30, x175_31, x175_34, x175_34N, x175_35, x175_38, x175_40, x175_41, x175_42, x175_42N, x175_43, x175_44, x175_47, x175_47N, x175_48, x175_51, x175_54, x175_55, x175_58, x175_59, x175_60, x175_63, x175_64, aft_some, aft_void, Option.bind_some, Option.toList_some, Option.toList_none, List.cons_append, List.nil_append, if_true, if_false, ↓reduceIte, eq_self, z366_o, ↓z366_0, ↓z366_0p, ↓z366_1, ↓z366_2, ↓z366_3, ↓z366_4, ↓z366_4p, ↓z366_5, ↓z366_6, ↓z366_6p0, ↓z366_6p1, ↓z366_7, ↓z366_8, ↓z366_8p, ↓z366_9, ↓z366_9p, ↓z366_10, ↓z366_10p0, ↓z366_10p1, ↓z366_11, ↓z366_12, ↓z366_12p, ↓sg0, ↓sg1, ↓sg2, ↓sg3, ↓sg4, ↓sg5, ↓sg6, ↓sg7, ↓sg8, ↓sg9, ↓sg10, ↓sg11, ↓sg12, ↓sg13, ↓sg14, ↓sg15, ↓sg16, ↓sg17, ↓ss0, ↓ss1, ↓ss2, ↓ss3, ↓ss4, ↓ss5, ↓ss6, ↓ss7, ↓ss8, ↓ss9, ↓ss10, ↓ss11, ↓ss12, ↓ss13, ↓ss14, ↓ss15, ↓ss16, ↓ss17, uhT_8, uhT_9, uhT_10, uhT_12, uhT_371, uhT_372, uhT_0, uhT_a, uhT_w0, uhT_w1, uhT_k, uhT_g, ↓aft_of (esf), k0]
  | true =>
    have esf := t_sign (P := P) (k := k) (g := g) (q := (a, false)) h hq
    by_cases hd : inI (gS t n a) (48 + lo) (48 + hi) = 0
    · rw [dg_no hd]
      have hd1 : inI (gS t n ((a, true) : qT).1) (48 + lo) (48 + hi) = 0 := hd
      simp +decide only [x175_0, x175_0N, x175_1, x175_1N, x175_2, x175_5, x175_8, x175_8N, x175_9, x175_12, x175_14, x175_15, x175_16, x175_18, x175_19, x175_20, x175_23, x175_26, x175_27, x175_30, x175_31, x175_34, x175_34N, x175_35, x175_38, x175_40, x175_41, x175_42, x175_42N, x175_43, x175_44, x175_47, x175_47N, x175_48, x175_51, x175_54, x175_55, x175_58, x175_59, x175_60, x175_63, x175_64, aft_some, aft_void, Option.bind_some, Option.toList_some, Option.toList_none, List.cons_append, List.nil_append, if_true, if_false, ↓reduceIte, eq_self, z366_o, ↓z366_0, ↓z366_0p, ↓z366_1, ↓z366_2, ↓z366_3, ↓z366_4, ↓z366_4p, ↓z366_5, ↓z366_6, ↓z366_6p0, ↓z366_6p1, ↓z366_7, ↓z366_8, ↓z366_8p, ↓z366_9, ↓z366_9p, ↓z366_10, ↓z366_10p0, ↓z366_10p1, ↓z366_11, ↓z366_12, ↓z366_12p, ↓sg0, ↓sg1, ↓sg2, ↓sg3, ↓sg4, ↓sg5, ↓sg6, ↓sg7, ↓sg8, ↓sg9, ↓sg10, ↓sg11, ↓sg12, ↓sg13, ↓sg14, ↓sg15, ↓sg16, ↓sg17, ↓ss0, ↓ss1, ↓ss2, ↓ss3, ↓ss4, ↓ss5, ↓ss6, ↓ss7, ↓ss8, ↓ss9, ↓ss10, ↓ss11, ↓ss12, ↓ss13, ↓ss14, ↓ss15, ↓ss16, ↓ss17, uhT_8, uhT_9, uhT_10, uhT_12, uhT_371, uhT_372, uhT_0, uhT_a, uhT_w0, uhT_w1, uhT_k, uhT_g, ↓aft_of (es), ↓aft_of (esf), ↓aft_of (r_in), hd, hd1, k0]
    · rw [dg_ok hd]
      have hd1 : ¬ inI (gS t n ((a, true) : qT).1) (48 + lo) (48 + hi) = 0 := hd
      simp +decide only [x175_0, x175_0N, x175_1, x175_1N, x175_2, x175_5, x175_8, x175_8N, x175_9, x175_12, x175_14, x175_15, x175_16, x175_18, x175_19, x175_20, x175_23, x175_26, x175_27, x175_30, x175_31, x175_34, x175_34N, x175_35, x175_38, x175_40, x175_41, x175_42, x175_42N, x175_43, x175_44, x175_47, x175_47N, x175_48, x175_51, x175_54, x175_55, x175_58, x175_59, x175_60, x175_63, x175_64, aft_some, aft_void, Option.bind_some, Option.toList_some, Option.toList_none, List.cons_append, List.nil_append, if_true, if_false, ↓reduceIte, eq_self, z366_o, ↓z366_0, ↓z366_0p, ↓z366_1, ↓z366_2, ↓z366_3, ↓z366_4, ↓z366_4p, ↓z366_5, ↓z366_6, ↓z366_6p0, ↓z366_6p1, ↓z366_7, ↓z366_8, ↓z366_8p, ↓z366_9, ↓z366_9p, ↓z366_10, ↓z366_10p0, ↓z366_10p1, ↓z366_11, ↓z366_12, ↓z366_12p, ↓sg0, ↓sg1, ↓sg2, ↓sg3, ↓sg4, ↓sg5, ↓sg6, ↓sg7, ↓sg8, ↓sg9, ↓sg10, ↓sg11, ↓sg12, ↓sg13, ↓sg14, ↓sg15, ↓sg16, ↓sg17, ↓ss0, ↓ss1, ↓ss2, ↓ss3, ↓ss4, ↓ss5, ↓ss6, ↓ss7, ↓ss8, ↓ss9, ↓ss10, ↓ss11, ↓ss12, ↓ss13, ↓ss14, ↓ss15, ↓ss16, ↓ss17, uhT_8, uhT_9, uhT_10, uhT_12, uhT_371, uhT_372, uhT_0, uhT_a, uhT_w0, uhT_w1, uhT_k, uhT_g, ↓aft_of (es), ↓aft_of (r_in), hd, hd1, k1]
theorem t_takes (h : TT T t n) (hq : q.1 ≤ n) : X 176 0 [.ref 366, .int c, .long 0] [] (H (hT T q k g) P) = some (some (.int (if (tkW t n c q).1 = true then 1 else 0)), H (hT T (tkW t n c q).2 k g) P) := by
  have k1 : ∀ a : Nat, nI a + 1 = nI (a + 1) := fun a => nI_add a 1
  have k0 : ∀ a : Nat, nI a + 0 = nI a := fun a => Int32.add_zero _
  have es := t_sign (P := P) (k := k) (g := g) h hq
  obtain ⟨a, w⟩ := q
  cases w with
  | false =>
    rw [tk_f rfl]
    simp +decide only [x176_0, x176_0N, x176_1, x176_4, x176_7, x176_7N, x176_8, x176_11, x176_12, x176_15, x176_16, x176_19, x176_20, x176_21, x176_21N, x176_22, x176_23, x176_26, x176_27, x176_30, x176_31, x176_34, x176_35, x176_36, x176_39, x176_40, aft_some, aft_void, Option.bind_some, Option.toList_some, Option.toList_none, List.cons_append, List.nil_append, if_true, if_false, ↓reduceIte, eq_self, z366_o, ↓z366_0, ↓z366_0p, ↓z366_1, ↓z366_2, ↓z366_3, ↓z366_4, ↓z366_4p, ↓z366_5, ↓z366_6, ↓z366_6p0, ↓z366_6p1, ↓z366_7, ↓z366_8, ↓z366_8p, ↓z366_9, ↓z366_9p, ↓z366_10, ↓z366_10p0, ↓z366_10p1, ↓z366_11, ↓z366_12, ↓z366_12p, ↓sg0, ↓sg1, ↓sg2, ↓sg3, ↓sg4, ↓sg5, ↓sg6, ↓sg7, ↓sg8, ↓sg9, ↓sg10, ↓sg11, ↓sg12, ↓sg13, ↓sg14, ↓sg15, ↓sg16, ↓sg17, ↓ss0, ↓ss1, ↓ss2, ↓ss3, ↓ss4, ↓ss5, ↓ss6, ↓ss7, ↓ss8, ↓ss9, ↓ss10, ↓ss11, ↓ss12, ↓ss13, ↓ss14, ↓ss15, ↓ss16, ↓ss17, uhT_8, uhT_9, uhT_10, uhT_12, uhT_371, uhT_372, uhT_0, uhT_a, uhT_w0, uhT_w1, uhT_k, uhT_g, k0]
  | true =>
    by_cases hc : gS t n a = c
    · rw [tk_ok hc]
      have hc1 : gS t n ((a, true) : qT).1 = c := hc
      rw [hc1] at es
      simp +decide only [x176_0, x176_0N, x176_1, x176_4, x176_7, x176_7N, x176_8, x176_11, x176_12, x176_15, x176_16, x176_19, x176_20, x176_21, x176_21N, x176_22, x176_23, x176_26, x176_27, x176_30, x176_31, x176_34, x176_35, x176_36, x176_39, x176_40, aft_some, aft_void, Option.bind_some, Option.toList_some, Option.toList_none, List.cons_append, List.nil_append, if_true, if_false, ↓reduceIte, eq_self, z366_o, ↓z366_0, ↓z366_0p, ↓z366_1, ↓z366_2, ↓z366_3, ↓z366_4, ↓z366_4p, ↓z366_5, ↓z366_6, ↓z366_6p0, ↓z366_6p1, ↓z366_7, ↓z366_8, ↓z366_8p, ↓z366_9, ↓z366_9p, ↓z366_10, ↓z366_10p0, ↓z366_10p1, ↓z366_11, ↓z366_12, ↓z366_12p, ↓sg0, ↓sg1, ↓sg2, ↓sg3, ↓sg4, ↓sg5, ↓sg6, ↓sg7, ↓sg8, ↓sg9, ↓sg10, ↓sg11, ↓sg12, ↓sg13, ↓sg14, ↓sg15, ↓sg16, ↓sg17, ↓ss0, ↓ss1, ↓ss2, ↓ss3, ↓ss4, ↓ss5, ↓ss6, ↓ss7, ↓ss8, ↓ss9, ↓ss10, ↓ss11, ↓ss12, ↓ss13, ↓ss14, ↓ss15, ↓ss16, ↓ss17, uhT_8, uhT_9, uhT_10, uhT_12, uhT_371, uhT_372, uhT_0, uhT_a, uhT_w0, uhT_w1, uhT_k, uhT_g, ↓aft_of (es), k1]
    · rw [tk_no hc]
      have hc1 : (gS t n ((a, true) : qT).1 = c) = False := eq_false hc
      simp +decide only [x176_0, x176_0N, x176_1, x176_4, x176_7, x176_7N, x176_8, x176_11, x176_12, x176_15, x176_16, x176_19, x176_20, x176_21, x176_21N, x176_22, x176_23, x176_26, x176_27, x176_30, x176_31, x176_34, x176_35, x176_36, x176_39, x176_40, aft_some, aft_void, Option.bind_some, Option.toList_some, Option.toList_none, List.cons_append, List.nil_append, if_true, if_false, ↓reduceIte, eq_self, z366_o, ↓z366_0, ↓z366_0p, ↓z366_1, ↓z366_2, ↓z366_3, ↓z366_4, ↓z366_4p, ↓z366_5, ↓z366_6, ↓z366_6p0, ↓z366_6p1, ↓z366_7, ↓z366_8, ↓z366_8p, ↓z366_9, ↓z366_9p, ↓z366_10, ↓z366_10p0, ↓z366_10p1, ↓z366_11, ↓z366_12, ↓z366_12p, ↓sg0, ↓sg1, ↓sg2, ↓sg3, ↓sg4, ↓sg5, ↓sg6, ↓sg7, ↓sg8, ↓sg9, ↓sg10, ↓sg11, ↓sg12, ↓sg13, ↓sg14, ↓sg15, ↓sg16, ↓sg17, ↓ss0, ↓ss1, ↓ss2, ↓ss3, ↓ss4, ↓ss5, ↓ss6, ↓ss7, ↓ss8, ↓ss9, ↓ss10, ↓ss11, ↓ss12, ↓ss13, ↓ss14, ↓ss15, ↓ss16, ↓ss17, uhT_8, uhT_9, uhT_10, uhT_12, uhT_371, uhT_372, uhT_0, uhT_a, uhT_w0, uhT_w1, uhT_k, uhT_g, ↓aft_of (es), hc, hc1, k0]
theorem t_letter (hk : k < 4) {h0 : List hC} : X 177 0 [.int (nI k)] [] h0 = some (some (.int (ltI k)), h0) := by
  match k, hk with
  | 0, _ => simp +decide only [x177_0, x177_1, x177_4, x177_6, x177_9, x177_10, x177_11, x177_14, x177_16, x177_19, x177_20, x177_21, x177_24, x177_26, x177_29, x177_31, aft_some, aft_void, Option.bind_some, Option.toList_some, Option.toList_none, List.cons_append, List.nil_append, if_true, if_false, ↓reduceIte, eq_self, nl0]; rfl
  | 1, _ => simp +decide only [x177_0, x177_1, x177_4, x177_6, x177_9, x177_10, x177_11, x177_14, x177_16, x177_19, x177_20, x177_21, x177_24, x177_26, x177_29, x177_31, aft_some, aft_void, Option.bind_some, Option.toList_some, Option.toList_none, List.cons_append, List.nil_append, if_true, if_false, ↓reduceIte, eq_self, nl1]; rfl
  | 2, _ => simp +decide only [x177_0, x177_1, x177_4, x177_6, x177_9, x177_10, x177_11, x177_14, x177_16, x177_19, x177_20, x177_21, x177_24, x177_26, x177_29, x177_31, aft_some, aft_void, Option.bind_some, Option.toList_some, Option.toList_none, List.cons_append, List.nil_append, if_true, if_false, ↓reduceIte, eq_self, nl2]; rfl
  | 3, _ => simp +decide only [x177_0, x177_1, x177_4, x177_6, x177_9, x177_10, x177_11, x177_14, x177_16, x177_19, x177_20, x177_21, x177_24, x177_26, x177_29, x177_31, aft_some, aft_void, Option.bind_some, Option.toList_some, Option.toList_none, List.cons_append, List.nil_append, if_true, if_false, ↓reduceIte, eq_self, nl3]; rfl
theorem t_unit (hk : k < 4) {h0 : List hC} : X 178 0 [.int (nI k)] [] h0 = some (some (.int (wtI (nI k))), h0) := by
  match k, hk with
  | 0, _ => simp +decide only [x178_0, x178_1, x178_4, x178_7, x178_10, x178_11, x178_12, x178_15, x178_17, x178_20, x178_21, x178_22, x178_25, x178_27, x178_30, x178_31, aft_some, aft_void, Option.bind_some, Option.toList_some, Option.toList_none, List.cons_append, List.nil_append, if_true, if_false, ↓reduceIte, eq_self, nl0]; rfl
  | 1, _ => simp +decide only [x178_0, x178_1, x178_4, x178_7, x178_10, x178_11, x178_12, x178_15, x178_17, x178_20, x178_21, x178_22, x178_25, x178_27, x178_30, x178_31, aft_some, aft_void, Option.bind_some, Option.toList_some, Option.toList_none, List.cons_append, List.nil_append, if_true, if_false, ↓reduceIte, eq_self, nl1]; rfl
  | 2, _ => simp +decide only [x178_0, x178_1, x178_4, x178_7, x178_10, x178_11, x178_12, x178_15, x178_17, x178_20, x178_21, x178_22, x178_25, x178_27, x178_30, x178_31, aft_some, aft_void, Option.bind_some, Option.toList_some, Option.toList_none, List.cons_append, List.nil_append, if_true, if_false, ↓reduceIte, eq_self, nl2]; rfl
  | 3, _ => simp +decide only [x178_0, x178_1, x178_4, x178_7, x178_10, x178_11, x178_12, x178_15, x178_17, x178_20, x178_21, x178_22, x178_25, x178_27, x178_30, x178_31, aft_some, aft_void, Option.bind_some, Option.toList_some, Option.toList_none, List.cons_append, List.nil_append, if_true, if_false, ↓reduceIte, eq_self, nl3]; rfl
theorem dg_le (hq : q.1 ≤ n) (hl : lo = 0 ∨ lo = 1) (hh : hi = 9 ∨ hi = 3) : (dgW t n lo hi q).1 ≤ n := by
  obtain ⟨a, w⟩ := q
  cases w with
  | false => rw [dg_f rfl]; exact hq
  | true =>
    by_cases hd : inI (gS t n a) (48 + lo) (48 + hi) = 0
    · rw [dg_no hd]; exact hq
    · rw [dg_ok hd]
      have := gS_in (lo := 48 + lo) (hi := 48 + hi) (by rcases hl with rfl | rfl; exact Or.inl rfl; exact Or.inr rfl) (by rcases hh with rfl | rfl; exact Or.inl rfl; exact Or.inr rfl) hd
      show a + 1 ≤ n
      omega
theorem tk_le (hq : q.1 ≤ n) (hc : c ≠ 0) : (tkW t n c q).2.1 ≤ n := by
  obtain ⟨a, w⟩ := q
  cases w with
  | false => rw [tk_f rfl]; exact hq
  | true =>
    by_cases h : gS t n a = c
    · rw [tk_ok h]
      have := gS_eq hc h
      show a + 1 ≤ n
      omega
    · rw [tk_no h]; exact hq
theorem st_le {p : Int32} (hq : q.1 ≤ n) : (stP2 t n k (p, q)).2.1 ≤ n := by
  have h1 := tk_le (t := t) (c := ltI k) hq (lt_ne0 k)
  unfold stP2
  by_cases h : (tkW t n (ltI k) (p, q).2).1 = true
  · rw [if_pos h]; exact dg_le h1 (Or.inr rfl) (Or.inl rfl)
  · rw [if_neg h]; exact h1
theorem t_pieces (h : TT T t n) (hq : q.1 ≤ n) : X 179 0 [.ref 366, .long 0, .long 0] [] (H (hT T q k g) P) = some (some (.int (pcZ t n q).1), H (hT T (pcZ t n q).2 k g) P) := by
  have step : ∀ (j : Nat) (p : Int32) (q : qT), j < 4 → q.1 ≤ n → X 179 4 [.ref 366, .int p, .int (nI j)] [] (H (hT T q k g) P) = X 179 4 [.ref 366, .int (stP2 t n j (p, q)).1, .int (nI (j + 1))] [] (H (hT T (stP2 t n j (p, q)).2 k g) P) := by
    intro j p q hj hq
    have hlt : nI j < 4 := nI_lt hj (by decide)
    have el := t_letter (h0 := H (hT T q k g) P) hj
    have et := t_takes (P := P) (k := k) (g := g) (c := ltI j) h hq
    have h1 := tk_le (t := t) (c := ltI j) hq (lt_ne0 j)
    have eu := t_unit (h0 := H (hT T (tkW t n (ltI j) q).2 k g) P) hj
    have ed := t_digit (P := P) (k := k) (g := g) (lo := 1) (hi := 9) h h1
    rw [x179_4]
    unfold stP2
    by_cases c : (tkW t n (ltI j) (p, q).2).1 = true
    · have c' : (tkW t n (ltI j) q).1 = true := c
      rw [if_pos c' ] at et
      rw [if_pos c]
      simp +decide only [x179_0, x179_1, x179_2, x179_3, x179_5, x179_6, x179_9, x179_10, x179_10N, x179_11, x179_12, x179_15, x179_18, x179_21, x179_22, x179_25, x179_25N, x179_26, x179_27, x179_29, x179_32, x179_33, x179_36, x179_37, x179_38, x179_39, x179_42, x179_45, x179_45N, x179_46, x179_46N, x179_47, x179_50, x179_53, x179_54, x179_57, x179_58, x179_61, x179_62, x179_65, x179_66, aft_some, aft_void, Option.bind_some, Option.toList_some, Option.toList_none, List.cons_append, List.nil_append, if_true, if_false, ↓reduceIte, eq_self, z366_o, ↓z366_0, ↓z366_0p, ↓z366_1, ↓z366_2, ↓z366_3, ↓z366_4, ↓z366_4p, ↓z366_5, ↓z366_6, ↓z366_6p0, ↓z366_6p1, ↓z366_7, ↓z366_8, ↓z366_8p, ↓z366_9, ↓z366_9p, ↓z366_10, ↓z366_10p0, ↓z366_10p1, ↓z366_11, ↓z366_12, ↓z366_12p, ↓sg0, ↓sg1, ↓sg2, ↓sg3, ↓sg4, ↓sg5, ↓sg6, ↓sg7, ↓sg8, ↓sg9, ↓sg10, ↓sg11, ↓sg12, ↓sg13, ↓sg14, ↓sg15, ↓sg16, ↓sg17, ↓ss0, ↓ss1, ↓ss2, ↓ss3, ↓ss4, ↓ss5, ↓ss6, ↓ss7, ↓ss8, ↓ss9, ↓ss10, ↓ss11, ↓ss12, ↓ss13, ↓ss14, ↓ss15, ↓ss16, ↓ss17, hlt, ↓aft_of (el), ↓aft_of (et), ↓aft_of (eu), ↓aft_of (ed), nI_1]
    · have c' : ¬ (tkW t n (ltI j) q).1 = true := c
      rw [if_neg c' ] at et
      rw [if_neg c]
      simp +decide only [x179_0, x179_1, x179_2, x179_3, x179_5, x179_6, x179_9, x179_10, x179_10N, x179_11, x179_12, x179_15, x179_18, x179_21, x179_22, x179_25, x179_25N, x179_26, x179_27, x179_29, x179_32, x179_33, x179_36, x179_37, x179_38, x179_39, x179_42, x179_45, x179_45N, x179_46, x179_46N, x179_47, x179_50, x179_53, x179_54, x179_57, x179_58, x179_61, x179_62, x179_65, x179_66, aft_some, aft_void, Option.bind_some, Option.toList_some, Option.toList_none, List.cons_append, List.nil_append, if_true, if_false, ↓reduceIte, eq_self, z366_o, ↓z366_0, ↓z366_0p, ↓z366_1, ↓z366_2, ↓z366_3, ↓z366_4, ↓z366_4p, ↓z366_5, ↓z366_6, ↓z366_6p0, ↓z366_6p1, ↓z366_7, ↓z366_8, ↓z366_8p, ↓z366_9, ↓z366_9p, ↓z366_10, ↓z366_10p0, ↓z366_10p1, ↓z366_11, ↓z366_12, ↓z366_12p, ↓sg0, ↓sg1, ↓sg2, ↓sg3, ↓sg4, ↓sg5, ↓sg6, ↓sg7, ↓sg8, ↓sg9, ↓sg10, ↓sg11, ↓sg12, ↓sg13, ↓sg14, ↓sg15, ↓sg16, ↓sg17, ↓ss0, ↓ss1, ↓ss2, ↓ss3, ↓ss4, ↓ss5, ↓ss6, ↓ss7, ↓ss8, ↓ss9, ↓ss10, ↓ss11, ↓ss12, ↓ss13, ↓ss14, ↓ss15, ↓ss16, ↓ss17, hlt, ↓aft_of (el), ↓aft_of (et), nI_1, Int32.add_zero]
  have s0 := step 0 0 q (by decide) hq
  have l0 := st_le (t := t) (k := 0) (p := 0) hq
  have s1 := step 1 (stP2 t n 0 (0, q)).1 (stP2 t n 0 (0, q)).2 (by decide) l0
  have l1 := st_le (t := t) (k := 1) (p := (stP2 t n 0 (0, q)).1) l0
  have s2 := step 2 (stP2 t n 1 (stP2 t n 0 (0, q))).1 (stP2 t n 1 (stP2 t n 0 (0, q))).2 (by decide) l1
  have l2 := st_le (t := t) (k := 2) (p := (stP2 t n 1 (stP2 t n 0 (0, q))).1) l1
  have s3 := step 3 (stP2 t n 2 (stP2 t n 1 (stP2 t n 0 (0, q)))).1 (stP2 t n 2 (stP2 t n 1 (stP2 t n 0 (0, q)))).2 (by decide) l2
  have sA : X 179 4 [.ref 366, .int 0, .int 0] [] (H (hT T q k g) P) = X 179 4 [.ref 366, .int (pcW t n q).1, .int 4] [] (H (hT T (pcW t n q).2 k g) P) := s0.trans (s1.trans (s2.trans s3))
  unfold pcZ
  simp +decide only [x179_0, x179_1, x179_2, x179_3, x179_5, x179_6, x179_9, x179_10, x179_10N, x179_11, x179_12, x179_15, x179_18, x179_21, x179_22, x179_25, x179_25N, x179_26, x179_27, x179_29, x179_32, x179_33, x179_36, x179_37, x179_38, x179_39, x179_42, x179_45, x179_45N, x179_46, x179_46N, x179_47, x179_50, x179_53, x179_54, x179_57, x179_58, x179_61, x179_62, x179_65, x179_66, aft_some, aft_void, Option.bind_some, Option.toList_some, Option.toList_none, List.cons_append, List.nil_append, if_true, if_false, ↓reduceIte, eq_self]
  rw [sA, x179_4]
  obtain ⟨⟨p, a, w⟩, hs⟩ : ∃ s, s = pcW t n q := ⟨_, rfl⟩
  rw [← hs]
  cases w with
  | false => simp +decide only [x179_0, x179_1, x179_2, x179_3, x179_5, x179_6, x179_9, x179_10, x179_10N, x179_11, x179_12, x179_15, x179_18, x179_21, x179_22, x179_25, x179_25N, x179_26, x179_27, x179_29, x179_32, x179_33, x179_36, x179_37, x179_38, x179_39, x179_42, x179_45, x179_45N, x179_46, x179_46N, x179_47, x179_50, x179_53, x179_54, x179_57, x179_58, x179_61, x179_62, x179_65, x179_66, aft_some, aft_void, Option.bind_some, Option.toList_some, Option.toList_none, List.cons_append, List.nil_append, if_true, if_false, ↓reduceIte, eq_self, z366_o, ↓z366_0, ↓z366_0p, ↓z366_1, ↓z366_2, ↓z366_3, ↓z366_4, ↓z366_4p, ↓z366_5, ↓z366_6, ↓z366_6p0, ↓z366_6p1, ↓z366_7, ↓z366_8, ↓z366_8p, ↓z366_9, ↓z366_9p, ↓z366_10, ↓z366_10p0, ↓z366_10p1, ↓z366_11, ↓z366_12, ↓z366_12p, ↓sg0, ↓sg1, ↓sg2, ↓sg3, ↓sg4, ↓sg5, ↓sg6, ↓sg7, ↓sg8, ↓sg9, ↓sg10, ↓sg11, ↓sg12, ↓sg13, ↓sg14, ↓sg15, ↓sg16, ↓sg17, ↓ss0, ↓ss1, ↓ss2, ↓ss3, ↓ss4, ↓ss5, ↓ss6, ↓ss7, ↓ss8, ↓ss9, ↓ss10, ↓ss11, ↓ss12, ↓ss13, ↓ss14, ↓ss15, ↓ss16, ↓ss17, uhT_8, uhT_9, uhT_10, uhT_12, uhT_371, uhT_372, uhT_0, uhT_a, uhT_w0, uhT_w1, uhT_k, uhT_g, Bool.false_and]
  | true =>
    by_cases hp : p = 0
    · have e : decide (p = 0) = true := decide_eq_true hp
      simp +decide only [x179_0, x179_1, x179_2, x179_3, x179_5, x179_6, x179_9, x179_10, x179_10N, x179_11, x179_12, x179_15, x179_18, x179_21, x179_22, x179_25, x179_25N, x179_26, x179_27, x179_29, x179_32, x179_33, x179_36, x179_37, x179_38, x179_39, x179_42, x179_45, x179_45N, x179_46, x179_46N, x179_47, x179_50, x179_53, x179_54, x179_57, x179_58, x179_61, x179_62, x179_65, x179_66, aft_some, aft_void, Option.bind_some, Option.toList_some, Option.toList_none, List.cons_append, List.nil_append, if_true, if_false, ↓reduceIte, eq_self, z366_o, ↓z366_0, ↓z366_0p, ↓z366_1, ↓z366_2, ↓z366_3, ↓z366_4, ↓z366_4p, ↓z366_5, ↓z366_6, ↓z366_6p0, ↓z366_6p1, ↓z366_7, ↓z366_8, ↓z366_8p, ↓z366_9, ↓z366_9p, ↓z366_10, ↓z366_10p0, ↓z366_10p1, ↓z366_11, ↓z366_12, ↓z366_12p, ↓sg0, ↓sg1, ↓sg2, ↓sg3, ↓sg4, ↓sg5, ↓sg6, ↓sg7, ↓sg8, ↓sg9, ↓sg10, ↓sg11, ↓sg12, ↓sg13, ↓sg14, ↓sg15, ↓sg16, ↓sg17, ↓ss0, ↓ss1, ↓ss2, ↓ss3, ↓ss4, ↓ss5, ↓ss6, ↓ss7, ↓ss8, ↓ss9, ↓ss10, ↓ss11, ↓ss12, ↓ss13, ↓ss14, ↓ss15, ↓ss16, ↓ss17, uhT_8, uhT_9, uhT_10, uhT_12, uhT_371, uhT_372, uhT_0, uhT_a, uhT_w0, uhT_w1, uhT_k, uhT_g, hp, Bool.true_and, decide_true, Bool.not_true]
    · have e : decide (p = 0) = false := decide_eq_false hp
      simp +decide only [x179_0, x179_1, x179_2, x179_3, x179_5, x179_6, x179_9, x179_10, x179_10N, x179_11, x179_12, x179_15, x179_18, x179_21, x179_22, x179_25, x179_25N, x179_26, x179_27, x179_29, x179_32, x179_33, x179_36, x179_37, x179_38, x179_39, x179_42, x179_45, x179_45N, x179_46, x179_46N, x179_47, x179_50, x179_53, x179_54, x179_57, x179_58, x179_61, x179_62, x179_65, x179_66, aft_some, aft_void, Option.bind_some, Option.toList_some, Option.toList_none, List.cons_append, List.nil_append, if_true, if_false, ↓reduceIte, eq_self, z366_o, ↓z366_0, ↓z366_0p, ↓z366_1, ↓z366_2, ↓z366_3, ↓z366_4, ↓z366_4p, ↓z366_5, ↓z366_6, ↓z366_6p0, ↓z366_6p1, ↓z366_7, ↓z366_8, ↓z366_8p, ↓z366_9, ↓z366_9p, ↓z366_10, ↓z366_10p0, ↓z366_10p1, ↓z366_11, ↓z366_12, ↓z366_12p, ↓sg0, ↓sg1, ↓sg2, ↓sg3, ↓sg4, ↓sg5, ↓sg6, ↓sg7, ↓sg8, ↓sg9, ↓sg10, ↓sg11, ↓sg12, ↓sg13, ↓sg14, ↓sg15, ↓sg16, ↓sg17, ↓ss0, ↓ss1, ↓ss2, ↓ss3, ↓ss4, ↓ss5, ↓ss6, ↓ss7, ↓ss8, ↓ss9, ↓ss10, ↓ss11, ↓ss12, ↓ss13, ↓ss14, ↓ss15, ↓ss16, ↓ss17, uhT_8, uhT_9, uhT_10, uhT_12, uhT_371, uhT_372, uhT_0, uhT_a, uhT_w0, uhT_w1, uhT_k, uhT_g, hp, Bool.true_and, decide_false, Bool.not_false]
theorem t_hangers (h : TT T t n) (hq : q.1 ≤ n) : X 180 0 [.ref 366, .long 0] [] (H (hT T q k g) P) = some (some (.int (hnW t n q).1), H (hT T (hnW t n q).2 k g) P) := by
  have ed := t_digit (P := P) (k := k) (g := g) (lo := 1) (hi := 9) h hq
  have l1 := dg_le (t := t) (lo := 1) (hi := 9) hq (Or.inr rfl) (Or.inl rfl)
  have es := t_sign (P := P) (k := k) (g := g) h l1
  have ed2 := t_digit (P := P) (k := k) (g := g) (lo := 0) (hi := 9) h l1
  unfold hnW
  by_cases c : (dgW t n 1 9 q).2 = true
  · rw [if_pos c]
    by_cases c2 : inI (gS t n (dgW t n 1 9 q).1) 48 57 = 0
    · rw [if_pos c2]
      simp +decide only [x180_0, x180_0N, x180_1, x180_2, x180_4, x180_7, x180_8, x180_8N, x180_9, x180_12, x180_15, x180_15N, x180_16, x180_19, x180_21, x180_23, x180_26, x180_29, x180_31, x180_32, x180_33, x180_33N, x180_34, x180_35, x180_37, x180_40, x180_41, x180_42, x180_43, aft_some, aft_void, Option.bind_some, Option.toList_some, Option.toList_none, List.cons_append, List.nil_append, if_true, if_false, ↓reduceIte, eq_self, z366_o, ↓z366_0, ↓z366_0p, ↓z366_1, ↓z366_2, ↓z366_3, ↓z366_4, ↓z366_4p, ↓z366_5, ↓z366_6, ↓z366_6p0, ↓z366_6p1, ↓z366_7, ↓z366_8, ↓z366_8p, ↓z366_9, ↓z366_9p, ↓z366_10, ↓z366_10p0, ↓z366_10p1, ↓z366_11, ↓z366_12, ↓z366_12p, ↓sg0, ↓sg1, ↓sg2, ↓sg3, ↓sg4, ↓sg5, ↓sg6, ↓sg7, ↓sg8, ↓sg9, ↓sg10, ↓sg11, ↓sg12, ↓sg13, ↓sg14, ↓sg15, ↓sg16, ↓sg17, ↓ss0, ↓ss1, ↓ss2, ↓ss3, ↓ss4, ↓ss5, ↓ss6, ↓ss7, ↓ss8, ↓ss9, ↓ss10, ↓ss11, ↓ss12, ↓ss13, ↓ss14, ↓ss15, ↓ss16, ↓ss17, uhT_8, uhT_9, uhT_10, uhT_12, uhT_371, uhT_372, uhT_0, uhT_a, uhT_w0, uhT_w1, uhT_k, uhT_g, ↓aft_of (ed), c, ↓aft_of (es), ↓aft_of (r_in), c2]
    · rw [if_neg c2]
      simp +decide only [x180_0, x180_0N, x180_1, x180_2, x180_4, x180_7, x180_8, x180_8N, x180_9, x180_12, x180_15, x180_15N, x180_16, x180_19, x180_21, x180_23, x180_26, x180_29, x180_31, x180_32, x180_33, x180_33N, x180_34, x180_35, x180_37, x180_40, x180_41, x180_42, x180_43, aft_some, aft_void, Option.bind_some, Option.toList_some, Option.toList_none, List.cons_append, List.nil_append, if_true, if_false, ↓reduceIte, eq_self, z366_o, ↓z366_0, ↓z366_0p, ↓z366_1, ↓z366_2, ↓z366_3, ↓z366_4, ↓z366_4p, ↓z366_5, ↓z366_6, ↓z366_6p0, ↓z366_6p1, ↓z366_7, ↓z366_8, ↓z366_8p, ↓z366_9, ↓z366_9p, ↓z366_10, ↓z366_10p0, ↓z366_10p1, ↓z366_11, ↓z366_12, ↓z366_12p, ↓sg0, ↓sg1, ↓sg2, ↓sg3, ↓sg4, ↓sg5, ↓sg6, ↓sg7, ↓sg8, ↓sg9, ↓sg10, ↓sg11, ↓sg12, ↓sg13, ↓sg14, ↓sg15, ↓sg16, ↓sg17, ↓ss0, ↓ss1, ↓ss2, ↓ss3, ↓ss4, ↓ss5, ↓ss6, ↓ss7, ↓ss8, ↓ss9, ↓ss10, ↓ss11, ↓ss12, ↓ss13, ↓ss14, ↓ss15, ↓ss16, ↓ss17, uhT_8, uhT_9, uhT_10, uhT_12, uhT_371, uhT_372, uhT_0, uhT_a, uhT_w0, uhT_w1, uhT_k, uhT_g, ↓aft_of (ed), c, ↓aft_of (es), ↓aft_of (r_in), c2, ↓aft_of (ed2)]
  · rw [if_neg c]
    simp +decide only [x180_0, x180_0N, x180_1, x180_2, x180_4, x180_7, x180_8, x180_8N, x180_9, x180_12, x180_15, x180_15N, x180_16, x180_19, x180_21, x180_23, x180_26, x180_29, x180_31, x180_32, x180_33, x180_33N, x180_34, x180_35, x180_37, x180_40, x180_41, x180_42, x180_43, aft_some, aft_void, Option.bind_some, Option.toList_some, Option.toList_none, List.cons_append, List.nil_append, if_true, if_false, ↓reduceIte, eq_self, z366_o, ↓z366_0, ↓z366_0p, ↓z366_1, ↓z366_2, ↓z366_3, ↓z366_4, ↓z366_4p, ↓z366_5, ↓z366_6, ↓z366_6p0, ↓z366_6p1, ↓z366_7, ↓z366_8, ↓z366_8p, ↓z366_9, ↓z366_9p, ↓z366_10, ↓z366_10p0, ↓z366_10p1, ↓z366_11, ↓z366_12, ↓z366_12p, ↓sg0, ↓sg1, ↓sg2, ↓sg3, ↓sg4, ↓sg5, ↓sg6, ↓sg7, ↓sg8, ↓sg9, ↓sg10, ↓sg11, ↓sg12, ↓sg13, ↓sg14, ↓sg15, ↓sg16, ↓sg17, ↓ss0, ↓ss1, ↓ss2, ↓ss3, ↓ss4, ↓ss5, ↓ss6, ↓ss7, ↓ss8, ↓ss9, ↓ss10, ↓ss11, ↓ss12, ↓ss13, ↓ss14, ↓ss15, ↓ss16, ↓ss17, uhT_8, uhT_9, uhT_10, uhT_12, uhT_371, uhT_372, uhT_0, uhT_a, uhT_w0, uhT_w1, uhT_k, uhT_g, ↓aft_of (ed), c]
theorem sx_le (hq : q.1 ≤ n) : (sxW t n q).2.1 ≤ n := by
  have h1 := tk_le (t := t) (c := 42) hq (by decide)
  unfold sxW
  by_cases h : (tkW t n 42 q).1 = true
  · rw [if_pos h]; exact dg_le h1 (Or.inr rfl) (Or.inr rfl)
  · rw [if_neg h]; exact h1
theorem hn_le (hq : q.1 ≤ n) : (hnW t n q).2.1 ≤ n := by
  have h1 := dg_le (t := t) (lo := 1) (hi := 9) hq (Or.inr rfl) (Or.inl rfl)
  unfold hnW
  by_cases c : (dgW t n 1 9 q).2 = true
  · rw [if_pos c]
    by_cases c2 : inI (gS t n (dgW t n 1 9 q).1) 48 57 = 0
    · rw [if_pos c2]; exact h1
    · rw [if_neg c2]; exact dg_le h1 (Or.inl rfl) (Or.inl rfl)
  · rw [if_neg c]; exact h1
theorem hx_le (hq : q.1 ≤ n) : (hxW t n q).2.1 ≤ n := by
  have h1 := tk_le (t := t) (c := 45) hq (by decide)
  unfold hxW
  by_cases h : (tkW t n 45 q).1 = true
  · rw [if_pos h]; exact hn_le h1
  · rw [if_neg h]; exact h1
theorem pc_le (hq : q.1 ≤ n) : (pcZ t n q).2.1 ≤ n := by
  show (pcW t n q).2.1 ≤ n
  unfold pcW
  exact st_le (st_le (st_le (st_le hq)))
/-- a basket: where it ends, well or not, what is laid -/
theorem t_basket {a : Nat} (h : TT T t n) (ha : a ≤ n) (hk : k ≤ 12) : X 181 12 [.ref 366, .int (nI (4 * k))] [] (H (hT T (a, true) k g) P) = some (none, H (hT T (b3W t n a).2 (if (b3W t n a).2.2 = true then k + 1 else k) (upA (upA (upA (upA g (4 * k) (gS t n a - 48)) (4 * k + 1) (b1W t n a).1) (4 * k + 2) (b2W t n a).1) (4 * k + 3) (b3W t n a).1)) P) := by
  have x1 : nI (4 * k) + 1 = nI (4 * k + 1) := nI_add _ 1
  have x2 : nI (4 * k) + 2 = nI (4 * k + 2) := nI_add _ 2
  have x3 : nI (4 * k) + 3 = nI (4 * k + 3) := nI_add _ 3
  have kk : nI k + 1 = nI (k + 1) := nI_add _ 1
  have k0 : nI k + 0 = nI k := Int32.add_zero _
  obtain ⟨g1, hg1⟩ : ∃ g1, g1 = upA g (4 * k) (gS t n a - 48) := ⟨_, rfl⟩
  obtain ⟨g2, hg2⟩ : ∃ g2, g2 = upA g1 (4 * k + 1) (b1W t n a).1 := ⟨_, rfl⟩
  obtain ⟨g3, hg3⟩ : ∃ g3, g3 = upA g2 (4 * k + 2) (b2W t n a).1 := ⟨_, rfl⟩
  obtain ⟨g4, hg4⟩ : ∃ g4, g4 = upA g3 (4 * k + 3) (b3W t n a).1 := ⟨_, rfl⟩
  have ed := t_digit (P := P) (k := k) (g := g) (q := (a, true)) (lo := 0) (hi := 9) h ha
  have l0 : (dgW t n 0 9 (a, true)).1 ≤ n := dg_le ha (Or.inl rfl) (Or.inl rfl)
  have et := t_takes (P := P) (k := k) (g := g1) (c := 58) h l0
  have l1 : (clW t n a).1 ≤ n := tk_le (t := t) (c := 58) l0 (by decide)
  have ep := t_pieces (P := P) (k := k) (g := g1) h l1
  have l2 : (b1W t n a).2.1 ≤ n := pc_le l1
  have et2 := t_takes (P := P) (k := k) (g := g2) (c := 42) h l2
  have l3 : (tkW t n 42 (b1W t n a).2).2.1 ≤ n := tk_le (t := t) l2 (by decide)
  have ed2 := t_digit (P := P) (k := k) (g := g2) (lo := 1) (hi := 3) h l3
  have l4 : (b2W t n a).2.1 ≤ n := sx_le l2
  have et3 := t_takes (P := P) (k := k) (g := g3) (c := 45) h l4
  have l5 : (tkW t n 45 (b2W t n a).2).2.1 ≤ n := tk_le (t := t) l4 (by decide)
  have eh := t_hangers (P := P) (k := k) (g := g3) h l5
  -- pc 0 to 35: customer and colon
  have sA : X 181 12 [.ref 366, .int (nI (4 * k))] [] (H (hT T (a, true) k g) P) = X 181 35 [.ref 366, .int (nI (4 * k))] [] (H (hT T (clW t n a) k g1) P) := by
    rw [hg1] at et ⊢
    unfold clW
    by_cases c : (tkW t n 58 (dgW t n 0 9 (a, true))).1 = true
    · rw [if_pos c] at et
      rw [c]
      simp +decide only [x181_0, x181_1, x181_1N, x181_2, x181_5, x181_6, x181_7, x181_7N, x181_8, x181_9, x181_12, x181_12N, x181_13, x181_16, x181_17, x181_17N, x181_18, x181_19, x181_21, x181_24, x181_25, x181_25N, x181_26, x181_26N, x181_27, x181_29, x181_32, x181_36, x181_39, x181_40, x181_41, x181_42, x181_42N, x181_43, x181_46, x181_48, x181_51, x181_52, x181_53, x181_54, x181_54N, x181_55, x181_57, x181_60, x181_63, x181_63N, x181_64, x181_65, x181_66, x181_69, x181_72, x181_73, x181_75, x181_78, x181_79, x181_80, x181_81, x181_81N, x181_82, x181_84, x181_87, x181_90, x181_90N, x181_91, x181_94, x181_97, x181_98, x181_100, x181_101, x181_104, x181_104N, x181_105, x181_108, x181_111, x181_112, x181_115, x181_116, x181_117, x181_120, aft_some, aft_void, Option.bind_some, Option.toList_some, Option.toList_none, List.cons_append, List.nil_append, if_true, if_false, ↓reduceIte, eq_self, z366_o, ↓z366_0, ↓z366_0p, ↓z366_1, ↓z366_2, ↓z366_3, ↓z366_4, ↓z366_4p, ↓z366_5, ↓z366_6, ↓z366_6p0, ↓z366_6p1, ↓z366_7, ↓z366_8, ↓z366_8p, ↓z366_9, ↓z366_9p, ↓z366_10, ↓z366_10p0, ↓z366_10p1, ↓z366_11, ↓z366_12, ↓z366_12p, ↓sg0, ↓sg1, ↓sg2, ↓sg3, ↓sg4, ↓sg5, ↓sg6, ↓sg7, ↓sg8, ↓sg9, ↓sg10, ↓sg11, ↓sg12, ↓sg13, ↓sg14, ↓sg15, ↓sg16, ↓sg17, ↓ss0, ↓ss1, ↓ss2, ↓ss3, ↓ss4, ↓ss5, ↓ss6, ↓ss7, ↓ss8, ↓ss9, ↓ss10, ↓ss11, ↓ss12, ↓ss13, ↓ss14, ↓ss15, ↓ss16, ↓ss17, uhT_8, uhT_9, uhT_10, uhT_12, uhT_371, uhT_372, uhT_0, uhT_a, uhT_w0, uhT_w1, uhT_k, uhT_g, ↓aft_of (ed), ↓a372_s (show 4 * k < 64 by omega), ↓aft_of (et)]
    · rw [if_neg c] at et
      have c' : (tkW t n 58 (dgW t n 0 9 (a, true))).1 = false := by
        cases q : (tkW t n 58 (dgW t n 0 9 (a, true))).1
        · rfl
        · exact absurd q c
      rw [c']
      simp +decide only [x181_0, x181_1, x181_1N, x181_2, x181_5, x181_6, x181_7, x181_7N, x181_8, x181_9, x181_12, x181_12N, x181_13, x181_16, x181_17, x181_17N, x181_18, x181_19, x181_21, x181_24, x181_25, x181_25N, x181_26, x181_26N, x181_27, x181_29, x181_32, x181_36, x181_39, x181_40, x181_41, x181_42, x181_42N, x181_43, x181_46, x181_48, x181_51, x181_52, x181_53, x181_54, x181_54N, x181_55, x181_57, x181_60, x181_63, x181_63N, x181_64, x181_65, x181_66, x181_69, x181_72, x181_73, x181_75, x181_78, x181_79, x181_80, x181_81, x181_81N, x181_82, x181_84, x181_87, x181_90, x181_90N, x181_91, x181_94, x181_97, x181_98, x181_100, x181_101, x181_104, x181_104N, x181_105, x181_108, x181_111, x181_112, x181_115, x181_116, x181_117, x181_120, aft_some, aft_void, Option.bind_some, Option.toList_some, Option.toList_none, List.cons_append, List.nil_append, if_true, if_false, ↓reduceIte, eq_self, z366_o, ↓z366_0, ↓z366_0p, ↓z366_1, ↓z366_2, ↓z366_3, ↓z366_4, ↓z366_4p, ↓z366_5, ↓z366_6, ↓z366_6p0, ↓z366_6p1, ↓z366_7, ↓z366_8, ↓z366_8p, ↓z366_9, ↓z366_9p, ↓z366_10, ↓z366_10p0, ↓z366_10p1, ↓z366_11, ↓z366_12, ↓z366_12p, ↓sg0, ↓sg1, ↓sg2, ↓sg3, ↓sg4, ↓sg5, ↓sg6, ↓sg7, ↓sg8, ↓sg9, ↓sg10, ↓sg11, ↓sg12, ↓sg13, ↓sg14, ↓sg15, ↓sg16, ↓sg17, ↓ss0, ↓ss1, ↓ss2, ↓ss3, ↓ss4, ↓ss5, ↓ss6, ↓ss7, ↓ss8, ↓ss9, ↓ss10, ↓ss11, ↓ss12, ↓ss13, ↓ss14, ↓ss15, ↓ss16, ↓ss17, uhT_8, uhT_9, uhT_10, uhT_12, uhT_371, uhT_372, uhT_0, uhT_a, uhT_w0, uhT_w1, uhT_k, uhT_g, ↓aft_of (ed), ↓a372_s (show 4 * k < 64 by omega), ↓aft_of (et)]
  have sB : X 181 35 [.ref 366, .int (nI (4 * k))] [] (H (hT T (clW t n a) k g1) P) = X 181 47 [.ref 366, .int (nI (4 * k))] [] (H (hT T (b1W t n a).2 k g2) P) := by
    rw [x181_35, hg2]
    simp +decide only [x181_0, x181_1, x181_1N, x181_2, x181_5, x181_6, x181_7, x181_7N, x181_8, x181_9, x181_12, x181_12N, x181_13, x181_16, x181_17, x181_17N, x181_18, x181_19, x181_21, x181_24, x181_25, x181_25N, x181_26, x181_26N, x181_27, x181_29, x181_32, x181_36, x181_39, x181_40, x181_41, x181_42, x181_42N, x181_43, x181_46, x181_48, x181_51, x181_52, x181_53, x181_54, x181_54N, x181_55, x181_57, x181_60, x181_63, x181_63N, x181_64, x181_65, x181_66, x181_69, x181_72, x181_73, x181_75, x181_78, x181_79, x181_80, x181_81, x181_81N, x181_82, x181_84, x181_87, x181_90, x181_90N, x181_91, x181_94, x181_97, x181_98, x181_100, x181_101, x181_104, x181_104N, x181_105, x181_108, x181_111, x181_112, x181_115, x181_116, x181_117, x181_120, aft_some, aft_void, Option.bind_some, Option.toList_some, Option.toList_none, List.cons_append, List.nil_append, if_true, if_false, ↓reduceIte, eq_self, z366_o, ↓z366_0, ↓z366_0p, ↓z366_1, ↓z366_2, ↓z366_3, ↓z366_4, ↓z366_4p, ↓z366_5, ↓z366_6, ↓z366_6p0, ↓z366_6p1, ↓z366_7, ↓z366_8, ↓z366_8p, ↓z366_9, ↓z366_9p, ↓z366_10, ↓z366_10p0, ↓z366_10p1, ↓z366_11, ↓z366_12, ↓z366_12p, ↓sg0, ↓sg1, ↓sg2, ↓sg3, ↓sg4, ↓sg5, ↓sg6, ↓sg7, ↓sg8, ↓sg9, ↓sg10, ↓sg11, ↓sg12, ↓sg13, ↓sg14, ↓sg15, ↓sg16, ↓sg17, ↓ss0, ↓ss1, ↓ss2, ↓ss3, ↓ss4, ↓ss5, ↓ss6, ↓ss7, ↓ss8, ↓ss9, ↓ss10, ↓ss11, ↓ss12, ↓ss13, ↓ss14, ↓ss15, ↓ss16, ↓ss17, uhT_8, uhT_9, uhT_10, uhT_12, uhT_371, uhT_372, uhT_0, uhT_a, uhT_w0, uhT_w1, uhT_k, uhT_g, x1, ↓aft_of (ep), ↓a372_s (show 4 * k + 1 < 64 by omega)]
  have sC : X 181 47 [.ref 366, .int (nI (4 * k))] [] (H (hT T (b1W t n a).2 k g2) P) = X 181 74 [.ref 366, .int (nI (4 * k))] [] (H (hT T (b2W t n a).2 k g3) P) := by
    rw [x181_47, hg3]
    unfold b2W sxW
    by_cases c : (tkW t n 42 (b1W t n a).2).1 = true
    · rw [if_pos c] at et2
      rw [if_pos c]
      simp +decide only [x181_0, x181_1, x181_1N, x181_2, x181_5, x181_6, x181_7, x181_7N, x181_8, x181_9, x181_12, x181_12N, x181_13, x181_16, x181_17, x181_17N, x181_18, x181_19, x181_21, x181_24, x181_25, x181_25N, x181_26, x181_26N, x181_27, x181_29, x181_32, x181_36, x181_39, x181_40, x181_41, x181_42, x181_42N, x181_43, x181_46, x181_48, x181_51, x181_52, x181_53, x181_54, x181_54N, x181_55, x181_57, x181_60, x181_63, x181_63N, x181_64, x181_65, x181_66, x181_69, x181_72, x181_73, x181_75, x181_78, x181_79, x181_80, x181_81, x181_81N, x181_82, x181_84, x181_87, x181_90, x181_90N, x181_91, x181_94, x181_97, x181_98, x181_100, x181_101, x181_104, x181_104N, x181_105, x181_108, x181_111, x181_112, x181_115, x181_116, x181_117, x181_120, aft_some, aft_void, Option.bind_some, Option.toList_some, Option.toList_none, List.cons_append, List.nil_append, if_true, if_false, ↓reduceIte, eq_self, z366_o, ↓z366_0, ↓z366_0p, ↓z366_1, ↓z366_2, ↓z366_3, ↓z366_4, ↓z366_4p, ↓z366_5, ↓z366_6, ↓z366_6p0, ↓z366_6p1, ↓z366_7, ↓z366_8, ↓z366_8p, ↓z366_9, ↓z366_9p, ↓z366_10, ↓z366_10p0, ↓z366_10p1, ↓z366_11, ↓z366_12, ↓z366_12p, ↓sg0, ↓sg1, ↓sg2, ↓sg3, ↓sg4, ↓sg5, ↓sg6, ↓sg7, ↓sg8, ↓sg9, ↓sg10, ↓sg11, ↓sg12, ↓sg13, ↓sg14, ↓sg15, ↓sg16, ↓sg17, ↓ss0, ↓ss1, ↓ss2, ↓ss3, ↓ss4, ↓ss5, ↓ss6, ↓ss7, ↓ss8, ↓ss9, ↓ss10, ↓ss11, ↓ss12, ↓ss13, ↓ss14, ↓ss15, ↓ss16, ↓ss17, uhT_8, uhT_9, uhT_10, uhT_12, uhT_371, uhT_372, uhT_0, uhT_a, uhT_w0, uhT_w1, uhT_k, uhT_g, x2, ↓aft_of (et2), ↓aft_of (ed2), ↓a372_s (show 4 * k + 2 < 64 by omega)]
    · rw [if_neg c] at et2
      rw [if_neg c]
      simp +decide only [x181_0, x181_1, x181_1N, x181_2, x181_5, x181_6, x181_7, x181_7N, x181_8, x181_9, x181_12, x181_12N, x181_13, x181_16, x181_17, x181_17N, x181_18, x181_19, x181_21, x181_24, x181_25, x181_25N, x181_26, x181_26N, x181_27, x181_29, x181_32, x181_36, x181_39, x181_40, x181_41, x181_42, x181_42N, x181_43, x181_46, x181_48, x181_51, x181_52, x181_53, x181_54, x181_54N, x181_55, x181_57, x181_60, x181_63, x181_63N, x181_64, x181_65, x181_66, x181_69, x181_72, x181_73, x181_75, x181_78, x181_79, x181_80, x181_81, x181_81N, x181_82, x181_84, x181_87, x181_90, x181_90N, x181_91, x181_94, x181_97, x181_98, x181_100, x181_101, x181_104, x181_104N, x181_105, x181_108, x181_111, x181_112, x181_115, x181_116, x181_117, x181_120, aft_some, aft_void, Option.bind_some, Option.toList_some, Option.toList_none, List.cons_append, List.nil_append, if_true, if_false, ↓reduceIte, eq_self, z366_o, ↓z366_0, ↓z366_0p, ↓z366_1, ↓z366_2, ↓z366_3, ↓z366_4, ↓z366_4p, ↓z366_5, ↓z366_6, ↓z366_6p0, ↓z366_6p1, ↓z366_7, ↓z366_8, ↓z366_8p, ↓z366_9, ↓z366_9p, ↓z366_10, ↓z366_10p0, ↓z366_10p1, ↓z366_11, ↓z366_12, ↓z366_12p, ↓sg0, ↓sg1, ↓sg2, ↓sg3, ↓sg4, ↓sg5, ↓sg6, ↓sg7, ↓sg8, ↓sg9, ↓sg10, ↓sg11, ↓sg12, ↓sg13, ↓sg14, ↓sg15, ↓sg16, ↓sg17, ↓ss0, ↓ss1, ↓ss2, ↓ss3, ↓ss4, ↓ss5, ↓ss6, ↓ss7, ↓ss8, ↓ss9, ↓ss10, ↓ss11, ↓ss12, ↓ss13, ↓ss14, ↓ss15, ↓ss16, ↓ss17, uhT_8, uhT_9, uhT_10, uhT_12, uhT_371, uhT_372, uhT_0, uhT_a, uhT_w0, uhT_w1, uhT_k, uhT_g, x2, ↓aft_of (et2), ↓a372_s (show 4 * k + 2 < 64 by omega)]
  have sD : X 181 74 [.ref 366, .int (nI (4 * k))] [] (H (hT T (b2W t n a).2 k g3) P) = X 181 99 [.ref 366, .int (nI (4 * k))] [] (H (hT T (b3W t n a).2 k g4) P) := by
    rw [x181_74, hg4]
    unfold b3W hxW
    by_cases c : (tkW t n 45 (b2W t n a).2).1 = true
    · rw [if_pos c] at et3
      rw [if_pos c]
      simp +decide only [x181_0, x181_1, x181_1N, x181_2, x181_5, x181_6, x181_7, x181_7N, x181_8, x181_9, x181_12, x181_12N, x181_13, x181_16, x181_17, x181_17N, x181_18, x181_19, x181_21, x181_24, x181_25, x181_25N, x181_26, x181_26N, x181_27, x181_29, x181_32, x181_36, x181_39, x181_40, x181_41, x181_42, x181_42N, x181_43, x181_46, x181_48, x181_51, x181_52, x181_53, x181_54, x181_54N, x181_55, x181_57, x181_60, x181_63, x181_63N, x181_64, x181_65, x181_66, x181_69, x181_72, x181_73, x181_75, x181_78, x181_79, x181_80, x181_81, x181_81N, x181_82, x181_84, x181_87, x181_90, x181_90N, x181_91, x181_94, x181_97, x181_98, x181_100, x181_101, x181_104, x181_104N, x181_105, x181_108, x181_111, x181_112, x181_115, x181_116, x181_117, x181_120, aft_some, aft_void, Option.bind_some, Option.toList_some, Option.toList_none, List.cons_append, List.nil_append, if_true, if_false, ↓reduceIte, eq_self, z366_o, ↓z366_0, ↓z366_0p, ↓z366_1, ↓z366_2, ↓z366_3, ↓z366_4, ↓z366_4p, ↓z366_5, ↓z366_6, ↓z366_6p0, ↓z366_6p1, ↓z366_7, ↓z366_8, ↓z366_8p, ↓z366_9, ↓z366_9p, ↓z366_10, ↓z366_10p0, ↓z366_10p1, ↓z366_11, ↓z366_12, ↓z366_12p, ↓sg0, ↓sg1, ↓sg2, ↓sg3, ↓sg4, ↓sg5, ↓sg6, ↓sg7, ↓sg8, ↓sg9, ↓sg10, ↓sg11, ↓sg12, ↓sg13, ↓sg14, ↓sg15, ↓sg16, ↓sg17, ↓ss0, ↓ss1, ↓ss2, ↓ss3, ↓ss4, ↓ss5, ↓ss6, ↓ss7, ↓ss8, ↓ss9, ↓ss10, ↓ss11, ↓ss12, ↓ss13, ↓ss14, ↓ss15, ↓ss16, ↓ss17, uhT_8, uhT_9, uhT_10, uhT_12, uhT_371, uhT_372, uhT_0, uhT_a, uhT_w0, uhT_w1, uhT_k, uhT_g, x3, ↓aft_of (et3), ↓aft_of (eh), ↓a372_s (show 4 * k + 3 < 64 by omega)]
    · rw [if_neg c] at et3
      rw [if_neg c]
      simp +decide only [x181_0, x181_1, x181_1N, x181_2, x181_5, x181_6, x181_7, x181_7N, x181_8, x181_9, x181_12, x181_12N, x181_13, x181_16, x181_17, x181_17N, x181_18, x181_19, x181_21, x181_24, x181_25, x181_25N, x181_26, x181_26N, x181_27, x181_29, x181_32, x181_36, x181_39, x181_40, x181_41, x181_42, x181_42N, x181_43, x181_46, x181_48, x181_51, x181_52, x181_53, x181_54, x181_54N, x181_55, x181_57, x181_60, x181_63, x181_63N, x181_64, x181_65, x181_66, x181_69, x181_72, x181_73, x181_75, x181_78, x181_79, x181_80, x181_81, x181_81N, x181_82, x181_84, x181_87, x181_90, x181_90N, x181_91, x181_94, x181_97, x181_98, x181_100, x181_101, x181_104, x181_104N, x181_105, x181_108, x181_111, x181_112, x181_115, x181_116, x181_117, x181_120, aft_some, aft_void, Option.bind_some, Option.toList_some, Option.toList_none, List.cons_append, List.nil_append, if_true, if_false, ↓reduceIte, eq_self, z366_o, ↓z366_0, ↓z366_0p, ↓z366_1, ↓z366_2, ↓z366_3, ↓z366_4, ↓z366_4p, ↓z366_5, ↓z366_6, ↓z366_6p0, ↓z366_6p1, ↓z366_7, ↓z366_8, ↓z366_8p, ↓z366_9, ↓z366_9p, ↓z366_10, ↓z366_10p0, ↓z366_10p1, ↓z366_11, ↓z366_12, ↓z366_12p, ↓sg0, ↓sg1, ↓sg2, ↓sg3, ↓sg4, ↓sg5, ↓sg6, ↓sg7, ↓sg8, ↓sg9, ↓sg10, ↓sg11, ↓sg12, ↓sg13, ↓sg14, ↓sg15, ↓sg16, ↓sg17, ↓ss0, ↓ss1, ↓ss2, ↓ss3, ↓ss4, ↓ss5, ↓ss6, ↓ss7, ↓ss8, ↓ss9, ↓ss10, ↓ss11, ↓ss12, ↓ss13, ↓ss14, ↓ss15, ↓ss16, ↓ss17, uhT_8, uhT_9, uhT_10, uhT_12, uhT_371, uhT_372, uhT_0, uhT_a, uhT_w0, uhT_w1, uhT_k, uhT_g, x3, ↓aft_of (et3), ↓a372_s (show 4 * k + 3 < 64 by omega)]
  rw [sA, sB, sC, sD, x181_99, ← hg1, ← hg2, ← hg3, ← hg4]
  by_cases c : (b3W t n a).2.2 = true
  · rw [if_pos c]
    simp +decide only [x181_0, x181_1, x181_1N, x181_2, x181_5, x181_6, x181_7, x181_7N, x181_8, x181_9, x181_12, x181_12N, x181_13, x181_16, x181_17, x181_17N, x181_18, x181_19, x181_21, x181_24, x181_25, x181_25N, x181_26, x181_26N, x181_27, x181_29, x181_32, x181_36, x181_39, x181_40, x181_41, x181_42, x181_42N, x181_43, x181_46, x181_48, x181_51, x181_52, x181_53, x181_54, x181_54N, x181_55, x181_57, x181_60, x181_63, x181_63N, x181_64, x181_65, x181_66, x181_69, x181_72, x181_73, x181_75, x181_78, x181_79, x181_80, x181_81, x181_81N, x181_82, x181_84, x181_87, x181_90, x181_90N, x181_91, x181_94, x181_97, x181_98, x181_100, x181_101, x181_104, x181_104N, x181_105, x181_108, x181_111, x181_112, x181_115, x181_116, x181_117, x181_120, aft_some, aft_void, Option.bind_some, Option.toList_some, Option.toList_none, List.cons_append, List.nil_append, if_true, if_false, ↓reduceIte, eq_self, z366_o, ↓z366_0, ↓z366_0p, ↓z366_1, ↓z366_2, ↓z366_3, ↓z366_4, ↓z366_4p, ↓z366_5, ↓z366_6, ↓z366_6p0, ↓z366_6p1, ↓z366_7, ↓z366_8, ↓z366_8p, ↓z366_9, ↓z366_9p, ↓z366_10, ↓z366_10p0, ↓z366_10p1, ↓z366_11, ↓z366_12, ↓z366_12p, ↓sg0, ↓sg1, ↓sg2, ↓sg3, ↓sg4, ↓sg5, ↓sg6, ↓sg7, ↓sg8, ↓sg9, ↓sg10, ↓sg11, ↓sg12, ↓sg13, ↓sg14, ↓sg15, ↓sg16, ↓sg17, ↓ss0, ↓ss1, ↓ss2, ↓ss3, ↓ss4, ↓ss5, ↓ss6, ↓ss7, ↓ss8, ↓ss9, ↓ss10, ↓ss11, ↓ss12, ↓ss13, ↓ss14, ↓ss15, ↓ss16, ↓ss17, uhT_8, uhT_9, uhT_10, uhT_12, uhT_371, uhT_372, uhT_0, uhT_a, uhT_w0, uhT_w1, uhT_k, uhT_g, c, kk]
  · rw [if_neg c]
    simp +decide only [x181_0, x181_1, x181_1N, x181_2, x181_5, x181_6, x181_7, x181_7N, x181_8, x181_9, x181_12, x181_12N, x181_13, x181_16, x181_17, x181_17N, x181_18, x181_19, x181_21, x181_24, x181_25, x181_25N, x181_26, x181_26N, x181_27, x181_29, x181_32, x181_36, x181_39, x181_40, x181_41, x181_42, x181_42N, x181_43, x181_46, x181_48, x181_51, x181_52, x181_53, x181_54, x181_54N, x181_55, x181_57, x181_60, x181_63, x181_63N, x181_64, x181_65, x181_66, x181_69, x181_72, x181_73, x181_75, x181_78, x181_79, x181_80, x181_81, x181_81N, x181_82, x181_84, x181_87, x181_90, x181_90N, x181_91, x181_94, x181_97, x181_98, x181_100, x181_101, x181_104, x181_104N, x181_105, x181_108, x181_111, x181_112, x181_115, x181_116, x181_117, x181_120, aft_some, aft_void, Option.bind_some, Option.toList_some, Option.toList_none, List.cons_append, List.nil_append, if_true, if_false, ↓reduceIte, eq_self, z366_o, ↓z366_0, ↓z366_0p, ↓z366_1, ↓z366_2, ↓z366_3, ↓z366_4, ↓z366_4p, ↓z366_5, ↓z366_6, ↓z366_6p0, ↓z366_6p1, ↓z366_7, ↓z366_8, ↓z366_8p, ↓z366_9, ↓z366_9p, ↓z366_10, ↓z366_10p0, ↓z366_10p1, ↓z366_11, ↓z366_12, ↓z366_12p, ↓sg0, ↓sg1, ↓sg2, ↓sg3, ↓sg4, ↓sg5, ↓sg6, ↓sg7, ↓sg8, ↓sg9, ↓sg10, ↓sg11, ↓sg12, ↓sg13, ↓sg14, ↓sg15, ↓sg16, ↓sg17, ↓ss0, ↓ss1, ↓ss2, ↓ss3, ↓ss4, ↓ss5, ↓ss6, ↓ss7, ↓ss8, ↓ss9, ↓ss10, ↓ss11, ↓ss12, ↓ss13, ↓ss14, ↓ss15, ↓ss16, ↓ss17, uhT_8, uhT_9, uhT_10, uhT_12, uhT_371, uhT_372, uhT_0, uhT_a, uhT_w0, uhT_w1, uhT_k, uhT_g, c, k0]
/-- the rows that were read -/
def RB (r : rS) (k : Nat) (g : Nat → Int32) : Prop := ∀ j, j < k → r.2.2.2.1 j = g (4 * j) ∧ r.2.2.2.2.1 j = g (4 * j + 1) ∧ r.2.2.2.2.2.1 j = g (4 * j + 2) ∧ r.2.2.2.2.2.2 j = g (4 * j + 3)
/-- what holds where the reference looks for a semicolon -/
def LI (t : Nat → Int32) (n : Nat) (C : Option Nat × rS) (a : Nat) (w : Bool) (k : Nat) (g : Nat → Int32) : Prop := a ≤ n ∧ ((w = false ∧ rdA n C = nI a) ∨ (w = true ∧ ∃ r, C = cl t n a r ∧ r.1 = k ∧ 5 * k ≤ a + 1 ∧ ED t n a r ∧ RB r k g))
theorem b3_le {a : Nat} (ha : a ≤ n) : (b3W t n a).2.1 ≤ n := by
  have l0 : (dgW t n 0 9 (a, true)).1 ≤ n := dg_le ha (Or.inl rfl) (Or.inl rfl)
  have l1 : (clW t n a).1 ≤ n := tk_le (t := t) (c := 58) l0 (by decide)
  exact hx_le (sx_le (pc_le l1))
/-- a basket is read: what holds behind it -/
theorem LI.bk {C : Option Nat × rS} {a : Nat} {r : rS} (hn : n ≤ 60) (hC : C = cl t n a r) (hk : r.1 = k) (h0 : r.2.1 = 0) (ha : a ≤ n) (h5 : 5 * k ≤ a) (hR : RB r k g) :
    LI t n C (b3W t n a).2.1 (b3W t n a).2.2 (if (b3W t n a).2.2 = true then k + 1 else k) (upA (upA (upA (upA g (4 * k) (gS t n a - 48)) (4 * k + 1) (b1W t n a).1) (4 * k + 2) (b2W t n a).1) (4 * k + 3) (b3W t n a).1) := by
  refine ⟨b3_le ha, ?_⟩
  rcases bk_cl (t := t) (n := n) (a := a) (r := r) h0 ha hn (by rw [hk]; exact h5) with ⟨g1, g2⟩ | ⟨g1, g2, r', g3, g4, g5, g6, g7, g8, g9, g10⟩
  · exact Or.inl ⟨g1, by rw [hC]; exact g2⟩
  · rw [if_pos g1]
    rw [hk] at g4 g5 g6 g7 g8 g9
    refine Or.inr ⟨g1, r', by rw [hC]; exact g3, g4, by omega, g10, fun j hj => ?_⟩
    by_cases e : j = k
    · subst e
      refine ⟨?_, ?_, ?_, ?_⟩
      · rw [upA_n _ _ (by omega), upA_n _ _ (by omega), upA_n _ _ (by omega), upA_s]; exact g6
      · rw [upA_n _ _ (by omega), upA_n _ _ (by omega), upA_s]; exact g7
      · rw [upA_n _ _ (by omega), upA_s]; exact g8
      · rw [upA_s]; exact g9
    · obtain ⟨q1, q2, q3, q4⟩ := g5 j e
      obtain ⟨p1, p2, p3, p4⟩ := hR j (by omega)
      refine ⟨?_, ?_, ?_, ?_⟩
      · rw [q1, upA_n _ _ (by omega), upA_n _ _ (by omega), upA_n _ _ (by omega), upA_n _ _ (by omega)]; exact p1
      · rw [q2, upA_n _ _ (by omega), upA_n _ _ (by omega), upA_n _ _ (by omega), upA_n _ _ (by omega)]; exact p2
      · rw [q3, upA_n _ _ (by omega), upA_n _ _ (by omega), upA_n _ _ (by omega), upA_n _ _ (by omega)]; exact p3
      · rw [q4, upA_n _ _ (by omega), upA_n _ _ (by omega), upA_n _ _ (by omega), upA_n _ _ (by omega)]; exact p4
theorem t_loop {C : Option Nat × rS} (h : TT T t n) : ∀ (m a : Nat) (w : Bool) (k : Nat) (g : Nat → Int32), n - a ≤ m → LI t n C a w k g → ∃ q k' g', X 182 14 [.ref 366] [] (H (hT T (a, w) k g) P) = some (some (.int (rdA n C)), H (hT T q k' g') P) ∧ (rdA n C = -5 → k' = C.2.1 ∧ k' ≤ 12 ∧ RB C.2 k' g') := by
  have h60 := h.2.1
  have stop : ∀ (a : Nat) (w : Bool) (k : Nat) (g : Nat → Int32), LI t n C a w k g → (w = false ∨ n ≤ a) → ∃ q k' g', X 182 14 [.ref 366] [] (H (hT T (a, w) k g) P) = some (some (.int (rdA n C)), H (hT T q k' g') P) ∧ (rdA n C = -5 → k' = C.2.1 ∧ k' ≤ 12 ∧ RB C.2 k' g') := by
    intro a w k g ⟨ha, hI⟩ hs
    rcases hI with ⟨hw, hC⟩ | ⟨hw, r, hC, hr, h5, hE, hR⟩
    · subst hw
      refine ⟨(a, false), k, g, ?_, fun e => ?_⟩
      · rw [hC, x182_14]
        simp +decide only [x182_0, x182_0N, x182_1, x182_2, x182_5, x182_5N, x182_6, x182_7, x182_10, x182_10N, x182_11, x182_15, x182_18, x182_21, x182_21N, x182_22, x182_25, x182_25N, x182_26, x182_29, x182_32, x182_32N, x182_33, x182_33N, x182_34, x182_36, x182_39, x182_42, x182_42N, x182_43, x182_46, x182_49, x182_49N, x182_50, x182_53, x182_56, x182_56N, x182_57, x182_60, x182_63, x182_65, x182_68, x182_68N, x182_69, x182_72, aft_some, aft_void, Option.bind_some, Option.toList_some, Option.toList_none, List.cons_append, List.nil_append, if_true, if_false, ↓reduceIte, eq_self, z366_o, ↓z366_0, ↓z366_0p, ↓z366_1, ↓z366_2, ↓z366_3, ↓z366_4, ↓z366_4p, ↓z366_5, ↓z366_6, ↓z366_6p0, ↓z366_6p1, ↓z366_7, ↓z366_8, ↓z366_8p, ↓z366_9, ↓z366_9p, ↓z366_10, ↓z366_10p0, ↓z366_10p1, ↓z366_11, ↓z366_12, ↓z366_12p, ↓sg0, ↓sg1, ↓sg2, ↓sg3, ↓sg4, ↓sg5, ↓sg6, ↓sg7, ↓sg8, ↓sg9, ↓sg10, ↓sg11, ↓sg12, ↓sg13, ↓sg14, ↓sg15, ↓sg16, ↓sg17, ↓ss0, ↓ss1, ↓ss2, ↓ss3, ↓ss4, ↓ss5, ↓ss6, ↓ss7, ↓ss8, ↓ss9, ↓ss10, ↓ss11, ↓ss12, ↓ss13, ↓ss14, ↓ss15, ↓ss16, ↓ss17, uhT_8, uhT_9, uhT_10, uhT_12, uhT_371, uhT_372, uhT_0, uhT_a, uhT_w0, uhT_w1, uhT_k, uhT_g]
      · rw [hC] at e
        have := nI_ne5 (n := a) (by omega)
        rw [this] at e
        exact absurd e id
    · subst hw
      have ha2 : a = n := by
        rcases hs with z | z
        · cases z
        · omega
      have hC2 : C = (none, r) := by rw [hC, cl_e (by omega)]
      have h5' : rdA n C = -5 := by
        rw [hC2]
        show (if meI r.2.1 = 0 then nI n else -5) = _
        rw [hE.2.1, if_neg (by decide)]
      have elt : (nI a < nI n) = False := eq_false (nI_nlt (by omega) (by omega))
      refine ⟨(a, true), k, g, ?_, fun _ => ⟨by rw [hC2]; exact hr.symm, by omega, by rw [hC2]; exact hR⟩⟩
      rw [h5', x182_14]
      simp +decide only [x182_0, x182_0N, x182_1, x182_2, x182_5, x182_5N, x182_6, x182_7, x182_10, x182_10N, x182_11, x182_15, x182_18, x182_21, x182_21N, x182_22, x182_25, x182_25N, x182_26, x182_29, x182_32, x182_32N, x182_33, x182_33N, x182_34, x182_36, x182_39, x182_42, x182_42N, x182_43, x182_46, x182_49, x182_49N, x182_50, x182_53, x182_56, x182_56N, x182_57, x182_60, x182_63, x182_65, x182_68, x182_68N, x182_69, x182_72, aft_some, aft_void, Option.bind_some, Option.toList_some, Option.toList_none, List.cons_append, List.nil_append, if_true, if_false, ↓reduceIte, eq_self, z366_o, ↓z366_0, ↓z366_0p, ↓z366_1, ↓z366_2, ↓z366_3, ↓z366_4, ↓z366_4p, ↓z366_5, ↓z366_6, ↓z366_6p0, ↓z366_6p1, ↓z366_7, ↓z366_8, ↓z366_8p, ↓z366_9, ↓z366_9p, ↓z366_10, ↓z366_10p0, ↓z366_10p1, ↓z366_11, ↓z366_12, ↓z366_12p, ↓sg0, ↓sg1, ↓sg2, ↓sg3, ↓sg4, ↓sg5, ↓sg6, ↓sg7, ↓sg8, ↓sg9, ↓sg10, ↓sg11, ↓sg12, ↓sg13, ↓sg14, ↓sg15, ↓sg16, ↓sg17, ↓ss0, ↓ss1, ↓ss2, ↓ss3, ↓ss4, ↓ss5, ↓ss6, ↓ss7, ↓ss8, ↓ss9, ↓ss10, ↓ss11, ↓ss12, ↓ss13, ↓ss14, ↓ss15, ↓ss16, ↓ss17, uhT_8, uhT_9, uhT_10, uhT_12, uhT_371, uhT_372, uhT_0, uhT_a, uhT_w0, uhT_w1, uhT_k, uhT_g, h.1, elt]
  intro m
  induction m with
  | zero =>
    intro a w k g hm hI
    exact stop a w k g hI (Or.inr (by omega))
  | succ m ih =>
    intro a w k g hm hI
    by_cases hs : w = false ∨ n ≤ a
    · exact stop a w k g hI hs
    have hw : w = true := by
      cases w with
      | true => rfl
      | false => exact absurd (Or.inl rfl) hs
    have hl : a < n := by
      apply Classical.byContradiction
      intro z
      exact hs (Or.inr (by omega))
    subst hw
    obtain ⟨ha, hI'⟩ := id hI
    rcases hI' with ⟨hw, -⟩ | ⟨-, r, hC, hr, h5, hE, hR⟩
    · cases hw
    have elt : (nI a < nI n) = True := eq_true (nI_lt hl (by omega))
    have et := t_takes (P := P) (k := k) (g := g) (q := (a, true)) (c := 59) h ha
    by_cases h59 : t a = 59
    · have hg : gS t n a = 59 := by rw [gS_lt hl]; exact h59
      rw [tk_ok hg] at et
      have et : X 176 0 [.ref 366, .int 59, .long 0] [] (H (hT T (a, true) k g) P) = some (some (.int 1), H (hT T (a + 1, true) k g) P) := et
      have hC2 : C = cl t n (a + 1) (r.1, 0, r.2.2) := by rw [hC, cl_go hl (hE.2.2.1 hl h59)]
      have hB := LI.bk (C := C) (r := (r.1, 0, r.2.2)) h60 hC2 hr rfl (show a + 1 ≤ n by omega) h5 hR
      have eb := t_basket (P := P) (k := k) (g := g) h (show a + 1 ≤ n by omega) (by omega)
      have k4 : 4 * nI k = nI (4 * k) := by rw [show (4 : Int32) = nI 4 from rfl, nI_mul]
      have e0 : X 181 0 [.ref 366, .long 0] [] (H (hT T (a + 1, true) k g) P) = X 181 12 [.ref 366, .int (nI (4 * k))] [] (H (hT T (a + 1, true) k g) P) := by
        simp +decide only [x181_0, x181_1, x181_1N, x181_2, x181_5, x181_6, x181_7, x181_7N, x181_8, x181_9, x181_13, x181_16, x181_17, x181_17N, x181_18, x181_19, x181_21, x181_24, x181_25, x181_25N, x181_26, x181_26N, x181_27, x181_29, x181_32, x181_35, x181_35N, x181_36, x181_39, x181_40, x181_41, x181_42, x181_42N, x181_43, x181_46, x181_47, x181_47N, x181_48, x181_51, x181_52, x181_53, x181_54, x181_54N, x181_55, x181_57, x181_60, x181_63, x181_63N, x181_64, x181_65, x181_66, x181_69, x181_72, x181_73, x181_74, x181_74N, x181_75, x181_78, x181_79, x181_80, x181_81, x181_81N, x181_82, x181_84, x181_87, x181_90, x181_90N, x181_91, x181_94, x181_97, x181_98, x181_99, x181_99N, x181_100, x181_101, x181_104, x181_104N, x181_105, x181_108, x181_111, x181_112, x181_115, x181_116, x181_117, x181_120, aft_some, aft_void, Option.bind_some, Option.toList_some, Option.toList_none, List.cons_append, List.nil_append, if_true, if_false, ↓reduceIte, eq_self, z366_o, ↓z366_0, ↓z366_0p, ↓z366_1, ↓z366_2, ↓z366_3, ↓z366_4, ↓z366_4p, ↓z366_5, ↓z366_6, ↓z366_6p0, ↓z366_6p1, ↓z366_7, ↓z366_8, ↓z366_8p, ↓z366_9, ↓z366_9p, ↓z366_10, ↓z366_10p0, ↓z366_10p1, ↓z366_11, ↓z366_12, ↓z366_12p, ↓sg0, ↓sg1, ↓sg2, ↓sg3, ↓sg4, ↓sg5, ↓sg6, ↓sg7, ↓sg8, ↓sg9, ↓sg10, ↓sg11, ↓sg12, ↓sg13, ↓sg14, ↓sg15, ↓sg16, ↓sg17, ↓ss0, ↓ss1, ↓ss2, ↓ss3, ↓ss4, ↓ss5, ↓ss6, ↓ss7, ↓ss8, ↓ss9, ↓ss10, ↓ss11, ↓ss12, ↓ss13, ↓ss14, ↓ss15, ↓ss16, ↓ss17, uhT_8, uhT_9, uhT_10, uhT_12, uhT_371, uhT_372, uhT_0, uhT_a, uhT_w0, uhT_w1, uhT_k, uhT_g, k4]
      rw [eb] at e0
      have hge : a + 1 ≤ (b3W t n (a + 1)).2.1 ∨ (b3W t n (a + 1)).2.2 = false := by
        rcases bk_cl (t := t) (n := n) (a := a + 1) (r := (r.1, 0, r.2.2)) rfl (by omega) h60 (by show 5 * r.1 ≤ a + 1; rw [hr]; exact h5) with ⟨z, -⟩ | ⟨-, z, -⟩
        · exact Or.inr z
        · exact Or.inl (by omega)
      have nxt : X 182 14 [.ref 366] [] (H (hT T (a, true) k g) P) = X 182 14 [.ref 366] [] (H (hT T (b3W t n (a + 1)).2 (if (b3W t n (a + 1)).2.2 = true then k + 1 else k) (upA (upA (upA (upA g (4 * k) (gS t n (a + 1) - 48)) (4 * k + 1) (b1W t n (a + 1)).1) (4 * k + 2) (b2W t n (a + 1)).1) (4 * k + 3) (b3W t n (a + 1)).1)) P) := by
        rw [x182_14]
        simp +decide only [x182_0, x182_0N, x182_1, x182_2, x182_5, x182_5N, x182_6, x182_7, x182_10, x182_10N, x182_11, x182_15, x182_18, x182_21, x182_21N, x182_22, x182_25, x182_25N, x182_26, x182_29, x182_32, x182_32N, x182_33, x182_33N, x182_34, x182_36, x182_39, x182_42, x182_42N, x182_43, x182_46, x182_49, x182_49N, x182_50, x182_53, x182_56, x182_56N, x182_57, x182_60, x182_63, x182_65, x182_68, x182_68N, x182_69, x182_72, aft_some, aft_void, Option.bind_some, Option.toList_some, Option.toList_none, List.cons_append, List.nil_append, if_true, if_false, ↓reduceIte, eq_self, z366_o, ↓z366_0, ↓z366_0p, ↓z366_1, ↓z366_2, ↓z366_3, ↓z366_4, ↓z366_4p, ↓z366_5, ↓z366_6, ↓z366_6p0, ↓z366_6p1, ↓z366_7, ↓z366_8, ↓z366_8p, ↓z366_9, ↓z366_9p, ↓z366_10, ↓z366_10p0, ↓z366_10p1, ↓z366_11, ↓z366_12, ↓z366_12p, ↓sg0, ↓sg1, ↓sg2, ↓sg3, ↓sg4, ↓sg5, ↓sg6, ↓sg7, ↓sg8, ↓sg9, ↓sg10, ↓sg11, ↓sg12, ↓sg13, ↓sg14, ↓sg15, ↓sg16, ↓sg17, ↓ss0, ↓ss1, ↓ss2, ↓ss3, ↓ss4, ↓ss5, ↓ss6, ↓ss7, ↓ss8, ↓ss9, ↓ss10, ↓ss11, ↓ss12, ↓ss13, ↓ss14, ↓ss15, ↓ss16, ↓ss17, uhT_8, uhT_9, uhT_10, uhT_12, uhT_371, uhT_372, uhT_0, uhT_a, uhT_w0, uhT_w1, uhT_k, uhT_g, h.1, elt, ↓aft_of (et), ↓aft_of (e0)]
      rw [nxt]
      rcases hge with z | z
      · exact ih (b3W t n (a + 1)).2.1 (b3W t n (a + 1)).2.2 _ _ (by omega) hB
      · exact stop _ _ _ _ hB (Or.inl z)
    · have hg : ¬ gS t n a = 59 := by rw [gS_lt hl]; exact h59
      rw [tk_no hg] at et
      have et : X 176 0 [.ref 366, .int 59, .long 0] [] (H (hT T (a, true) k g) P) = some (some (.int 0), H (hT T (a, true) k g) P) := et
      have hC2 : rdA n C = nI a := by rw [hC]; exact cl_bad hl (hE.2.2.2 hl h59)
      have nxt : X 182 14 [.ref 366] [] (H (hT T (a, true) k g) P) = X 182 14 [.ref 366] [] (H (hT T (a, false) k g) P) := by
        rw [x182_14]
        simp +decide only [x182_0, x182_0N, x182_1, x182_2, x182_5, x182_5N, x182_6, x182_7, x182_10, x182_10N, x182_11, x182_15, x182_18, x182_21, x182_21N, x182_22, x182_25, x182_25N, x182_26, x182_29, x182_32, x182_32N, x182_33, x182_33N, x182_34, x182_36, x182_39, x182_42, x182_42N, x182_43, x182_46, x182_49, x182_49N, x182_50, x182_53, x182_56, x182_56N, x182_57, x182_60, x182_63, x182_65, x182_68, x182_68N, x182_69, x182_72, aft_some, aft_void, Option.bind_some, Option.toList_some, Option.toList_none, List.cons_append, List.nil_append, if_true, if_false, ↓reduceIte, eq_self, z366_o, ↓z366_0, ↓z366_0p, ↓z366_1, ↓z366_2, ↓z366_3, ↓z366_4, ↓z366_4p, ↓z366_5, ↓z366_6, ↓z366_6p0, ↓z366_6p1, ↓z366_7, ↓z366_8, ↓z366_8p, ↓z366_9, ↓z366_9p, ↓z366_10, ↓z366_10p0, ↓z366_10p1, ↓z366_11, ↓z366_12, ↓z366_12p, ↓sg0, ↓sg1, ↓sg2, ↓sg3, ↓sg4, ↓sg5, ↓sg6, ↓sg7, ↓sg8, ↓sg9, ↓sg10, ↓sg11, ↓sg12, ↓sg13, ↓sg14, ↓sg15, ↓sg16, ↓sg17, ↓ss0, ↓ss1, ↓ss2, ↓ss3, ↓ss4, ↓ss5, ↓ss6, ↓ss7, ↓ss8, ↓ss9, ↓ss10, ↓ss11, ↓ss12, ↓ss13, ↓ss14, ↓ss15, ↓ss16, ↓ss17, uhT_8, uhT_9, uhT_10, uhT_12, uhT_371, uhT_372, uhT_0, uhT_a, uhT_w0, uhT_w1, uhT_k, uhT_g, h.1, elt, ↓aft_of (et)]
      rw [nxt]
      exact stop a false k g ⟨ha, Or.inl ⟨rfl, hC2⟩⟩ (Or.inl rfl)
theorem t_reads (h : TT T t n) : ∃ q k g, X 182 0 [.ref 366] [] (H T P) = some (some (.int (rdA n (rdG t n 0 r00))), H (hT T q k g) P) ∧ (rdA n (rdG t n 0 r00) = -5 → k = (rdG t n 0 r00).2.1 ∧ k ≤ 12 ∧ RB (rdG t n 0 r00).2 k g) := by
  have h60 := h.2.1
  have hB := LI.bk (t := t) (n := n) (k := 0) (g := T 372) (a := 0) (C := rdG t n 0 r00) (r := r00) h60 rfl rfl rfl (Nat.zero_le _) (Nat.le_refl _) (fun j hj => absurd hj (Nat.not_lt_zero j))
  have eb := t_basket (P := P) (k := 0) (g := T 372) (a := 0) h (Nat.zero_le _) (by decide)
  have hst : up1 (up1 (up1 T 366 9 0) 366 12 0) 366 10 1 = hT T (0, true) 0 (T 372) := by
    refine hT_ext (fun a h6 h7 => by rw [up1_n h6, up1_n h6, up1_n h6, hT_n h6 h7]) (fun j => ?_) (by rw [up1_n (by decide), up1_n (by decide), up1_n (by decide), uhT_372])
    rw [up1_s, up1_s, up1_s]
    by_cases h10 : j = 10
    · subst h10; rw [upA_s, uhT_10]; rfl
    · rw [upA_n _ _ h10]
      by_cases h12 : j = 12
      · subst h12; rw [upA_s, uhT_12]; rfl
      · rw [upA_n _ _ h12]
        by_cases h9 : j = 9
        · subst h9; rw [upA_s, uhT_9]; rfl
        · rw [upA_n _ _ h9, hT_366 h9 h10 h12]
  have e12 : up1 (up1 T 366 9 0) 366 12 0 366 12 = 0 := by rw [up1_s, upA_s]
  have e0 : X 181 0 [.ref 366, .long 0] [] (H (up1 (up1 T 366 9 0) 366 12 0) P) = X 181 12 [.ref 366, .int 0] [] (H (hT T (0, true) 0 (T 372)) P) := by
    simp +decide only [x181_0, x181_1, x181_1N, x181_2, x181_5, x181_6, x181_7, x181_7N, x181_8, x181_9, x181_13, x181_16, x181_17, x181_17N, x181_18, x181_19, x181_21, x181_24, x181_25, x181_25N, x181_26, x181_26N, x181_27, x181_29, x181_32, x181_35, x181_35N, x181_36, x181_39, x181_40, x181_41, x181_42, x181_42N, x181_43, x181_46, x181_47, x181_47N, x181_48, x181_51, x181_52, x181_53, x181_54, x181_54N, x181_55, x181_57, x181_60, x181_63, x181_63N, x181_64, x181_65, x181_66, x181_69, x181_72, x181_73, x181_74, x181_74N, x181_75, x181_78, x181_79, x181_80, x181_81, x181_81N, x181_82, x181_84, x181_87, x181_90, x181_90N, x181_91, x181_94, x181_97, x181_98, x181_99, x181_99N, x181_100, x181_101, x181_104, x181_104N, x181_105, x181_108, x181_111, x181_112, x181_115, x181_116, x181_117, x181_120, aft_some, aft_void, Option.bind_some, Option.toList_some, Option.toList_none, List.cons_append, List.nil_append, if_true, if_false, ↓reduceIte, eq_self, z366_o, ↓z366_0, ↓z366_0p, ↓z366_1, ↓z366_2, ↓z366_3, ↓z366_4, ↓z366_4p, ↓z366_5, ↓z366_6, ↓z366_6p0, ↓z366_6p1, ↓z366_7, ↓z366_8, ↓z366_8p, ↓z366_9, ↓z366_9p, ↓z366_10, ↓z366_10p0, ↓z366_10p1, ↓z366_11, ↓z366_12, ↓z366_12p, ↓sg0, ↓sg1, ↓sg2, ↓sg3, ↓sg4, ↓sg5, ↓sg6, ↓sg7, ↓sg8, ↓sg9, ↓sg10, ↓sg11, ↓sg12, ↓sg13, ↓sg14, ↓sg15, ↓sg16, ↓sg17, ↓ss0, ↓ss1, ↓ss2, ↓ss3, ↓ss4, ↓ss5, ↓ss6, ↓ss7, ↓ss8, ↓ss9, ↓ss10, ↓ss11, ↓ss12, ↓ss13, ↓ss14, ↓ss15, ↓ss16, ↓ss17, e12, hst, Int32.mul_zero]
  have eb : X 181 12 [.ref 366, .int 0] [] (H (hT T (0, true) 0 (T 372)) P) = _ := eb
  rw [eb] at e0
  obtain ⟨q, k, g, el, r⟩ := t_loop (P := P) h n _ _ _ _ (by omega) hB
  refine ⟨q, k, g, ?_, r⟩
  rw [← el]
  simp +decide only [x182_0, x182_0N, x182_1, x182_2, x182_5, x182_5N, x182_6, x182_7, x182_10, x182_10N, x182_11, x182_15, x182_18, x182_21, x182_21N, x182_22, x182_25, x182_25N, x182_26, x182_29, x182_32, x182_32N, x182_33, x182_33N, x182_34, x182_36, x182_39, x182_42, x182_42N, x182_43, x182_46, x182_49, x182_49N, x182_50, x182_53, x182_56, x182_56N, x182_57, x182_60, x182_63, x182_65, x182_68, x182_68N, x182_69, x182_72, aft_some, aft_void, Option.bind_some, Option.toList_some, Option.toList_none, List.cons_append, List.nil_append, if_true, if_false, ↓reduceIte, eq_self, z366_o, ↓z366_0, ↓z366_0p, ↓z366_1, ↓z366_2, ↓z366_3, ↓z366_4, ↓z366_4p, ↓z366_5, ↓z366_6, ↓z366_6p0, ↓z366_6p1, ↓z366_7, ↓z366_8, ↓z366_8p, ↓z366_9, ↓z366_9p, ↓z366_10, ↓z366_10p0, ↓z366_10p1, ↓z366_11, ↓z366_12, ↓z366_12p, ↓sg0, ↓sg1, ↓sg2, ↓sg3, ↓sg4, ↓sg5, ↓sg6, ↓sg7, ↓sg8, ↓sg9, ↓sg10, ↓sg11, ↓sg12, ↓sg13, ↓sg14, ↓sg15, ↓sg16, ↓sg17, ↓ss0, ↓ss1, ↓ss2, ↓ss3, ↓ss4, ↓ss5, ↓ss6, ↓ss7, ↓ss8, ↓ss9, ↓ss10, ↓ss11, ↓ss12, ↓ss13, ↓ss14, ↓ss15, ↓ss16, ↓ss17, ↓aft_of (e0)]
end QR
section QF
variable {T : Nat → Nat → Int32} {P : Nat → Nat → Nat} {f : Nat → Int32} {s : gT} {q : qT} {k : Nat} {g : Nat → Int32}
theorem CF.rdT (h : CF T f s) : CF (hT (upA T 367 f) q k g) ((hT (upA T 367 f) q k g) 367) s := by
  obtain ⟨⟨h0, hk, hh, hx⟩, hs⟩ := h
  have n : ∀ a, a ≠ 366 → a ≠ 372 → a ≠ 367 → hT (upA T 367 f) q k g a = T a := fun a h6 h7 h8 => by rw [hT_n h6 h7, upA_n _ _ h8]
  have n6 : ∀ j, j ≠ 9 → j ≠ 10 → j ≠ 12 → hT (upA T 367 f) q k g 366 j = T 366 j := fun j h1 h2 h3 => by rw [hT_366 h1 h2 h3, upA_n _ _ (by decide)]
  refine ⟨⟨by rw [n6 0 (by decide) (by decide) (by decide)]; exact h0, ?_, ?_, ?_⟩, ?_⟩
  · cases hq : s.2.1 with
    | none => rw [hq] at hk; exact (n6 6 (by decide) (by decide) (by decide)).trans hk
    | some v => rw [hq] at hk; exact ⟨(n6 6 (by decide) (by decide) (by decide)).trans hk.1, by rw [n 370 (by decide) (by decide) (by decide)]; exact hk.2⟩
  · exact hh.same (n6 4 (by decide) (by decide) (by decide)) (n 369 (by decide) (by decide) (by decide))
  · exact hx.same (n6 8 (by decide) (by decide) (by decide)) (n 371 (by decide) (by decide) (by decide))
  · rw [hT_n (by decide) (by decide), upA_s]; exact hs
theorem CF.tt (h : CF T f s) : TT (upA T 367 f) s.2.2.2.2 s.2.2.2.1 := by
  obtain ⟨⟨-, -, -, h8, h60, ht⟩, -⟩ := h
  exact ⟨by rw [upA_n _ _ (by decide)]; exact h8, h60, fun i hi => by rw [upA_n _ _ (by decide)]; exact ht i hi⟩
theorem q_fault (h : CF T f s) : RQ T P f 183 [.ref 366] (gFault s, s) := by
  have t0 := thr (f := f) h.1.1
  obtain ⟨q, k, g, e, -⟩ := t_reads (P := P) h.tt
  refine RQ.of (U := hT (upA T 367 f) q k g) ?_ (fun a ha => by rw [hT_n (by omega) (by omega), upA_n _ _ (by omega)]) h.rdT
  show X 183 0 [.ref 366] [] (H (upA T 367 f) P) = some (some (.int (rdA s.2.2.2.1 (rdG s.2.2.2.2 s.2.2.2.1 0 r00))), H (hT (upA T 367 f) q k g) P)
  simp +decide only [x183_0, x183_0N, x183_1, x183_2, x183_5, x183_5N, x183_6, x183_9, aft_some, aft_void, Option.bind_some, Option.toList_some, Option.toList_none, List.cons_append, List.nil_append, if_true, if_false, ↓reduceIte, eq_self, z366_o, ↓z366_0, ↓z366_0p, ↓z366_1, ↓z366_2, ↓z366_3, ↓z366_4, ↓z366_4p, ↓z366_5, ↓z366_6, ↓z366_6p0, ↓z366_6p1, ↓z366_7, ↓z366_8, ↓z366_8p, ↓z366_9, ↓z366_9p, ↓z366_10, ↓z366_10p0, ↓z366_10p1, ↓z366_11, ↓z366_12, ↓z366_12p, ↓sg0, ↓sg1, ↓sg2, ↓sg3, ↓sg4, ↓sg5, ↓sg6, ↓sg7, ↓sg8, ↓sg9, ↓sg10, ↓sg11, ↓sg12, ↓sg13, ↓sg14, ↓sg15, ↓sg16, ↓sg17, ↓ss0, ↓ss1, ↓ss2, ↓ss3, ↓ss4, ↓ss5, ↓ss6, ↓ss7, ↓ss8, ↓ss9, ↓ss10, ↓ss11, ↓ss12, ↓ss13, ↓ss14, ↓ss15, ↓ss16, ↓ss17, t0, ↓aft_of (e)]
end QF
