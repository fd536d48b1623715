section
/-! the reference: its state stands in the array 367; its own small methods -/
theorem nI_mul (a b : Nat) : nI a * nI b = nI (a * b) := (Int32.ofNat_mul a b).symm
section RF
variable {T : Nat → Nat → Int32} {P : Nat → Nat → Nat} {f : Nat → Int32} {G : Int32 → Option (Option Value × List hC)} {i pc k : Nat} {L S : List Value} {x y z : Int32} {h0 : List hC}
theorem s_g (hk : k < 912) : (getI (H (upA T 367 f) P)[367]? 367 0 (nI k)).bind G = G (f k) := by
  rw [z367_g, if_pos (okx_nI hk (by decide)), nI_clamp (by omega), upA_s]
theorem s_s (hk : k < 912) : (putI (H (upA T 367 f) P)[367]? 0 (nI k) y).bind (fun c => X i pc L S ((H (upA T 367 f) P).set 367 c)) = X i pc L S (H (upA T 367 (upA f k y)) P) := by
  rw [z367_s, if_pos (okx_nI hk (by decide)), nI_clamp (by omega)]
  show X i pc L S (H (upA (upA T 367 f) 367 (upA (upA T 367 f 367) k y)) P) = _
  rw [upA_upA, upA_s]
theorem sg0 : (getI (H (upA T 367 f) P)[367]? 367 0 0).bind G = G (f 0) := s_g (k := 0) (by decide)
theorem ss0 : (putI (H (upA T 367 f) P)[367]? 0 0 y).bind (fun c => X i pc L S ((H (upA T 367 f) P).set 367 c)) = X i pc L S (H (upA T 367 (upA f 0 y)) P) := s_s (k := 0) (by decide)
theorem sg1 : (getI (H (upA T 367 f) P)[367]? 367 0 1).bind G = G (f 1) := s_g (k := 1) (by decide)
theorem ss1 : (putI (H (upA T 367 f) P)[367]? 0 1 y).bind (fun c => X i pc L S ((H (upA T 367 f) P).set 367 c)) = X i pc L S (H (upA T 367 (upA f 1 y)) P) := s_s (k := 1) (by decide)
theorem sg2 : (getI (H (upA T 367 f) P)[367]? 367 0 2).bind G = G (f 2) := s_g (k := 2) (by decide)
theorem ss2 : (putI (H (upA T 367 f) P)[367]? 0 2 y).bind (fun c => X i pc L S ((H (upA T 367 f) P).set 367 c)) = X i pc L S (H (upA T 367 (upA f 2 y)) P) := s_s (k := 2) (by decide)
theorem sg3 : (getI (H (upA T 367 f) P)[367]? 367 0 3).bind G = G (f 3) := s_g (k := 3) (by decide)
theorem ss3 : (putI (H (upA T 367 f) P)[367]? 0 3 y).bind (fun c => X i pc L S ((H (upA T 367 f) P).set 367 c)) = X i pc L S (H (upA T 367 (upA f 3 y)) P) := s_s (k := 3) (by decide)
theorem sg4 : (getI (H (upA T 367 f) P)[367]? 367 0 4).bind G = G (f 4) := s_g (k := 4) (by decide)
theorem ss4 : (putI (H (upA T 367 f) P)[367]? 0 4 y).bind (fun c => X i pc L S ((H (upA T 367 f) P).set 367 c)) = X i pc L S (H (upA T 367 (upA f 4 y)) P) := s_s (k := 4) (by decide)
theorem sg5 : (getI (H (upA T 367 f) P)[367]? 367 0 5).bind G = G (f 5) := s_g (k := 5) (by decide)
theorem ss5 : (putI (H (upA T 367 f) P)[367]? 0 5 y).bind (fun c => X i pc L S ((H (upA T 367 f) P).set 367 c)) = X i pc L S (H (upA T 367 (upA f 5 y)) P) := s_s (k := 5) (by decide)
theorem sg6 : (getI (H (upA T 367 f) P)[367]? 367 0 6).bind G = G (f 6) := s_g (k := 6) (by decide)
theorem ss6 : (putI (H (upA T 367 f) P)[367]? 0 6 y).bind (fun c => X i pc L S ((H (upA T 367 f) P).set 367 c)) = X i pc L S (H (upA T 367 (upA f 6 y)) P) := s_s (k := 6) (by decide)
theorem sg7 : (getI (H (upA T 367 f) P)[367]? 367 0 7).bind G = G (f 7) := s_g (k := 7) (by decide)
theorem ss7 : (putI (H (upA T 367 f) P)[367]? 0 7 y).bind (fun c => X i pc L S ((H (upA T 367 f) P).set 367 c)) = X i pc L S (H (upA T 367 (upA f 7 y)) P) := s_s (k := 7) (by decide)
theorem sg8 : (getI (H (upA T 367 f) P)[367]? 367 0 8).bind G = G (f 8) := s_g (k := 8) (by decide)
theorem ss8 : (putI (H (upA T 367 f) P)[367]? 0 8 y).bind (fun c => X i pc L S ((H (upA T 367 f) P).set 367 c)) = X i pc L S (H (upA T 367 (upA f 8 y)) P) := s_s (k := 8) (by decide)
theorem sg9 : (getI (H (upA T 367 f) P)[367]? 367 0 9).bind G = G (f 9) := s_g (k := 9) (by decide)
theorem ss9 : (putI (H (upA T 367 f) P)[367]? 0 9 y).bind (fun c => X i pc L S ((H (upA T 367 f) P).set 367 c)) = X i pc L S (H (upA T 367 (upA f 9 y)) P) := s_s (k := 9) (by decide)
theorem sg10 : (getI (H (upA T 367 f) P)[367]? 367 0 10).bind G = G (f 10) := s_g (k := 10) (by decide)
theorem ss10 : (putI (H (upA T 367 f) P)[367]? 0 10 y).bind (fun c => X i pc L S ((H (upA T 367 f) P).set 367 c)) = X i pc L S (H (upA T 367 (upA f 10 y)) P) := s_s (k := 10) (by decide)
theorem sg11 : (getI (H (upA T 367 f) P)[367]? 367 0 11).bind G = G (f 11) := s_g (k := 11) (by decide)
theorem ss11 : (putI (H (upA T 367 f) P)[367]? 0 11 y).bind (fun c => X i pc L S ((H (upA T 367 f) P).set 367 c)) = X i pc L S (H (upA T 367 (upA f 11 y)) P) := s_s (k := 11) (by decide)
theorem sg12 : (getI (H (upA T 367 f) P)[367]? 367 0 12).bind G = G (f 12) := s_g (k := 12) (by decide)
theorem ss12 : (putI (H (upA T 367 f) P)[367]? 0 12 y).bind (fun c => X i pc L S ((H (upA T 367 f) P).set 367 c)) = X i pc L S (H (upA T 367 (upA f 12 y)) P) := s_s (k := 12) (by decide)
theorem sg13 : (getI (H (upA T 367 f) P)[367]? 367 0 13).bind G = G (f 13) := s_g (k := 13) (by decide)
theorem ss13 : (putI (H (upA T 367 f) P)[367]? 0 13 y).bind (fun c => X i pc L S ((H (upA T 367 f) P).set 367 c)) = X i pc L S (H (upA T 367 (upA f 13 y)) P) := s_s (k := 13) (by decide)
theorem sg14 : (getI (H (upA T 367 f) P)[367]? 367 0 14).bind G = G (f 14) := s_g (k := 14) (by decide)
theorem ss14 : (putI (H (upA T 367 f) P)[367]? 0 14 y).bind (fun c => X i pc L S ((H (upA T 367 f) P).set 367 c)) = X i pc L S (H (upA T 367 (upA f 14 y)) P) := s_s (k := 14) (by decide)
theorem sg15 : (getI (H (upA T 367 f) P)[367]? 367 0 15).bind G = G (f 15) := s_g (k := 15) (by decide)
theorem ss15 : (putI (H (upA T 367 f) P)[367]? 0 15 y).bind (fun c => X i pc L S ((H (upA T 367 f) P).set 367 c)) = X i pc L S (H (upA T 367 (upA f 15 y)) P) := s_s (k := 15) (by decide)
theorem sg16 : (getI (H (upA T 367 f) P)[367]? 367 0 16).bind G = G (f 16) := s_g (k := 16) (by decide)
theorem ss16 : (putI (H (upA T 367 f) P)[367]? 0 16 y).bind (fun c => X i pc L S ((H (upA T 367 f) P).set 367 c)) = X i pc L S (H (upA T 367 (upA f 16 y)) P) := s_s (k := 16) (by decide)
theorem sg17 : (getI (H (upA T 367 f) P)[367]? 367 0 17).bind G = G (f 17) := s_g (k := 17) (by decide)
theorem ss17 : (putI (H (upA T 367 f) P)[367]? 0 17 y).bind (fun c => X i pc L S ((H (upA T 367 f) P).set 367 c)) = X i pc L S (H (upA T 367 (upA f 17 y)) P) := s_s (k := 17) (by decide)
theorem r_in : X 124 0 [.int x, .int y, .int z] [] h0 = some (some (.int (inI x y z)), h0) := by
  simp +decide only [x124_0, x124_1, x124_2, x124_5, x124_6, x124_7, x124_10, x124_11, x124_14, x124_15, aft_some, aft_void, Option.bind_some, Option.toList_some, Option.toList_none, List.cons_append, List.nil_append, if_true, if_false, ↓reduceIte, eq_self, or_true, true_or]
  unfold inI
  repeat' split
  all_goals rfl
theorem r_isCust : X 125 0 [.ref 366, .int x] [] (H (upA T 367 f) P) = some (some (.int (inI x 0 (f 5 - 1))), H (upA T 367 f) P) := by
  have h01 : (inI x 0 (f 5 - 1) = 0 ∨ inI x 0 (f 5 - 1) = 1) = True := by
    apply eq_true
    unfold inI
    repeat' split
    all_goals simp
  simp +decide only [x125_0, x125_1, x125_2, x125_3, x125_6, x125_7, x125_8, x125_9, x125_10, x125_13, aft_some, aft_void, Option.bind_some, Option.toList_some, Option.toList_none, List.cons_append, List.nil_append, if_true, if_false, ↓reduceIte, eq_self, z366_o, ↓z366_0, ↓z366_0p, ↓z366_1, ↓z366_2, ↓z366_3, ↓z366_4, ↓z366_4p, ↓z366_5, ↓z366_6, ↓z366_6p0, ↓z366_6p1, ↓z366_7, ↓z366_8, ↓z366_8p, ↓z366_9, ↓z366_9p, ↓z366_10, ↓z366_10p0, ↓z366_10p1, ↓z366_11, ↓z366_12, ↓z366_12p, ↓sg0, ↓sg1, ↓sg2, ↓sg3, ↓sg4, ↓sg5, ↓sg6, ↓sg7, ↓sg8, ↓sg9, ↓sg10, ↓sg11, ↓sg12, ↓sg13, ↓sg14, ↓sg15, ↓sg16, ↓sg17, ↓ss0, ↓ss1, ↓ss2, ↓ss3, ↓ss4, ↓ss5, ↓ss6, ↓ss7, ↓ss8, ↓ss9, ↓ss10, ↓ss11, ↓ss12, ↓ss13, ↓ss14, ↓ss15, ↓ss16, ↓ss17, ↓aft_of (r_in), h01]
theorem ixB {i w : Nat} (e : y = nI w) : 694 + 17 * nI i + y = nI (694 + 17 * i + w) := by
  rw [e, show (694 : Int32) = nI 694 from rfl, show (17 : Int32) = nI 17 from rfl, nI_mul, nI_add, nI_add]
theorem ixC {i w : Nat} (e : y = nI w) : 24 + 3 * nI i + y = nI (24 + 3 * i + w) := by
  rw [e, show (24 : Int32) = nI 24 from rfl, show (3 : Int32) = nI 3 from rfl, nI_mul, nI_add, nI_add]
theorem ixO {i w : Nat} (e : y = nI w) : 54 + 64 * nI i + y = nI (54 + 64 * i + w) := by
  rw [e, show (54 : Int32) = nI 54 from rfl, show (64 : Int32) = nI 64 from rfl, nI_mul, nI_add, nI_add]
theorem r_of {i w : Nat} (e : y = nI w) (hi : i < 8) (hw : w < 17) : X 128 0 [.ref 366, .int (nI i), .int y] [] (H (upA T 367 f) P) = some (some (.int (f (694 + 17 * i + w))), H (upA T 367 f) P) := by
  simp +decide only [x128_0, x128_1, x128_4, x128_7, x128_9, x128_10, x128_11, x128_12, x128_13, x128_14, x128_15, aft_some, aft_void, Option.bind_some, Option.toList_some, Option.toList_none, List.cons_append, List.nil_append, if_true, if_false, ↓reduceIte, eq_self, z366_o, ↓z366_0, ↓z366_0p, ↓z366_1, ↓z366_2, ↓z366_3, ↓z366_4, ↓z366_4p, ↓z366_5, ↓z366_6, ↓z366_6p0, ↓z366_6p1, ↓z366_7, ↓z366_8, ↓z366_8p, ↓z366_9, ↓z366_9p, ↓z366_10, ↓z366_10p0, ↓z366_10p1, ↓z366_11, ↓z366_12, ↓z366_12p, ↓sg0, ↓sg1, ↓sg2, ↓sg3, ↓sg4, ↓sg5, ↓sg6, ↓sg7, ↓sg8, ↓sg9, ↓sg10, ↓sg11, ↓sg12, ↓sg13, ↓sg14, ↓sg15, ↓sg16, ↓sg17, ↓ss0, ↓ss1, ↓ss2, ↓ss3, ↓ss4, ↓ss5, ↓ss6, ↓ss7, ↓ss8, ↓ss9, ↓ss10, ↓ss11, ↓ss12, ↓ss13, ↓ss14, ↓ss15, ↓ss16, ↓ss17, ixB e, ↓s_g (show 694 + 17 * i + w < 912 by omega)]
theorem r_lay {i w : Nat} (e : y = nI w) (hi : i < 8) (hw : w < 17) : X 129 0 [.ref 366, .int (nI i), .int y, .int z] [] (H (upA T 367 f) P) = some (none, H (upA T 367 (upA f (694 + 17 * i + w) z)) P) := by
  simp +decide only [x129_0, x129_1, x129_4, x129_7, x129_9, x129_10, x129_11, x129_12, x129_13, x129_14, x129_15, x129_16, aft_some, aft_void, Option.bind_some, Option.toList_some, Option.toList_none, List.cons_append, List.nil_append, if_true, if_false, ↓reduceIte, eq_self, z366_o, ↓z366_0, ↓z366_0p, ↓z366_1, ↓z366_2, ↓z366_3, ↓z366_4, ↓z366_4p, ↓z366_5, ↓z366_6, ↓z366_6p0, ↓z366_6p1, ↓z366_7, ↓z366_8, ↓z366_8p, ↓z366_9, ↓z366_9p, ↓z366_10, ↓z366_10p0, ↓z366_10p1, ↓z366_11, ↓z366_12, ↓z366_12p, ↓sg0, ↓sg1, ↓sg2, ↓sg3, ↓sg4, ↓sg5, ↓sg6, ↓sg7, ↓sg8, ↓sg9, ↓sg10, ↓sg11, ↓sg12, ↓sg13, ↓sg14, ↓sg15, ↓sg16, ↓sg17, ↓ss0, ↓ss1, ↓ss2, ↓ss3, ↓ss4, ↓ss5, ↓ss6, ↓ss7, ↓ss8, ↓ss9, ↓ss10, ↓ss11, ↓ss12, ↓ss13, ↓ss14, ↓ss15, ↓ss16, ↓ss17, ixB e, ↓s_s (show 694 + 17 * i + w < 912 by omega)]
theorem r_ofCust {i w : Nat} (e : y = nI w) (hi : i < 10) (hw : w < 3) : X 126 0 [.ref 366, .int (nI i), .int y] [] (H (upA T 367 f) P) = some (some (.int (f (24 + 3 * i + w))), H (upA T 367 f) P) := by
  simp +decide only [x126_0, x126_1, x126_4, x126_6, x126_7, x126_8, x126_9, x126_10, x126_11, x126_12, x126_13, aft_some, aft_void, Option.bind_some, Option.toList_some, Option.toList_none, List.cons_append, List.nil_append, if_true, if_false, ↓reduceIte, eq_self, z366_o, ↓z366_0, ↓z366_0p, ↓z366_1, ↓z366_2, ↓z366_3, ↓z366_4, ↓z366_4p, ↓z366_5, ↓z366_6, ↓z366_6p0, ↓z366_6p1, ↓z366_7, ↓z366_8, ↓z366_8p, ↓z366_9, ↓z366_9p, ↓z366_10, ↓z366_10p0, ↓z366_10p1, ↓z366_11, ↓z366_12, ↓z366_12p, ↓sg0, ↓sg1, ↓sg2, ↓sg3, ↓sg4, ↓sg5, ↓sg6, ↓sg7, ↓sg8, ↓sg9, ↓sg10, ↓sg11, ↓sg12, ↓sg13, ↓sg14, ↓sg15, ↓sg16, ↓sg17, ↓ss0, ↓ss1, ↓ss2, ↓ss3, ↓ss4, ↓ss5, ↓ss6, ↓ss7, ↓ss8, ↓ss9, ↓ss10, ↓ss11, ↓ss12, ↓ss13, ↓ss14, ↓ss15, ↓ss16, ↓ss17, ixC e, ↓s_g (show 24 + 3 * i + w < 912 by omega)]
theorem r_layCust {i w : Nat} (e : y = nI w) (hi : i < 10) (hw : w < 3) : X 127 0 [.ref 366, .int (nI i), .int y, .int z] [] (H (upA T 367 f) P) = some (none, H (upA T 367 (upA f (24 + 3 * i + w) z)) P) := by
  simp +decide only [x127_0, x127_1, x127_4, x127_6, x127_7, x127_8, x127_9, x127_10, x127_11, x127_12, x127_13, x127_14, aft_some, aft_void, Option.bind_some, Option.toList_some, Option.toList_none, List.cons_append, List.nil_append, if_true, if_false, ↓reduceIte, eq_self, z366_o, ↓z366_0, ↓z366_0p, ↓z366_1, ↓z366_2, ↓z366_3, ↓z366_4, ↓z366_4p, ↓z366_5, ↓z366_6, ↓z366_6p0, ↓z366_6p1, ↓z366_7, ↓z366_8, ↓z366_8p, ↓z366_9, ↓z366_9p, ↓z366_10, ↓z366_10p0, ↓z366_10p1, ↓z366_11, ↓z366_12, ↓z366_12p, ↓sg0, ↓sg1, ↓sg2, ↓sg3, ↓sg4, ↓sg5, ↓sg6, ↓sg7, ↓sg8, ↓sg9, ↓sg10, ↓sg11, ↓sg12, ↓sg13, ↓sg14, ↓sg15, ↓sg16, ↓sg17, ↓ss0, ↓ss1, ↓ss2, ↓ss3, ↓ss4, ↓ss5, ↓ss6, ↓ss7, ↓ss8, ↓ss9, ↓ss10, ↓ss11, ↓ss12, ↓ss13, ↓ss14, ↓ss15, ↓ss16, ↓ss17, ixC e, ↓s_s (show 24 + 3 * i + w < 912 by omega)]
theorem r_minutesOf (hk : k < 4) : X 135 0 [.int (nI k), .int x] [] h0 = some (some (.int (mnI x k)), h0) := by
  match k, hk with
  | 0, _ => simp +decide only [x135_0, x135_1, x135_28, x135_29, x135_30, x135_31, x135_32, x135_33, x135_34, x135_35, x135_36, x135_38, x135_39, x135_41, aft_some, aft_void, Option.bind_some, Option.toList_some, Option.toList_none, List.cons_append, List.nil_append, if_true, if_false, ↓reduceIte, eq_self, nl0]; rfl
  | 1, _ => simp +decide only [x135_0, x135_1, x135_28, x135_29, x135_30, x135_31, x135_32, x135_33, x135_34, x135_35, x135_36, x135_38, x135_39, x135_41, aft_some, aft_void, Option.bind_some, Option.toList_some, Option.toList_none, List.cons_append, List.nil_append, if_true, if_false, ↓reduceIte, eq_self, nl1]; rfl
  | 2, _ => simp +decide only [x135_0, x135_1, x135_28, x135_29, x135_30, x135_31, x135_32, x135_33, x135_34, x135_35, x135_36, x135_38, x135_39, x135_41, aft_some, aft_void, Option.bind_some, Option.toList_some, Option.toList_none, List.cons_append, List.nil_append, if_true, if_false, ↓reduceIte, eq_self, nl2]; rfl
  | 3, _ => simp +decide only [x135_0, x135_1, x135_28, x135_29, x135_30, x135_31, x135_32, x135_33, x135_34, x135_35, x135_36, x135_38, x135_39, x135_41, aft_some, aft_void, Option.bind_some, Option.toList_some, Option.toList_none, List.cons_append, List.nil_append, if_true, if_false, ↓reduceIte, eq_self, nl3]; rfl
/-- the basket at the place i is b -/
def bR (f : Nat → Int32) (i : Nat) (b : kT) : Prop := (f (694 + 17 * i + 0) = b 0 0 ∧ f (694 + 17 * i + 1) = b 0 1 ∧ f (694 + 17 * i + 2) = b 0 3 ∧ f (694 + 17 * i + 3) = b 0 2 ∧ f (694 + 17 * i + 4) = b 0 4) ∧ ∀ k, k < 4 → f (694 + 17 * i + (5 + k)) = b 1 k ∧ f (694 + 17 * i + (9 + k)) = b 2 k ∧ f (694 + 17 * i + (13 + k)) = b 3 k
theorem r_left {b : kT} (hb : bR f i b) (hi : i < 8) (hk : k < 4) : X 136 0 [.ref 366, .int (nI i), .int (nI k)] [] (H (upA T 367 f) P) = some (some (.int (opK b k)), H (upA T 367 f) P) := by
  have e5 := r_of (T := T) (P := P) (f := f) (i := i) (w := 5 + k) (y := 5 + nI k) (nI_add 5 k) hi (by omega)
  have e9 := r_of (T := T) (P := P) (f := f) (i := i) (w := 9 + k) (y := 9 + nI k) (nI_add 9 k) hi (by omega)
  have e13 := r_of (T := T) (P := P) (f := f) (i := i) (w := 13 + k) (y := 13 + nI k) (nI_add 13 k) hi (by omega)
  obtain ⟨h1, h2, h3⟩ := hb.2 k hk
  rw [h1] at e5; rw [h2] at e9; rw [h3] at e13
  simp +decide only [x136_0, x136_1, x136_2, x136_3, x136_4, x136_5, x136_8, x136_9, x136_10, x136_12, x136_13, x136_14, x136_17, x136_18, x136_19, x136_20, x136_22, x136_23, x136_24, x136_27, x136_28, aft_some, aft_void, Option.bind_some, Option.toList_some, Option.toList_none, List.cons_append, List.nil_append, if_true, if_false, ↓reduceIte, eq_self, z366_o, ↓z366_0, ↓z366_0p, ↓z366_1, ↓z366_2, ↓z366_3, ↓z366_4, ↓z366_4p, ↓z366_5, ↓z366_6, ↓z366_6p0, ↓z366_6p1, ↓z366_7, ↓z366_8, ↓z366_8p, ↓z366_9, ↓z366_9p, ↓z366_10, ↓z366_10p0, ↓z366_10p1, ↓z366_11, ↓z366_12, ↓z366_12p, ↓sg0, ↓sg1, ↓sg2, ↓sg3, ↓sg4, ↓sg5, ↓sg6, ↓sg7, ↓sg8, ↓sg9, ↓sg10, ↓sg11, ↓sg12, ↓sg13, ↓sg14, ↓sg15, ↓sg16, ↓sg17, ↓ss0, ↓ss1, ↓ss2, ↓ss3, ↓ss4, ↓ss5, ↓ss6, ↓ss7, ↓ss8, ↓ss9, ↓ss10, ↓ss11, ↓ss12, ↓ss13, ↓ss14, ↓ss15, ↓ss16, ↓ss17, ↓aft_of (e5), ↓aft_of (e9), ↓aft_of (e13)]
  rfl
theorem r_minutesLeft {b : kT} (hb : bR f i b) (hi : i < 8) : X 137 0 [.ref 366, .int (nI i), .long 0, .long 0] [] (H (upA T 367 f) P) = some (some (.int (omK b)), H (upA T 367 f) P) := by
  have l0 := r_left (T := T) (P := P) hb hi (show 0 < 4 by decide)
  have l1 := r_left (T := T) (P := P) hb hi (show 1 < 4 by decide)
  have l2 := r_left (T := T) (P := P) hb hi (show 2 < 4 by decide)
  have l3 := r_left (T := T) (P := P) hb hi (show 3 < 4 by decide)
  have m0 := r_minutesOf (h0 := H (upA T 367 f) P) (x := b 0 3) (show 0 < 4 by decide)
  have m1 := r_minutesOf (h0 := H (upA T 367 f) P) (x := b 0 3) (show 1 < 4 by decide)
  have m2 := r_minutesOf (h0 := H (upA T 367 f) P) (x := b 0 3) (show 2 < 4 by decide)
  have m3 := r_minutesOf (h0 := H (upA T 367 f) P) (x := b 0 3) (show 3 < 4 by decide)
  have e2 := r_of (T := T) (P := P) (f := f) (i := i) (w := 2) (y := 2) rfl hi (by decide)
  rw [hb.1.2.2.1] at e2
  simp only [nl0, nl1, nl2, nl3] at l0 l1 l2 l3 m0 m1 m2 m3
  simp +decide only [x137_0, x137_1, x137_2, x137_3, x137_4, x137_5, x137_6, x137_9, x137_10, x137_11, x137_12, x137_13, x137_16, x137_17, x137_18, x137_19, x137_20, x137_23, x137_26, x137_27, x137_28, x137_29, x137_32, x137_35, x137_36, aft_some, aft_void, Option.bind_some, Option.toList_some, Option.toList_none, List.cons_append, List.nil_append, if_true, if_false, ↓reduceIte, eq_self, z366_o, ↓z366_0, ↓z366_0p, ↓z366_1, ↓z366_2, ↓z366_3, ↓z366_4, ↓z366_4p, ↓z366_5, ↓z366_6, ↓z366_6p0, ↓z366_6p1, ↓z366_7, ↓z366_8, ↓z366_8p, ↓z366_9, ↓z366_9p, ↓z366_10, ↓z366_10p0, ↓z366_10p1, ↓z366_11, ↓z366_12, ↓z366_12p, ↓sg0, ↓sg1, ↓sg2, ↓sg3, ↓sg4, ↓sg5, ↓sg6, ↓sg7, ↓sg8, ↓sg9, ↓sg10, ↓sg11, ↓sg12, ↓sg13, ↓sg14, ↓sg15, ↓sg16, ↓sg17, ↓ss0, ↓ss1, ↓ss2, ↓ss3, ↓ss4, ↓ss5, ↓ss6, ↓ss7, ↓ss8, ↓ss9, ↓ss10, ↓ss11, ↓ss12, ↓ss13, ↓ss14, ↓ss15, ↓ss16, ↓ss17, ↓aft_of (l0), ↓aft_of (l1), ↓aft_of (l2), ↓aft_of (l3), ↓aft_of (m0), ↓aft_of (m1), ↓aft_of (m2), ↓aft_of (m3), ↓aft_of (e2), Int32.reduceAdd]
  rfl
theorem r_priceOf {b : kT} (hb : bR f i b) (hi : i < 8) : X 138 0 [.ref 366, .int (nI i), .long 0, .long 0] [] (H (upA T 367 f) P) = some (some (.int (prK b)), H (upA T 367 f) P) := by
  have m0 := r_minutesOf (h0 := H (upA T 367 f) P) (x := b 0 3) (show 0 < 4 by decide)
  have m1 := r_minutesOf (h0 := H (upA T 367 f) P) (x := b 0 3) (show 1 < 4 by decide)
  have m2 := r_minutesOf (h0 := H (upA T 367 f) P) (x := b 0 3) (show 2 < 4 by decide)
  have m3 := r_minutesOf (h0 := H (upA T 367 f) P) (x := b 0 3) (show 3 < 4 by decide)
  have e2 := r_of (T := T) (P := P) (f := f) (i := i) (w := 2) (y := 2) rfl hi (by decide)
  have e5 := r_of (T := T) (P := P) (f := f) (i := i) (w := 5) (y := 5) rfl hi (by decide)
  have e6 := r_of (T := T) (P := P) (f := f) (i := i) (w := 6) (y := 6) rfl hi (by decide)
  have e7 := r_of (T := T) (P := P) (f := f) (i := i) (w := 7) (y := 7) rfl hi (by decide)
  have e8 := r_of (T := T) (P := P) (f := f) (i := i) (w := 8) (y := 8) rfl hi (by decide)
  rw [hb.1.2.2.1] at e2
  rw [(hb.2 0 (by decide)).1] at e5
  rw [(hb.2 1 (by decide)).1] at e6
  rw [(hb.2 2 (by decide)).1] at e7
  rw [(hb.2 3 (by decide)).1] at e8
  simp only [nl0, nl1, nl2, nl3] at m0 m1 m2 m3
  simp +decide only [x138_0, x138_1, x138_2, x138_3, x138_4, x138_5, x138_6, x138_9, x138_10, x138_11, x138_12, x138_13, x138_14, x138_15, x138_18, x138_19, x138_20, x138_21, x138_22, x138_25, x138_28, x138_29, x138_30, x138_31, x138_32, x138_33, x138_34, x138_35, x138_38, x138_41, x138_42, aft_some, aft_void, Option.bind_some, Option.toList_some, Option.toList_none, List.cons_append, List.nil_append, if_true, if_false, ↓reduceIte, eq_self, z366_o, ↓z366_0, ↓z366_0p, ↓z366_1, ↓z366_2, ↓z366_3, ↓z366_4, ↓z366_4p, ↓z366_5, ↓z366_6, ↓z366_6p0, ↓z366_6p1, ↓z366_7, ↓z366_8, ↓z366_8p, ↓z366_9, ↓z366_9p, ↓z366_10, ↓z366_10p0, ↓z366_10p1, ↓z366_11, ↓z366_12, ↓z366_12p, ↓sg0, ↓sg1, ↓sg2, ↓sg3, ↓sg4, ↓sg5, ↓sg6, ↓sg7, ↓sg8, ↓sg9, ↓sg10, ↓sg11, ↓sg12, ↓sg13, ↓sg14, ↓sg15, ↓sg16, ↓sg17, ↓ss0, ↓ss1, ↓ss2, ↓ss3, ↓ss4, ↓ss5, ↓ss6, ↓ss7, ↓ss8, ↓ss9, ↓ss10, ↓ss11, ↓ss12, ↓ss13, ↓ss14, ↓ss15, ↓ss16, ↓ss17, ↓aft_of (m0), ↓aft_of (m1), ↓aft_of (m2), ↓aft_of (m3), ↓aft_of (e2), ↓aft_of (e5), ↓aft_of (e6), ↓aft_of (e7), ↓aft_of (e8), Int32.reduceAdd]
  rfl
noncomputable def rdE (b : kT) : Int32 := if b 2 0 = b 1 0 then (if b 2 1 = b 1 1 then (if b 2 2 = b 1 2 then (if b 2 3 = b 1 3 then 1 else 0) else 0) else 0) else 0
theorem r_isReady {b : kT} (hb : bR f i b) (hi : i < 8) : X 139 0 [.ref 366, .int (nI i), .long 0, .long 0] [] (H (upA T 367 f) P) = some (some (.int (rdE b)), H (upA T 367 f) P) := by
  have e5 := r_of (T := T) (P := P) (f := f) (i := i) (w := 5) (y := 5) rfl hi (by decide)
  have e6 := r_of (T := T) (P := P) (f := f) (i := i) (w := 6) (y := 6) rfl hi (by decide)
  have e7 := r_of (T := T) (P := P) (f := f) (i := i) (w := 7) (y := 7) rfl hi (by decide)
  have e8 := r_of (T := T) (P := P) (f := f) (i := i) (w := 8) (y := 8) rfl hi (by decide)
  have e9 := r_of (T := T) (P := P) (f := f) (i := i) (w := 9) (y := 9) rfl hi (by decide)
  have e10 := r_of (T := T) (P := P) (f := f) (i := i) (w := 10) (y := 10) rfl hi (by decide)
  have e11 := r_of (T := T) (P := P) (f := f) (i := i) (w := 11) (y := 11) rfl hi (by decide)
  have e12 := r_of (T := T) (P := P) (f := f) (i := i) (w := 12) (y := 12) rfl hi (by decide)
  rw [(hb.2 0 (by decide)).1] at e5
  rw [(hb.2 1 (by decide)).1] at e6
  rw [(hb.2 2 (by decide)).1] at e7
  rw [(hb.2 3 (by decide)).1] at e8
  rw [(hb.2 0 (by decide)).2.1] at e9
  rw [(hb.2 1 (by decide)).2.1] at e10
  rw [(hb.2 2 (by decide)).2.1] at e11
  rw [(hb.2 3 (by decide)).2.1] at e12
  unfold rdE
  by_cases c0 : b 2 0 = b 1 0 <;> by_cases c1 : b 2 1 = b 1 1 <;> by_cases c2 : b 2 2 = b 1 2 <;> by_cases c3 : b 2 3 = b 1 3 <;>
    simp +decide only [x139_0, x139_1, x139_2, x139_3, x139_4, x139_5, x139_6, x139_9, x139_10, x139_13, x139_14, x139_15, x139_17, x139_18, x139_19, x139_22, x139_23, x139_24, x139_25, x139_26, x139_27, x139_30, x139_33, x139_34, x139_37, x139_38, x139_39, x139_42, x139_45, x139_46, aft_some, aft_void, Option.bind_some, Option.toList_some, Option.toList_none, List.cons_append, List.nil_append, if_true, if_false, ↓reduceIte, eq_self, z366_o, ↓z366_0, ↓z366_0p, ↓z366_1, ↓z366_2, ↓z366_3, ↓z366_4, ↓z366_4p, ↓z366_5, ↓z366_6, ↓z366_6p0, ↓z366_6p1, ↓z366_7, ↓z366_8, ↓z366_8p, ↓z366_9, ↓z366_9p, ↓z366_10, ↓z366_10p0, ↓z366_10p1, ↓z366_11, ↓z366_12, ↓z366_12p, ↓sg0, ↓sg1, ↓sg2, ↓sg3, ↓sg4, ↓sg5, ↓sg6, ↓sg7, ↓sg8, ↓sg9, ↓sg10, ↓sg11, ↓sg12, ↓sg13, ↓sg14, ↓sg15, ↓sg16, ↓sg17, ↓ss0, ↓ss1, ↓ss2, ↓ss3, ↓ss4, ↓ss5, ↓ss6, ↓ss7, ↓ss8, ↓ss9, ↓ss10, ↓ss11, ↓ss12, ↓ss13, ↓ss14, ↓ss15, ↓ss16, ↓ss17, ↓aft_of (e5), ↓aft_of (e6), ↓aft_of (e7), ↓aft_of (e8), ↓aft_of (e9), ↓aft_of (e10), ↓aft_of (e11), ↓aft_of (e12), c0, c1, c2, c3, Int32.reduceAdd]
theorem r_kindNow {b : kT} (hb : bR f i b) (hi : i < 8) : X 160 0 [.ref 366, .int (nI i), .long 0] [] (H (upA T 367 f) P) = some (some (.int (lkK b (if 0 < f 7 then 1 else 0))), H (upA T 367 f) P) := by
  have l0 := r_left (T := T) (P := P) hb hi (show 0 < 4 by decide)
  have l1 := r_left (T := T) (P := P) hb hi (show 1 < 4 by decide)
  have l2 := r_left (T := T) (P := P) hb hi (show 2 < 4 by decide)
  have l3 := r_left (T := T) (P := P) hb hi (show 3 < 4 by decide)
  simp only [nl0, nl1, nl2, nl3] at l0 l1 l2 l3
  unfold lkK
  by_cases s0 : 0 < f 7 <;> by_cases c0 : 0 < opK b 0 <;> by_cases c1 : 0 < opK b 1 <;> by_cases c2 : 0 < opK b 2 <;> by_cases c3 : 0 < opK b 3 <;>
    simp +decide only [x160_0, x160_1, x160_2, x160_3, x160_4, x160_7, x160_8, x160_9, x160_10, x160_13, x160_16, x160_17, x160_18, x160_21, x160_22, x160_25, x160_27, x160_28, x160_31, x160_32, x160_33, x160_36, x160_39, x160_41, aft_some, aft_void, Option.bind_some, Option.toList_some, Option.toList_none, List.cons_append, List.nil_append, if_true, if_false, ↓reduceIte, eq_self, z366_o, ↓z366_0, ↓z366_0p, ↓z366_1, ↓z366_2, ↓z366_3, ↓z366_4, ↓z366_4p, ↓z366_5, ↓z366_6, ↓z366_6p0, ↓z366_6p1, ↓z366_7, ↓z366_8, ↓z366_8p, ↓z366_9, ↓z366_9p, ↓z366_10, ↓z366_10p0, ↓z366_10p1, ↓z366_11, ↓z366_12, ↓z366_12p, ↓sg0, ↓sg1, ↓sg2, ↓sg3, ↓sg4, ↓sg5, ↓sg6, ↓sg7, ↓sg8, ↓sg9, ↓sg10, ↓sg11, ↓sg12, ↓sg13, ↓sg14, ↓sg15, ↓sg16, ↓sg17, ↓ss0, ↓ss1, ↓ss2, ↓ss3, ↓ss4, ↓ss5, ↓ss6, ↓ss7, ↓ss8, ↓ss9, ↓ss10, ↓ss11, ↓ss12, ↓ss13, ↓ss14, ↓ss15, ↓ss16, ↓ss17, ↓aft_of (l0), ↓aft_of (l1), ↓aft_of (l2), ↓aft_of (l3), s0, c0, c1, c2, c3, Int32.reduceAdd]
theorem and1 (z : Int32) : z &&& 1 = 0 ∨ z &&& 1 = 1 := by
  have h : (z &&& 1).toBitVec = BitVec.setWidth 32 (BitVec.ofBool (z.toBitVec.getLsbD 0)) := by
    rw [Int32.toBitVec_and]; exact BitVec.and_one_eq_setWidth_ofBool_getLsbD
  cases hb : z.toBitVec.getLsbD 0 with
  | false => rw [hb] at h; exact Or.inl (Int32.toBitVec_inj.mp h)
  | true => rw [hb] at h; exact Or.inr (Int32.toBitVec_inj.mp h)
theorem vs_01 (v : Int32) (D : Nat) : (vsI v D = 1) = ¬ vsI v D = 0 := by
  unfold vsI
  rcases and1 (v >>> (nI (D % 7) &&& 31)) with h | h <;> rw [h] <;> simp
/-- the day of the next visit -/
def nvF (v : Int32) (D : Nat) : Nat → Nat → Int32
  | 0, _ => 99999
  | m + 1, a => if vsI v (D + a) = 0 then nvF v D m (a + 1) else nI (D + a)
theorem r_nextVisit {D d : Nat} (h4 : f 4 = nI D) (hD : D ≤ 10100) (hd : d < 5) : X 145 0 [.ref 366, .int (nI d), .long 0] [] (H (upA T 367 f) P) = some (some (.int (nvI 99999 (f (18 + d)) D)), H (upA T 367 f) P) := by
  have k18 : 18 + nI d = nI (18 + d) := nI_add 18 d
  have k7 : nI D + 7 = nI (D + 7) := nI_add _ 7
  have key : ∀ m a : Nat, a + m = 8 → X 145 9 [.ref 366, .int (nI d), .int (nI (D + a))] [] (H (upA T 367 f) P) = some (some (.int (nvF (f (18 + d)) D m a)), H (upA T 367 f) P) := by
    intro m
    induction m with
    | zero =>
      intro a ha
      have ha : a = 8 := by omega
      subst ha
      have n8 : nI (D + 7) < nI (D + 8) := nI_lt (by omega) (by omega)
      rw [x145_9]
      simp +decide only [x145_0, x145_1, x145_4, x145_5, x145_6, x145_7, x145_8, x145_10, x145_11, x145_14, x145_15, x145_16, x145_18, x145_19, x145_22, x145_23, x145_26, x145_28, x145_29, x145_30, x145_31, x145_32, x145_34, x145_35, x145_36, x145_37, x145_38, x145_39, x145_42, x145_43, x145_44, x145_47, x145_50, x145_52, aft_some, aft_void, Option.bind_some, Option.toList_some, Option.toList_none, List.cons_append, List.nil_append, if_true, if_false, ↓reduceIte, eq_self, z366_o, ↓z366_0, ↓z366_0p, ↓z366_1, ↓z366_2, ↓z366_3, ↓z366_4, ↓z366_4p, ↓z366_5, ↓z366_6, ↓z366_6p0, ↓z366_6p1, ↓z366_7, ↓z366_8, ↓z366_8p, ↓z366_9, ↓z366_9p, ↓z366_10, ↓z366_10p0, ↓z366_10p1, ↓z366_11, ↓z366_12, ↓z366_12p, ↓sg0, ↓sg1, ↓sg2, ↓sg3, ↓sg4, ↓sg5, ↓sg6, ↓sg7, ↓sg8, ↓sg9, ↓sg10, ↓sg11, ↓sg12, ↓sg13, ↓sg14, ↓sg15, ↓sg16, ↓sg17, ↓ss0, ↓ss1, ↓ss2, ↓ss3, ↓ss4, ↓ss5, ↓ss6, ↓ss7, ↓ss8, ↓ss9, ↓ss10, ↓ss11, ↓ss12, ↓ss13, ↓ss14, ↓ss15, ↓ss16, ↓ss17, h4, k7, n8, nvF]
    | succ m ih =>
      intro a ha
      have n7 : ¬ nI (D + 7) < nI (D + a) := nI_nlt (by omega) (by omega)
      have e : nI (D + a) - nI (D + a) / 7 * 7 = nI ((D + a) % 7) := nI_modp (a := D + a) (b := 7) (by omega) (by decide) (by decide)
      have hv : f (18 + d) >>> (nI ((D + a) % 7) &&& 31) &&& 1 = vsI (f (18 + d)) (D + a) := rfl
      have h01 := vs_01 (f (18 + d)) (D + a)
      rw [x145_9]
      by_cases c : vsI (f (18 + d)) (D + a) = 0
      · simp +decide only [x145_0, x145_1, x145_4, x145_5, x145_6, x145_7, x145_8, x145_10, x145_11, x145_14, x145_15, x145_16, x145_18, x145_19, x145_22, x145_23, x145_26, x145_28, x145_29, x145_30, x145_31, x145_32, x145_34, x145_35, x145_36, x145_37, x145_38, x145_39, x145_42, x145_43, x145_44, x145_47, x145_50, x145_52, aft_some, aft_void, Option.bind_some, Option.toList_some, Option.toList_none, List.cons_append, List.nil_append, if_true, if_false, ↓reduceIte, eq_self, z366_o, ↓z366_0, ↓z366_0p, ↓z366_1, ↓z366_2, ↓z366_3, ↓z366_4, ↓z366_4p, ↓z366_5, ↓z366_6, ↓z366_6p0, ↓z366_6p1, ↓z366_7, ↓z366_8, ↓z366_8p, ↓z366_9, ↓z366_9p, ↓z366_10, ↓z366_10p0, ↓z366_10p1, ↓z366_11, ↓z366_12, ↓z366_12p, ↓sg0, ↓sg1, ↓sg2, ↓sg3, ↓sg4, ↓sg5, ↓sg6, ↓sg7, ↓sg8, ↓sg9, ↓sg10, ↓sg11, ↓sg12, ↓sg13, ↓sg14, ↓sg15, ↓sg16, ↓sg17, ↓ss0, ↓ss1, ↓ss2, ↓ss3, ↓ss4, ↓ss5, ↓ss6, ↓ss7, ↓ss8, ↓ss9, ↓ss10, ↓ss11, ↓ss12, ↓ss13, ↓ss14, ↓ss15, ↓ss16, ↓ss17, h4, k7, n7, k18, ↓s_g (show 18 + d < 912 by omega), e, hv, h01, c, nvF, nI_1]
        exact ih (a + 1) (by omega)
      · simp +decide only [x145_0, x145_1, x145_4, x145_5, x145_6, x145_7, x145_8, x145_10, x145_11, x145_14, x145_15, x145_16, x145_18, x145_19, x145_22, x145_23, x145_26, x145_28, x145_29, x145_30, x145_31, x145_32, x145_34, x145_35, x145_36, x145_37, x145_38, x145_39, x145_42, x145_43, x145_44, x145_47, x145_50, x145_52, aft_some, aft_void, Option.bind_some, Option.toList_some, Option.toList_none, List.cons_append, List.nil_append, if_true, if_false, ↓reduceIte, eq_self, z366_o, ↓z366_0, ↓z366_0p, ↓z366_1, ↓z366_2, ↓z366_3, ↓z366_4, ↓z366_4p, ↓z366_5, ↓z366_6, ↓z366_6p0, ↓z366_6p1, ↓z366_7, ↓z366_8, ↓z366_8p, ↓z366_9, ↓z366_9p, ↓z366_10, ↓z366_10p0, ↓z366_10p1, ↓z366_11, ↓z366_12, ↓z366_12p, ↓sg0, ↓sg1, ↓sg2, ↓sg3, ↓sg4, ↓sg5, ↓sg6, ↓sg7, ↓sg8, ↓sg9, ↓sg10, ↓sg11, ↓sg12, ↓sg13, ↓sg14, ↓sg15, ↓sg16, ↓sg17, ↓ss0, ↓ss1, ↓ss2, ↓ss3, ↓ss4, ↓ss5, ↓ss6, ↓ss7, ↓ss8, ↓ss9, ↓ss10, ↓ss11, ↓ss12, ↓ss13, ↓ss14, ↓ss15, ↓ss16, ↓ss17, h4, k7, n7, k18, ↓s_g (show 18 + d < 912 by omega), e, hv, h01, c, nvF]
  have k1 : nI D + 1 = nI (D + 1) := nI_add _ 1
  simp +decide only [x145_0, x145_1, x145_4, x145_5, x145_6, x145_7, x145_8, x145_10, x145_11, x145_14, x145_15, x145_16, x145_18, x145_19, x145_22, x145_23, x145_26, x145_28, x145_29, x145_30, x145_31, x145_32, x145_34, x145_35, x145_36, x145_37, x145_38, x145_39, x145_42, x145_43, x145_44, x145_47, x145_50, x145_52, aft_some, aft_void, Option.bind_some, Option.toList_some, Option.toList_none, List.cons_append, List.nil_append, if_true, if_false, ↓reduceIte, eq_self, z366_o, ↓z366_0, ↓z366_0p, ↓z366_1, ↓z366_2, ↓z366_3, ↓z366_4, ↓z366_4p, ↓z366_5, ↓z366_6, ↓z366_6p0, ↓z366_6p1, ↓z366_7, ↓z366_8, ↓z366_8p, ↓z366_9, ↓z366_9p, ↓z366_10, ↓z366_10p0, ↓z366_10p1, ↓z366_11, ↓z366_12, ↓z366_12p, ↓sg0, ↓sg1, ↓sg2, ↓sg3, ↓sg4, ↓sg5, ↓sg6, ↓sg7, ↓sg8, ↓sg9, ↓sg10, ↓sg11, ↓sg12, ↓sg13, ↓sg14, ↓sg15, ↓sg16, ↓sg17, ↓ss0, ↓ss1, ↓ss2, ↓ss3, ↓ss4, ↓ss5, ↓ss6, ↓ss7, ↓ss8, ↓ss9, ↓ss10, ↓ss11, ↓ss12, ↓ss13, ↓ss14, ↓ss15, ↓ss16, ↓ss17, h4, k1]
  exact key 7 1 (by omega)
end RF
end
section
/-! hangers that are out, as the reference keeps them: a ring of 64 days for each customer -/
def rgL (c k : Nat) : List bT → Nat
  | [] => 0
  | q :: B => (if q.1 = c ∧ q.2.1 % 64 = k then q.2.2 else 0) + rgL c k B
/-- a sum of numbers -/
def sN (g : Nat → Nat) : Nat → Nat
  | 0 => 0
  | n + 1 => sN g n + g n
theorem sN_congr {g h : Nat → Nat} : ∀ {n : Nat}, (∀ i, i < n → g i = h i) → sN g n = sN h n
  | 0, _ => rfl
  | n + 1, e => by simp only [sN]; rw [sN_congr (fun i hi => e i (by omega)), e n (by omega)]
theorem sN_add (g h : Nat → Nat) : ∀ n, sN (fun i => g i + h i) n = sN g n + sN h n
  | 0 => rfl
  | n + 1 => by simp only [sN]; rw [sN_add g h n]; omega
theorem sN_0 : ∀ n, sN (fun _ => 0) n = 0
  | 0 => rfl
  | n + 1 => by simp only [sN]; rw [sN_0 n]
theorem sN_one (x j : Nat) : ∀ n, sN (fun k => if j = k then x else 0) n = if j < n then x else 0
  | 0 => by simp [sN]
  | n + 1 => by
    simp only [sN]
    rw [sN_one x j n]
    by_cases h : j < n
    · rw [if_pos h, if_neg (by omega), if_pos (by omega)]; omega
    · by_cases h2 : j = n
      · rw [if_neg h, if_pos h2, if_pos (by omega)]; omega
      · rw [if_neg h, if_neg h2, if_neg (by omega)]
theorem smI_nI {g : Nat → Nat} : ∀ n, smI (fun i => nI (g i)) n = nI (sN g n)
  | 0 => rfl
  | n + 1 => by simp only [smI, sN]; rw [smI_nI n, nI_add]
theorem rg_sum (c : Nat) : ∀ B : List bT, sN (fun k => rgL c k B) 64 = outL c B
  | [] => sN_0 64
  | q :: B => by
    have e : sN (fun k => rgL c k (q :: B)) 64 = sN (fun k => (if q.1 = c ∧ q.2.1 % 64 = k then q.2.2 else 0)) 64 + sN (fun k => rgL c k B) 64 := sN_add _ _ 64
    rw [e, rg_sum c B]
    simp only [outL]
    by_cases h : q.1 = c
    · simp only [h, true_and, if_true]
      rw [sN_one, if_pos (Nat.mod_lt _ (by decide))]
    · simp only [h, false_and, if_false]
      rw [sN_0]
theorem rg_le (c k : Nat) : ∀ B : List bT, rgL c k B ≤ outL c B
  | [] => Nat.le_refl _
  | q :: B => by
    have := rg_le c k B
    simp only [rgL, outL]
    by_cases h : q.1 = c
    · by_cases h2 : q.2.1 % 64 = k
      · simp only [h, h2, and_self, if_true]; omega
      · simp only [h, h2, and_false, if_true, if_false]; omega
    · simp only [h, false_and, if_false]; omega
theorem out_le (c : Nat) : ∀ B : List bT, outL c B ≤ allL B
  | [] => Nat.le_refl _
  | q :: B => by
    have := out_le c B
    simp only [outL, allL]
    split <;> omega
theorem all_le {n : Nat} : ∀ B : List bT, (∀ q ∈ B, q.2.2 ≤ n) → allL B ≤ n * B.length
  | [], _ => Nat.le_refl _
  | q :: B, h => by
    have := all_le B (fun q hq => h q (List.mem_cons_of_mem _ hq))
    have := h q List.mem_cons_self
    simp only [allL, List.length_cons, Nat.mul_add]
    omega
theorem rg_drop (c k : Nat) : ∀ B : List bT, rgL c k (dropE B) = rgL c k B
  | [] => rfl
  | q :: B => by
    have ih := rg_drop c k B
    unfold dropE at ih ⊢
    rw [List.filter_cons]
    by_cases h : 0 < q.2.2
    · rw [if_pos (by simpa using h)]
      simp only [rgL]; rw [ih]
    · rw [if_neg (by simpa using h)]
      have h0 : q.2.2 = 0 := by omega
      simp only [rgL, h0, ih]
      split <;> omega
theorem tk_zero (c : Nat) : ∀ B : List bT, tkL c 0 B = B
  | [] => rfl
  | q :: B => by
    simp only [tkL]
    rw [Nat.zero_min, Nat.sub_zero, Nat.sub_zero, tk_zero c B]
    split <;> rfl
theorem rg_tk_ne {c c' : Nat} (h : c' ≠ c) (k : Nat) : ∀ (g : Nat) (B : List bT), rgL c' k (tkL c g B) = rgL c' k B
  | _, [] => rfl
  | g, q :: B => by
    simp only [tkL]
    by_cases hq : q.1 = c
    · rw [if_pos hq]
      have hn : ¬ q.1 = c' := fun e => h (e.symm.trans hq)
      simp only [rgL, hn, false_and, if_false]
      rw [rg_tk_ne h k _ B]
    · rw [if_neg hq]
      simp only [rgL]
      rw [rg_tk_ne h k _ B]
theorem tk_two (c : Nat) : ∀ (a b : Nat) (B : List bT), a ≤ outL c B → tkL c (a + b) B = tkL c b (tkL c a B)
  | _, _, [], _ => rfl
  | a, b, q :: B, h => by
    simp only [outL] at h
    by_cases hq : q.1 = c
    · simp only [hq, if_true] at h
      simp only [tkL, hq, if_true]
      by_cases ha : a ≤ q.2.2
      · have e1 : min a q.2.2 = a := Nat.min_eq_left ha
        rw [e1, Nat.sub_self, tk_zero]
        have e2 : a + b - min (a + b) q.2.2 = b - min b (q.2.2 - a) := by omega
        rw [e2]
        congr 3
        omega
      · have e1 : min a q.2.2 = q.2.2 := Nat.min_eq_right (by omega)
        have e2 : min (a + b) q.2.2 = q.2.2 := Nat.min_eq_right (by omega)
        rw [e1, e2, Nat.sub_self, Nat.min_zero, Nat.sub_zero, Nat.sub_zero]
        rw [show a + b - q.2.2 = (a - q.2.2) + b by omega, tk_two c (a - q.2.2) b B (by omega)]
    · simp only [hq, if_false] at h
      simp only [tkL, hq, if_false]
      rw [tk_two c a b B (by omega)]
/-- days that are near, in their order -/
def NR (D : Nat) (B : List bT) : Prop := (∀ q ∈ B, q.2.1 ≤ D ∧ D ≤ q.2.1 + 62) ∧ B.Pairwise (fun p q => p.2.1 ≤ q.2.1)
theorem NR.tl {D : Nat} {q : bT} {B : List bT} (h : NR D (q :: B)) : NR D B := ⟨fun p hp => h.1 p (List.mem_cons_of_mem _ hp), (List.pairwise_cons.mp h.2).2⟩
theorem rg_none {c k : Nat} : ∀ {B : List bT}, (∀ q ∈ B, q.1 = c → 0 < q.2.2 → q.2.1 % 64 ≠ k) → rgL c k B = 0
  | [], _ => rfl
  | q :: B, h => by
    have ih := rg_none (B := B) (fun p hp => h p (List.mem_cons_of_mem _ hp))
    have h1 := h q List.mem_cons_self
    simp only [rgL]
    rw [ih]
    by_cases e : q.1 = c ∧ q.2.1 % 64 = k
    · rw [if_pos e]
      have := h1 e.1
      by_cases hz : 0 < q.2.2
      · exact absurd e.2 (this hz)
      · omega
    · rw [if_neg e]
/-- of a customer's hangers those of the first day are taken -/
theorem rg_tk {D c d0 : Nat} (hd : d0 ≤ D ∧ D ≤ d0 + 62) : ∀ (g : Nat) (B : List bT), NR D B → (∀ q ∈ B, q.1 = c → 0 < q.2.2 → d0 ≤ q.2.1) → g ≤ rgL c (d0 % 64) B → ∀ k, rgL c k (tkL c g B) = if k = d0 % 64 then rgL c k B - g else rgL c k B
  | g, [], _, _, _, k => by
    simp only [tkL, rgL]; split <;> omega
  | g, q :: B, hN, hQ, hg, k => by
    have hQ' : ∀ p ∈ B, p.1 = c → 0 < p.2.2 → d0 ≤ p.2.1 := fun p hp => hQ p (List.mem_cons_of_mem _ hp)
    have hq0 := hN.1 q List.mem_cons_self
    by_cases hq : q.1 = c
    · by_cases hp : q.2.2 = 0
      · simp only [rgL, hp] at hg
        have hg' : g ≤ rgL c (d0 % 64) B := by
          split at hg <;> omega
        have ih := rg_tk hd g B hN.tl hQ' hg' k
        simp only [tkL, hq, if_true, rgL, hp, Nat.min_zero, Nat.sub_zero, true_and]
        rw [ih]
        split <;> split <;> omega
      · have hd1 := hQ q List.mem_cons_self hq (by omega)
        by_cases hdd : q.2.1 = d0
        · simp only [rgL, hq, hdd, true_and, if_true] at hg
          by_cases hgq : g ≤ q.2.2
          · simp only [tkL, hq, if_true, rgL, hdd, true_and]
            rw [Nat.min_eq_left hgq, Nat.sub_self, tk_zero]
            by_cases hk : d0 % 64 = k
            · rw [if_pos hk, if_pos hk, if_pos hk.symm]; omega
            · rw [if_neg hk, if_neg hk, if_neg (fun e => hk e.symm)]
          · have ih := rg_tk hd (g - q.2.2) B hN.tl hQ' (by omega) k
            simp only [tkL, hq, if_true, rgL, hdd, true_and]
            rw [Nat.min_eq_right (by omega), Nat.sub_self, ih]
            by_cases hk : d0 % 64 = k
            · rw [if_pos hk, if_pos hk, if_pos hk.symm, if_pos hk.symm]
              subst hk
              omega
            · rw [if_neg hk, if_neg hk, if_neg (fun e => hk e.symm), if_neg (fun e => hk e.symm)]
        · have hlt : d0 < q.2.1 := by omega
          have hz : rgL c (d0 % 64) (q :: B) = 0 := by
            refine rg_none (fun p hp _ _ => ?_)
            have hp0 := hN.1 p hp
            have hle : q.2.1 ≤ p.2.1 := by
              rcases List.mem_cons.mp hp with rfl | hp
              · exact Nat.le_refl _
              · exact (List.pairwise_cons.mp hN.2).1 p hp
            omega
          have hg0 : g = 0 := by omega
          subst hg0
          rw [tk_zero]
          split <;> omega
    · have hg' : g ≤ rgL c (d0 % 64) B := by
        simp only [rgL, hq, false_and, if_false] at hg; omega
      have ih := rg_tk hd g B hN.tl hQ' hg' k
      simp only [tkL, hq, if_false, rgL, false_and]
      rw [ih]
      split <;> omega
/-- the first place of a ring, from the oldest on, that holds something -/
def olF (r : Nat → Nat) (D : Nat) : Nat → Option Nat
  | 0 => none
  | a + 1 => if 0 < r ((D + 64 - a) % 64) then some ((D + 64 - a) % 64) else olF r D a
theorem olF_none {r : Nat → Nat} {D : Nat} : ∀ {n : Nat}, olF r D n = none → ∀ a, a < n → r ((D + 64 - a) % 64) = 0
  | 0, _, a, h => by omega
  | n + 1, h, a, ha => by
    simp only [olF] at h
    split at h
    · cases h
    · rename_i h0
      by_cases e : a = n
      · subst e; omega
      · exact olF_none h a (by omega)
theorem olF_some {r : Nat → Nat} {D k : Nat} : ∀ {n : Nat}, olF r D n = some k → ∃ a, a < n ∧ k = (D + 64 - a) % 64 ∧ 0 < r k ∧ ∀ b, a < b → b < n → r ((D + 64 - b) % 64) = 0
  | 0, h => by cases h
  | n + 1, h => by
    simp only [olF] at h
    split at h
    · rename_i h0
      cases h
      exact ⟨n, by omega, rfl, h0, fun b h1 h2 => by omega⟩
    · rename_i h0
      obtain ⟨a, h1, h2, h3, h4⟩ := olF_some h
      refine ⟨a, by omega, h2, h3, fun b hb1 hb2 => ?_⟩
      by_cases e : b = n
      · subst e; omega
      · exact h4 b hb1 (by omega)
theorem ol_all {D c : Nat} {B : List bT} (hN : NR D B) (h : ∀ a, a < 64 → rgL c ((D + 64 - a) % 64) B = 0) : outL c B = 0 := by
  rw [← rg_sum c B, sN_congr (h := fun _ => 0) (fun k hk => ?_), sN_0]
  have := h ((D + 64 - k) % 64) (by omega)
  rwa [show (D + 64 - (D + 64 - k) % 64) % 64 = k by omega] at this
/-- the oldest of a customer's -/
theorem ol_ok {D c k : Nat} {B : List bT} (hN : NR D B) (h : olF (fun k => rgL c k B) D 64 = some k) : ∃ d0, (d0 ≤ D ∧ D ≤ d0 + 62) ∧ k = d0 % 64 ∧ 0 < rgL c k B ∧ ∀ q ∈ B, q.1 = c → 0 < q.2.2 → d0 ≤ q.2.1 := by
  obtain ⟨a, h1, h2, h3, h4⟩ := olF_some h
  have hpos : ∃ q ∈ B, q.1 = c ∧ 0 < q.2.2 ∧ q.2.1 % 64 = k := by
    apply Classical.byContradiction
    intro hn
    have hz := rg_none (c := c) (k := k) (B := B) (fun q hq e1 e2 e3 => hn ⟨q, hq, e1, e2, e3⟩)
    omega
  obtain ⟨q, hq, e1, e2, e3⟩ := hpos
  have hqd := hN.1 q hq
  refine ⟨q.2.1, hqd, e3.symm, h3, fun p hp p1 p2 => ?_⟩
  apply Classical.byContradiction
  intro hlt
  have hpd := hN.1 p hp
  have h5 := h4 (D - p.2.1) (by omega) (by omega)
  have hle : 0 < rgL c (p.2.1 % 64) B := by
    have : ∀ {B : List bT}, p ∈ B → p.2.2 ≤ rgL c (p.2.1 % 64) B := by
      intro B
      induction B with
      | nil => intro h; cases h
      | cons x B ih =>
        intro h
        simp only [rgL]
        rcases List.mem_cons.mp h with rfl | h
        · rw [if_pos ⟨p1, rfl⟩]; omega
        · have := ih h; omega
    have := this hp
    omega
  rw [show (D + 64 - (D - p.2.1)) % 64 = p.2.1 % 64 by omega] at h5
  omega
section RI
variable {T : Nat → Nat → Int32} {P : Nat → Nat → Nat} {f : Nat → Int32} {c D : Nat} {B : List bT} {r : Nat → Nat}
theorem r_outTo (hc : c < 10) : X 141 0 [.ref 366, .int (nI c), .long 0, .long 0] [] (H (upA T 367 f) P) = some (some (.int (smI (fun k => f (54 + 64 * c + k)) 64)), H (upA T 367 f) P) := by
  have hstep : ∀ i, i < 64 → X 141 4 [.ref 366, .int (nI c), .int (smI (fun k => f (54 + 64 * c + k)) i), .int (nI i)] [] (H (upA T 367 f) P) = X 141 4 [.ref 366, .int (nI c), .int (smI (fun k => f (54 + 64 * c + k)) (i + 1)), .int (nI (i + 1))] [] (H (upA T 367 f) P) := by
    intro i hi
    rw [x141_4]
    simp +decide only [x141_0, x141_1, x141_2, x141_3, x141_5, x141_7, x141_10, x141_11, x141_12, x141_15, x141_17, x141_19, x141_20, x141_21, x141_22, x141_23, x141_24, x141_25, x141_26, x141_27, x141_30, x141_33, x141_34, aft_some, aft_void, Option.bind_some, Option.toList_some, Option.toList_none, List.cons_append, List.nil_append, if_true, if_false, ↓reduceIte, eq_self, z366_o, ↓z366_0, ↓z366_0p, ↓z366_1, ↓z366_2, ↓z366_3, ↓z366_4, ↓z366_4p, ↓z366_5, ↓z366_6, ↓z366_6p0, ↓z366_6p1, ↓z366_7, ↓z366_8, ↓z366_8p, ↓z366_9, ↓z366_9p, ↓z366_10, ↓z366_10p0, ↓z366_10p1, ↓z366_11, ↓z366_12, ↓z366_12p, ↓sg0, ↓sg1, ↓sg2, ↓sg3, ↓sg4, ↓sg5, ↓sg6, ↓sg7, ↓sg8, ↓sg9, ↓sg10, ↓sg11, ↓sg12, ↓sg13, ↓sg14, ↓sg15, ↓sg16, ↓sg17, ↓ss0, ↓ss1, ↓ss2, ↓ss3, ↓ss4, ↓ss5, ↓ss6, ↓ss7, ↓ss8, ↓ss9, ↓ss10, ↓ss11, ↓ss12, ↓ss13, ↓ss14, ↓ss15, ↓ss16, ↓ss17, show nI i < 64 from nI_lt hi (by decide), ixO (y := nI i) rfl, ↓s_g (show 54 + 64 * c + i < 912 by omega), nI_1, smI]
  simp +decide only [x141_0, x141_1, x141_2, x141_3, x141_5, x141_7, x141_10, x141_11, x141_12, x141_15, x141_17, x141_19, x141_20, x141_21, x141_22, x141_23, x141_24, x141_25, x141_26, x141_27, x141_30, x141_33, x141_34, aft_some, aft_void, Option.bind_some, Option.toList_some, Option.toList_none, List.cons_append, List.nil_append, if_true, if_false, ↓reduceIte, eq_self]
  rw [show X 141 4 [.ref 366, .int (nI c), .int 0, .int 0] [] (H (upA T 367 f) P) = _ from loop_up (fun i => X 141 4 [.ref 366, .int (nI c), .int (smI (fun k => f (54 + 64 * c + k)) i), .int (nI i)] [] (H (upA T 367 f) P)) 64 hstep, x141_4]
  simp +decide only [x141_0, x141_1, x141_2, x141_3, x141_5, x141_7, x141_10, x141_11, x141_12, x141_15, x141_17, x141_19, x141_20, x141_21, x141_22, x141_23, x141_24, x141_25, x141_26, x141_27, x141_30, x141_33, x141_34, aft_some, aft_void, Option.bind_some, Option.toList_some, Option.toList_none, List.cons_append, List.nil_append, if_true, if_false, ↓reduceIte, eq_self, show nI 64 = 64 from rfl]
theorem r_oldest (hc : c < 10) (h4 : f 4 = nI D) (hD : D ≤ 10100) (hr : ∀ k, k < 64 → f (54 + 64 * c + k) = nI (r k) ∧ r k < 2 ^ 31) : X 142 0 [.ref 366, .int (nI c), .long 0, .long 0] [] (H (upA T 367 f) P) = some (some (.int (match olF r D 64 with
    | some k => nI k
    | none => -5)), H (upA T 367 f) P) := by
  have key : ∀ m, m ≤ 64 → ∀ v3, X 142 3 [.ref 366, .int (nI c), .int (nI m - 1), v3] [] (H (upA T 367 f) P) = some (some (.int (match olF r D m with
    | some k => nI k
    | none => -5)), H (upA T 367 f) P) := by
    intro m
    induction m with
    | zero =>
      intro _ v3
      rw [x142_3]
      simp +decide only [x142_0, x142_2, x142_4, x142_7, x142_8, x142_11, x142_12, x142_13, x142_15, x142_16, x142_17, x142_18, x142_20, x142_21, x142_22, x142_23, x142_26, x142_28, x142_30, x142_31, x142_32, x142_33, x142_34, x142_35, x142_36, x142_39, x142_40, x142_41, x142_44, x142_47, x142_49, aft_some, aft_void, Option.bind_some, Option.toList_some, Option.toList_none, List.cons_append, List.nil_append, if_true, if_false, ↓reduceIte, eq_self, show nI 0 - 1 = -1 from rfl, olF]
    | succ m ih =>
      intro hm v3
      have k1 : nI D + 64 = nI (D + 64) := nI_add _ 64
      have k2 : nI (D + 64) - nI m = nI (D + 64 - m) := nI_sub (by omega)
      have k3 : nI (D + 64 - m) - nI (D + 64 - m) / 64 * 64 = nI ((D + 64 - m) % 64) := nI_modp (b := 64) (by omega) (by decide) (by decide)
      have hlt : (D + 64 - m) % 64 < 64 := Nat.mod_lt _ (by decide)
      obtain ⟨g1, g2⟩ := hr _ hlt
      have hp : (0 < nI (r ((D + 64 - m) % 64))) = (0 < r ((D + 64 - m) % 64)) := nI_posn g2
      have hnn : ¬ nI m < 0 := nI_pos (by omega)
      rw [nI_pred, x142_3]
      by_cases c0 : 0 < r ((D + 64 - m) % 64)
      · simp +decide only [x142_0, x142_2, x142_4, x142_7, x142_8, x142_11, x142_12, x142_13, x142_15, x142_16, x142_17, x142_18, x142_20, x142_21, x142_22, x142_23, x142_26, x142_28, x142_30, x142_31, x142_32, x142_33, x142_34, x142_35, x142_36, x142_39, x142_40, x142_41, x142_44, x142_47, x142_49, aft_some, aft_void, Option.bind_some, Option.toList_some, Option.toList_none, List.cons_append, List.nil_append, if_true, if_false, ↓reduceIte, eq_self, z366_o, ↓z366_0, ↓z366_0p, ↓z366_1, ↓z366_2, ↓z366_3, ↓z366_4, ↓z366_4p, ↓z366_5, ↓z366_6, ↓z366_6p0, ↓z366_6p1, ↓z366_7, ↓z366_8, ↓z366_8p, ↓z366_9, ↓z366_9p, ↓z366_10, ↓z366_10p0, ↓z366_10p1, ↓z366_11, ↓z366_12, ↓z366_12p, ↓sg0, ↓sg1, ↓sg2, ↓sg3, ↓sg4, ↓sg5, ↓sg6, ↓sg7, ↓sg8, ↓sg9, ↓sg10, ↓sg11, ↓sg12, ↓sg13, ↓sg14, ↓sg15, ↓sg16, ↓sg17, ↓ss0, ↓ss1, ↓ss2, ↓ss3, ↓ss4, ↓ss5, ↓ss6, ↓ss7, ↓ss8, ↓ss9, ↓ss10, ↓ss11, ↓ss12, ↓ss13, ↓ss14, ↓ss15, ↓ss16, ↓ss17, hnn, h4, k1, k2, k3, ixO (y := nI ((D + 64 - m) % 64)) rfl, ↓s_g (show 54 + 64 * c + (D + 64 - m) % 64 < 912 by omega), g1, hp, c0, olF]
      · have hneg : nI m + -1 = nI m - 1 := (Int32.sub_eq_add_neg _ _).symm
        simp +decide only [x142_0, x142_2, x142_4, x142_7, x142_8, x142_11, x142_12, x142_13, x142_15, x142_16, x142_17, x142_18, x142_20, x142_21, x142_22, x142_23, x142_26, x142_28, x142_30, x142_31, x142_32, x142_33, x142_34, x142_35, x142_36, x142_39, x142_40, x142_41, x142_44, x142_47, x142_49, aft_some, aft_void, Option.bind_some, Option.toList_some, Option.toList_none, List.cons_append, List.nil_append, if_true, if_false, ↓reduceIte, eq_self, z366_o, ↓z366_0, ↓z366_0p, ↓z366_1, ↓z366_2, ↓z366_3, ↓z366_4, ↓z366_4p, ↓z366_5, ↓z366_6, ↓z366_6p0, ↓z366_6p1, ↓z366_7, ↓z366_8, ↓z366_8p, ↓z366_9, ↓z366_9p, ↓z366_10, ↓z366_10p0, ↓z366_10p1, ↓z366_11, ↓z366_12, ↓z366_12p, ↓sg0, ↓sg1, ↓sg2, ↓sg3, ↓sg4, ↓sg5, ↓sg6, ↓sg7, ↓sg8, ↓sg9, ↓sg10, ↓sg11, ↓sg12, ↓sg13, ↓sg14, ↓sg15, ↓sg16, ↓sg17, ↓ss0, ↓ss1, ↓ss2, ↓ss3, ↓ss4, ↓ss5, ↓ss6, ↓ss7, ↓ss8, ↓ss9, ↓ss10, ↓ss11, ↓ss12, ↓ss13, ↓ss14, ↓ss15, ↓ss16, ↓ss17, hnn, h4, k1, k2, k3, ixO (y := nI ((D + 64 - m) % 64)) rfl, ↓s_g (show 54 + 64 * c + (D + 64 - m) % 64 < 912 by omega), g1, hp, c0, olF, hneg]
        exact ih (by omega) _
  have e := key 64 (Nat.le_refl _) (.long 0)
  rw [show nI 64 - 1 = 63 from rfl] at e
  simp +decide only [x142_0, x142_2, x142_4, x142_7, x142_8, x142_11, x142_12, x142_13, x142_15, x142_16, x142_17, x142_18, x142_20, x142_21, x142_22, x142_23, x142_26, x142_28, x142_30, x142_31, x142_32, x142_33, x142_34, x142_35, x142_36, x142_39, x142_40, x142_41, x142_44, x142_47, x142_49, aft_some, aft_void, Option.bind_some, Option.toList_some, Option.toList_none, List.cons_append, List.nil_append, if_true, if_false, ↓reduceIte, eq_self]
  exact e
theorem r_ageOf {k : Nat} (h4 : f 4 = nI D) (hD : D ≤ 10100) (hk : k < 64) : X 143 0 [.ref 366, .int (nI k)] [] (H (upA T 367 f) P) = some (some (.int (nI ((D + 64 - k) % 64))), H (upA T 367 f) P) := by
  have k1 : nI k - nI k / 64 * 64 = nI (k % 64) := nI_modp (b := 64) (by omega) (by decide) (by decide)
  rw [Nat.mod_eq_of_lt hk] at k1
  have k2 : nI D - nI k + 12800 = nI (D + 12800 - k) := by
    rw [show (12800 : Int32) = nI 12800 from rfl, ← nI_sub (show k ≤ D + 12800 by omega), ← nI_add]
    grind
  have k3 : nI (D + 12800 - k) - nI (D + 12800 - k) / 64 * 64 = nI ((D + 12800 - k) % 64) := nI_modp (b := 64) (by omega) (by decide) (by decide)
  rw [show (D + 12800 - k) % 64 = (D + 64 - k) % 64 by omega] at k3
  simp +decide only [x143_0, x143_1, x143_4, x143_5, x143_6, x143_7, x143_9, x143_10, x143_11, x143_14, x143_15, x143_17, x143_18, aft_some, aft_void, Option.bind_some, Option.toList_some, Option.toList_none, List.cons_append, List.nil_append, if_true, if_false, ↓reduceIte, eq_self, z366_o, ↓z366_0, ↓z366_0p, ↓z366_1, ↓z366_2, ↓z366_3, ↓z366_4, ↓z366_4p, ↓z366_5, ↓z366_6, ↓z366_6p0, ↓z366_6p1, ↓z366_7, ↓z366_8, ↓z366_8p, ↓z366_9, ↓z366_9p, ↓z366_10, ↓z366_10p0, ↓z366_10p1, ↓z366_11, ↓z366_12, ↓z366_12p, ↓sg0, ↓sg1, ↓sg2, ↓sg3, ↓sg4, ↓sg5, ↓sg6, ↓sg7, ↓sg8, ↓sg9, ↓sg10, ↓sg11, ↓sg12, ↓sg13, ↓sg14, ↓sg15, ↓sg16, ↓sg17, ↓ss0, ↓ss1, ↓ss2, ↓ss3, ↓ss4, ↓ss5, ↓ss6, ↓ss7, ↓ss8, ↓ss9, ↓ss10, ↓ss11, ↓ss12, ↓ss13, ↓ss14, ↓ss15, ↓ss16, ↓ss17, h4, k1, k2, k3]
end RI
end
section
/-! hangers come back -/
theorem outL_tk (c : Nat) : ∀ (g : Nat) (B : List bT), outL c (tkL c g B) = outL c B - g
  | g, [] => by simp [tkL, outL]
  | g, q :: B => by
    simp only [tkL]
    by_cases h : q.1 = c
    · simp only [h, if_true, outL]
      rw [outL_tk c _ B]; omega
    · simp only [h, if_false, outL]
      rw [outL_tk c _ B]; omega
theorem NR.tk {D : Nat} (c : Nat) : ∀ (g : Nat) {B : List bT}, NR D B → NR D (tkL c g B)
  | _, [], h => h
  | g, q :: B, h => by
    have ih := fun g => NR.tk c g h.tl
    have hm : ∀ (g : Nat) (B : List bT), ∀ p ∈ tkL c g B, ∃ x ∈ B, p.2.1 = x.2.1 := by
      intro g B
      induction B generalizing g with
      | nil => intro p hp; cases hp
      | cons x B ih =>
        intro p hp
        simp only [tkL] at hp
        split at hp
        · rcases List.mem_cons.mp hp with rfl | hp
          · exact ⟨x, List.mem_cons_self, rfl⟩
          · obtain ⟨y, h1, h2⟩ := ih _ p hp; exact ⟨y, List.mem_cons_of_mem _ h1, h2⟩
        · rcases List.mem_cons.mp hp with rfl | hp
          · exact ⟨p, List.mem_cons_self, rfl⟩
          · obtain ⟨y, h1, h2⟩ := ih _ p hp; exact ⟨y, List.mem_cons_of_mem _ h1, h2⟩
    have h1 := List.pairwise_cons.mp h.2
    refine ⟨fun p hp => ?_, ?_⟩
    · obtain ⟨x, hx, e⟩ := hm g (q :: B) p hp
      rw [e]; exact h.1 x hx
    · simp only [tkL]
      split
      · exact List.pairwise_cons.mpr ⟨fun p hp => by obtain ⟨x, hx, e⟩ := hm _ B p hp; rw [e]; exact h1.1 x hx, (ih _).2⟩
      · exact List.pairwise_cons.mpr ⟨fun p hp => by obtain ⟨x, hx, e⟩ := hm _ B p hp; rw [e]; exact h1.1 x hx, (ih _).2⟩
section CB
variable {T : Nat → Nat → Int32} {P : Nat → Nat → Nat} {f : Nat → Int32} {c D : Nat} {B : List bT}
theorem r_comeBack {g : Nat} (hc : c < 10) (h4 : f 4 = nI D) (hD : D ≤ 10100) (hN : NR D B) (hO : outL c B < 100000) (hg : g ≤ outL c B) (hr : ∀ k, k < 64 → f (54 + 64 * c + k) = nI (rgL c k B)) :
    ∃ f', X 144 0 [.ref 366, .int (nI c), .int (nI g), .long 0, .long 0, .long 0] [] (H (upA T 367 f) P) = some (none, H (upA T 367 f') P) ∧ (∀ a, (a < 54 + 64 * c ∨ 54 + 64 * c + 64 ≤ a) → a ≠ 7 → f' a = f a) ∧ f' 7 = f 7 + nI g ∧ ∀ k, k < 64 → f' (54 + 64 * c + k) = nI (rgL c k (tkL c g B)) := by
  have key : ∀ (n l : Nat) (f : Nat → Int32) (B : List bT) (v4 v5 : Value), l ≤ n → f 4 = nI D → NR D B → outL c B < 100000 → l ≤ outL c B → (∀ k, k < 64 → f (54 + 64 * c + k) = nI (rgL c k B)) →
      ∃ f', X 144 2 [.ref 366, .int (nI c), .int (nI g), .int (nI l), v4, v5] [] (H (upA T 367 f) P) = some (none, H (upA T 367 f') P) ∧ (∀ a, (a < 54 + 64 * c ∨ 54 + 64 * c + 64 ≤ a) → a ≠ 7 → f' a = f a) ∧ f' 7 = f 7 + nI g ∧ ∀ k, k < 64 → f' (54 + 64 * c + k) = nI (rgL c k (tkL c l B)) := by
    intro n
    induction n with
    | zero =>
      intro l f B v4 v5 hl h4 hN hO hlo hr
      have hl : l = 0 := by omega
      subst hl
      refine ⟨upA f 7 (f 7 + nI g), ?_, fun a ha h7 => upA_n _ _ h7, upA_s _ _ _, fun k hk => ?_⟩
      · rw [x144_2]
        simp +decide only [x144_0, x144_1, x144_3, x144_6, x144_8, x144_10, x144_11, x144_12, x144_13, x144_14, x144_15, x144_18, x144_19, x144_21, x144_22, x144_23, x144_26, x144_28, x144_29, x144_32, x144_33, x144_36, x144_37, x144_40, x144_42, x144_43, x144_45, x144_46, x144_49, x144_51, x144_52, x144_53, x144_55, x144_56, x144_57, x144_58, x144_60, x144_61, x144_62, x144_65, x144_66, x144_69, x144_71, x144_72, x144_73, x144_74, x144_75, x144_76, aft_some, aft_void, Option.bind_some, Option.toList_some, Option.toList_none, List.cons_append, List.nil_append, if_true, if_false, ↓reduceIte, eq_self, z366_o, ↓z366_0, ↓z366_0p, ↓z366_1, ↓z366_2, ↓z366_3, ↓z366_4, ↓z366_4p, ↓z366_5, ↓z366_6, ↓z366_6p0, ↓z366_6p1, ↓z366_7, ↓z366_8, ↓z366_8p, ↓z366_9, ↓z366_9p, ↓z366_10, ↓z366_10p0, ↓z366_10p1, ↓z366_11, ↓z366_12, ↓z366_12p, ↓sg0, ↓sg1, ↓sg2, ↓sg3, ↓sg4, ↓sg5, ↓sg6, ↓sg7, ↓sg8, ↓sg9, ↓sg10, ↓sg11, ↓sg12, ↓sg13, ↓sg14, ↓sg15, ↓sg16, ↓sg17, ↓ss0, ↓ss1, ↓ss2, ↓ss3, ↓ss4, ↓ss5, ↓ss6, ↓ss7, ↓ss8, ↓ss9, ↓ss10, ↓ss11, ↓ss12, ↓ss13, ↓ss14, ↓ss15, ↓ss16, ↓ss17, nl0]
      · rw [tk_zero, upA_n _ _ (by omega)]; exact hr k hk
    | succ n ih =>
      intro l f B v4 v5 hl h4 hN hO hlo hr
      by_cases hl0 : l = 0
      · subst hl0
        refine ⟨upA f 7 (f 7 + nI g), ?_, fun a ha h7 => upA_n _ _ h7, upA_s _ _ _, fun k hk => ?_⟩
        · rw [x144_2]
          simp +decide only [x144_0, x144_1, x144_3, x144_6, x144_8, x144_10, x144_11, x144_12, x144_13, x144_14, x144_15, x144_18, x144_19, x144_21, x144_22, x144_23, x144_26, x144_28, x144_29, x144_32, x144_33, x144_36, x144_37, x144_40, x144_42, x144_43, x144_45, x144_46, x144_49, x144_51, x144_52, x144_53, x144_55, x144_56, x144_57, x144_58, x144_60, x144_61, x144_62, x144_65, x144_66, x144_69, x144_71, x144_72, x144_73, x144_74, x144_75, x144_76, aft_some, aft_void, Option.bind_some, Option.toList_some, Option.toList_none, List.cons_append, List.nil_append, if_true, if_false, ↓reduceIte, eq_self, z366_o, ↓z366_0, ↓z366_0p, ↓z366_1, ↓z366_2, ↓z366_3, ↓z366_4, ↓z366_4p, ↓z366_5, ↓z366_6, ↓z366_6p0, ↓z366_6p1, ↓z366_7, ↓z366_8, ↓z366_8p, ↓z366_9, ↓z366_9p, ↓z366_10, ↓z366_10p0, ↓z366_10p1, ↓z366_11, ↓z366_12, ↓z366_12p, ↓sg0, ↓sg1, ↓sg2, ↓sg3, ↓sg4, ↓sg5, ↓sg6, ↓sg7, ↓sg8, ↓sg9, ↓sg10, ↓sg11, ↓sg12, ↓sg13, ↓sg14, ↓sg15, ↓sg16, ↓sg17, ↓ss0, ↓ss1, ↓ss2, ↓ss3, ↓ss4, ↓ss5, ↓ss6, ↓ss7, ↓ss8, ↓ss9, ↓ss10, ↓ss11, ↓ss12, ↓ss13, ↓ss14, ↓ss15, ↓ss16, ↓ss17, nl0]
        · rw [tk_zero, upA_n _ _ (by omega)]; exact hr k hk
      · have eo := r_oldest (T := T) (P := P) hc h4 hD (r := fun k => rgL c k B) (fun k hk => ⟨hr k hk, by have := rg_le c k B; omega⟩)
        cases hq : olF (fun k => rgL c k B) D 64 with
        | none =>
          have := ol_all hN (olF_none hq)
          omega
        | some k =>
          rw [hq] at eo
          simp only at eo
          obtain ⟨d0, hd, hk, hpos, hQ⟩ := ol_ok hN hq
          have hk64 : k < 64 := by rw [hk]; exact Nat.mod_lt _ (by decide)
          have hix : 54 + 64 * nI c + nI k = nI (54 + 64 * c + k) := ixO rfl
          have hik : 54 + 64 * c + k < 912 := by omega
          have hv := hr k hk64
          have hle := rg_le c k B
          obtain ⟨m, hm⟩ : ∃ m, m = min l (rgL c k B) := ⟨_, rfl⟩
          have hlpos : 0 < nI l := by rw [nI_posn (by omega)]; omega
          have es : nI (rgL c k B) - nI m = nI (rgL c k B - m) := nI_sub (by omega)
          have el : nI l - nI m = nI (l - m) := nI_sub (by omega)
          have ht := rg_tk (c := c) hd m B hN hQ (by rw [← hk]; omega)
          have ho1 := outL_tk c m B
          obtain ⟨f', e2, f2, s2, r2⟩ := ih (l - m) (upA f (54 + 64 * c + k) (nI (rgL c k B - m))) (tkL c m B) (.int (nI (54 + 64 * c + k))) (.int (nI m)) (by omega) (by rw [upA_n _ _ (by omega)]; exact h4) (NR.tk c m hN) (by rw [ho1]; omega) (by rw [ho1]; omega) (fun j hj => by
            rw [ht j]
            by_cases hjk : j = k
            · subst hjk; rw [upA_s, if_pos hk]
            · rw [upA_n _ _ (by omega), if_neg (by rw [← hk]; exact hjk)]; exact hr j hj)
          refine ⟨f', ?_, fun a ha h7 => ?_, ?_, fun j hj => ?_⟩
          · rw [← e2, x144_2]
            by_cases q : nI l < nI (rgL c k B)
            · have hml : m = l := by
                have := nI_ltp (a := l) (b := rgL c k B) (by omega) (by omega)
                rw [this] at q; omega
              rw [hml] at es el ⊢
              simp +decide only [x144_0, x144_1, x144_3, x144_6, x144_8, x144_10, x144_11, x144_12, x144_13, x144_14, x144_15, x144_18, x144_19, x144_21, x144_22, x144_23, x144_26, x144_28, x144_29, x144_32, x144_33, x144_36, x144_37, x144_40, x144_42, x144_43, x144_45, x144_46, x144_49, x144_51, x144_52, x144_53, x144_55, x144_56, x144_57, x144_58, x144_60, x144_61, x144_62, x144_65, x144_66, x144_69, x144_71, x144_72, x144_73, x144_74, x144_75, x144_76, aft_some, aft_void, Option.bind_some, Option.toList_some, Option.toList_none, List.cons_append, List.nil_append, if_true, if_false, ↓reduceIte, eq_self, z366_o, ↓z366_0, ↓z366_0p, ↓z366_1, ↓z366_2, ↓z366_3, ↓z366_4, ↓z366_4p, ↓z366_5, ↓z366_6, ↓z366_6p0, ↓z366_6p1, ↓z366_7, ↓z366_8, ↓z366_8p, ↓z366_9, ↓z366_9p, ↓z366_10, ↓z366_10p0, ↓z366_10p1, ↓z366_11, ↓z366_12, ↓z366_12p, ↓sg0, ↓sg1, ↓sg2, ↓sg3, ↓sg4, ↓sg5, ↓sg6, ↓sg7, ↓sg8, ↓sg9, ↓sg10, ↓sg11, ↓sg12, ↓sg13, ↓sg14, ↓sg15, ↓sg16, ↓sg17, ↓ss0, ↓ss1, ↓ss2, ↓ss3, ↓ss4, ↓ss5, ↓ss6, ↓ss7, ↓ss8, ↓ss9, ↓ss10, ↓ss11, ↓ss12, ↓ss13, ↓ss14, ↓ss15, ↓ss16, ↓ss17, hlpos, ↓aft_of (eo), hix, ↓s_g hik, ↓s_s hik, hv, q, es, el]
            · have hml : m = rgL c k B := by
                have := nI_ltp (a := l) (b := rgL c k B) (by omega) (by omega)
                rw [this] at q; omega
              rw [hml] at es el ⊢
              simp +decide only [x144_0, x144_1, x144_3, x144_6, x144_8, x144_10, x144_11, x144_12, x144_13, x144_14, x144_15, x144_18, x144_19, x144_21, x144_22, x144_23, x144_26, x144_28, x144_29, x144_32, x144_33, x144_36, x144_37, x144_40, x144_42, x144_43, x144_45, x144_46, x144_49, x144_51, x144_52, x144_53, x144_55, x144_56, x144_57, x144_58, x144_60, x144_61, x144_62, x144_65, x144_66, x144_69, x144_71, x144_72, x144_73, x144_74, x144_75, x144_76, aft_some, aft_void, Option.bind_some, Option.toList_some, Option.toList_none, List.cons_append, List.nil_append, if_true, if_false, ↓reduceIte, eq_self, z366_o, ↓z366_0, ↓z366_0p, ↓z366_1, ↓z366_2, ↓z366_3, ↓z366_4, ↓z366_4p, ↓z366_5, ↓z366_6, ↓z366_6p0, ↓z366_6p1, ↓z366_7, ↓z366_8, ↓z366_8p, ↓z366_9, ↓z366_9p, ↓z366_10, ↓z366_10p0, ↓z366_10p1, ↓z366_11, ↓z366_12, ↓z366_12p, ↓sg0, ↓sg1, ↓sg2, ↓sg3, ↓sg4, ↓sg5, ↓sg6, ↓sg7, ↓sg8, ↓sg9, ↓sg10, ↓sg11, ↓sg12, ↓sg13, ↓sg14, ↓sg15, ↓sg16, ↓sg17, ↓ss0, ↓ss1, ↓ss2, ↓ss3, ↓ss4, ↓ss5, ↓ss6, ↓ss7, ↓ss8, ↓ss9, ↓ss10, ↓ss11, ↓ss12, ↓ss13, ↓ss14, ↓ss15, ↓ss16, ↓ss17, hlpos, ↓aft_of (eo), hix, ↓s_g hik, ↓s_s hik, hv, q, es, el]
          · rw [f2 a ha h7, upA_n _ _ (by omega)]
          · rw [s2, upA_n _ _ (by omega)]
          · rw [r2 j hj, ← tk_two c m (l - m) B (by omega), show m + (l - m) = l by omega]
  obtain ⟨f', e, r⟩ := key g g f B (.long 0) (.long 0) (Nat.le_refl _) h4 hN hO hg hr
  refine ⟨f', ?_, r⟩
  simp +decide only [x144_0, x144_1, x144_3, x144_6, x144_8, x144_10, x144_11, x144_12, x144_13, x144_14, x144_15, x144_18, x144_19, x144_21, x144_22, x144_23, x144_26, x144_28, x144_29, x144_32, x144_33, x144_36, x144_37, x144_40, x144_42, x144_43, x144_45, x144_46, x144_49, x144_51, x144_52, x144_53, x144_55, x144_56, x144_57, x144_58, x144_60, x144_61, x144_62, x144_65, x144_66, x144_69, x144_71, x144_72, x144_73, x144_74, x144_75, x144_76, aft_some, aft_void, Option.bind_some, Option.toList_some, Option.toList_none, List.cons_append, List.nil_append, if_true, if_false, ↓reduceIte, eq_self]
  exact e
end CB
end
section
/-! the reference's state, and its copies -/
theorem up1_n {T : Nat → Nat → Int32} {a b k : Nat} {v : Int32} (h : b ≠ a) : up1 T a k v b = T b := upA_n _ _ h
theorem up1_s {T : Nat → Nat → Int32} {a k : Nat} {v : Int32} : up1 T a k v a = upA (T a) k v := upA_s _ _ _
def sH (f : Nat → Int32) (N : Nat → Nat) (V : Nat → Nat → Int32) (n : Nat) : Prop :=
  (∀ k, k < 4 → f k = V 1 k) ∧ (f 4 = nI (N 0) ∧ f 5 = nI (N 1) ∧ f 6 = nI (N 2) ∧ f 7 = V 0 1) ∧ (f 8 = smI (V 6) (N 1) ∧ f 9 = V 0 2 ∧ f 10 = nI (N 3)) ∧ (∀ k, k < 4 → f (11 + k) = V 48 k) ∧ (f 15 = V 0 3 ∧ f 16 = nI n ∧ f 17 = nI (N 4)) ∧ (∀ d, d < 5 → f (18 + d) = V 2 d) ∧ V 0 0 = nI (N 0)
def sC (f : Nat → Int32) (N : Nat → Nat) (V : Nat → Nat → Int32) : Prop := ∀ c, c < 10 → (c < N 1 → f (24 + 3 * c + 0) = V 4 c) ∧ f (24 + 3 * c + 1) = (if c < N 1 then V 5 c else 0) ∧ f (24 + 3 * c + 2) = (if c < N 1 then V 6 c else 0)
def sO (f : Nat → Int32) (B : List bT) : Prop := ∀ c, c < 10 → ∀ k, k < 64 → f (54 + 64 * c + k) = nI (rgL c k B)
def sK (f : Nat → Int32) (K : List kT) : Prop := ∀ i, i < K.length → bR f i (gK K i)
def sL (f : Nat → Int32) (n : Nat) (V : Nat → Nat → Int32) : Prop := ∀ i, i < n → f (830 + 2 * i) = V 46 i ∧ f (830 + 2 * i + 1) = V 47 i
def sJ (f : Nat → Int32) (n : Nat) (R : Nat → Nat → Int32) : Prop := ∀ g, g < n → ∀ k, k < 4 → f (870 + 4 * (n - 1 - g) + k) = R g k
def sR (f : Nat → Int32) (N : Nat → Nat) (V : Nat → Nat → Int32) (K : List kT) (B : List bT) (R : Nat → Nat → Int32) : Prop := sH f N V K.length ∧ sC f N V ∧ sO f B ∧ sK f K ∧ sL f (N 3) V ∧ sJ f (N 4) R
abbrev sU (f : Nat → Int32) (u : uT) : Prop := sR f u.1.1 u.1.2.1 u.2 u.1.2.2.1 u.1.2.2.2
section SR
variable {f g : Nat → Int32} {N : Nat → Nat} {V : Nat → Nat → Int32} {K : List kT} {B : List bT} {R : Nat → Nat → Int32} {n i : Nat} {b : kT}
theorem sH.same (h : sH f N V n) (e : ∀ k, k < 23 → g k = f k) : sH g N V n := by
  obtain ⟨h1, ⟨h2, h3, h4, h5⟩, ⟨h6, h7, h8⟩, h9, ⟨h10, h11, h12⟩, h13, h14⟩ := h
  exact ⟨fun k hk => (e k (by omega)).trans (h1 k hk), ⟨(e _ (by decide)).trans h2, (e _ (by decide)).trans h3, (e _ (by decide)).trans h4, (e _ (by decide)).trans h5⟩, ⟨(e _ (by decide)).trans h6, (e _ (by decide)).trans h7, (e _ (by decide)).trans h8⟩, fun k hk => (e _ (by omega)).trans (h9 k hk), ⟨(e _ (by decide)).trans h10, (e _ (by decide)).trans h11, (e _ (by decide)).trans h12⟩, fun d hd => (e _ (by omega)).trans (h13 d hd), h14⟩
theorem sC.same (h : sC f N V) (e : ∀ k, 24 ≤ k → k < 54 → g k = f k) : sC g N V := fun c hc => by
  have := h c hc
  rw [e _ (by omega) (by omega), e (24 + 3 * c + 1) (by omega) (by omega), e (24 + 3 * c + 2) (by omega) (by omega)]
  exact this
theorem sO.same (h : sO f B) (e : ∀ k, 54 ≤ k → k < 694 → g k = f k) : sO g B := fun c hc k hk => (e _ (by omega) (by omega)).trans (h c hc k hk)
theorem bR.same (h : bR f i b) (e : ∀ k, 694 + 17 * i ≤ k → k < 694 + 17 * i + 17 → g k = f k) : bR g i b := by
  obtain ⟨⟨h1, h2, h3, h4, h5⟩, h6⟩ := h
  refine ⟨⟨(e _ (by omega) (by omega)).trans h1, (e _ (by omega) (by omega)).trans h2, (e _ (by omega) (by omega)).trans h3, (e _ (by omega) (by omega)).trans h4, (e _ (by omega) (by omega)).trans h5⟩, fun k hk => ?_⟩
  obtain ⟨g1, g2, g3⟩ := h6 k hk
  exact ⟨(e _ (by omega) (by omega)).trans g1, (e _ (by omega) (by omega)).trans g2, (e _ (by omega) (by omega)).trans g3⟩
theorem sK.same (h : sK f K) (h8 : K.length ≤ 8) (e : ∀ k, 694 ≤ k → k < 830 → g k = f k) : sK g K := fun i hi => (h i hi).same (fun k h1 h2 => e k (by omega) (by omega))
theorem sL.same (h : sL f n V) (h20 : n ≤ 20) (e : ∀ k, 830 ≤ k → k < 870 → g k = f k) : sL g n V := fun i hi => ⟨(e _ (by omega) (by omega)).trans (h i hi).1, (e _ (by omega) (by omega)).trans (h i hi).2⟩
theorem sJ.same (h : sJ f n R) (h10 : n ≤ 10) (e : ∀ k, 870 ≤ k → k < 910 → g k = f k) : sJ g n R := fun j hj k hk => (e _ (by omega) (by omega)).trans (h j hj k hk)
theorem sR.same (h : sR f N V K B R) (h8 : K.length ≤ 8) (h20 : N 3 ≤ 20) (h10 : N 4 ≤ 10) (e : ∀ k, k < 912 → g k = f k) : sR g N V K B R := by
  obtain ⟨h1, h2, h3, h4, h5, h6⟩ := h
  exact ⟨h1.same (fun k hk => e k (by omega)), h2.same (fun k _ hk => e k (by omega)), h3.same (fun k _ hk => e k (by omega)), h4.same h8 (fun k _ hk => e k (by omega)), h5.same h20 (fun k _ hk => e k (by omega)), h6.same h10 (fun k _ hk => e k (by omega))⟩
theorem sU.same {u : uT} (h : sU f u) (hw : WFu u) (e : ∀ k, k < 912 → g k = f k) : sU g u := sR.same h hw.1.1.2.2.2.1 hw.1.1.2.2.2.2.1 hw.1.1.2.2.2.2.2 e
end SR
/-! the whole object of the reference -/
def kR (T : Nat → Nat → Int32) : Option uT → Prop
  | none => T 366 6 = 0
  | some v => T 366 6 = 1 ∧ sU (T 370) v
def hR (T : Nat → Nat → Int32) (L : List uT) : Prop := T 366 4 = nI L.length ∧ L.length ≤ 4 ∧ ∀ (g : Nat) (u : uT), L[g]? = some u → sU (fun k => T 369 (912 * (L.length - 1 - g) + k)) u
def xR (T : Nat → Nat → Int32) (t : Nat × (Nat → Int32)) : Prop := T 366 8 = nI t.1 ∧ t.1 ≤ 60 ∧ ∀ i, i < t.1 → T 371 i = t.2 i
def CR (T : Nat → Nat → Int32) (s : gT) : Prop := T 366 0 = 0 ∧ sU (T 367) s.1 ∧ kR T s.2.1 ∧ hR T s.2.2.1 ∧ xR T s.2.2.2
section AR
variable {T : Nat → Nat → Int32} {P : Nat → Nat → Nat} {G : Int32 → Option (Option Value × List hC)} {i pc k : Nat} {L S : List Value} {y : Int32}
theorem a367_g (hk : k < 912) : (getI (H T P)[367]? 367 0 (nI k)).bind G = G (T 367 k) := by
  rw [z367_g, if_pos (okx_nI hk (by decide)), nI_clamp (by omega)]
theorem a367_s (hk : k < 912) : (putI (H T P)[367]? 0 (nI k) y).bind (fun c => X i pc L S ((H T P).set 367 c)) = X i pc L S (H (up1 T 367 k y) P) := by
  rw [z367_s, if_pos (okx_nI hk (by decide)), nI_clamp (by omega)]
theorem a368_g (hk : k < 912) : (getI (H T P)[368]? 368 0 (nI k)).bind G = G (T 368 k) := by
  rw [z368_g, if_pos (okx_nI hk (by decide)), nI_clamp (by omega)]
theorem a368_s (hk : k < 912) : (putI (H T P)[368]? 0 (nI k) y).bind (fun c => X i pc L S ((H T P).set 368 c)) = X i pc L S (H (up1 T 368 k y) P) := by
  rw [z368_s, if_pos (okx_nI hk (by decide)), nI_clamp (by omega)]
theorem a369_g (hk : k < 3648) : (getI (H T P)[369]? 369 0 (nI k)).bind G = G (T 369 k) := by
  rw [z369_g, if_pos (okx_nI hk (by decide)), nI_clamp (by omega)]
theorem a369_s (hk : k < 3648) : (putI (H T P)[369]? 0 (nI k) y).bind (fun c => X i pc L S ((H T P).set 369 c)) = X i pc L S (H (up1 T 369 k y) P) := by
  rw [z369_s, if_pos (okx_nI hk (by decide)), nI_clamp (by omega)]
theorem a370_g (hk : k < 912) : (getI (H T P)[370]? 370 0 (nI k)).bind G = G (T 370 k) := by
  rw [z370_g, if_pos (okx_nI hk (by decide)), nI_clamp (by omega)]
theorem a370_s (hk : k < 912) : (putI (H T P)[370]? 0 (nI k) y).bind (fun c => X i pc L S ((H T P).set 370 c)) = X i pc L S (H (up1 T 370 k y) P) := by
  rw [z370_s, if_pos (okx_nI hk (by decide)), nI_clamp (by omega)]
theorem a371_g (hk : k < 60) : (getI (H T P)[371]? 371 0 (nI k)).bind G = G (T 371 k) := by
  rw [z371_g, if_pos (okx_nI hk (by decide)), nI_clamp (by omega)]
theorem a371_s (hk : k < 60) : (putI (H T P)[371]? 0 (nI k) y).bind (fun c => X i pc L S ((H T P).set 371 c)) = X i pc L S (H (up1 T 371 k y) P) := by
  rw [z371_s, if_pos (okx_nI hk (by decide)), nI_clamp (by omega)]
theorem a372_g (hk : k < 64) : (getI (H T P)[372]? 372 0 (nI k)).bind G = G (T 372 k) := by
  rw [z372_g, if_pos (okx_nI hk (by decide)), nI_clamp (by omega)]
theorem a372_s (hk : k < 64) : (putI (H T P)[372]? 0 (nI k) y).bind (fun c => X i pc L S ((H T P).set 372 c)) = X i pc L S (H (up1 T 372 k y) P) := by
  rw [z372_s, if_pos (okx_nI hk (by decide)), nI_clamp (by omega)]
end AR
section CP
variable {T : Nat → Nat → Int32} {P : Nat → Nat → Nat}
theorem r_putAside : ∃ U, X 132 0 [.ref 366, .long 0] [] (H T P) = some (none, H U P) ∧ (∀ a, a ≠ 368 → U a = T a) ∧ (∀ k, k < 912 → U 368 k = T 367 k) ∧ ∀ k, 912 ≤ k → U 368 k = T 368 k := by
  obtain ⟨U, e, i1, i2, i3⟩ := loop_ex (fun i U => X 132 2 [.ref 366, .int (nI i)] [] (H U P)) (fun i U => (∀ a, a ≠ 368 → U a = T a) ∧ (∀ k, k < i → U 368 k = T 367 k) ∧ ∀ k, i ≤ k → U 368 k = T 368 k) 912 T ⟨fun _ _ => rfl, fun k hk => absurd hk (Nat.not_lt_zero k), fun _ _ => rfl⟩ (by
    intro i U hi ⟨i1, i2, i3⟩
    refine ⟨up1 U 368 i (T 367 i), ?_, fun a ha => ?_, fun k hk => ?_, fun k hk => ?_⟩
    · have hlt : nI i < 912 := nI_lt hi (by decide)
      have hs : U 367 i = T 367 i := congrFun (i1 367 (by decide)) i
      show X 132 2 [.ref 366, .int (nI i)] [] (H U P) = _
      rw [x132_2]
      simp +decide only [x132_0, x132_1, x132_3, x132_6, x132_9, x132_10, x132_13, x132_14, x132_15, x132_18, x132_19, x132_20, x132_21, x132_24, x132_27, aft_some, aft_void, Option.bind_some, Option.toList_some, Option.toList_none, List.cons_append, List.nil_append, if_true, if_false, ↓reduceIte, eq_self, z366_o, ↓z366_0, ↓z366_0p, ↓z366_1, ↓z366_2, ↓z366_3, ↓z366_4, ↓z366_4p, ↓z366_5, ↓z366_6, ↓z366_6p0, ↓z366_6p1, ↓z366_7, ↓z366_8, ↓z366_8p, ↓z366_9, ↓z366_9p, ↓z366_10, ↓z366_10p0, ↓z366_10p1, ↓z366_11, ↓z366_12, ↓z366_12p, ↓sg0, ↓sg1, ↓sg2, ↓sg3, ↓sg4, ↓sg5, ↓sg6, ↓sg7, ↓sg8, ↓sg9, ↓sg10, ↓sg11, ↓sg12, ↓sg13, ↓sg14, ↓sg15, ↓sg16, ↓sg17, ↓ss0, ↓ss1, ↓ss2, ↓ss3, ↓ss4, ↓ss5, ↓ss6, ↓ss7, ↓ss8, ↓ss9, ↓ss10, ↓ss11, ↓ss12, ↓ss13, ↓ss14, ↓ss15, ↓ss16, ↓ss17, hlt, ↓a367_g hi, ↓a368_s hi, hs, nI_1]
    · rw [up1_n ha]; exact i1 a ha
    · rw [up1_s]
      unfold upA
      by_cases e : k = i
      · rw [if_pos e, e]
      · rw [if_neg e]; exact i2 k (by omega)
    · rw [up1_s, upA_n _ _ (by omega)]; exact i3 k (by omega))
  have e : X 132 2 [.ref 366, .int 0] [] (H T P) = X 132 2 [.ref 366, .int 912] [] (H U P) := e
  refine ⟨U, ?_, i1, i2, i3⟩
  simp +decide only [x132_0, x132_1, x132_3, x132_6, x132_9, x132_10, x132_13, x132_14, x132_15, x132_18, x132_19, x132_20, x132_21, x132_24, x132_27, aft_some, aft_void, Option.bind_some, Option.toList_some, Option.toList_none, List.cons_append, List.nil_append, if_true, if_false, ↓reduceIte, eq_self]
  rw [e, x132_2]
  simp +decide only [x132_0, x132_1, x132_3, x132_6, x132_9, x132_10, x132_13, x132_14, x132_15, x132_18, x132_19, x132_20, x132_21, x132_24, x132_27, aft_some, aft_void, Option.bind_some, Option.toList_some, Option.toList_none, List.cons_append, List.nil_append, if_true, if_false, ↓reduceIte, eq_self, z366_o, ↓z366_0, ↓z366_0p, ↓z366_1, ↓z366_2, ↓z366_3, ↓z366_4, ↓z366_4p, ↓z366_5, ↓z366_6, ↓z366_6p0, ↓z366_6p1, ↓z366_7, ↓z366_8, ↓z366_8p, ↓z366_9, ↓z366_9p, ↓z366_10, ↓z366_10p0, ↓z366_10p1, ↓z366_11, ↓z366_12, ↓z366_12p, ↓sg0, ↓sg1, ↓sg2, ↓sg3, ↓sg4, ↓sg5, ↓sg6, ↓sg7, ↓sg8, ↓sg9, ↓sg10, ↓sg11, ↓sg12, ↓sg13, ↓sg14, ↓sg15, ↓sg16, ↓sg17, ↓ss0, ↓ss1, ↓ss2, ↓ss3, ↓ss4, ↓ss5, ↓ss6, ↓ss7, ↓ss8, ↓ss9, ↓ss10, ↓ss11, ↓ss12, ↓ss13, ↓ss14, ↓ss15, ↓ss16, ↓ss17]
theorem r_takeBack : ∃ U, X 133 0 [.ref 366, .long 0] [] (H T P) = some (none, H U P) ∧ (∀ a, a ≠ 367 → U a = T a) ∧ (∀ k, k < 912 → U 367 k = T 368 k) ∧ ∀ k, 912 ≤ k → U 367 k = T 367 k := by
  obtain ⟨U, e, i1, i2, i3⟩ := loop_ex (fun i U => X 133 2 [.ref 366, .int (nI i)] [] (H U P)) (fun i U => (∀ a, a ≠ 367 → U a = T a) ∧ (∀ k, k < i → U 367 k = T 368 k) ∧ ∀ k, i ≤ k → U 367 k = T 367 k) 912 T ⟨fun _ _ => rfl, fun k hk => absurd hk (Nat.not_lt_zero k), fun _ _ => rfl⟩ (by
    intro i U hi ⟨i1, i2, i3⟩
    refine ⟨up1 U 367 i (T 368 i), ?_, fun a ha => ?_, fun k hk => ?_, fun k hk => ?_⟩
    · have hlt : nI i < 912 := nI_lt hi (by decide)
      have hs : U 368 i = T 368 i := congrFun (i1 368 (by decide)) i
      show X 133 2 [.ref 366, .int (nI i)] [] (H U P) = _
      rw [x133_2]
      simp +decide only [x133_0, x133_1, x133_3, x133_6, x133_9, x133_10, x133_13, x133_14, x133_15, x133_18, x133_19, x133_20, x133_21, x133_24, x133_27, aft_some, aft_void, Option.bind_some, Option.toList_some, Option.toList_none, List.cons_append, List.nil_append, if_true, if_false, ↓reduceIte, eq_self, z366_o, ↓z366_0, ↓z366_0p, ↓z366_1, ↓z366_2, ↓z366_3, ↓z366_4, ↓z366_4p, ↓z366_5, ↓z366_6, ↓z366_6p0, ↓z366_6p1, ↓z366_7, ↓z366_8, ↓z366_8p, ↓z366_9, ↓z366_9p, ↓z366_10, ↓z366_10p0, ↓z366_10p1, ↓z366_11, ↓z366_12, ↓z366_12p, ↓sg0, ↓sg1, ↓sg2, ↓sg3, ↓sg4, ↓sg5, ↓sg6, ↓sg7, ↓sg8, ↓sg9, ↓sg10, ↓sg11, ↓sg12, ↓sg13, ↓sg14, ↓sg15, ↓sg16, ↓sg17, ↓ss0, ↓ss1, ↓ss2, ↓ss3, ↓ss4, ↓ss5, ↓ss6, ↓ss7, ↓ss8, ↓ss9, ↓ss10, ↓ss11, ↓ss12, ↓ss13, ↓ss14, ↓ss15, ↓ss16, ↓ss17, hlt, ↓a368_g hi, ↓a367_s hi, hs, nI_1]
    · rw [up1_n ha]; exact i1 a ha
    · rw [up1_s]
      unfold upA
      by_cases e : k = i
      · rw [if_pos e, e]
      · rw [if_neg e]; exact i2 k (by omega)
    · rw [up1_s, upA_n _ _ (by omega)]; exact i3 k (by omega))
  have e : X 133 2 [.ref 366, .int 0] [] (H T P) = X 133 2 [.ref 366, .int 912] [] (H U P) := e
  refine ⟨U, ?_, i1, i2, i3⟩
  simp +decide only [x133_0, x133_1, x133_3, x133_6, x133_9, x133_10, x133_13, x133_14, x133_15, x133_18, x133_19, x133_20, x133_21, x133_24, x133_27, aft_some, aft_void, Option.bind_some, Option.toList_some, Option.toList_none, List.cons_append, List.nil_append, if_true, if_false, ↓reduceIte, eq_self]
  rw [e, x133_2]
  simp +decide only [x133_0, x133_1, x133_3, x133_6, x133_9, x133_10, x133_13, x133_14, x133_15, x133_18, x133_19, x133_20, x133_21, x133_24, x133_27, aft_some, aft_void, Option.bind_some, Option.toList_some, Option.toList_none, List.cons_append, List.nil_append, if_true, if_false, ↓reduceIte, eq_self, z366_o, ↓z366_0, ↓z366_0p, ↓z366_1, ↓z366_2, ↓z366_3, ↓z366_4, ↓z366_4p, ↓z366_5, ↓z366_6, ↓z366_6p0, ↓z366_6p1, ↓z366_7, ↓z366_8, ↓z366_8p, ↓z366_9, ↓z366_9p, ↓z366_10, ↓z366_10p0, ↓z366_10p1, ↓z366_11, ↓z366_12, ↓z366_12p, ↓sg0, ↓sg1, ↓sg2, ↓sg3, ↓sg4, ↓sg5, ↓sg6, ↓sg7, ↓sg8, ↓sg9, ↓sg10, ↓sg11, ↓sg12, ↓sg13, ↓sg14, ↓sg15, ↓sg16, ↓sg17, ↓ss0, ↓ss1, ↓ss2, ↓ss3, ↓ss4, ↓ss5, ↓ss6, ↓ss7, ↓ss8, ↓ss9, ↓ss10, ↓ss11, ↓ss12, ↓ss13, ↓ss14, ↓ss15, ↓ss16, ↓ss17]
end CP
end
section
/-! the reference's copying loops -/
theorem cp_rec1 {T : Nat → Nat → Int32} {P : Nat → Nat → Nat} : ∃ U, X 131 10 [.ref 366, .int (nI 0)] [] (H T P) = X 131 10 [.ref 366, .int (nI 2736)] [] (H U P) ∧ (∀ a, a ≠ 369 → U a = T a) ∧ (∀ k, k < 2736 → U 369 (k) = T 369 (k + 912)) ∧ ∀ k, (k < 0 ∨ 0 + 2736 ≤ k) → U 369 k = T 369 k := by
  obtain ⟨U, e, i1, i2, i3⟩ := loop_ex (fun i U => X 131 10 [.ref 366, .int (nI i)] [] (H U P)) (fun i U => (∀ a, a ≠ 369 → U a = T a) ∧ (∀ k, k < i → U 369 (k) = T 369 (k + 912)) ∧ ∀ k, (k < 0 ∨ 0 + i ≤ k) → U 369 k = T 369 k) 2736 T ⟨fun _ _ => rfl, fun k hk => absurd hk (Nat.not_lt_zero k), fun _ _ => rfl⟩ (by
    intro i U hi ⟨i1, i2, i3⟩
    refine ⟨up1 U 369 (i) (T 369 (i + 912)), ?_, fun a ha => ?_, fun k hk => ?_, fun k hk => ?_⟩
    · have hlt : nI i < 2736 := nI_lt hi (by decide)
      have hx : nI i + 912 = nI (i + 912) := nI_add _ 912
      have hs : U 369 (i + 912) = T 369 (i + 912) := i3 (i + 912) (by omega)
      show X 131 10 [.ref 366, .int (nI i)] [] (H U P) = _
      rw [x131_10]
      simp +decide only [x131_0, x131_1, x131_4, x131_5, x131_8, x131_9, x131_11, x131_14, x131_17, x131_18, x131_21, x131_22, x131_23, x131_26, x131_27, x131_30, x131_31, x131_32, x131_33, x131_36, x131_39, x131_40, x131_41, x131_44, x131_45, x131_46, x131_49, x131_50, x131_51, x131_52, x131_55, x131_58, x131_59, x131_62, x131_65, x131_66, x131_69, x131_70, x131_71, x131_72, x131_73, x131_76, x131_77, x131_78, x131_79, x131_82, x131_85, x131_86, x131_87, x131_90, x131_91, x131_92, x131_95, aft_some, aft_void, Option.bind_some, Option.toList_some, Option.toList_none, List.cons_append, List.nil_append, if_true, if_false, ↓reduceIte, eq_self, z366_o, ↓z366_0, ↓z366_0p, ↓z366_1, ↓z366_2, ↓z366_3, ↓z366_4, ↓z366_4p, ↓z366_5, ↓z366_6, ↓z366_6p0, ↓z366_6p1, ↓z366_7, ↓z366_8, ↓z366_8p, ↓z366_9, ↓z366_9p, ↓z366_10, ↓z366_10p0, ↓z366_10p1, ↓z366_11, ↓z366_12, ↓z366_12p, ↓sg0, ↓sg1, ↓sg2, ↓sg3, ↓sg4, ↓sg5, ↓sg6, ↓sg7, ↓sg8, ↓sg9, ↓sg10, ↓sg11, ↓sg12, ↓sg13, ↓sg14, ↓sg15, ↓sg16, ↓sg17, ↓ss0, ↓ss1, ↓ss2, ↓ss3, ↓ss4, ↓ss5, ↓ss6, ↓ss7, ↓ss8, ↓ss9, ↓ss10, ↓ss11, ↓ss12, ↓ss13, ↓ss14, ↓ss15, ↓ss16, ↓ss17, hlt, ↓a369_g (show i + 912 < 3648 by omega), ↓a369_s (show i < 3648 by omega), hs, nI_1, hx]
    · rw [up1_n ha]; exact i1 a ha
    · rw [up1_s]
      unfold upA
      by_cases e : k = i
      · rw [if_pos (by rw [e]), e]
      · rw [if_neg (by omega)]; exact i2 k (by omega)
    · rw [up1_s, upA_n _ _ (by omega)]; exact i3 k (by omega))
  exact ⟨U, e, i1, i2, i3⟩
theorem cp_rec2 {T : Nat → Nat → Int32} {P : Nat → Nat → Nat} {j : Nat} (hj : T 366 4 = nI j) (hj4 : j < 4) : ∃ U, X 131 51 [.ref 366, .int (nI 0)] [] (H T P) = X 131 51 [.ref 366, .int (nI 912)] [] (H U P) ∧ (∀ a, a ≠ 369 → U a = T a) ∧ (∀ k, k < 912 → U 369 (912 * j + k) = T 367 (k)) ∧ ∀ k, (k < 912 * j ∨ 912 * j + 912 ≤ k) → U 369 k = T 369 k := by
  obtain ⟨U, e, i1, i2, i3⟩ := loop_ex (fun i U => X 131 51 [.ref 366, .int (nI i)] [] (H U P)) (fun i U => (∀ a, a ≠ 369 → U a = T a) ∧ (∀ k, k < i → U 369 (912 * j + k) = T 367 (k)) ∧ ∀ k, (k < 912 * j ∨ 912 * j + i ≤ k) → U 369 k = T 369 k) 912 T ⟨fun _ _ => rfl, fun k hk => absurd hk (Nat.not_lt_zero k), fun _ _ => rfl⟩ (by
    intro i U hi ⟨i1, i2, i3⟩
    refine ⟨up1 U 369 (912 * j + i) (T 367 (i)), ?_, fun a ha => ?_, fun k hk => ?_, fun k hk => ?_⟩
    · have hlt : nI i < 912 := nI_lt hi (by decide)
      have hx : 912 * nI j + nI i = nI (912 * j + i) := by
        rw [show (912 : Int32) = nI 912 from rfl, nI_mul, nI_add]
      have h36 : U 366 4 = nI j := (congrFun (i1 366 (by decide)) 4).trans hj
      have hs : U 367 (i) = T 367 (i) := congrFun (i1 367 (by decide)) _
      show X 131 51 [.ref 366, .int (nI i)] [] (H U P) = _
      rw [x131_51]
      simp +decide only [x131_0, x131_1, x131_4, x131_5, x131_8, x131_9, x131_10, x131_11, x131_14, x131_17, x131_18, x131_21, x131_22, x131_23, x131_26, x131_27, x131_30, x131_31, x131_32, x131_33, x131_36, x131_39, x131_40, x131_41, x131_44, x131_45, x131_46, x131_49, x131_50, x131_52, x131_55, x131_58, x131_59, x131_62, x131_65, x131_66, x131_69, x131_70, x131_71, x131_72, x131_73, x131_76, x131_77, x131_78, x131_79, x131_82, x131_85, x131_86, x131_87, x131_90, x131_91, x131_92, x131_95, aft_some, aft_void, Option.bind_some, Option.toList_some, Option.toList_none, List.cons_append, List.nil_append, if_true, if_false, ↓reduceIte, eq_self, z366_o, ↓z366_0, ↓z366_0p, ↓z366_1, ↓z366_2, ↓z366_3, ↓z366_4, ↓z366_4p, ↓z366_5, ↓z366_6, ↓z366_6p0, ↓z366_6p1, ↓z366_7, ↓z366_8, ↓z366_8p, ↓z366_9, ↓z366_9p, ↓z366_10, ↓z366_10p0, ↓z366_10p1, ↓z366_11, ↓z366_12, ↓z366_12p, ↓sg0, ↓sg1, ↓sg2, ↓sg3, ↓sg4, ↓sg5, ↓sg6, ↓sg7, ↓sg8, ↓sg9, ↓sg10, ↓sg11, ↓sg12, ↓sg13, ↓sg14, ↓sg15, ↓sg16, ↓sg17, ↓ss0, ↓ss1, ↓ss2, ↓ss3, ↓ss4, ↓ss5, ↓ss6, ↓ss7, ↓ss8, ↓ss9, ↓ss10, ↓ss11, ↓ss12, ↓ss13, ↓ss14, ↓ss15, ↓ss16, ↓ss17, hlt, ↓a367_g (show i < 912 by omega), ↓a369_s (show 912 * j + i < 3648 by omega), hs, nI_1, hx, h36]
    · rw [up1_n ha]; exact i1 a ha
    · rw [up1_s]
      unfold upA
      by_cases e : k = i
      · rw [if_pos (by rw [e]), e]
      · rw [if_neg (by omega)]; exact i2 k (by omega)
    · rw [up1_s, upA_n _ _ (by omega)]; exact i3 k (by omega))
  exact ⟨U, e, i1, i2, i3⟩
theorem cp_undo {T : Nat → Nat → Int32} {P : Nat → Nat → Nat} {j : Nat} (hj : T 366 4 = nI j) (hj4 : j < 4) : ∃ U, X 184 27 [.ref 366, .int (nI 0)] [] (H T P) = X 184 27 [.ref 366, .int (nI 912)] [] (H U P) ∧ (∀ a, a ≠ 367 → U a = T a) ∧ (∀ k, k < 912 → U 367 (k) = T 369 (912 * j + k)) ∧ ∀ k, (k < 0 ∨ 0 + 912 ≤ k) → U 367 k = T 367 k := by
  obtain ⟨U, e, i1, i2, i3⟩ := loop_ex (fun i U => X 184 27 [.ref 366, .int (nI i)] [] (H U P)) (fun i U => (∀ a, a ≠ 367 → U a = T a) ∧ (∀ k, k < i → U 367 (k) = T 369 (912 * j + k)) ∧ ∀ k, (k < 0 ∨ 0 + i ≤ k) → U 367 k = T 367 k) 912 T ⟨fun _ _ => rfl, fun k hk => absurd hk (Nat.not_lt_zero k), fun _ _ => rfl⟩ (by
    intro i U hi ⟨i1, i2, i3⟩
    refine ⟨up1 U 367 (i) (T 369 (912 * j + i)), ?_, fun a ha => ?_, fun k hk => ?_, fun k hk => ?_⟩
    · have hlt : nI i < 912 := nI_lt hi (by decide)
      have hx : 912 * nI j + nI i = nI (912 * j + i) := by
        rw [show (912 : Int32) = nI 912 from rfl, nI_mul, nI_add]
      have h36 : U 366 4 = nI j := (congrFun (i1 366 (by decide)) 4).trans hj
      have hs : U 369 (912 * j + i) = T 369 (912 * j + i) := congrFun (i1 369 (by decide)) _
      show X 184 27 [.ref 366, .int (nI i)] [] (H U P) = _
      rw [x184_27]
      simp +decide only [x184_0, x184_1, x184_2, x184_5, x184_6, x184_9, x184_12, x184_14, x184_15, x184_16, x184_17, x184_20, x184_21, x184_22, x184_25, x184_26, x184_28, x184_31, x184_34, x184_35, x184_38, x184_39, x184_40, x184_43, x184_46, x184_47, x184_50, x184_51, x184_52, x184_53, x184_54, x184_55, x184_58, x184_61, x184_62, x184_65, aft_some, aft_void, Option.bind_some, Option.toList_some, Option.toList_none, List.cons_append, List.nil_append, if_true, if_false, ↓reduceIte, eq_self, z366_o, ↓z366_0, ↓z366_0p, ↓z366_1, ↓z366_2, ↓z366_3, ↓z366_4, ↓z366_4p, ↓z366_5, ↓z366_6, ↓z366_6p0, ↓z366_6p1, ↓z366_7, ↓z366_8, ↓z366_8p, ↓z366_9, ↓z366_9p, ↓z366_10, ↓z366_10p0, ↓z366_10p1, ↓z366_11, ↓z366_12, ↓z366_12p, ↓sg0, ↓sg1, ↓sg2, ↓sg3, ↓sg4, ↓sg5, ↓sg6, ↓sg7, ↓sg8, ↓sg9, ↓sg10, ↓sg11, ↓sg12, ↓sg13, ↓sg14, ↓sg15, ↓sg16, ↓sg17, ↓ss0, ↓ss1, ↓ss2, ↓ss3, ↓ss4, ↓ss5, ↓ss6, ↓ss7, ↓ss8, ↓ss9, ↓ss10, ↓ss11, ↓ss12, ↓ss13, ↓ss14, ↓ss15, ↓ss16, ↓ss17, hlt, ↓a369_g (show 912 * j + i < 3648 by omega), ↓a367_s (show i < 912 by omega), hs, nI_1, hx, h36]
    · rw [up1_n ha]; exact i1 a ha
    · rw [up1_s]
      unfold upA
      by_cases e : k = i
      · rw [if_pos (by rw [e]), e]
      · rw [if_neg (by omega)]; exact i2 k (by omega)
    · rw [up1_s, upA_n _ _ (by omega)]; exact i3 k (by omega))
  exact ⟨U, e, i1, i2, i3⟩
theorem cp_keep {T : Nat → Nat → Int32} {P : Nat → Nat → Nat} : ∃ U, X 185 7 [.ref 366, .int (nI 0)] [] (H T P) = X 185 7 [.ref 366, .int (nI 912)] [] (H U P) ∧ (∀ a, a ≠ 370 → U a = T a) ∧ (∀ k, k < 912 → U 370 (k) = T 367 (k)) ∧ ∀ k, (k < 0 ∨ 0 + 912 ≤ k) → U 370 k = T 370 k := by
  obtain ⟨U, e, i1, i2, i3⟩ := loop_ex (fun i U => X 185 7 [.ref 366, .int (nI i)] [] (H U P)) (fun i U => (∀ a, a ≠ 370 → U a = T a) ∧ (∀ k, k < i → U 370 (k) = T 367 (k)) ∧ ∀ k, (k < 0 ∨ 0 + i ≤ k) → U 370 k = T 370 k) 912 T ⟨fun _ _ => rfl, fun k hk => absurd hk (Nat.not_lt_zero k), fun _ _ => rfl⟩ (by
    intro i U hi ⟨i1, i2, i3⟩
    refine ⟨up1 U 370 (i) (T 367 (i)), ?_, fun a ha => ?_, fun k hk => ?_, fun k hk => ?_⟩
    · have hlt : nI i < 912 := nI_lt hi (by decide)
      have hs : U 367 (i) = T 367 (i) := congrFun (i1 367 (by decide)) _
      show X 185 7 [.ref 366, .int (nI i)] [] (H U P) = _
      rw [x185_7]
      simp +decide only [x185_0, x185_1, x185_2, x185_5, x185_6, x185_8, x185_11, x185_14, x185_15, x185_18, x185_19, x185_20, x185_23, x185_24, x185_25, x185_26, x185_29, x185_32, x185_33, x185_34, x185_37, x185_38, x185_41, x185_42, x185_43, aft_some, aft_void, Option.bind_some, Option.toList_some, Option.toList_none, List.cons_append, List.nil_append, if_true, if_false, ↓reduceIte, eq_self, z366_o, ↓z366_0, ↓z366_0p, ↓z366_1, ↓z366_2, ↓z366_3, ↓z366_4, ↓z366_4p, ↓z366_5, ↓z366_6, ↓z366_6p0, ↓z366_6p1, ↓z366_7, ↓z366_8, ↓z366_8p, ↓z366_9, ↓z366_9p, ↓z366_10, ↓z366_10p0, ↓z366_10p1, ↓z366_11, ↓z366_12, ↓z366_12p, ↓sg0, ↓sg1, ↓sg2, ↓sg3, ↓sg4, ↓sg5, ↓sg6, ↓sg7, ↓sg8, ↓sg9, ↓sg10, ↓sg11, ↓sg12, ↓sg13, ↓sg14, ↓sg15, ↓sg16, ↓sg17, ↓ss0, ↓ss1, ↓ss2, ↓ss3, ↓ss4, ↓ss5, ↓ss6, ↓ss7, ↓ss8, ↓ss9, ↓ss10, ↓ss11, ↓ss12, ↓ss13, ↓ss14, ↓ss15, ↓ss16, ↓ss17, hlt, ↓a367_g (show i < 912 by omega), ↓a370_s (show i < 912 by omega), hs, nI_1]
    · rw [up1_n ha]; exact i1 a ha
    · rw [up1_s]
      unfold upA
      by_cases e : k = i
      · rw [if_pos (by rw [e]), e]
      · rw [if_neg (by omega)]; exact i2 k (by omega)
    · rw [up1_s, upA_n _ _ (by omega)]; exact i3 k (by omega))
  exact ⟨U, e, i1, i2, i3⟩
theorem cp_rest {T : Nat → Nat → Int32} {P : Nat → Nat → Nat} : ∃ U, X 186 21 [.ref 366, .int (nI 0)] [] (H T P) = X 186 21 [.ref 366, .int (nI 912)] [] (H U P) ∧ (∀ a, a ≠ 367 → U a = T a) ∧ (∀ k, k < 912 → U 367 (k) = T 370 (k)) ∧ ∀ k, (k < 0 ∨ 0 + 912 ≤ k) → U 367 k = T 367 k := by
  obtain ⟨U, e, i1, i2, i3⟩ := loop_ex (fun i U => X 186 21 [.ref 366, .int (nI i)] [] (H U P)) (fun i U => (∀ a, a ≠ 367 → U a = T a) ∧ (∀ k, k < i → U 367 (k) = T 370 (k)) ∧ ∀ k, (k < 0 ∨ 0 + i ≤ k) → U 367 k = T 367 k) 912 T ⟨fun _ _ => rfl, fun k hk => absurd hk (Nat.not_lt_zero k), fun _ _ => rfl⟩ (by
    intro i U hi ⟨i1, i2, i3⟩
    refine ⟨up1 U 367 (i) (T 370 (i)), ?_, fun a ha => ?_, fun k hk => ?_, fun k hk => ?_⟩
    · have hlt : nI i < 912 := nI_lt hi (by decide)
      have hs : U 370 (i) = T 370 (i) := congrFun (i1 370 (by decide)) _
      show X 186 21 [.ref 366, .int (nI i)] [] (H U P) = _
      rw [x186_21]
      simp +decide only [x186_0, x186_1, x186_2, x186_5, x186_6, x186_9, x186_12, x186_14, x186_15, x186_16, x186_19, x186_20, x186_22, x186_25, x186_28, x186_29, x186_32, x186_33, x186_34, x186_37, x186_38, x186_39, x186_40, x186_43, x186_46, x186_47, x186_50, x186_51, x186_52, aft_some, aft_void, Option.bind_some, Option.toList_some, Option.toList_none, List.cons_append, List.nil_append, if_true, if_false, ↓reduceIte, eq_self, z366_o, ↓z366_0, ↓z366_0p, ↓z366_1, ↓z366_2, ↓z366_3, ↓z366_4, ↓z366_4p, ↓z366_5, ↓z366_6, ↓z366_6p0, ↓z366_6p1, ↓z366_7, ↓z366_8, ↓z366_8p, ↓z366_9, ↓z366_9p, ↓z366_10, ↓z366_10p0, ↓z366_10p1, ↓z366_11, ↓z366_12, ↓z366_12p, ↓sg0, ↓sg1, ↓sg2, ↓sg3, ↓sg4, ↓sg5, ↓sg6, ↓sg7, ↓sg8, ↓sg9, ↓sg10, ↓sg11, ↓sg12, ↓sg13, ↓sg14, ↓sg15, ↓sg16, ↓sg17, ↓ss0, ↓ss1, ↓ss2, ↓ss3, ↓ss4, ↓ss5, ↓ss6, ↓ss7, ↓ss8, ↓ss9, ↓ss10, ↓ss11, ↓ss12, ↓ss13, ↓ss14, ↓ss15, ↓ss16, ↓ss17, hlt, ↓a370_g (show i < 912 by omega), ↓a367_s (show i < 912 by omega), hs, nI_1]
    · rw [up1_n ha]; exact i1 a ha
    · rw [up1_s]
      unfold upA
      by_cases e : k = i
      · rw [if_pos (by rw [e]), e]
      · rw [if_neg (by omega)]; exact i2 k (by omega)
    · rw [up1_s, upA_n _ _ (by omega)]; exact i3 k (by omega))
  exact ⟨U, e, i1, i2, i3⟩
theorem cp_bsk {T : Nat → Nat → Int32} {P : Nat → Nat → Nat} {v1 v2 : Value} {j : Nat} (hj : T 366 4 = nI (j + 1)) (hj4 : j < 4) : ∃ U, X 152 153 [.ref 366, v1, v2, .int (nI 0)] [] (H T P) = X 152 153 [.ref 366, v1, v2, .int (nI 912)] [] (H U P) ∧ (∀ a, a ≠ 369 → U a = T a) ∧ (∀ k, k < 912 → U 369 (912 * j + k) = T 368 (k)) ∧ ∀ k, (k < 912 * j ∨ 912 * j + 912 ≤ k) → U 369 k = T 369 k := by
  obtain ⟨U, e, i1, i2, i3⟩ := loop_ex (fun i U => X 152 153 [.ref 366, v1, v2, .int (nI i)] [] (H U P)) (fun i U => (∀ a, a ≠ 369 → U a = T a) ∧ (∀ k, k < i → U 369 (912 * j + k) = T 368 (k)) ∧ ∀ k, (k < 912 * j ∨ 912 * j + i ≤ k) → U 369 k = T 369 k) 912 T ⟨fun _ _ => rfl, fun k hk => absurd hk (Nat.not_lt_zero k), fun _ _ => rfl⟩ (by
    intro i U hi ⟨i1, i2, i3⟩
    refine ⟨up1 U 369 (912 * j + i) (T 368 (i)), ?_, fun a ha => ?_, fun k hk => ?_, fun k hk => ?_⟩
    · have hlt : nI i < 912 := nI_lt hi (by decide)
      have hx : 912 * nI j + nI i = nI (912 * j + i) := by
        rw [show (912 : Int32) = nI 912 from rfl, nI_mul, nI_add]
      have h36 : U 366 4 = nI (j + 1) := (congrFun (i1 366 (by decide)) 4).trans hj
      have hs : U 368 (i) = T 368 (i) := congrFun (i1 368 (by decide)) _
      show X 152 153 [.ref 366, v1, v2, .int (nI i)] [] (H U P) = _
      rw [x152_153]
      simp +decide only [x152_0, x152_1, x152_2, x152_5, x152_6, x152_9, x152_10, x152_11, x152_13, x152_16, x152_18, x152_19, x152_20, x152_21, x152_22, x152_25, x152_26, x152_27, x152_28, x152_29, x152_30, x152_31, x152_34, x152_37, x152_38, x152_41, x152_42, x152_43, x152_46, x152_47, x152_48, x152_49, x152_50, x152_51, x152_54, x152_55, x152_56, x152_57, x152_58, x152_59, x152_60, x152_61, x152_64, x152_65, x152_66, x152_67, x152_68, x152_69, x152_70, x152_71, x152_74, x152_75, x152_76, x152_77, x152_78, x152_79, x152_80, x152_83, x152_84, x152_85, x152_88, x152_89, x152_90, x152_93, x152_94, x152_95, x152_96, x152_97, x152_98, x152_101, x152_102, x152_103, x152_104, x152_105, x152_106, x152_107, x152_108, x152_111, x152_112, x152_113, x152_114, x152_115, x152_116, x152_117, x152_118, x152_121, x152_122, x152_123, x152_124, x152_125, x152_126, x152_127, x152_130, x152_131, x152_134, x152_137, x152_138, x152_141, x152_142, x152_145, x152_146, x152_147, x152_148, x152_151, x152_152, x152_154, x152_157, x152_160, x152_161, x152_164, x152_167, x152_168, x152_171, x152_172, x152_173, x152_174, x152_175, x152_176, x152_177, x152_180, x152_181, x152_182, x152_183, x152_186, x152_189, x152_190, x152_193, aft_some, aft_void, Option.bind_some, Option.toList_some, Option.toList_none, List.cons_append, List.nil_append, if_true, if_false, ↓reduceIte, eq_self, z366_o, ↓z366_0, ↓z366_0p, ↓z366_1, ↓z366_2, ↓z366_3, ↓z366_4, ↓z366_4p, ↓z366_5, ↓z366_6, ↓z366_6p0, ↓z366_6p1, ↓z366_7, ↓z366_8, ↓z366_8p, ↓z366_9, ↓z366_9p, ↓z366_10, ↓z366_10p0, ↓z366_10p1, ↓z366_11, ↓z366_12, ↓z366_12p, ↓sg0, ↓sg1, ↓sg2, ↓sg3, ↓sg4, ↓sg5, ↓sg6, ↓sg7, ↓sg8, ↓sg9, ↓sg10, ↓sg11, ↓sg12, ↓sg13, ↓sg14, ↓sg15, ↓sg16, ↓sg17, ↓ss0, ↓ss1, ↓ss2, ↓ss3, ↓ss4, ↓ss5, ↓ss6, ↓ss7, ↓ss8, ↓ss9, ↓ss10, ↓ss11, ↓ss12, ↓ss13, ↓ss14, ↓ss15, ↓ss16, ↓ss17, hlt, ↓a368_g (show i < 912 by omega), ↓a369_s (show 912 * j + i < 3648 by omega), hs, nI_1, hx, h36, nI_pred]
    · rw [up1_n ha]; exact i1 a ha
    · rw [up1_s]
      unfold upA
      by_cases e : k = i
      · rw [if_pos (by rw [e]), e]
      · rw [if_neg (by omega)]; exact i2 k (by omega)
    · rw [up1_s, upA_n _ _ (by omega)]; exact i3 k (by omega))
  exact ⟨U, e, i1, i2, i3⟩
section RC2
variable {T : Nat → Nat → Int32} {P : Nat → Nat → Nat} {n : Nat} {L : List uT} {u : uT}
/-- a state goes into the history -/
theorem r_records (h4 : T 366 4 = nI n) (hn : n ≤ 4) : ∃ U, X 131 0 [.ref 366, .long 0] [] (H T P) = some (none, H U P) ∧ (∀ a, a ≠ 366 → a ≠ 369 → U a = T a) ∧ (∀ k, k ≠ 4 → U 366 k = T 366 k) ∧ U 366 4 = nI (min (n + 1) 4) ∧ (∀ k, k < 912 → U 369 (912 * min n 3 + k) = T 367 k) ∧ ∀ j, j < min n 3 → ∀ k, k < 912 → U 369 (912 * j + k) = if n = 4 then T 369 (912 * (j + 1) + k) else T 369 (912 * j + k) := by
  have e5 : ∀ k, k ≤ 4 → (k = 4 → False) → (nI k = 4) = False := fun k hk h => by
    rw [show (4 : Int32) = nI 4 from rfl, nI_inj (by omega) (by decide)]; exact eq_false h
  have hmul : ∀ {j i : Nat}, 912 * nI j + nI i = nI (912 * j + i) := fun {j i} => by
    rw [show (912 : Int32) = nI 912 from rfl, nI_mul, nI_add]
  by_cases c : n = 4
  · subst c
    have h4 : T 366 4 = 4 := h4
    obtain ⟨U1, e1, f1, g1, k1⟩ := cp_rec1 (T := T) (P := P)
    have e1 : X 131 10 [.ref 366, .int 0] [] (H T P) = X 131 10 [.ref 366, .int 2736] [] (H U1 P) := e1
    have h41 : U1 366 4 = 4 := by rw [f1 366 (by decide)]; exact h4
    obtain ⟨U2, e2, f2, g2, k2⟩ := cp_rec2 (T := up1 U1 366 4 3) (P := P) (j := 3) (by rw [up1_s]; exact upA_s _ _ _) (by decide)
    have e2 : X 131 51 [.ref 366, .int 0] [] (H (up1 U1 366 4 3) P) = X 131 51 [.ref 366, .int 912] [] (H U2 P) := e2
    have h42 : U2 366 4 = 3 := by rw [f2 366 (by decide), up1_s]; exact upA_s _ _ _
    refine ⟨up1 U2 366 4 4, ?_, fun a ha hb => ?_, fun k hk => ?_, ?_, fun k hk => ?_, fun j hj k hk => ?_⟩
    · simp +decide only [x131_0, x131_1, x131_4, x131_5, x131_8, x131_9, x131_11, x131_14, x131_17, x131_18, x131_21, x131_22, x131_23, x131_26, x131_27, x131_30, x131_31, x131_32, x131_33, x131_36, x131_39, x131_40, x131_41, x131_44, x131_45, x131_46, x131_49, x131_50, x131_52, x131_55, x131_58, x131_59, x131_62, x131_65, x131_66, x131_69, x131_70, x131_71, x131_72, x131_73, x131_76, x131_77, x131_78, x131_79, x131_82, x131_85, x131_86, x131_87, x131_90, x131_91, x131_92, x131_95, aft_some, aft_void, Option.bind_some, Option.toList_some, Option.toList_none, List.cons_append, List.nil_append, if_true, if_false, ↓reduceIte, eq_self, z366_o, ↓z366_0, ↓z366_0p, ↓z366_1, ↓z366_2, ↓z366_3, ↓z366_4, ↓z366_4p, ↓z366_5, ↓z366_6, ↓z366_6p0, ↓z366_6p1, ↓z366_7, ↓z366_8, ↓z366_8p, ↓z366_9, ↓z366_9p, ↓z366_10, ↓z366_10p0, ↓z366_10p1, ↓z366_11, ↓z366_12, ↓z366_12p, ↓sg0, ↓sg1, ↓sg2, ↓sg3, ↓sg4, ↓sg5, ↓sg6, ↓sg7, ↓sg8, ↓sg9, ↓sg10, ↓sg11, ↓sg12, ↓sg13, ↓sg14, ↓sg15, ↓sg16, ↓sg17, ↓ss0, ↓ss1, ↓ss2, ↓ss3, ↓ss4, ↓ss5, ↓ss6, ↓ss7, ↓ss8, ↓ss9, ↓ss10, ↓ss11, ↓ss12, ↓ss13, ↓ss14, ↓ss15, ↓ss16, ↓ss17, h4]
      rw [e1, x131_10]
      simp +decide only [x131_0, x131_1, x131_4, x131_5, x131_8, x131_9, x131_11, x131_14, x131_17, x131_18, x131_21, x131_22, x131_23, x131_26, x131_27, x131_30, x131_31, x131_32, x131_33, x131_36, x131_39, x131_40, x131_41, x131_44, x131_45, x131_46, x131_49, x131_50, x131_52, x131_55, x131_58, x131_59, x131_62, x131_65, x131_66, x131_69, x131_70, x131_71, x131_72, x131_73, x131_76, x131_77, x131_78, x131_79, x131_82, x131_85, x131_86, x131_87, x131_90, x131_91, x131_92, x131_95, aft_some, aft_void, Option.bind_some, Option.toList_some, Option.toList_none, List.cons_append, List.nil_append, if_true, if_false, ↓reduceIte, eq_self, z366_o, ↓z366_0, ↓z366_0p, ↓z366_1, ↓z366_2, ↓z366_3, ↓z366_4, ↓z366_4p, ↓z366_5, ↓z366_6, ↓z366_6p0, ↓z366_6p1, ↓z366_7, ↓z366_8, ↓z366_8p, ↓z366_9, ↓z366_9p, ↓z366_10, ↓z366_10p0, ↓z366_10p1, ↓z366_11, ↓z366_12, ↓z366_12p, ↓sg0, ↓sg1, ↓sg2, ↓sg3, ↓sg4, ↓sg5, ↓sg6, ↓sg7, ↓sg8, ↓sg9, ↓sg10, ↓sg11, ↓sg12, ↓sg13, ↓sg14, ↓sg15, ↓sg16, ↓sg17, ↓ss0, ↓ss1, ↓ss2, ↓ss3, ↓ss4, ↓ss5, ↓ss6, ↓ss7, ↓ss8, ↓ss9, ↓ss10, ↓ss11, ↓ss12, ↓ss13, ↓ss14, ↓ss15, ↓ss16, ↓ss17, h41, Int32.reduceSub]
      rw [e2, x131_51]
      simp +decide only [x131_0, x131_1, x131_4, x131_5, x131_8, x131_9, x131_11, x131_14, x131_17, x131_18, x131_21, x131_22, x131_23, x131_26, x131_27, x131_30, x131_31, x131_32, x131_33, x131_36, x131_39, x131_40, x131_41, x131_44, x131_45, x131_46, x131_49, x131_50, x131_52, x131_55, x131_58, x131_59, x131_62, x131_65, x131_66, x131_69, x131_70, x131_71, x131_72, x131_73, x131_76, x131_77, x131_78, x131_79, x131_82, x131_85, x131_86, x131_87, x131_90, x131_91, x131_92, x131_95, aft_some, aft_void, Option.bind_some, Option.toList_some, Option.toList_none, List.cons_append, List.nil_append, if_true, if_false, ↓reduceIte, eq_self, z366_o, ↓z366_0, ↓z366_0p, ↓z366_1, ↓z366_2, ↓z366_3, ↓z366_4, ↓z366_4p, ↓z366_5, ↓z366_6, ↓z366_6p0, ↓z366_6p1, ↓z366_7, ↓z366_8, ↓z366_8p, ↓z366_9, ↓z366_9p, ↓z366_10, ↓z366_10p0, ↓z366_10p1, ↓z366_11, ↓z366_12, ↓z366_12p, ↓sg0, ↓sg1, ↓sg2, ↓sg3, ↓sg4, ↓sg5, ↓sg6, ↓sg7, ↓sg8, ↓sg9, ↓sg10, ↓sg11, ↓sg12, ↓sg13, ↓sg14, ↓sg15, ↓sg16, ↓sg17, ↓ss0, ↓ss1, ↓ss2, ↓ss3, ↓ss4, ↓ss5, ↓ss6, ↓ss7, ↓ss8, ↓ss9, ↓ss10, ↓ss11, ↓ss12, ↓ss13, ↓ss14, ↓ss15, ↓ss16, ↓ss17, h42, Int32.reduceAdd]
    · rw [up1_n ha, f2 a hb, up1_n ha, f1 a hb]
    · rw [up1_s, upA_n _ _ hk, f2 366 (by decide), up1_s, upA_n _ _ hk, f1 366 (by decide)]
    · rw [up1_s]; exact upA_s _ _ _
    · rw [up1_n (by decide)]
      have := g2 k hk
      rw [up1_n (by decide), f1 367 (by decide)] at this
      exact this
    · have hj3 : j < 3 := hj
      rw [up1_n (by decide), k2 _ (by omega), up1_n (by decide), g1 _ (by omega), if_pos rfl]
      congr 1; omega
  · have hc := e5 n hn c
    obtain ⟨U2, e2, f2, g2, k2⟩ := cp_rec2 (T := T) (P := P) (j := n) h4 (by omega)
    have e2 : X 131 51 [.ref 366, .int 0] [] (H T P) = X 131 51 [.ref 366, .int 912] [] (H U2 P) := e2
    have h42 : U2 366 4 = nI n := by rw [f2 366 (by decide)]; exact h4
    refine ⟨up1 U2 366 4 (nI (n + 1)), ?_, fun a ha hb => ?_, fun k hk => ?_, ?_, fun k hk => ?_, fun j hj k hk => ?_⟩
    · simp +decide only [x131_0, x131_1, x131_4, x131_5, x131_8, x131_9, x131_11, x131_14, x131_17, x131_18, x131_21, x131_22, x131_23, x131_26, x131_27, x131_30, x131_31, x131_32, x131_33, x131_36, x131_39, x131_40, x131_41, x131_44, x131_45, x131_46, x131_49, x131_50, x131_52, x131_55, x131_58, x131_59, x131_62, x131_65, x131_66, x131_69, x131_70, x131_71, x131_72, x131_73, x131_76, x131_77, x131_78, x131_79, x131_82, x131_85, x131_86, x131_87, x131_90, x131_91, x131_92, x131_95, aft_some, aft_void, Option.bind_some, Option.toList_some, Option.toList_none, List.cons_append, List.nil_append, if_true, if_false, ↓reduceIte, eq_self, z366_o, ↓z366_0, ↓z366_0p, ↓z366_1, ↓z366_2, ↓z366_3, ↓z366_4, ↓z366_4p, ↓z366_5, ↓z366_6, ↓z366_6p0, ↓z366_6p1, ↓z366_7, ↓z366_8, ↓z366_8p, ↓z366_9, ↓z366_9p, ↓z366_10, ↓z366_10p0, ↓z366_10p1, ↓z366_11, ↓z366_12, ↓z366_12p, ↓sg0, ↓sg1, ↓sg2, ↓sg3, ↓sg4, ↓sg5, ↓sg6, ↓sg7, ↓sg8, ↓sg9, ↓sg10, ↓sg11, ↓sg12, ↓sg13, ↓sg14, ↓sg15, ↓sg16, ↓sg17, ↓ss0, ↓ss1, ↓ss2, ↓ss3, ↓ss4, ↓ss5, ↓ss6, ↓ss7, ↓ss8, ↓ss9, ↓ss10, ↓ss11, ↓ss12, ↓ss13, ↓ss14, ↓ss15, ↓ss16, ↓ss17, h4, hc]
      rw [e2, x131_51]
      simp +decide only [x131_0, x131_1, x131_4, x131_5, x131_8, x131_9, x131_11, x131_14, x131_17, x131_18, x131_21, x131_22, x131_23, x131_26, x131_27, x131_30, x131_31, x131_32, x131_33, x131_36, x131_39, x131_40, x131_41, x131_44, x131_45, x131_46, x131_49, x131_50, x131_52, x131_55, x131_58, x131_59, x131_62, x131_65, x131_66, x131_69, x131_70, x131_71, x131_72, x131_73, x131_76, x131_77, x131_78, x131_79, x131_82, x131_85, x131_86, x131_87, x131_90, x131_91, x131_92, x131_95, aft_some, aft_void, Option.bind_some, Option.toList_some, Option.toList_none, List.cons_append, List.nil_append, if_true, if_false, ↓reduceIte, eq_self, z366_o, ↓z366_0, ↓z366_0p, ↓z366_1, ↓z366_2, ↓z366_3, ↓z366_4, ↓z366_4p, ↓z366_5, ↓z366_6, ↓z366_6p0, ↓z366_6p1, ↓z366_7, ↓z366_8, ↓z366_8p, ↓z366_9, ↓z366_9p, ↓z366_10, ↓z366_10p0, ↓z366_10p1, ↓z366_11, ↓z366_12, ↓z366_12p, ↓sg0, ↓sg1, ↓sg2, ↓sg3, ↓sg4, ↓sg5, ↓sg6, ↓sg7, ↓sg8, ↓sg9, ↓sg10, ↓sg11, ↓sg12, ↓sg13, ↓sg14, ↓sg15, ↓sg16, ↓sg17, ↓ss0, ↓ss1, ↓ss2, ↓ss3, ↓ss4, ↓ss5, ↓ss6, ↓ss7, ↓ss8, ↓ss9, ↓ss10, ↓ss11, ↓ss12, ↓ss13, ↓ss14, ↓ss15, ↓ss16, ↓ss17, h42, nI_1]
    · rw [up1_n ha, f2 a hb]
    · rw [up1_s, upA_n _ _ hk, f2 366 (by decide)]
    · rw [up1_s, Nat.min_eq_left (by omega)]; exact upA_s _ _ _
    · rw [up1_n (by decide), Nat.min_eq_left (by omega)]; exact g2 k hk
    · rw [up1_n (by decide), if_neg c]; exact k2 _ (by omega)
/-- what holds besides the state in s -/
theorem hR.push (h : hR T L) (hL : ∀ v ∈ L, WFu v) (hu : sU (T 367) u) (hw : WFu u) : ∃ U, X 131 0 [.ref 366, .long 0] [] (H T P) = some (none, H U P) ∧ (∀ a, a ≠ 366 → a ≠ 369 → U a = T a) ∧ (∀ k, k ≠ 4 → U 366 k = T 366 k) ∧ hR U ((u :: L).take 4) := by
  obtain ⟨h1, h2, h3⟩ := h
  obtain ⟨U, e, f1, f2, f4, g1, g2⟩ := r_records (P := P) h1 h2
  refine ⟨U, e, f1, f2, ?_, ?_, ?_⟩
  · rw [f4, List.length_take, List.length_cons, Nat.min_comm]
  · rw [List.length_take]; exact Nat.min_le_left _ _
  · intro g v hg
    have hg4 : g < 4 := by
      have := (List.getElem?_eq_some_iff.mp hg).1
      rw [List.length_take] at this; omega
    have hl : ((u :: L).take 4).length = min (L.length + 1) 4 := by rw [List.length_take, List.length_cons, Nat.min_comm]
    rw [hl]
    rw [List.getElem?_take_of_lt hg4] at hg
    cases g with
    | zero =>
      cases hg
      refine sU.same hu hw (fun k hk => ?_)
      have := g1 k hk
      rw [show min (L.length + 1) 4 - 1 - 0 = min L.length 3 by omega]
      exact this
    | succ g =>
      rw [List.getElem?_cons_succ] at hg
      have hgl := (List.getElem?_eq_some_iff.mp hg).1
      have hv : v ∈ L := List.mem_of_getElem? hg
      refine sU.same (h3 g v hg) (hL v hv) (fun k hk => ?_)
      have := g2 (min (L.length + 1) 4 - 1 - (g + 1)) (by omega) k hk
      show U 369 (912 * (min (L.length + 1) 4 - 1 - (g + 1)) + k) = _
      rw [this]
      by_cases c : L.length = 4
      · rw [if_pos c]
        show _ = T 369 (912 * (L.length - 1 - g) + k)
        congr 2; omega
      · rw [if_neg c]
        show _ = T 369 (912 * (L.length - 1 - g) + k)
        congr 2; omega
end RC2
end
section
/-! ranks: the order as the reference counts it -/
abbrev ltO (t : Nat → Int32) (i j : Nat) : Prop := t i < t j ∨ (t i = t j ∧ i < j)
theorem ltO_i {t : Nat → Int32} {i j : Nat} : ltO t i j ↔ (t i).toInt < (t j).toInt ∨ ((t i).toInt = (t j).toInt ∧ i < j) := by
  unfold ltO
  rw [Int32.lt_iff_toInt_lt, Int32.toInt_inj]
theorem ltO_irr {t : Nat → Int32} {i : Nat} : ¬ ltO t i i := by rw [ltO_i]; omega
theorem ltO_tr {t : Nat → Int32} {i j k : Nat} (h : ltO t i j) (g : ltO t j k) : ltO t i k := by
  rw [ltO_i] at *; omega
theorem ltO_tot {t : Nat → Int32} {i j : Nat} (h : ¬ ltO t i j) (hn : i ≠ j) : ltO t j i := by
  rw [ltO_i] at *; omega
/-- how many of the first n come before p -/
def cO (t : Nat → Int32) (n p : Nat) : Nat := sN (fun i => if t i < t p ∨ (t i = t p ∧ i < p) then 1 else 0) n
theorem rk_c (t : Nat → Int32) (n p : Nat) : rkI t n p = nI (cO t n p) := by
  unfold rkI cO
  rw [← smI_nI]
  refine smI_congr (fun i _ => ?_)
  split <;> rfl
theorem sN_le {g h : Nat → Nat} : ∀ {n : Nat}, (∀ i, i < n → g i ≤ h i) → sN g n ≤ sN h n
  | 0, _ => Nat.le_refl _
  | n + 1, e => by
    simp only [sN]
    have := sN_le (n := n) (fun i hi => e i (by omega))
    have := e n (by omega)
    omega
theorem sN_lt {g h : Nat → Nat} {j : Nat} : ∀ {n : Nat}, (∀ i, i < n → g i ≤ h i) → j < n → g j < h j → sN g n < sN h n
  | 0, _, hj, _ => absurd hj (Nat.not_lt_zero _)
  | n + 1, e, hj, hl => by
    simp only [sN]
    by_cases c : j = n
    · subst c
      have := sN_le (n := j) (fun i hi => e i (by omega))
      omega
    · have := sN_lt (n := n) (fun i hi => e i (by omega)) (by omega) hl
      have := e n (by omega)
      omega
theorem cO_mono {t : Nat → Int32} {n p q : Nat} (h : ltO t p q) : cO t n p ≤ cO t n q := by
  refine sN_le (fun i _ => ?_)
  by_cases c : ltO t i p
  · rw [if_pos c, if_pos (ltO_tr c h)]; exact Nat.le_refl _
  · rw [if_neg c]; omega
theorem cO_lt {t : Nat → Int32} {n p q : Nat} (h : ltO t p q) (hp : p < n) : cO t n p < cO t n q := by
  refine sN_lt (j := p) (fun i _ => ?_) hp ?_
  · by_cases c : ltO t i p
    · rw [if_pos c, if_pos (ltO_tr c h)]; exact Nat.le_refl _
    · rw [if_neg c]; omega
  · rw [if_neg ltO_irr, if_pos h]; omega
theorem cO_le (t : Nat → Int32) (p : Nat) : ∀ n, cO t n p ≤ n
  | 0 => Nat.le_refl _
  | n + 1 => by
    have := cO_le t p n
    unfold cO at this ⊢
    simp only [sN]
    split <;> omega
theorem cO_s (t : Nat → Int32) (n p : Nat) : cO t (n + 1) p = cO t n p + if t n < t p ∨ (t n = t p ∧ n < p) then 1 else 0 := rfl
theorem cO_n {t : Nat → Int32} {j : Nat} : ∀ {n : Nat}, j < n → cO t n j < n
  | 0, h => absurd h (Nat.not_lt_zero _)
  | n + 1, h => by
    rw [cO_s]
    by_cases c : j = n
    · subst c
      have h1 : ¬ (t j < t j ∨ (t j = t j ∧ j < j)) := ltO_irr
      rw [if_neg h1]
      have := cO_le t j j
      omega
    · have := cO_n (t := t) (n := n) (j := j) (by omega)
      split <;> omega
/-- each rank is somebody's -/
theorem cO_ex (t : Nat → Int32) : ∀ n r, r < n → ∃ p, p < n ∧ cO t n p = r
  | 0, r, h => absurd h (Nat.not_lt_zero _)
  | n + 1, r, h => by
    have key : ∀ p, p < n → (cO t n p < cO t n n → cO t (n + 1) p = cO t n p) ∧ (cO t n n ≤ cO t n p → cO t (n + 1) p = cO t n p + 1) := by
      intro p hp
      by_cases c : ltO t n p
      · have h1 := cO_mono (n := n) c
        refine ⟨fun q => by omega, fun _ => ?_⟩
        rw [cO_s, if_pos c]
      · have h1 := cO_lt (n := n) (ltO_tot c (by omega)) hp
        refine ⟨fun _ => ?_, fun q => by omega⟩
        rw [cO_s, if_neg c]; omega
    have hn : cO t (n + 1) n = cO t n n := by
      rw [cO_s, if_neg ltO_irr]; omega
    have hm := cO_le t n n
    by_cases c1 : r < cO t n n
    · obtain ⟨p, hp, e⟩ := cO_ex t n r (by omega)
      exact ⟨p, by omega, by rw [(key p hp).1 (by omega)]; exact e⟩
    · by_cases c2 : r = cO t n n
      · exact ⟨n, by omega, by rw [hn, c2]⟩
      · obtain ⟨p, hp, e⟩ := cO_ex t n (r - 1) (by omega)
        exact ⟨p, by omega, by rw [(key p hp).2 (by omega)]; omega⟩
theorem cO_inj {t : Nat → Int32} {n p q : Nat} (hp : p < n) (hq : q < n) (h : cO t n p = cO t n q) : p = q := by
  apply Classical.byContradiction
  intro hn
  by_cases c : ltO t p q
  · have := cO_lt (n := n) c hp; omega
  · have := cO_lt (n := n) (ltO_tot c hn) hq; omega
/-- the class's next: nobody who can comes before it -/
theorem nxS_min {f : Nat → Prop} {t : Nat → Int32} : ∀ {n j : Nat}, nxS f t n = some j → ∀ i, i < n → f i → ¬ ltO t i j
  | 0, j, h, i, hi, _ => absurd hi (Nat.not_lt_zero _)
  | n + 1, j, h, i, hi, hfi => by
    by_cases hf : f n
    · rw [nxS_s hf] at h
      cases hq : nxS f t n with
      | none =>
        rw [hq] at h
        cases h
        have hnone : ∀ m, nxS f t m = none → ∀ i, i < m → ¬ f i := by
          intro m
          induction m with
          | zero => intro _ i hi; omega
          | succ m ih =>
            intro hm i hi
            by_cases hfm : f m
            · rw [nxS_s hfm] at hm
              cases hq2 : nxS f t m with
              | none => rw [hq2] at hm; cases hm
              | some w => rw [hq2] at hm; simp only at hm; split at hm <;> cases hm
            · rw [nxS_n hfm] at hm
              by_cases e : i = m
              · rw [e]; exact hfm
              · exact ih hm i (by omega)
        by_cases e : i = n
        · subst e; exact ltO_irr
        · exact absurd hfi (hnone n hq i (by omega))
      | some w =>
        rw [hq] at h
        simp only at h
        have ih := nxS_min hq
        have hw := (nxS_ok hq).1
        split at h
        · rename_i hlt
          cases h
          by_cases e : i = n
          · subst e; exact ltO_irr
          · intro c
            have h1 := ih i (by omega) hfi
            exact h1 (ltO_tr c (Or.inl hlt))
        · rename_i hlt
          cases h
          by_cases e : i = n
          · subst e
            intro c
            rcases c with c | c
            · exact hlt c
            · omega
          · exact ih i (by omega) hfi
    · rw [nxS_n hf] at h
      by_cases e : i = n
      · subst e; exact absurd hfi hf
      · exact nxS_min h i (by omega) hfi
theorem nxS_none {f : Nat → Prop} {t : Nat → Int32} : ∀ {n : Nat}, nxS f t n = none → ∀ i, i < n → ¬ f i
  | 0, _, i, hi => absurd hi (Nat.not_lt_zero _)
  | m + 1, hm, i, hi => by
    by_cases hfm : f m
    · rw [nxS_s hfm] at hm
      cases hq2 : nxS f t m with
      | none => rw [hq2] at hm; cases hm
      | some w => rw [hq2] at hm; simp only at hm; split at hm <;> cases hm
    · rw [nxS_n hfm] at hm
      by_cases e : i = m
      · rw [e]; exact hfm
      · exact nxS_none hm i (by omega)
theorem nxS_uni {f : Nat → Prop} {t : Nat → Int32} {n p : Nat} (hp : p < n) (hf : f p) (hm : ∀ i, i < n → f i → ¬ ltO t i p) : nxS f t n = some p := by
  cases hq : nxS f t n with
  | none => exact absurd hf (nxS_none hq p hp)
  | some j =>
    have h1 := nxS_ok hq
    have h2 := nxS_min hq p hp hf
    have h3 := hm j h1.1 h1.2
    congr 1
    apply Classical.byContradiction
    intro hn
    exact h2 (ltO_tot h3 hn)
/-- the order is told by comparisons alone -/
theorem nxS_cmp {f : Nat → Prop} {t u : Nat → Int32} {n : Nat} (h : ∀ i j, i < n → j < n → (ltO t i j ↔ ltO u i j)) : nxS f t n = nxS f u n := by
  cases hq : nxS f u n with
  | none =>
    cases hp : nxS f t n with
    | none => rfl
    | some j => exact absurd (nxS_ok hp).2 (nxS_none hq j (nxS_ok hp).1)
  | some j =>
    have h1 := nxS_ok hq
    exact nxS_uni h1.1 h1.2 (fun i hi hf c => nxS_min hq i hi hf ((h i j hi h1.1).mp c))
theorem rk_cmp {t u : Nat → Int32} {n p : Nat} (hp : p < n) (h : ∀ i j, i < n → j < n → (ltO t i j ↔ ltO u i j)) : rkI t n p = rkI u n p := by
  refine smI_congr (fun i hi => ?_)
  by_cases c : ltO t i p
  · rw [if_pos c, if_pos ((h i p hi hp).mp c)]
  · rw [if_neg c, if_neg (fun q => c ((h i p hi hp).mpr q))]
theorem fst_congr {p q : Nat → Prop} : ∀ {n i : Nat}, (∀ j, i ≤ j → j < i + n → (p j ↔ q j)) → fstN p i n = fstN q i n
  | 0, _, _ => rfl
  | n + 1, i, h => by
    show @ite _ (p i) (Classical.propDecidable _) _ _ = @ite _ (q i) (Classical.propDecidable _) _ _
    rw [fst_congr (n := n) (i := i + 1) (fun j h1 h2 => h j (by omega) (by omega))]
    by_cases c : p i
    · rw [if_pos c, if_pos ((h i (Nat.le_refl _) (by omega)).mp c)]
    · rw [if_neg c, if_neg (fun z => c ((h i (Nat.le_refl _) (by omega)).mpr z))]
theorem fst_uni {p : Nat → Prop} {j : Nat} : ∀ {n i : Nat}, i ≤ j → j < i + n → p j → (∀ k, i ≤ k → k < i + n → p k → k = j) → fstN p i n = some j
  | 0, i, h1, h2, _, _ => by omega
  | n + 1, i, h1, h2, hp, hu => by
    show @ite _ (p i) (Classical.propDecidable _) _ _ = _
    by_cases c : p i
    · rw [if_pos c, hu i (Nat.le_refl _) (by omega) c]
    · rw [if_neg c]
      have : i ≠ j := fun e => c (e ▸ hp)
      exact fst_uni (n := n) (i := i + 1) (by omega) (by omega) hp (fun k a b => hu k (by omega) (by omega))
theorem fst_none {p : Nat → Prop} : ∀ {n i : Nat}, (∀ k, i ≤ k → k < i + n → ¬ p k) → fstN p i n = none
  | 0, _, _ => rfl
  | n + 1, i, h => by
    show @ite _ (p i) (Classical.propDecidable _) _ _ = _
    rw [if_neg (h i (Nat.le_refl _) (by omega))]
    exact fst_none (n := n) (i := i + 1) (fun k a b => h k (by omega) (by omega))
theorem fst_some {p : Nat → Prop} {j : Nat} : ∀ {n i : Nat}, fstN p i n = some j → i ≤ j ∧ j < i + n ∧ p j
  | 0, i, h => by cases h
  | n + 1, i, h => by
    have h : @ite _ (p i) (Classical.propDecidable _) (some i) (fstN p (i + 1) n) = some j := h
    by_cases c : p i
    · rw [if_pos c] at h; cases h; exact ⟨Nat.le_refl _, by omega, c⟩
    · rw [if_neg c] at h
      have := fst_some h
      exact ⟨by omega, by omega, this.2.2⟩
/-- the last of the first n places with a property -/
noncomputable def lsF (p : Nat → Prop) : Nat → Option Nat
  | 0 => none
  | n + 1 => @ite _ (p n) (Classical.propDecidable _) (some n) (lsF p n)
theorem ls_fst {p : Nat → Prop} : ∀ {n : Nat}, (∀ i j, i < n → j < n → p i → p j → i = j) → lsF p n = fstN p 0 n
  | 0, _ => rfl
  | n + 1, h => by
    show @ite _ (p n) (Classical.propDecidable _) _ _ = _
    by_cases c : p n
    · rw [if_pos c]
      exact (fst_uni (Nat.zero_le _) (by omega) c (fun k _ hk hp => h k n (by omega) (by omega) hp c)).symm
    · rw [if_neg c, ls_fst (n := n) (fun i j hi hj => h i j (by omega) (by omega))]
      cases hq : fstN p 0 n with
      | none =>
        refine (fst_none (fun k _ hk hp => ?_)).symm
        have hk2 : k < n := by
          by_cases e : k = n
          · exact absurd (e ▸ hp) c
          · omega
        have : fstN p 0 n = some k := fst_uni (Nat.zero_le _) (by omega) hp (fun k' _ hk' hp' => h k' k (by omega) (by omega) hp' hp)
        rw [hq] at this; cases this
      | some j =>
        have h1 := fst_some hq
        exact (fst_uni (Nat.zero_le _) (by omega) h1.2.2 (fun k _ hk hp => h k j (by omega) (by omega) hp h1.2.2)).symm
end
section
/-! the reference's order, and who is next -/
theorem sH.n {f : Nat → Int32} {N : Nat → Nat} {V : Nat → Nat → Int32} {n : Nat} (h : sH f N V n) : f 16 = nI n := h.2.2.2.2.1.2.1
theorem sH.d {f : Nat → Int32} {N : Nat → Nat} {V : Nat → Nat → Int32} {n : Nat} (h : sH f N V n) : f 4 = nI (N 0) := h.2.1.1
/-- what the place of a number answers -/
noncomputable def plI (x : Int32) (K : List kT) : Int32 := match wnK x K with
  | some i => nI i
  | none => -5
/-- the reference's key of a basket -/
def kyK (N : Nat → Nat) (V : Nat → Nat → Int32) (b : kT) : Int32 := if V 1 0 = 0 then 0 else if V 1 0 = 1 then nvI 99999 (V 2 (V 4 (b 0 1).toNatClampNeg).toNatClampNeg) (N 0) else omK b
theorem nv_or (v : Int32) (D : Nat) : (∀ z, nvI z v D = z) ∨ ∃ a, a ≤ 7 ∧ ∀ z, nvI z v D = nI (D + a) := by
  unfold nvI
  by_cases h1 : vsI v (D + 1) = 0
  · simp only [h1, if_true]
    by_cases h2 : vsI v (D + 2) = 0
    · simp only [h2, if_true]
      by_cases h3 : vsI v (D + 3) = 0
      · simp only [h3, if_true]
        by_cases h4 : vsI v (D + 4) = 0
        · simp only [h4, if_true]
          by_cases h5 : vsI v (D + 5) = 0
          · simp only [h5, if_true]
            by_cases h6 : vsI v (D + 6) = 0
            · simp only [h6, if_true]
              by_cases h7 : vsI v (D + 7) = 0
              · simp only [h7, if_true]; exact Or.inl (fun _ => trivial)
              · simp only [h7, if_false]; exact Or.inr ⟨7, by decide, fun _ => rfl⟩
            · simp only [h6, if_false]; exact Or.inr ⟨6, by decide, fun _ => rfl⟩
          · simp only [h5, if_false]; exact Or.inr ⟨5, by decide, fun _ => rfl⟩
        · simp only [h4, if_false]; exact Or.inr ⟨4, by decide, fun _ => rfl⟩
      · simp only [h3, if_false]; exact Or.inr ⟨3, by decide, fun _ => rfl⟩
    · simp only [h2, if_false]; exact Or.inr ⟨2, by decide, fun _ => rfl⟩
  · simp only [h1, if_false]; exact Or.inr ⟨1, by decide, fun _ => rfl⟩
theorem nv_toInt {v : Int32} {D : Nat} (hD : D ≤ 10100) : ((nvI 99999 v D).toInt = 99999 ∧ (nvI 1000000 v D).toInt = 1000000) ∨ ∃ a : Nat, a ≤ 10107 ∧ (nvI 99999 v D).toInt = a ∧ (nvI 1000000 v D).toInt = a := by
  rcases nv_or v D with h | ⟨a, ha, h⟩
  · rw [h, h]; exact Or.inl ⟨by decide, by decide⟩
  · rw [h, h]; exact Or.inr ⟨D + a, by omega, nI_toInt (by omega), nI_toInt (by omega)⟩
section NX
variable {T : Nat → Nat → Int32} {P : Nat → Nat → Nat} {f : Nat → Int32} {N : Nat → Nat} {V : Nat → Nat → Int32} {K : List kT} {B : List bT} {R : Nat → Nat → Int32} {x : Int32} {i : Nat}
/-- the two orders are one -/
theorem ky_tn (hw : WF N V K B) {i j : Nat} (hi : i < K.length) (hj : j < K.length) : ltO (fun i => kyK N V (gK K i)) i j ↔ ltO (fun i => tnK N V (gK K i)) i j := by
  rw [ltO_i, ltO_i]
  obtain ⟨d, hd, ed⟩ := hw.2.2.1.1
  have hD := hw.1.1
  simp only [kyK, tnK, ed]
  match d, hd with
  | 0, _ =>
    have e1 : ¬ nI 0 = 1 := by decide
    have e2 : ¬ nI 0 = 2 := by decide
    simp +decide only [e1, e2, if_false, show nI 0 = 0 from rfl, if_true, show ((0 : Int32).toInt < (0 : Int32).toInt) = False by decide, false_or, true_and]
    by_cases hij : i < j
    · obtain ⟨a, b, h1, h2, h3, h4⟩ := hw.2.2.2.2.1 i j _ _ hij (gK_at hi) (gK_at hj)
      have hN2 := hw.1.2.2.1
      rw [h3, h4, nI_toInt (by omega), nI_toInt (by omega)]
      omega
    · by_cases hji : j < i
      · obtain ⟨a, b, h1, h2, h3, h4⟩ := hw.2.2.2.2.1 j i _ _ hji (gK_at hj) (gK_at hi)
        have hN2 := hw.1.2.2.1
        rw [h3, h4, nI_toInt (by omega), nI_toInt (by omega)]
        omega
      · have : i = j := by omega
        subst this
        omega
  | 1, _ =>
    have e1 : ¬ nI 1 = 0 := by decide
    simp +decide only [e1, if_false, show nI 1 = 1 from rfl, if_true]
    have h1 := nv_toInt (v := V 2 (V 4 (gK K i 0 1).toNatClampNeg).toNatClampNeg) hD
    have h2 := nv_toInt (v := V 2 (V 4 (gK K j 0 1).toNatClampNeg).toNatClampNeg) hD
    rcases h1 with ⟨a1, a2⟩ | ⟨a, ha, a1, a2⟩ <;> rcases h2 with ⟨b1, b2⟩ | ⟨b, hb, b1, b2⟩ <;> rw [a1, a2, b1, b2] <;> omega
  | 2, _ =>
    have e1 : ¬ nI 2 = 0 := by decide
    have e2 : ¬ nI 2 = 1 := by decide
    simp +decide only [e1, e2, if_false, show nI 2 = 2 from rfl, if_true]
theorem rd_E {b : kT} (h : ∀ k, k < 4 → ∃ x y z, x ≤ 9 ∧ y + z ≤ x ∧ b 1 k = nI x ∧ b 2 k = nI y ∧ b 3 k = nI z) : rdE b = rdK b := by
  have key : ∀ k, k < 4 → (b 2 k = b 1 k ↔ ¬ b 2 k < b 1 k) := by
    intro k hk
    obtain ⟨x, y, z, h1, h2, e1, e2, -⟩ := h k hk
    rw [e1, e2, nI_inj (by omega) (by omega), nI_ltp (by omega) (by omega)]
    omega
  unfold rdE rdK
  by_cases c0 : b 2 0 < b 1 0
  · rw [if_pos c0, if_neg (fun q => (key 0 (by decide)).mp q c0)]
  rw [if_neg c0, if_pos ((key 0 (by decide)).mpr c0)]
  by_cases c1 : b 2 1 < b 1 1
  · rw [if_pos c1, if_neg (fun q => (key 1 (by decide)).mp q c1)]
  rw [if_neg c1, if_pos ((key 1 (by decide)).mpr c1)]
  by_cases c2 : b 2 2 < b 1 2
  · rw [if_pos c2, if_neg (fun q => (key 2 (by decide)).mp q c2)]
  rw [if_neg c2, if_pos ((key 2 (by decide)).mpr c2)]
  by_cases c3 : b 2 3 < b 1 3
  · rw [if_pos c3, if_neg (fun q => (key 3 (by decide)).mp q c3)]
  rw [if_neg c3, if_pos ((key 3 (by decide)).mpr c3)]
theorem WF.rdE (hw : WF N V K B) (hi : i < K.length) : rdE (gK K i) = rdK (gK K i) := rd_E (hw.2.2.2.1 i _ (gK_at hi)).2.2.2.2
theorem WF.wn (hw : WF N V K B) : lsF (fun i => gK K i 0 0 = x) K.length = wnK x K := by
  refine ls_fst (fun i j hi hj h1 h2 => ?_)
  have hN2 := hw.1.2.2.1
  apply Classical.byContradiction
  intro hn
  rcases Nat.lt_or_gt_of_ne hn with hij | hij
  · obtain ⟨a, b, g1, g2, g3, g4⟩ := hw.2.2.2.2.1 i j _ _ hij (gK_at hi) (gK_at hj)
    have : nI a = nI b := by rw [← g3, ← g4, h1, h2]
    rw [nI_inj (by omega) (by omega)] at this
    omega
  · obtain ⟨a, b, g1, g2, g3, g4⟩ := hw.2.2.2.2.1 j i _ _ hij (gK_at hj) (gK_at hi)
    have : nI a = nI b := by rw [← g3, ← g4, h1, h2]
    rw [nI_inj (by omega) (by omega)] at this
    omega
theorem r_placeOf (h : sR f N V K B R) (hw : WF N V K B) : X 130 0 [.ref 366, .int x, .long 0, .long 0] [] (H (upA T 367 f) P) = some (some (.int (plI x K)), H (upA T 367 f) P) := by
  have h8 := hw.1.2.2.2.1
  have h16 := h.1.n
  have hstep : ∀ i, i < K.length → X 130 5 [.ref 366, .int x, .int (match lsF (fun i => gK K i 0 0 = x) i with
      | some j => nI j
      | none => -5), .int (nI i)] [] (H (upA T 367 f) P) = X 130 5 [.ref 366, .int x, .int (match lsF (fun i => gK K i 0 0 = x) (i + 1) with
      | some j => nI j
      | none => -5), .int (nI (i + 1))] [] (H (upA T 367 f) P) := by
    intro i hi
    have e := r_of (T := T) (P := P) (f := f) (i := i) (w := 0) (y := 0) rfl (by omega) (by decide)
    rw [(h.2.2.2.1 i hi).1.1] at e
    have hlt : nI i < nI K.length := nI_lt hi (by omega)
    rw [x130_5]
    by_cases c : gK K i 0 0 = x
    · have hl : lsF (fun i => gK K i 0 0 = x) (i + 1) = some i := if_pos c
      rw [hl]
      simp +decide only [x130_0, x130_2, x130_3, x130_4, x130_6, x130_7, x130_10, x130_12, x130_13, x130_16, x130_17, x130_18, x130_19, x130_22, x130_23, x130_26, x130_27, x130_30, x130_31, x130_32, x130_35, x130_38, x130_39, aft_some, aft_void, Option.bind_some, Option.toList_some, Option.toList_none, List.cons_append, List.nil_append, if_true, if_false, ↓reduceIte, eq_self, z366_o, ↓z366_0, ↓z366_0p, ↓z366_1, ↓z366_2, ↓z366_3, ↓z366_4, ↓z366_4p, ↓z366_5, ↓z366_6, ↓z366_6p0, ↓z366_6p1, ↓z366_7, ↓z366_8, ↓z366_8p, ↓z366_9, ↓z366_9p, ↓z366_10, ↓z366_10p0, ↓z366_10p1, ↓z366_11, ↓z366_12, ↓z366_12p, ↓sg0, ↓sg1, ↓sg2, ↓sg3, ↓sg4, ↓sg5, ↓sg6, ↓sg7, ↓sg8, ↓sg9, ↓sg10, ↓sg11, ↓sg12, ↓sg13, ↓sg14, ↓sg15, ↓sg16, ↓sg17, ↓ss0, ↓ss1, ↓ss2, ↓ss3, ↓ss4, ↓ss5, ↓ss6, ↓ss7, ↓ss8, ↓ss9, ↓ss10, ↓ss11, ↓ss12, ↓ss13, ↓ss14, ↓ss15, ↓ss16, ↓ss17, h16, hlt, ↓aft_of (e), c, nI_1]
    · have hl : lsF (fun i => gK K i 0 0 = x) (i + 1) = lsF (fun i => gK K i 0 0 = x) i := if_neg c
      rw [hl]
      simp +decide only [x130_0, x130_2, x130_3, x130_4, x130_6, x130_7, x130_10, x130_12, x130_13, x130_16, x130_17, x130_18, x130_19, x130_22, x130_23, x130_26, x130_27, x130_30, x130_31, x130_32, x130_35, x130_38, x130_39, aft_some, aft_void, Option.bind_some, Option.toList_some, Option.toList_none, List.cons_append, List.nil_append, if_true, if_false, ↓reduceIte, eq_self, z366_o, ↓z366_0, ↓z366_0p, ↓z366_1, ↓z366_2, ↓z366_3, ↓z366_4, ↓z366_4p, ↓z366_5, ↓z366_6, ↓z366_6p0, ↓z366_6p1, ↓z366_7, ↓z366_8, ↓z366_8p, ↓z366_9, ↓z366_9p, ↓z366_10, ↓z366_10p0, ↓z366_10p1, ↓z366_11, ↓z366_12, ↓z366_12p, ↓sg0, ↓sg1, ↓sg2, ↓sg3, ↓sg4, ↓sg5, ↓sg6, ↓sg7, ↓sg8, ↓sg9, ↓sg10, ↓sg11, ↓sg12, ↓sg13, ↓sg14, ↓sg15, ↓sg16, ↓sg17, ↓ss0, ↓ss1, ↓ss2, ↓ss3, ↓ss4, ↓ss5, ↓ss6, ↓ss7, ↓ss8, ↓ss9, ↓ss10, ↓ss11, ↓ss12, ↓ss13, ↓ss14, ↓ss15, ↓ss16, ↓ss17, h16, hlt, ↓aft_of (e), c, nI_1]
  simp +decide only [x130_0, x130_2, x130_3, x130_4, x130_6, x130_7, x130_10, x130_12, x130_13, x130_16, x130_17, x130_18, x130_19, x130_22, x130_23, x130_26, x130_27, x130_30, x130_31, x130_32, x130_35, x130_38, x130_39, aft_some, aft_void, Option.bind_some, Option.toList_some, Option.toList_none, List.cons_append, List.nil_append, if_true, if_false, ↓reduceIte, eq_self]
  rw [show X 130 5 [.ref 366, .int x, .int (-5), .int 0] [] (H (upA T 367 f) P) = _ from loop_up (fun i => X 130 5 [.ref 366, .int x, .int (match lsF (fun i => gK K i 0 0 = x) i with
      | some j => nI j
      | none => -5), .int (nI i)] [] (H (upA T 367 f) P)) K.length hstep, x130_5, hw.wn]
  simp +decide only [x130_0, x130_2, x130_3, x130_4, x130_6, x130_7, x130_10, x130_12, x130_13, x130_16, x130_17, x130_18, x130_19, x130_22, x130_23, x130_26, x130_27, x130_30, x130_31, x130_32, x130_35, x130_38, x130_39, aft_some, aft_void, Option.bind_some, Option.toList_some, Option.toList_none, List.cons_append, List.nil_append, if_true, if_false, ↓reduceIte, eq_self, z366_o, ↓z366_0, ↓z366_0p, ↓z366_1, ↓z366_2, ↓z366_3, ↓z366_4, ↓z366_4p, ↓z366_5, ↓z366_6, ↓z366_6p0, ↓z366_6p1, ↓z366_7, ↓z366_8, ↓z366_8p, ↓z366_9, ↓z366_9p, ↓z366_10, ↓z366_10p0, ↓z366_10p1, ↓z366_11, ↓z366_12, ↓z366_12p, ↓sg0, ↓sg1, ↓sg2, ↓sg3, ↓sg4, ↓sg5, ↓sg6, ↓sg7, ↓sg8, ↓sg9, ↓sg10, ↓sg11, ↓sg12, ↓sg13, ↓sg14, ↓sg15, ↓sg16, ↓sg17, ↓ss0, ↓ss1, ↓ss2, ↓ss3, ↓ss4, ↓ss5, ↓ss6, ↓ss7, ↓ss8, ↓ss9, ↓ss10, ↓ss11, ↓ss12, ↓ss13, ↓ss14, ↓ss15, ↓ss16, ↓ss17, h16, nI_nlt (Nat.le_refl K.length) (show K.length < 2 ^ 31 by omega)]
  rfl
theorem r_readyMany (h : sR f N V K B R) (hw : WF N V K B) : X 140 0 [.ref 366, .long 0, .long 0] [] (H (upA T 367 f) P) = some (some (.int (smI (fun i => rdK (gK K i)) K.length)), H (upA T 367 f) P) := by
  have h8 := hw.1.2.2.2.1
  have h16 := h.1.n
  have hstep : ∀ i, i < K.length → X 140 4 [.ref 366, .int (smI (fun i => rdK (gK K i)) i), .int (nI i)] [] (H (upA T 367 f) P) = X 140 4 [.ref 366, .int (smI (fun i => rdK (gK K i)) (i + 1)), .int (nI (i + 1))] [] (H (upA T 367 f) P) := by
    intro i hi
    have e := r_isReady (T := T) (P := P) (h.2.2.2.1 i hi) (show i < 8 by omega)
    rw [hw.rdE hi] at e
    have hlt : nI i < nI K.length := nI_lt hi (by omega)
    have h01 : rdK (gK K i) = 0 ∨ rdK (gK K i) = 1 := by
      unfold rdK
      repeat' split
      all_goals simp
    rw [x140_4]
    rcases h01 with hx | hx
    · rw [hx] at e
      simp +decide only [x140_0, x140_1, x140_2, x140_3, x140_5, x140_6, x140_9, x140_11, x140_12, x140_15, x140_16, x140_17, x140_18, x140_21, x140_24, x140_25, x140_28, x140_29, x140_30, x140_31, x140_34, x140_37, x140_38, aft_some, aft_void, Option.bind_some, Option.toList_some, Option.toList_none, List.cons_append, List.nil_append, if_true, if_false, ↓reduceIte, eq_self, z366_o, ↓z366_0, ↓z366_0p, ↓z366_1, ↓z366_2, ↓z366_3, ↓z366_4, ↓z366_4p, ↓z366_5, ↓z366_6, ↓z366_6p0, ↓z366_6p1, ↓z366_7, ↓z366_8, ↓z366_8p, ↓z366_9, ↓z366_9p, ↓z366_10, ↓z366_10p0, ↓z366_10p1, ↓z366_11, ↓z366_12, ↓z366_12p, ↓sg0, ↓sg1, ↓sg2, ↓sg3, ↓sg4, ↓sg5, ↓sg6, ↓sg7, ↓sg8, ↓sg9, ↓sg10, ↓sg11, ↓sg12, ↓sg13, ↓sg14, ↓sg15, ↓sg16, ↓sg17, ↓ss0, ↓ss1, ↓ss2, ↓ss3, ↓ss4, ↓ss5, ↓ss6, ↓ss7, ↓ss8, ↓ss9, ↓ss10, ↓ss11, ↓ss12, ↓ss13, ↓ss14, ↓ss15, ↓ss16, ↓ss17, h16, hlt, ↓aft_of (e), nI_1, smI, hx]
    · rw [hx] at e
      simp +decide only [x140_0, x140_1, x140_2, x140_3, x140_5, x140_6, x140_9, x140_11, x140_12, x140_15, x140_16, x140_17, x140_18, x140_21, x140_24, x140_25, x140_28, x140_29, x140_30, x140_31, x140_34, x140_37, x140_38, aft_some, aft_void, Option.bind_some, Option.toList_some, Option.toList_none, List.cons_append, List.nil_append, if_true, if_false, ↓reduceIte, eq_self, z366_o, ↓z366_0, ↓z366_0p, ↓z366_1, ↓z366_2, ↓z366_3, ↓z366_4, ↓z366_4p, ↓z366_5, ↓z366_6, ↓z366_6p0, ↓z366_6p1, ↓z366_7, ↓z366_8, ↓z366_8p, ↓z366_9, ↓z366_9p, ↓z366_10, ↓z366_10p0, ↓z366_10p1, ↓z366_11, ↓z366_12, ↓z366_12p, ↓sg0, ↓sg1, ↓sg2, ↓sg3, ↓sg4, ↓sg5, ↓sg6, ↓sg7, ↓sg8, ↓sg9, ↓sg10, ↓sg11, ↓sg12, ↓sg13, ↓sg14, ↓sg15, ↓sg16, ↓sg17, ↓ss0, ↓ss1, ↓ss2, ↓ss3, ↓ss4, ↓ss5, ↓ss6, ↓ss7, ↓ss8, ↓ss9, ↓ss10, ↓ss11, ↓ss12, ↓ss13, ↓ss14, ↓ss15, ↓ss16, ↓ss17, h16, hlt, ↓aft_of (e), nI_1, smI, hx]
  simp +decide only [x140_0, x140_1, x140_2, x140_3, x140_5, x140_6, x140_9, x140_11, x140_12, x140_15, x140_16, x140_17, x140_18, x140_21, x140_24, x140_25, x140_28, x140_29, x140_30, x140_31, x140_34, x140_37, x140_38, aft_some, aft_void, Option.bind_some, Option.toList_some, Option.toList_none, List.cons_append, List.nil_append, if_true, if_false, ↓reduceIte, eq_self]
  rw [show X 140 4 [.ref 366, .int 0, .int 0] [] (H (upA T 367 f) P) = _ from loop_up (fun i => X 140 4 [.ref 366, .int (smI (fun i => rdK (gK K i)) i), .int (nI i)] [] (H (upA T 367 f) P)) K.length hstep, x140_4]
  simp +decide only [x140_0, x140_1, x140_2, x140_3, x140_5, x140_6, x140_9, x140_11, x140_12, x140_15, x140_16, x140_17, x140_18, x140_21, x140_24, x140_25, x140_28, x140_29, x140_30, x140_31, x140_34, x140_37, x140_38, aft_some, aft_void, Option.bind_some, Option.toList_some, Option.toList_none, List.cons_append, List.nil_append, if_true, if_false, ↓reduceIte, eq_self, z366_o, ↓z366_0, ↓z366_0p, ↓z366_1, ↓z366_2, ↓z366_3, ↓z366_4, ↓z366_4p, ↓z366_5, ↓z366_6, ↓z366_6p0, ↓z366_6p1, ↓z366_7, ↓z366_8, ↓z366_8p, ↓z366_9, ↓z366_9p, ↓z366_10, ↓z366_10p0, ↓z366_10p1, ↓z366_11, ↓z366_12, ↓z366_12p, ↓sg0, ↓sg1, ↓sg2, ↓sg3, ↓sg4, ↓sg5, ↓sg6, ↓sg7, ↓sg8, ↓sg9, ↓sg10, ↓sg11, ↓sg12, ↓sg13, ↓sg14, ↓sg15, ↓sg16, ↓sg17, ↓ss0, ↓ss1, ↓ss2, ↓ss3, ↓ss4, ↓ss5, ↓ss6, ↓ss7, ↓ss8, ↓ss9, ↓ss10, ↓ss11, ↓ss12, ↓ss13, ↓ss14, ↓ss15, ↓ss16, ↓ss17, h16, nI_nlt (Nat.le_refl K.length) (show K.length < 2 ^ 31 by omega)]
theorem r_keyOf (h : sR f N V K B R) (hw : WF N V K B) (hi : i < K.length) : X 158 0 [.ref 366, .int (nI i)] [] (H (upA T 367 f) P) = some (some (.int (kyK N V (gK K i))), H (upA T 367 f) P) := by
  have h8 := hw.1.2.2.2.1
  have hN1 := hw.1.2.1
  have hb := h.2.2.2.1 i hi
  have e0 : f 0 = V 1 0 := h.1.1 0 (by decide)
  obtain ⟨⟨c, hc, ec⟩, -⟩ := hw.2.2.2.1 i _ (gK_at hi)
  obtain ⟨d, hd, ed⟩ := hw.2.1 c hc
  have e1 := r_of (T := T) (P := P) (f := f) (i := i) (w := 1) (y := 1) rfl (by omega) (by decide)
  rw [hb.1.2.1, ec] at e1
  have e2 := r_ofCust (T := T) (P := P) (f := f) (i := c) (w := 0) (y := 0) rfl (by omega) (by decide)
  rw [(h.2.1 c (by omega)).1 hc, ed] at e2
  have e3 := r_nextVisit (T := T) (P := P) h.1.d hw.1.1 hd
  rw [h.1.2.2.2.2.2.1 d hd] at e3
  have e4 := r_minutesLeft (T := T) (P := P) hb (by omega)
  unfold kyK
  rw [ec, nI_clamp (by omega), ed, nI_clamp (by omega)]
  by_cases o0 : V 1 0 = 0
  · simp +decide only [x158_0, x158_1, x158_4, x158_5, x158_6, x158_9, x158_10, x158_13, x158_14, x158_17, x158_18, x158_19, x158_20, x158_23, x158_24, x158_25, x158_26, x158_27, x158_28, x158_31, x158_32, x158_35, x158_38, x158_41, x158_42, x158_43, x158_46, aft_some, aft_void, Option.bind_some, Option.toList_some, Option.toList_none, List.cons_append, List.nil_append, if_true, if_false, ↓reduceIte, eq_self, z366_o, ↓z366_0, ↓z366_0p, ↓z366_1, ↓z366_2, ↓z366_3, ↓z366_4, ↓z366_4p, ↓z366_5, ↓z366_6, ↓z366_6p0, ↓z366_6p1, ↓z366_7, ↓z366_8, ↓z366_8p, ↓z366_9, ↓z366_9p, ↓z366_10, ↓z366_10p0, ↓z366_10p1, ↓z366_11, ↓z366_12, ↓z366_12p, ↓sg0, ↓sg1, ↓sg2, ↓sg3, ↓sg4, ↓sg5, ↓sg6, ↓sg7, ↓sg8, ↓sg9, ↓sg10, ↓sg11, ↓sg12, ↓sg13, ↓sg14, ↓sg15, ↓sg16, ↓sg17, ↓ss0, ↓ss1, ↓ss2, ↓ss3, ↓ss4, ↓ss5, ↓ss6, ↓ss7, ↓ss8, ↓ss9, ↓ss10, ↓ss11, ↓ss12, ↓ss13, ↓ss14, ↓ss15, ↓ss16, ↓ss17, e0, o0]
  · by_cases o1 : V 1 0 = 1
    · simp +decide only [x158_0, x158_1, x158_4, x158_5, x158_6, x158_9, x158_10, x158_13, x158_14, x158_17, x158_18, x158_19, x158_20, x158_23, x158_24, x158_25, x158_26, x158_27, x158_28, x158_31, x158_32, x158_35, x158_38, x158_41, x158_42, x158_43, x158_46, aft_some, aft_void, Option.bind_some, Option.toList_some, Option.toList_none, List.cons_append, List.nil_append, if_true, if_false, ↓reduceIte, eq_self, z366_o, ↓z366_0, ↓z366_0p, ↓z366_1, ↓z366_2, ↓z366_3, ↓z366_4, ↓z366_4p, ↓z366_5, ↓z366_6, ↓z366_6p0, ↓z366_6p1, ↓z366_7, ↓z366_8, ↓z366_8p, ↓z366_9, ↓z366_9p, ↓z366_10, ↓z366_10p0, ↓z366_10p1, ↓z366_11, ↓z366_12, ↓z366_12p, ↓sg0, ↓sg1, ↓sg2, ↓sg3, ↓sg4, ↓sg5, ↓sg6, ↓sg7, ↓sg8, ↓sg9, ↓sg10, ↓sg11, ↓sg12, ↓sg13, ↓sg14, ↓sg15, ↓sg16, ↓sg17, ↓ss0, ↓ss1, ↓ss2, ↓ss3, ↓ss4, ↓ss5, ↓ss6, ↓ss7, ↓ss8, ↓ss9, ↓ss10, ↓ss11, ↓ss12, ↓ss13, ↓ss14, ↓ss15, ↓ss16, ↓ss17, e0, o0, o1, ↓aft_of (e1), ↓aft_of (e2), ↓aft_of (e3)]
    · simp +decide only [x158_0, x158_1, x158_4, x158_5, x158_6, x158_9, x158_10, x158_13, x158_14, x158_17, x158_18, x158_19, x158_20, x158_23, x158_24, x158_25, x158_26, x158_27, x158_28, x158_31, x158_32, x158_35, x158_38, x158_41, x158_42, x158_43, x158_46, aft_some, aft_void, Option.bind_some, Option.toList_some, Option.toList_none, List.cons_append, List.nil_append, if_true, if_false, ↓reduceIte, eq_self, z366_o, ↓z366_0, ↓z366_0p, ↓z366_1, ↓z366_2, ↓z366_3, ↓z366_4, ↓z366_4p, ↓z366_5, ↓z366_6, ↓z366_6p0, ↓z366_6p1, ↓z366_7, ↓z366_8, ↓z366_8p, ↓z366_9, ↓z366_9p, ↓z366_10, ↓z366_10p0, ↓z366_10p1, ↓z366_11, ↓z366_12, ↓z366_12p, ↓sg0, ↓sg1, ↓sg2, ↓sg3, ↓sg4, ↓sg5, ↓sg6, ↓sg7, ↓sg8, ↓sg9, ↓sg10, ↓sg11, ↓sg12, ↓sg13, ↓sg14, ↓sg15, ↓sg16, ↓sg17, ↓ss0, ↓ss1, ↓ss2, ↓ss3, ↓ss4, ↓ss5, ↓ss6, ↓ss7, ↓ss8, ↓ss9, ↓ss10, ↓ss11, ↓ss12, ↓ss13, ↓ss14, ↓ss15, ↓ss16, ↓ss17, e0, o0, o1, ↓aft_of (e4)]
theorem r_ranked (h : sR f N V K B R) (hw : WF N V K B) : X 159 0 [.ref 366, .int x, .long 0, .long 0, .long 0] [] (H (upA T 367 f) P) = some (some (.int (match fstN (fun i => rkI (fun i => kyK N V (gK K i)) K.length i = x) 0 K.length with
    | some i => nI i
    | none => -5)), H (upA T 367 f) P) := by
  have h8 := hw.1.2.2.2.1
  have h16 := h.1.n
  have key : ∀ m i, i + m = K.length → ∀ v3 v4 : Value, X 159 2 [.ref 366, .int x, .int (nI i), v3, v4] [] (H (upA T 367 f) P) = some (some (.int (match fstN (fun i => rkI (fun i => kyK N V (gK K i)) K.length i = x) i m with
      | some i => nI i
      | none => -5)), H (upA T 367 f) P) := by
    intro m
    induction m with
    | zero =>
      intro i hi v3 v4
      have hi : i = K.length := by omega
      subst hi
      rw [x159_2]
      simp +decide only [x159_0, x159_1, x159_3, x159_4, x159_7, x159_9, x159_10, x159_13, x159_14, x159_15, x159_16, x159_20, x159_21, x159_24, x159_26, x159_27, x159_30, x159_31, x159_32, x159_34, x159_37, x159_38, x159_39, x159_42, x159_45, x159_46, x159_48, x159_51, x159_52, x159_53, x159_56, x159_59, x159_61, x159_62, x159_65, x159_66, x159_69, x159_70, x159_71, x159_72, x159_75, x159_78, x159_79, x159_80, x159_83, x159_84, x159_85, x159_88, x159_91, x159_93, aft_some, aft_void, Option.bind_some, Option.toList_some, Option.toList_none, List.cons_append, List.nil_append, if_true, if_false, ↓reduceIte, eq_self, z366_o, ↓z366_0, ↓z366_0p, ↓z366_1, ↓z366_2, ↓z366_3, ↓z366_4, ↓z366_4p, ↓z366_5, ↓z366_6, ↓z366_6p0, ↓z366_6p1, ↓z366_7, ↓z366_8, ↓z366_8p, ↓z366_9, ↓z366_9p, ↓z366_10, ↓z366_10p0, ↓z366_10p1, ↓z366_11, ↓z366_12, ↓z366_12p, ↓sg0, ↓sg1, ↓sg2, ↓sg3, ↓sg4, ↓sg5, ↓sg6, ↓sg7, ↓sg8, ↓sg9, ↓sg10, ↓sg11, ↓sg12, ↓sg13, ↓sg14, ↓sg15, ↓sg16, ↓sg17, ↓ss0, ↓ss1, ↓ss2, ↓ss3, ↓ss4, ↓ss5, ↓ss6, ↓ss7, ↓ss8, ↓ss9, ↓ss10, ↓ss11, ↓ss12, ↓ss13, ↓ss14, ↓ss15, ↓ss16, ↓ss17, h16, nI_nlt (Nat.le_refl K.length) (show K.length < 2 ^ 31 by omega), fstN]
    | succ m ih =>
      intro i hi v3 v4
      have hi' : i < K.length := by omega
      have hlt : nI i < nI K.length := nI_lt hi' (by omega)
      have ei := r_keyOf (T := T) (P := P) h hw hi'
      have hstep : ∀ j, j < K.length → X 159 18 [.ref 366, .int x, .int (nI i), .int (smI (fun j => if kyK N V (gK K j) < kyK N V (gK K i) ∨ (kyK N V (gK K j) = kyK N V (gK K i) ∧ j < i) then 1 else 0) j), .int (nI j)] [] (H (upA T 367 f) P) = X 159 18 [.ref 366, .int x, .int (nI i), .int (smI (fun j => if kyK N V (gK K j) < kyK N V (gK K i) ∨ (kyK N V (gK K j) = kyK N V (gK K i) ∧ j < i) then 1 else 0) (j + 1)), .int (nI (j + 1))] [] (H (upA T 367 f) P) := by
        intro j hj
        have ej := r_keyOf (T := T) (P := P) h hw hj
        have hjl : nI j < nI K.length := nI_lt hj (by omega)
        have hji : (nI j < nI i) = (j < i) := nI_ltp (by omega) (by omega)
        rw [x159_18]
        by_cases c1 : kyK N V (gK K j) < kyK N V (gK K i)
        · simp +decide only [x159_0, x159_1, x159_2, x159_3, x159_4, x159_7, x159_9, x159_10, x159_13, x159_14, x159_15, x159_16, x159_20, x159_21, x159_24, x159_26, x159_27, x159_30, x159_31, x159_32, x159_34, x159_37, x159_38, x159_39, x159_42, x159_45, x159_46, x159_48, x159_51, x159_52, x159_53, x159_56, x159_59, x159_61, x159_62, x159_65, x159_66, x159_69, x159_70, x159_71, x159_72, x159_75, x159_78, x159_79, x159_80, x159_83, x159_84, x159_85, x159_88, x159_91, x159_93, aft_some, aft_void, Option.bind_some, Option.toList_some, Option.toList_none, List.cons_append, List.nil_append, if_true, if_false, ↓reduceIte, eq_self, z366_o, ↓z366_0, ↓z366_0p, ↓z366_1, ↓z366_2, ↓z366_3, ↓z366_4, ↓z366_4p, ↓z366_5, ↓z366_6, ↓z366_6p0, ↓z366_6p1, ↓z366_7, ↓z366_8, ↓z366_8p, ↓z366_9, ↓z366_9p, ↓z366_10, ↓z366_10p0, ↓z366_10p1, ↓z366_11, ↓z366_12, ↓z366_12p, ↓sg0, ↓sg1, ↓sg2, ↓sg3, ↓sg4, ↓sg5, ↓sg6, ↓sg7, ↓sg8, ↓sg9, ↓sg10, ↓sg11, ↓sg12, ↓sg13, ↓sg14, ↓sg15, ↓sg16, ↓sg17, ↓ss0, ↓ss1, ↓ss2, ↓ss3, ↓ss4, ↓ss5, ↓ss6, ↓ss7, ↓ss8, ↓ss9, ↓ss10, ↓ss11, ↓ss12, ↓ss13, ↓ss14, ↓ss15, ↓ss16, ↓ss17, h16, hjl, ↓aft_of (ei), ↓aft_of (ej), c1, nI_1, smI, true_or]
        · by_cases c2 : kyK N V (gK K j) = kyK N V (gK K i)
          · have c1 : ¬ kyK N V (gK K i) < kyK N V (gK K i) := by rw [← c2] at c1 ⊢; rw [c2] at c1 ⊢; exact c1
            rw [c2] at ej
            by_cases c3 : j < i
            · simp +decide only [x159_0, x159_1, x159_2, x159_3, x159_4, x159_7, x159_9, x159_10, x159_13, x159_14, x159_15, x159_16, x159_20, x159_21, x159_24, x159_26, x159_27, x159_30, x159_31, x159_32, x159_34, x159_37, x159_38, x159_39, x159_42, x159_45, x159_46, x159_48, x159_51, x159_52, x159_53, x159_56, x159_59, x159_61, x159_62, x159_65, x159_66, x159_69, x159_70, x159_71, x159_72, x159_75, x159_78, x159_79, x159_80, x159_83, x159_84, x159_85, x159_88, x159_91, x159_93, aft_some, aft_void, Option.bind_some, Option.toList_some, Option.toList_none, List.cons_append, List.nil_append, if_true, if_false, ↓reduceIte, eq_self, z366_o, ↓z366_0, ↓z366_0p, ↓z366_1, ↓z366_2, ↓z366_3, ↓z366_4, ↓z366_4p, ↓z366_5, ↓z366_6, ↓z366_6p0, ↓z366_6p1, ↓z366_7, ↓z366_8, ↓z366_8p, ↓z366_9, ↓z366_9p, ↓z366_10, ↓z366_10p0, ↓z366_10p1, ↓z366_11, ↓z366_12, ↓z366_12p, ↓sg0, ↓sg1, ↓sg2, ↓sg3, ↓sg4, ↓sg5, ↓sg6, ↓sg7, ↓sg8, ↓sg9, ↓sg10, ↓sg11, ↓sg12, ↓sg13, ↓sg14, ↓sg15, ↓sg16, ↓sg17, ↓ss0, ↓ss1, ↓ss2, ↓ss3, ↓ss4, ↓ss5, ↓ss6, ↓ss7, ↓ss8, ↓ss9, ↓ss10, ↓ss11, ↓ss12, ↓ss13, ↓ss14, ↓ss15, ↓ss16, ↓ss17, h16, hjl, ↓aft_of (ei), ↓aft_of (ej), c1, c2, hji, c3, nI_1, smI, false_or, and_self]
            · simp +decide only [x159_0, x159_1, x159_2, x159_3, x159_4, x159_7, x159_9, x159_10, x159_13, x159_14, x159_15, x159_16, x159_20, x159_21, x159_24, x159_26, x159_27, x159_30, x159_31, x159_32, x159_34, x159_37, x159_38, x159_39, x159_42, x159_45, x159_46, x159_48, x159_51, x159_52, x159_53, x159_56, x159_59, x159_61, x159_62, x159_65, x159_66, x159_69, x159_70, x159_71, x159_72, x159_75, x159_78, x159_79, x159_80, x159_83, x159_84, x159_85, x159_88, x159_91, x159_93, aft_some, aft_void, Option.bind_some, Option.toList_some, Option.toList_none, List.cons_append, List.nil_append, if_true, if_false, ↓reduceIte, eq_self, z366_o, ↓z366_0, ↓z366_0p, ↓z366_1, ↓z366_2, ↓z366_3, ↓z366_4, ↓z366_4p, ↓z366_5, ↓z366_6, ↓z366_6p0, ↓z366_6p1, ↓z366_7, ↓z366_8, ↓z366_8p, ↓z366_9, ↓z366_9p, ↓z366_10, ↓z366_10p0, ↓z366_10p1, ↓z366_11, ↓z366_12, ↓z366_12p, ↓sg0, ↓sg1, ↓sg2, ↓sg3, ↓sg4, ↓sg5, ↓sg6, ↓sg7, ↓sg8, ↓sg9, ↓sg10, ↓sg11, ↓sg12, ↓sg13, ↓sg14, ↓sg15, ↓sg16, ↓sg17, ↓ss0, ↓ss1, ↓ss2, ↓ss3, ↓ss4, ↓ss5, ↓ss6, ↓ss7, ↓ss8, ↓ss9, ↓ss10, ↓ss11, ↓ss12, ↓ss13, ↓ss14, ↓ss15, ↓ss16, ↓ss17, h16, hjl, ↓aft_of (ei), ↓aft_of (ej), c1, c2, hji, c3, nI_1, smI, false_or, and_false]
          · simp +decide only [x159_0, x159_1, x159_2, x159_3, x159_4, x159_7, x159_9, x159_10, x159_13, x159_14, x159_15, x159_16, x159_20, x159_21, x159_24, x159_26, x159_27, x159_30, x159_31, x159_32, x159_34, x159_37, x159_38, x159_39, x159_42, x159_45, x159_46, x159_48, x159_51, x159_52, x159_53, x159_56, x159_59, x159_61, x159_62, x159_65, x159_66, x159_69, x159_70, x159_71, x159_72, x159_75, x159_78, x159_79, x159_80, x159_83, x159_84, x159_85, x159_88, x159_91, x159_93, aft_some, aft_void, Option.bind_some, Option.toList_some, Option.toList_none, List.cons_append, List.nil_append, if_true, if_false, ↓reduceIte, eq_self, z366_o, ↓z366_0, ↓z366_0p, ↓z366_1, ↓z366_2, ↓z366_3, ↓z366_4, ↓z366_4p, ↓z366_5, ↓z366_6, ↓z366_6p0, ↓z366_6p1, ↓z366_7, ↓z366_8, ↓z366_8p, ↓z366_9, ↓z366_9p, ↓z366_10, ↓z366_10p0, ↓z366_10p1, ↓z366_11, ↓z366_12, ↓z366_12p, ↓sg0, ↓sg1, ↓sg2, ↓sg3, ↓sg4, ↓sg5, ↓sg6, ↓sg7, ↓sg8, ↓sg9, ↓sg10, ↓sg11, ↓sg12, ↓sg13, ↓sg14, ↓sg15, ↓sg16, ↓sg17, ↓ss0, ↓ss1, ↓ss2, ↓ss3, ↓ss4, ↓ss5, ↓ss6, ↓ss7, ↓ss8, ↓ss9, ↓ss10, ↓ss11, ↓ss12, ↓ss13, ↓ss14, ↓ss15, ↓ss16, ↓ss17, h16, hjl, ↓aft_of (ei), ↓aft_of (ej), c1, c2, nI_1, smI, false_or, false_and]
      have el : X 159 18 [.ref 366, .int x, .int (nI i), .int 0, .int 0] [] (H (upA T 367 f) P) = X 159 18 [.ref 366, .int x, .int (nI i), .int (rkI (fun i => kyK N V (gK K i)) K.length i), .int (nI K.length)] [] (H (upA T 367 f) P) := loop_up (fun j => X 159 18 [.ref 366, .int x, .int (nI i), .int (smI (fun j => if kyK N V (gK K j) < kyK N V (gK K i) ∨ (kyK N V (gK K j) = kyK N V (gK K i) ∧ j < i) then 1 else 0) j), .int (nI j)] [] (H (upA T 367 f) P)) K.length hstep
      rw [x159_2]
      simp +decide only [x159_0, x159_1, x159_3, x159_4, x159_7, x159_9, x159_10, x159_13, x159_14, x159_15, x159_16, x159_20, x159_21, x159_24, x159_26, x159_27, x159_30, x159_31, x159_32, x159_34, x159_37, x159_38, x159_39, x159_42, x159_45, x159_46, x159_48, x159_51, x159_52, x159_53, x159_56, x159_59, x159_61, x159_62, x159_65, x159_66, x159_69, x159_70, x159_71, x159_72, x159_75, x159_78, x159_79, x159_80, x159_83, x159_84, x159_85, x159_88, x159_91, x159_93, aft_some, aft_void, Option.bind_some, Option.toList_some, Option.toList_none, List.cons_append, List.nil_append, if_true, if_false, ↓reduceIte, eq_self, z366_o, ↓z366_0, ↓z366_0p, ↓z366_1, ↓z366_2, ↓z366_3, ↓z366_4, ↓z366_4p, ↓z366_5, ↓z366_6, ↓z366_6p0, ↓z366_6p1, ↓z366_7, ↓z366_8, ↓z366_8p, ↓z366_9, ↓z366_9p, ↓z366_10, ↓z366_10p0, ↓z366_10p1, ↓z366_11, ↓z366_12, ↓z366_12p, ↓sg0, ↓sg1, ↓sg2, ↓sg3, ↓sg4, ↓sg5, ↓sg6, ↓sg7, ↓sg8, ↓sg9, ↓sg10, ↓sg11, ↓sg12, ↓sg13, ↓sg14, ↓sg15, ↓sg16, ↓sg17, ↓ss0, ↓ss1, ↓ss2, ↓ss3, ↓ss4, ↓ss5, ↓ss6, ↓ss7, ↓ss8, ↓ss9, ↓ss10, ↓ss11, ↓ss12, ↓ss13, ↓ss14, ↓ss15, ↓ss16, ↓ss17, h16, hlt]
      rw [el, x159_18]
      have hk : nI K.length < nI K.length → False := nI_nlt (Nat.le_refl K.length) (by omega)
      by_cases c : rkI (fun i => kyK N V (gK K i)) K.length i = x
      · have hf : fstN (fun i => rkI (fun i => kyK N V (gK K i)) K.length i = x) i (m + 1) = some i := if_pos c
        rw [hf]
        simp +decide only [x159_0, x159_1, x159_3, x159_4, x159_7, x159_9, x159_10, x159_13, x159_14, x159_15, x159_16, x159_20, x159_21, x159_24, x159_26, x159_27, x159_30, x159_31, x159_32, x159_34, x159_37, x159_38, x159_39, x159_42, x159_45, x159_46, x159_48, x159_51, x159_52, x159_53, x159_56, x159_59, x159_61, x159_62, x159_65, x159_66, x159_69, x159_70, x159_71, x159_72, x159_75, x159_78, x159_79, x159_80, x159_83, x159_84, x159_85, x159_88, x159_91, x159_93, aft_some, aft_void, Option.bind_some, Option.toList_some, Option.toList_none, List.cons_append, List.nil_append, if_true, if_false, ↓reduceIte, eq_self, z366_o, ↓z366_0, ↓z366_0p, ↓z366_1, ↓z366_2, ↓z366_3, ↓z366_4, ↓z366_4p, ↓z366_5, ↓z366_6, ↓z366_6p0, ↓z366_6p1, ↓z366_7, ↓z366_8, ↓z366_8p, ↓z366_9, ↓z366_9p, ↓z366_10, ↓z366_10p0, ↓z366_10p1, ↓z366_11, ↓z366_12, ↓z366_12p, ↓sg0, ↓sg1, ↓sg2, ↓sg3, ↓sg4, ↓sg5, ↓sg6, ↓sg7, ↓sg8, ↓sg9, ↓sg10, ↓sg11, ↓sg12, ↓sg13, ↓sg14, ↓sg15, ↓sg16, ↓sg17, ↓ss0, ↓ss1, ↓ss2, ↓ss3, ↓ss4, ↓ss5, ↓ss6, ↓ss7, ↓ss8, ↓ss9, ↓ss10, ↓ss11, ↓ss12, ↓ss13, ↓ss14, ↓ss15, ↓ss16, ↓ss17, h16, nI_nlt (Nat.le_refl K.length) (show K.length < 2 ^ 31 by omega), c]
      · have hf : fstN (fun i => rkI (fun i => kyK N V (gK K i)) K.length i = x) i (m + 1) = fstN (fun i => rkI (fun i => kyK N V (gK K i)) K.length i = x) (i + 1) m := if_neg c
        rw [hf]
        simp +decide only [x159_0, x159_1, x159_3, x159_4, x159_7, x159_9, x159_10, x159_13, x159_14, x159_15, x159_16, x159_20, x159_21, x159_24, x159_26, x159_27, x159_30, x159_31, x159_32, x159_34, x159_37, x159_38, x159_39, x159_42, x159_45, x159_46, x159_48, x159_51, x159_52, x159_53, x159_56, x159_59, x159_61, x159_62, x159_65, x159_66, x159_69, x159_70, x159_71, x159_72, x159_75, x159_78, x159_79, x159_80, x159_83, x159_84, x159_85, x159_88, x159_91, x159_93, aft_some, aft_void, Option.bind_some, Option.toList_some, Option.toList_none, List.cons_append, List.nil_append, if_true, if_false, ↓reduceIte, eq_self, z366_o, ↓z366_0, ↓z366_0p, ↓z366_1, ↓z366_2, ↓z366_3, ↓z366_4, ↓z366_4p, ↓z366_5, ↓z366_6, ↓z366_6p0, ↓z366_6p1, ↓z366_7, ↓z366_8, ↓z366_8p, ↓z366_9, ↓z366_9p, ↓z366_10, ↓z366_10p0, ↓z366_10p1, ↓z366_11, ↓z366_12, ↓z366_12p, ↓sg0, ↓sg1, ↓sg2, ↓sg3, ↓sg4, ↓sg5, ↓sg6, ↓sg7, ↓sg8, ↓sg9, ↓sg10, ↓sg11, ↓sg12, ↓sg13, ↓sg14, ↓sg15, ↓sg16, ↓sg17, ↓ss0, ↓ss1, ↓ss2, ↓ss3, ↓ss4, ↓ss5, ↓ss6, ↓ss7, ↓ss8, ↓ss9, ↓ss10, ↓ss11, ↓ss12, ↓ss13, ↓ss14, ↓ss15, ↓ss16, ↓ss17, h16, nI_nlt (Nat.le_refl K.length) (show K.length < 2 ^ 31 by omega), c, nI_1]
        exact ih (i + 1) (by omega) _ _
  simp +decide only [x159_0, x159_1, x159_3, x159_4, x159_7, x159_9, x159_10, x159_13, x159_14, x159_15, x159_16, x159_20, x159_21, x159_24, x159_26, x159_27, x159_30, x159_31, x159_32, x159_34, x159_37, x159_38, x159_39, x159_42, x159_45, x159_46, x159_48, x159_51, x159_52, x159_53, x159_56, x159_59, x159_61, x159_62, x159_65, x159_66, x159_69, x159_70, x159_71, x159_72, x159_75, x159_78, x159_79, x159_80, x159_83, x159_84, x159_85, x159_88, x159_91, x159_93, aft_some, aft_void, Option.bind_some, Option.toList_some, Option.toList_none, List.cons_append, List.nil_append, if_true, if_false, ↓reduceIte, eq_self]
  exact key K.length 0 (by omega) _ _
theorem r_nextBasket (h : sR f N V K B R) (hw : WF N V K B) : X 161 0 [.ref 366, .long 0, .long 0] [] (H (upA T 367 f) P) = some (some (.int (match nxS (fun i => irK V (gK K i)) (fun i => tnK N V (gK K i)) K.length with
    | some i => nI i
    | none => -5)), H (upA T 367 f) P) := by
  have h8 := hw.1.2.2.2.1
  have h16 := h.1.n
  have h7 : f 7 = V 0 1 := h.1.2.1.2.2.2
  rw [← nxS_cmp (f := fun i => irK V (gK K i)) (t := fun i => kyK N V (gK K i)) (u := fun i => tnK N V (gK K i)) (fun i j hi hj => ky_tn hw hi hj)]
  have key : ∀ m r, r + m = K.length → (∀ p, p < K.length → cO (fun i => kyK N V (gK K i)) K.length p < r → ¬ irK V (gK K p)) → ∀ v2 : Value, X 161 2 [.ref 366, .int (nI r), v2] [] (H (upA T 367 f) P) = some (some (.int (match nxS (fun i => irK V (gK K i)) (fun i => kyK N V (gK K i)) K.length with
      | some i => nI i
      | none => -5)), H (upA T 367 f) P) := by
    intro m
    induction m with
    | zero =>
      intro r hr hn v2
      have hr : r = K.length := by omega
      subst hr
      have e : nxS (fun i => irK V (gK K i)) (fun i => kyK N V (gK K i)) K.length = none := by
        cases hq : nxS (fun i => irK V (gK K i)) (fun i => kyK N V (gK K i)) K.length with
        | none => rfl
        | some j =>
          have h1 := nxS_ok hq
          exact absurd h1.2 (hn j h1.1 (cO_n h1.1))
      rw [e, x161_2]
      simp +decide only [x161_0, x161_1, x161_3, x161_4, x161_7, x161_9, x161_10, x161_13, x161_14, x161_15, x161_18, x161_19, x161_20, x161_21, x161_24, x161_26, x161_29, x161_30, x161_31, x161_34, x161_37, x161_39, aft_some, aft_void, Option.bind_some, Option.toList_some, Option.toList_none, List.cons_append, List.nil_append, if_true, if_false, ↓reduceIte, eq_self, z366_o, ↓z366_0, ↓z366_0p, ↓z366_1, ↓z366_2, ↓z366_3, ↓z366_4, ↓z366_4p, ↓z366_5, ↓z366_6, ↓z366_6p0, ↓z366_6p1, ↓z366_7, ↓z366_8, ↓z366_8p, ↓z366_9, ↓z366_9p, ↓z366_10, ↓z366_10p0, ↓z366_10p1, ↓z366_11, ↓z366_12, ↓z366_12p, ↓sg0, ↓sg1, ↓sg2, ↓sg3, ↓sg4, ↓sg5, ↓sg6, ↓sg7, ↓sg8, ↓sg9, ↓sg10, ↓sg11, ↓sg12, ↓sg13, ↓sg14, ↓sg15, ↓sg16, ↓sg17, ↓ss0, ↓ss1, ↓ss2, ↓ss3, ↓ss4, ↓ss5, ↓ss6, ↓ss7, ↓ss8, ↓ss9, ↓ss10, ↓ss11, ↓ss12, ↓ss13, ↓ss14, ↓ss15, ↓ss16, ↓ss17, h16, nI_nlt (Nat.le_refl K.length) (show K.length < 2 ^ 31 by omega)]
    | succ m ih =>
      intro r hr hn v2
      have hr' : r < K.length := by omega
      have hlt : nI r < nI K.length := nI_lt hr' (by omega)
      obtain ⟨p, hp, ep⟩ := cO_ex (fun i => kyK N V (gK K i)) K.length r hr'
      have er := r_ranked (T := T) (P := P) (x := nI r) h hw
      have hle : ∀ q, q < K.length → cO (fun i => kyK N V (gK K i)) K.length q < 2 ^ 31 := fun q _ => by
        have := cO_le (fun i => kyK N V (gK K i)) q K.length
        omega
      have hf : fstN (fun i => rkI (fun i => kyK N V (gK K i)) K.length i = nI r) 0 K.length = some p := by
        refine fst_uni (Nat.zero_le _) (by omega) ?_ (fun k _ hk hq => ?_)
        · rw [rk_c, ep]
        · rw [rk_c, nI_inj (hle k (by omega)) (by omega)] at hq
          exact cO_inj (by omega) hp (hq.trans ep.symm)
      rw [hf] at er
      simp only at er
      have ek := r_kindNow (T := T) (P := P) (h.2.2.2.1 p hp) (show p < 8 by omega)
      rw [h7] at ek
      rw [x161_2]
      by_cases c : lkK (gK K p) (if 0 < V 0 1 then 1 else 0) = -5
      · rw [c] at ek
        simp +decide only [x161_0, x161_1, x161_3, x161_4, x161_7, x161_9, x161_10, x161_13, x161_14, x161_15, x161_18, x161_19, x161_20, x161_21, x161_24, x161_26, x161_29, x161_30, x161_31, x161_34, x161_37, x161_39, aft_some, aft_void, Option.bind_some, Option.toList_some, Option.toList_none, List.cons_append, List.nil_append, if_true, if_false, ↓reduceIte, eq_self, z366_o, ↓z366_0, ↓z366_0p, ↓z366_1, ↓z366_2, ↓z366_3, ↓z366_4, ↓z366_4p, ↓z366_5, ↓z366_6, ↓z366_6p0, ↓z366_6p1, ↓z366_7, ↓z366_8, ↓z366_8p, ↓z366_9, ↓z366_9p, ↓z366_10, ↓z366_10p0, ↓z366_10p1, ↓z366_11, ↓z366_12, ↓z366_12p, ↓sg0, ↓sg1, ↓sg2, ↓sg3, ↓sg4, ↓sg5, ↓sg6, ↓sg7, ↓sg8, ↓sg9, ↓sg10, ↓sg11, ↓sg12, ↓sg13, ↓sg14, ↓sg15, ↓sg16, ↓sg17, ↓ss0, ↓ss1, ↓ss2, ↓ss3, ↓ss4, ↓ss5, ↓ss6, ↓ss7, ↓ss8, ↓ss9, ↓ss10, ↓ss11, ↓ss12, ↓ss13, ↓ss14, ↓ss15, ↓ss16, ↓ss17, h16, hlt, ↓aft_of (er), ↓aft_of (ek), nI_1]
        refine ih (r + 1) (by omega) (fun q hq hc => ?_) _
        by_cases e : cO (fun i => kyK N V (gK K i)) K.length q < r
        · exact hn q hq e
        · have : q = p := cO_inj (t := fun i => kyK N V (gK K i)) hq hp (by omega)
          subst this
          exact fun z => z c
      · have hs : nxS (fun i => irK V (gK K i)) (fun i => kyK N V (gK K i)) K.length = some p := by
          refine nxS_uni hp c (fun i hi hf' hl => ?_)
          have := cO_lt (n := K.length) hl hi
          exact hn i hi (by omega) hf'
        rw [hs]
        simp +decide only [x161_0, x161_1, x161_3, x161_4, x161_7, x161_9, x161_10, x161_13, x161_14, x161_15, x161_18, x161_19, x161_20, x161_21, x161_24, x161_26, x161_29, x161_30, x161_31, x161_34, x161_37, x161_39, aft_some, aft_void, Option.bind_some, Option.toList_some, Option.toList_none, List.cons_append, List.nil_append, if_true, if_false, ↓reduceIte, eq_self, z366_o, ↓z366_0, ↓z366_0p, ↓z366_1, ↓z366_2, ↓z366_3, ↓z366_4, ↓z366_4p, ↓z366_5, ↓z366_6, ↓z366_6p0, ↓z366_6p1, ↓z366_7, ↓z366_8, ↓z366_8p, ↓z366_9, ↓z366_9p, ↓z366_10, ↓z366_10p0, ↓z366_10p1, ↓z366_11, ↓z366_12, ↓z366_12p, ↓sg0, ↓sg1, ↓sg2, ↓sg3, ↓sg4, ↓sg5, ↓sg6, ↓sg7, ↓sg8, ↓sg9, ↓sg10, ↓sg11, ↓sg12, ↓sg13, ↓sg14, ↓sg15, ↓sg16, ↓sg17, ↓ss0, ↓ss1, ↓ss2, ↓ss3, ↓ss4, ↓ss5, ↓ss6, ↓ss7, ↓ss8, ↓ss9, ↓ss10, ↓ss11, ↓ss12, ↓ss13, ↓ss14, ↓ss15, ↓ss16, ↓ss17, h16, hlt, ↓aft_of (er), ↓aft_of (ek), c]
  simp +decide only [x161_0, x161_1, x161_3, x161_4, x161_7, x161_9, x161_10, x161_13, x161_14, x161_15, x161_18, x161_19, x161_20, x161_21, x161_24, x161_26, x161_29, x161_30, x161_31, x161_34, x161_37, x161_39, aft_some, aft_void, Option.bind_some, Option.toList_some, Option.toList_none, List.cons_append, List.nil_append, if_true, if_false, ↓reduceIte, eq_self]
  exact key K.length 0 (by omega) (fun _ _ h => absurd h (Nat.not_lt_zero _)) _
end NX
end
section
/-! the reference irons -/
theorem inV_n {V : Nat → Nat → Int32} {b : kT} {k r : Nat} (h0 : r ≠ 0) (h48 : r ≠ 48) : inV V b k r = V r := by
  unfold inV
  rw [upA_n _ _ h48, upA_n _ _ h0]
theorem inV_0 {V : Nat → Nat → Int32} {b : kT} {k : Nat} : inV V b k 0 = upA (V 0) 1 (if k < 3 then V 0 1 - 1 else V 0 1) := by
  unfold inV
  rw [upA_n _ _ (by decide), upA_s]
theorem inV_48 {V : Nat → Nat → Int32} {b : kT} {k : Nat} : inV V b k 48 0 = (@ite _ (stP V b k) (Classical.propDecidable _) (b 0 3) (V 48 0)) ∧ inV V b k 48 1 = V 48 1 + sbI V b k ∧ inV V b k 48 2 = V 48 2 + 1 ∧ inV V b k 48 3 = V 48 3 + ndI V b k := by
  unfold inV
  rw [upA_s]
  exact ⟨rfl, rfl, rfl, rfl⟩
theorem gK_set_s {K : List kT} {i : Nat} {b : kT} (hi : i < K.length) : gK (K.set i b) i = b := by
  simp [gK, List.getD_eq_getElem?_getD, hi]
theorem gK_set_n {K : List kT} {i j : Nat} {b : kT} (h : j ≠ i) : gK (K.set i b) j = gK K j := by
  simp [gK, List.getD_eq_getElem?_getD, List.getElem?_set_ne (Ne.symm h)]
/-- the array behind a piece that is ironed -/
abbrev irF (f : Nat → Int32) (p : Nat) (pot sb st nd v : Int32) : Nat → Int32 := upA (upA (upA (upA (upA (upA f 11 pot) 12 (f 12 + sb)) 7 st) 13 (f 13 + 1)) 14 (f 14 + nd)) p v
section IR
variable {T : Nat → Nat → Int32} {P : Nat → Nat → Nat} {f : Nat → Int32} {N : Nat → Nat} {V : Nat → Nat → Int32} {K : List kT} {B : List bT} {R : Nat → Nat → Int32} {x m left cnt : Int32} {i k : Nat} {w5 w6 w7 : Value}
theorem irF_n {p a : Nat} {pot sb st nd v : Int32} (h1 : a ≠ 7) (h2 : ¬ (11 ≤ a ∧ a < 15)) (hp : a ≠ p) : irF f p pot sb st nd v a = f a := by
  unfold irF
  rw [upA_n _ _ hp, upA_n _ _ (by omega), upA_n _ _ (by omega), upA_n _ _ h1, upA_n _ _ (by omega), upA_n _ _ (by omega)]
theorem irF_s {p : Nat} {pot sb st nd v : Int32} : irF f p pot sb st nd v p = v := upA_s _ _ _
theorem sR_iron (h : sR f N V K B R) (h8 : K.length ≤ 8) (h20 : N 3 ≤ 20) (h10 : N 4 ≤ 10) (hi : i < K.length) (hk : k < 4) :
    sR (irF f (694 + 17 * i + (9 + k)) (@ite _ (stP V (gK K i) k) (Classical.propDecidable _) (gK K i 0 3) (V 48 0)) (sbI V (gK K i) k) (if k < 3 then V 0 1 - 1 else V 0 1) (ndI V (gK K i) k) (gK K i 2 k + 1)) N (inV V (gK K i) k) (K.set i (inB (gK K i) k)) B R := by
  obtain ⟨⟨a1, ⟨a2, a3, a4, a5⟩, ⟨a6, a7, a8⟩, a9, ⟨a10, a11, a12⟩, a13, a14⟩, hC, hO, hK, hL, hJ⟩ := h
  have c48 := @inV_48 V (gK K i) k
  have hn : ∀ {pot sb st nd v : Int32} (a : Nat), a < 23 → irF f (694 + 17 * i + (9 + k)) pot sb st nd v a = upA (upA (upA (upA (upA f 11 pot) 12 (f 12 + sb)) 7 st) 13 (f 13 + 1)) 14 (f 14 + nd) a := fun {_ _ _ _ _} a ha => upA_n _ _ (by omega)
  refine ⟨⟨fun j hj => ?_, ⟨?_, ?_, ?_, ?_⟩, ⟨?_, ?_, ?_⟩, fun j hj => ?_, ⟨?_, ?_, ?_⟩, fun d hd => ?_, ?_⟩, ?_, ?_, ?_, ?_, ?_⟩
  · rw [irF_n (by omega) (by omega) (by omega), inV_n (by decide) (by decide)]; exact a1 j hj
  · rw [irF_n (by decide) (by decide) (by omega)]; exact a2
  · rw [irF_n (by decide) (by decide) (by omega)]; exact a3
  · rw [irF_n (by decide) (by decide) (by omega)]; exact a4
  · rw [hn 7 (by decide), inV_0, upA_s]; simp +decide only [upA_s, u_n]
  · rw [irF_n (by decide) (by decide) (by omega), inV_n (by decide) (by decide)]; exact a6
  · rw [irF_n (by decide) (by decide) (by omega), inV_0, upA_n _ _ (by decide)]; exact a7
  · rw [irF_n (by decide) (by decide) (by omega)]; exact a8
  · rw [hn _ (by omega)]
    match j, hj with
    | 0, _ => rw [c48.1]; simp +decide only [upA_s, u_n]
    | 1, _ => rw [c48.2.1, ← a9 1 (by decide)]; simp +decide only [upA_s, u_n]
    | 2, _ => rw [c48.2.2.1, ← a9 2 (by decide)]; simp +decide only [upA_s, u_n]
    | 3, _ => rw [c48.2.2.2, ← a9 3 (by decide)]; simp +decide only [upA_s, u_n]
  · rw [irF_n (by decide) (by decide) (by omega), inV_0, upA_n _ _ (by decide)]; exact a10
  · rw [irF_n (by decide) (by decide) (by omega), List.length_set]; exact a11
  · rw [irF_n (by decide) (by decide) (by omega)]; exact a12
  · rw [irF_n (by omega) (by omega) (by omega), inV_n (by decide) (by decide)]; exact a13 d hd
  · rw [inV_0, upA_n _ _ (by decide)]; exact a14
  · intro c hc
    rw [inV_n (show 4 ≠ 0 by decide) (by decide), inV_n (show 5 ≠ 0 by decide) (by decide), inV_n (show 6 ≠ 0 by decide) (by decide)]
    exact hC.same (fun a h1 h2 => irF_n (by omega) (by omega) (by omega)) c hc
  · exact hO.same (fun a h1 h2 => irF_n (by omega) (by omega) (by omega))
  · intro j hj
    rw [List.length_set] at hj
    by_cases e : j = i
    · subst e
      rw [gK_set_s hi]
      obtain ⟨⟨b1, b2, b3, b4, b5⟩, b6⟩ := hK j hj
      have hb0 : inB (gK K j) k 0 = gK K j 0 := upA_n _ _ (by decide)
      have hb1 : inB (gK K j) k 1 = gK K j 1 := upA_n _ _ (by decide)
      have hb2 : inB (gK K j) k 2 = upA (gK K j 2) k (gK K j 2 k + 1) := upA_s _ _ _
      have hb3 : inB (gK K j) k 3 = gK K j 3 := upA_n _ _ (by decide)
      refine ⟨⟨?_, ?_, ?_, ?_, ?_⟩, fun q hq => ⟨?_, ?_, ?_⟩⟩
      · rw [irF_n (by omega) (by omega) (by omega), hb0]; exact b1
      · rw [irF_n (by omega) (by omega) (by omega), hb0]; exact b2
      · rw [irF_n (by omega) (by omega) (by omega), hb0]; exact b3
      · rw [irF_n (by omega) (by omega) (by omega), hb0]; exact b4
      · rw [irF_n (by omega) (by omega) (by omega), hb0]; exact b5
      · rw [irF_n (by omega) (by omega) (by omega), hb1]; exact (b6 q hq).1
      · rw [hb2]
        by_cases e : q = k
        · subst e; rw [irF_s, upA_s]
        · rw [irF_n (by omega) (by omega) (by omega), upA_n _ _ e]; exact (b6 q hq).2.1
      · rw [irF_n (by omega) (by omega) (by omega), hb3]; exact (b6 q hq).2.2
    · rw [gK_set_n e]
      exact (hK j hj).same (fun a h1 h2 => irF_n (by omega) (by omega) (by omega))
  · intro j hj
    rw [inV_n (show 46 ≠ 0 by decide) (by decide), inV_n (show 47 ≠ 0 by decide) (by decide)]
    exact hL.same h20 (fun a h1 h2 => irF_n (by omega) (by omega) (by omega)) j hj
  · exact hJ.same h10 (fun a h1 h2 => irF_n (by omega) (by omega) (by omega))
theorem r_ironBody (h : sR f N V K B R) (hw : WF N V K B) (hi : i < K.length) (hk : k < 4) (hl : lkK (gK K i) (if 0 < V 0 1 then 1 else 0) = nI k) (hd : ¬ left < ndI V (gK K i) k) :
    ∃ f' v5 v6 v7, X 162 10 [.ref 366, .int m, .int left, .int cnt, .int (nI i), w5, w6, w7] [] (H (upA T 367 f) P) = X 162 218 [.ref 366, .int m, .int (left - ndI V (gK K i) k), .int (cnt + 1), .int (nI i), v5, v6, v7] [] (H (upA T 367 f') P) ∧ sR f' N (inV V (gK K i) k) (K.set i (inB (gK K i) k)) B R := by
  have h8 := hw.1.2.2.2.1
  have hs := sR_iron h h8 hw.1.2.2.2.2.1 hw.1.2.2.2.2.2 hi hk
  have hb := h.2.2.2.1 i hi
  have e7 : f 7 = V 0 1 := h.1.2.1.2.2.2
  have e11 : f 11 = V 48 0 := h.1.2.2.2.1 0 (by decide)
  have e1 : f 1 = V 1 1 := h.1.1 1 (by decide)
  have ek := r_kindNow (T := T) (P := P) hb (show i < 8 by omega)
  rw [e7, hl] at ek
  have em := r_minutesOf (h0 := H (upA T 367 f) P) (x := gK K i 0 3) hk
  have e2 := r_of (T := T) (P := P) (f := f) (i := i) (w := 2) (y := 2) rfl (show i < 8 by omega) (by decide)
  rw [hb.1.2.2.1] at e2
  have ni5 : (nI i = -5) = False := nI_ne5 (by omega)
  obtain ⟨g, hg⟩ : ∃ g, g = upA (upA (upA (upA (upA f 11 (@ite _ (stP V (gK K i) k) (Classical.propDecidable _) (gK K i 0 3) (V 48 0))) 12 (f 12 + sbI V (gK K i) k)) 7 (if k < 3 then V 0 1 - 1 else V 0 1)) 13 (f 13 + 1)) 14 (f 14 + ndI V (gK K i) k) := ⟨_, rfl⟩
  have hgp : g (694 + 17 * i + (9 + k)) = gK K i 2 k := by
    rw [hg, upA_n _ _ (by omega), upA_n _ _ (by omega), upA_n _ _ (by omega), upA_n _ _ (by omega), upA_n _ _ (by omega)]
    exact (hb.2 k hk).2.1
  have e9 := r_of (T := T) (P := P) (f := g) (i := i) (w := 9 + k) (y := 9 + nI k) (nI_add 9 k) (show i < 8 by omega) (by omega)
  rw [hgp] at e9
  have e9' := r_lay (T := T) (P := P) (f := g) (i := i) (w := 9 + k) (y := 9 + nI k) (z := gK K i 2 k + 1) (nI_add 9 k) (show i < 8 by omega) (by omega)
  have key : X 162 10 [.ref 366, .int m, .int left, .int cnt, .int (nI i), w5, w6, w7] [] (H (upA T 367 f) P) = X 162 218 [.ref 366, .int m, .int (left - ndI V (gK K i) k), .int (cnt + 1), .int (nI i), .int (nI k), .int (sbI V (gK K i) k), .int (ndI V (gK K i) k)] [] (H (upA T 367 (upA g (694 + 17 * i + (9 + k)) (gK K i 2 k + 1))) P) := by
    rw [hg] at e9 e9' ⊢
    rcases sb_or V (gK K i) k with ⟨q1, q2, q3⟩ | ⟨q1, q2, q3⟩
    · have qk : k < 2 := q1.1
      have qp : (gK K i 0 3 = V 48 0) = False := eq_false q1.2
      simp only [q1, if_true, q2, q3] at e9 e9' hd ⊢
      match k, qk with
      | 0, _ =>
        simp +decide only [nl0, if_true] at ek em e9 e9' hd ⊢
        simp +decide only [x162_0, x162_1, x162_2, x162_3, x162_4, x162_5, x162_8, x162_10, x162_12, x162_14, x162_17, x162_18, x162_20, x162_23, x162_25, x162_27, x162_28, x162_31, x162_32, x162_34, x162_35, x162_38, x162_39, x162_42, x162_44, x162_45, x162_48, x162_49, x162_52, x162_53, x162_55, x162_57, x162_58, x162_60, x162_61, x162_64, x162_67, x162_69, x162_72, x162_73, x162_76, x162_77, x162_78, x162_81, x162_82, x162_83, x162_85, x162_87, x162_88, x162_91, x162_92, x162_93, x162_94, x162_96, x162_97, x162_98, x162_101, x162_102, x162_105, x162_107, x162_109, x162_112, x162_113, x162_115, x162_116, x162_119, x162_122, x162_123, x162_126, x162_128, x162_129, x162_130, x162_131, x162_134, x162_136, x162_137, x162_138, x162_140, x162_143, x162_144, x162_147, x162_148, x162_149, x162_150, x162_151, x162_154, x162_156, x162_157, x162_158, x162_160, x162_161, x162_164, x162_165, x162_168, x162_169, x162_170, x162_171, x162_172, x162_175, x162_177, x162_178, x162_179, x162_180, x162_181, x162_182, x162_183, x162_186, x162_188, x162_189, x162_190, x162_192, x162_193, x162_194, x162_195, x162_197, x162_199, x162_201, x162_202, x162_203, x162_205, x162_207, x162_209, x162_210, x162_213, x162_214, x162_215, x162_219, x162_222, x162_224, x162_227, x162_228, aft_some, aft_void, Option.bind_some, Option.toList_some, Option.toList_none, List.cons_append, List.nil_append, if_true, if_false, ↓reduceIte, eq_self, z366_o, ↓z366_0, ↓z366_0p, ↓z366_1, ↓z366_2, ↓z366_3, ↓z366_4, ↓z366_4p, ↓z366_5, ↓z366_6, ↓z366_6p0, ↓z366_6p1, ↓z366_7, ↓z366_8, ↓z366_8p, ↓z366_9, ↓z366_9p, ↓z366_10, ↓z366_10p0, ↓z366_10p1, ↓z366_11, ↓z366_12, ↓z366_12p, ↓sg0, ↓sg1, ↓sg2, ↓sg3, ↓sg4, ↓sg5, ↓sg6, ↓sg7, ↓sg8, ↓sg9, ↓sg10, ↓sg11, ↓sg12, ↓sg13, ↓sg14, ↓sg15, ↓sg16, ↓sg17, ↓ss0, ↓ss1, ↓ss2, ↓ss3, ↓ss4, ↓ss5, ↓ss6, ↓ss7, ↓ss8, ↓ss9, ↓ss10, ↓ss11, ↓ss12, ↓ss13, ↓ss14, ↓ss15, ↓ss16, ↓ss17, upA_s, u_n, ni5, ↓aft_of (ek), ↓aft_of (em), ↓aft_of (e2), e1, e7, e11, qp, hd, ↓aft_of (e9), ↓aft_of (e9')]
      | 1, _ =>
        simp +decide only [nl1, if_true] at ek em e9 e9' hd ⊢
        simp +decide only [x162_0, x162_1, x162_2, x162_3, x162_4, x162_5, x162_8, x162_10, x162_12, x162_14, x162_17, x162_18, x162_20, x162_23, x162_25, x162_27, x162_28, x162_31, x162_32, x162_34, x162_35, x162_38, x162_39, x162_42, x162_44, x162_45, x162_48, x162_49, x162_52, x162_53, x162_55, x162_57, x162_58, x162_60, x162_61, x162_64, x162_67, x162_69, x162_72, x162_73, x162_76, x162_77, x162_78, x162_81, x162_82, x162_83, x162_85, x162_87, x162_88, x162_91, x162_92, x162_93, x162_94, x162_96, x162_97, x162_98, x162_101, x162_102, x162_105, x162_107, x162_109, x162_112, x162_113, x162_115, x162_116, x162_119, x162_122, x162_123, x162_126, x162_128, x162_129, x162_130, x162_131, x162_134, x162_136, x162_137, x162_138, x162_140, x162_143, x162_144, x162_147, x162_148, x162_149, x162_150, x162_151, x162_154, x162_156, x162_157, x162_158, x162_160, x162_161, x162_164, x162_165, x162_168, x162_169, x162_170, x162_171, x162_172, x162_175, x162_177, x162_178, x162_179, x162_180, x162_181, x162_182, x162_183, x162_186, x162_188, x162_189, x162_190, x162_192, x162_193, x162_194, x162_195, x162_197, x162_199, x162_201, x162_202, x162_203, x162_205, x162_207, x162_209, x162_210, x162_213, x162_214, x162_215, x162_219, x162_222, x162_224, x162_227, x162_228, aft_some, aft_void, Option.bind_some, Option.toList_some, Option.toList_none, List.cons_append, List.nil_append, if_true, if_false, ↓reduceIte, eq_self, z366_o, ↓z366_0, ↓z366_0p, ↓z366_1, ↓z366_2, ↓z366_3, ↓z366_4, ↓z366_4p, ↓z366_5, ↓z366_6, ↓z366_6p0, ↓z366_6p1, ↓z366_7, ↓z366_8, ↓z366_8p, ↓z366_9, ↓z366_9p, ↓z366_10, ↓z366_10p0, ↓z366_10p1, ↓z366_11, ↓z366_12, ↓z366_12p, ↓sg0, ↓sg1, ↓sg2, ↓sg3, ↓sg4, ↓sg5, ↓sg6, ↓sg7, ↓sg8, ↓sg9, ↓sg10, ↓sg11, ↓sg12, ↓sg13, ↓sg14, ↓sg15, ↓sg16, ↓sg17, ↓ss0, ↓ss1, ↓ss2, ↓ss3, ↓ss4, ↓ss5, ↓ss6, ↓ss7, ↓ss8, ↓ss9, ↓ss10, ↓ss11, ↓ss12, ↓ss13, ↓ss14, ↓ss15, ↓ss16, ↓ss17, upA_s, u_n, ni5, ↓aft_of (ek), ↓aft_of (em), ↓aft_of (e2), e1, e7, e11, qp, hd, ↓aft_of (e9), ↓aft_of (e9')]
    · simp only [q1, if_false, q2, q3, Int32.add_zero] at e9 e9' hd ⊢
      match k, hk with
      | 0, _ =>
        have qp : (gK K i 0 3 = V 48 0) = True := eq_true (Classical.not_not.mp (fun q => q1 ⟨by decide, q⟩))
        simp +decide only [nl0, if_true, Int32.add_zero] at ek em e9 e9' hd ⊢
        simp +decide only [x162_0, x162_1, x162_2, x162_3, x162_4, x162_5, x162_8, x162_10, x162_12, x162_14, x162_17, x162_18, x162_20, x162_23, x162_25, x162_27, x162_28, x162_31, x162_32, x162_34, x162_35, x162_38, x162_39, x162_42, x162_44, x162_45, x162_48, x162_49, x162_52, x162_53, x162_55, x162_57, x162_58, x162_60, x162_61, x162_64, x162_67, x162_69, x162_72, x162_73, x162_76, x162_77, x162_78, x162_81, x162_82, x162_83, x162_85, x162_87, x162_88, x162_91, x162_92, x162_93, x162_94, x162_96, x162_97, x162_98, x162_101, x162_102, x162_105, x162_107, x162_109, x162_112, x162_113, x162_115, x162_116, x162_119, x162_122, x162_123, x162_126, x162_128, x162_129, x162_130, x162_131, x162_134, x162_136, x162_137, x162_138, x162_140, x162_143, x162_144, x162_147, x162_148, x162_149, x162_150, x162_151, x162_154, x162_156, x162_157, x162_158, x162_160, x162_161, x162_164, x162_165, x162_168, x162_169, x162_170, x162_171, x162_172, x162_175, x162_177, x162_178, x162_179, x162_180, x162_181, x162_182, x162_183, x162_186, x162_188, x162_189, x162_190, x162_192, x162_193, x162_194, x162_195, x162_197, x162_199, x162_201, x162_202, x162_203, x162_205, x162_207, x162_209, x162_210, x162_213, x162_214, x162_215, x162_219, x162_222, x162_224, x162_227, x162_228, aft_some, aft_void, Option.bind_some, Option.toList_some, Option.toList_none, List.cons_append, List.nil_append, if_true, if_false, ↓reduceIte, eq_self, z366_o, ↓z366_0, ↓z366_0p, ↓z366_1, ↓z366_2, ↓z366_3, ↓z366_4, ↓z366_4p, ↓z366_5, ↓z366_6, ↓z366_6p0, ↓z366_6p1, ↓z366_7, ↓z366_8, ↓z366_8p, ↓z366_9, ↓z366_9p, ↓z366_10, ↓z366_10p0, ↓z366_10p1, ↓z366_11, ↓z366_12, ↓z366_12p, ↓sg0, ↓sg1, ↓sg2, ↓sg3, ↓sg4, ↓sg5, ↓sg6, ↓sg7, ↓sg8, ↓sg9, ↓sg10, ↓sg11, ↓sg12, ↓sg13, ↓sg14, ↓sg15, ↓sg16, ↓sg17, ↓ss0, ↓ss1, ↓ss2, ↓ss3, ↓ss4, ↓ss5, ↓ss6, ↓ss7, ↓ss8, ↓ss9, ↓ss10, ↓ss11, ↓ss12, ↓ss13, ↓ss14, ↓ss15, ↓ss16, ↓ss17, upA_s, u_n, ni5, ↓aft_of (ek), ↓aft_of (em), ↓aft_of (e2), e1, e7, e11, qp, hd, ↓aft_of (e9), ↓aft_of (e9'), Int32.add_zero]
      | 1, _ =>
        have qp : (gK K i 0 3 = V 48 0) = True := eq_true (Classical.not_not.mp (fun q => q1 ⟨by decide, q⟩))
        simp +decide only [nl1, if_true] at ek em e9 e9' hd ⊢
        simp +decide only [x162_0, x162_1, x162_2, x162_3, x162_4, x162_5, x162_8, x162_10, x162_12, x162_14, x162_17, x162_18, x162_20, x162_23, x162_25, x162_27, x162_28, x162_31, x162_32, x162_34, x162_35, x162_38, x162_39, x162_42, x162_44, x162_45, x162_48, x162_49, x162_52, x162_53, x162_55, x162_57, x162_58, x162_60, x162_61, x162_64, x162_67, x162_69, x162_72, x162_73, x162_76, x162_77, x162_78, x162_81, x162_82, x162_83, x162_85, x162_87, x162_88, x162_91, x162_92, x162_93, x162_94, x162_96, x162_97, x162_98, x162_101, x162_102, x162_105, x162_107, x162_109, x162_112, x162_113, x162_115, x162_116, x162_119, x162_122, x162_123, x162_126, x162_128, x162_129, x162_130, x162_131, x162_134, x162_136, x162_137, x162_138, x162_140, x162_143, x162_144, x162_147, x162_148, x162_149, x162_150, x162_151, x162_154, x162_156, x162_157, x162_158, x162_160, x162_161, x162_164, x162_165, x162_168, x162_169, x162_170, x162_171, x162_172, x162_175, x162_177, x162_178, x162_179, x162_180, x162_181, x162_182, x162_183, x162_186, x162_188, x162_189, x162_190, x162_192, x162_193, x162_194, x162_195, x162_197, x162_199, x162_201, x162_202, x162_203, x162_205, x162_207, x162_209, x162_210, x162_213, x162_214, x162_215, x162_219, x162_222, x162_224, x162_227, x162_228, aft_some, aft_void, Option.bind_some, Option.toList_some, Option.toList_none, List.cons_append, List.nil_append, if_true, if_false, ↓reduceIte, eq_self, z366_o, ↓z366_0, ↓z366_0p, ↓z366_1, ↓z366_2, ↓z366_3, ↓z366_4, ↓z366_4p, ↓z366_5, ↓z366_6, ↓z366_6p0, ↓z366_6p1, ↓z366_7, ↓z366_8, ↓z366_8p, ↓z366_9, ↓z366_9p, ↓z366_10, ↓z366_10p0, ↓z366_10p1, ↓z366_11, ↓z366_12, ↓z366_12p, ↓sg0, ↓sg1, ↓sg2, ↓sg3, ↓sg4, ↓sg5, ↓sg6, ↓sg7, ↓sg8, ↓sg9, ↓sg10, ↓sg11, ↓sg12, ↓sg13, ↓sg14, ↓sg15, ↓sg16, ↓sg17, ↓ss0, ↓ss1, ↓ss2, ↓ss3, ↓ss4, ↓ss5, ↓ss6, ↓ss7, ↓ss8, ↓ss9, ↓ss10, ↓ss11, ↓ss12, ↓ss13, ↓ss14, ↓ss15, ↓ss16, ↓ss17, upA_s, u_n, ni5, ↓aft_of (ek), ↓aft_of (em), ↓aft_of (e2), e1, e7, e11, qp, hd, ↓aft_of (e9), ↓aft_of (e9'), Int32.add_zero]
      | 2, _ =>
        simp +decide only [nl2, if_true] at ek em e9 e9' hd ⊢
        simp +decide only [x162_0, x162_1, x162_2, x162_3, x162_4, x162_5, x162_8, x162_10, x162_12, x162_14, x162_17, x162_18, x162_20, x162_23, x162_25, x162_27, x162_28, x162_31, x162_32, x162_34, x162_35, x162_38, x162_39, x162_42, x162_44, x162_45, x162_48, x162_49, x162_52, x162_53, x162_55, x162_57, x162_58, x162_60, x162_61, x162_64, x162_67, x162_69, x162_72, x162_73, x162_76, x162_77, x162_78, x162_81, x162_82, x162_83, x162_85, x162_87, x162_88, x162_91, x162_92, x162_93, x162_94, x162_96, x162_97, x162_98, x162_101, x162_102, x162_105, x162_107, x162_109, x162_112, x162_113, x162_115, x162_116, x162_119, x162_122, x162_123, x162_126, x162_128, x162_129, x162_130, x162_131, x162_134, x162_136, x162_137, x162_138, x162_140, x162_143, x162_144, x162_147, x162_148, x162_149, x162_150, x162_151, x162_154, x162_156, x162_157, x162_158, x162_160, x162_161, x162_164, x162_165, x162_168, x162_169, x162_170, x162_171, x162_172, x162_175, x162_177, x162_178, x162_179, x162_180, x162_181, x162_182, x162_183, x162_186, x162_188, x162_189, x162_190, x162_192, x162_193, x162_194, x162_195, x162_197, x162_199, x162_201, x162_202, x162_203, x162_205, x162_207, x162_209, x162_210, x162_213, x162_214, x162_215, x162_219, x162_222, x162_224, x162_227, x162_228, aft_some, aft_void, Option.bind_some, Option.toList_some, Option.toList_none, List.cons_append, List.nil_append, if_true, if_false, ↓reduceIte, eq_self, z366_o, ↓z366_0, ↓z366_0p, ↓z366_1, ↓z366_2, ↓z366_3, ↓z366_4, ↓z366_4p, ↓z366_5, ↓z366_6, ↓z366_6p0, ↓z366_6p1, ↓z366_7, ↓z366_8, ↓z366_8p, ↓z366_9, ↓z366_9p, ↓z366_10, ↓z366_10p0, ↓z366_10p1, ↓z366_11, ↓z366_12, ↓z366_12p, ↓sg0, ↓sg1, ↓sg2, ↓sg3, ↓sg4, ↓sg5, ↓sg6, ↓sg7, ↓sg8, ↓sg9, ↓sg10, ↓sg11, ↓sg12, ↓sg13, ↓sg14, ↓sg15, ↓sg16, ↓sg17, ↓ss0, ↓ss1, ↓ss2, ↓ss3, ↓ss4, ↓ss5, ↓ss6, ↓ss7, ↓ss8, ↓ss9, ↓ss10, ↓ss11, ↓ss12, ↓ss13, ↓ss14, ↓ss15, ↓ss16, ↓ss17, upA_s, u_n, ni5, ↓aft_of (ek), ↓aft_of (em), ↓aft_of (e2), e1, e7, e11, hd, ↓aft_of (e9), ↓aft_of (e9'), Int32.add_zero]
      | 3, _ =>
        simp +decide only [nl3, if_false] at ek em e9 e9' hd ⊢
        simp +decide only [x162_0, x162_1, x162_2, x162_3, x162_4, x162_5, x162_8, x162_10, x162_12, x162_14, x162_17, x162_18, x162_20, x162_23, x162_25, x162_27, x162_28, x162_31, x162_32, x162_34, x162_35, x162_38, x162_39, x162_42, x162_44, x162_45, x162_48, x162_49, x162_52, x162_53, x162_55, x162_57, x162_58, x162_60, x162_61, x162_64, x162_67, x162_69, x162_72, x162_73, x162_76, x162_77, x162_78, x162_81, x162_82, x162_83, x162_85, x162_87, x162_88, x162_91, x162_92, x162_93, x162_94, x162_96, x162_97, x162_98, x162_101, x162_102, x162_105, x162_107, x162_109, x162_112, x162_113, x162_115, x162_116, x162_119, x162_122, x162_123, x162_126, x162_128, x162_129, x162_130, x162_131, x162_134, x162_136, x162_137, x162_138, x162_140, x162_143, x162_144, x162_147, x162_148, x162_149, x162_150, x162_151, x162_154, x162_156, x162_157, x162_158, x162_160, x162_161, x162_164, x162_165, x162_168, x162_169, x162_170, x162_171, x162_172, x162_175, x162_177, x162_178, x162_179, x162_180, x162_181, x162_182, x162_183, x162_186, x162_188, x162_189, x162_190, x162_192, x162_193, x162_194, x162_195, x162_197, x162_199, x162_201, x162_202, x162_203, x162_205, x162_207, x162_209, x162_210, x162_213, x162_214, x162_215, x162_219, x162_222, x162_224, x162_227, x162_228, aft_some, aft_void, Option.bind_some, Option.toList_some, Option.toList_none, List.cons_append, List.nil_append, if_true, if_false, ↓reduceIte, eq_self, z366_o, ↓z366_0, ↓z366_0p, ↓z366_1, ↓z366_2, ↓z366_3, ↓z366_4, ↓z366_4p, ↓z366_5, ↓z366_6, ↓z366_6p0, ↓z366_6p1, ↓z366_7, ↓z366_8, ↓z366_8p, ↓z366_9, ↓z366_9p, ↓z366_10, ↓z366_10p0, ↓z366_10p1, ↓z366_11, ↓z366_12, ↓z366_12p, ↓sg0, ↓sg1, ↓sg2, ↓sg3, ↓sg4, ↓sg5, ↓sg6, ↓sg7, ↓sg8, ↓sg9, ↓sg10, ↓sg11, ↓sg12, ↓sg13, ↓sg14, ↓sg15, ↓sg16, ↓sg17, ↓ss0, ↓ss1, ↓ss2, ↓ss3, ↓ss4, ↓ss5, ↓ss6, ↓ss7, ↓ss8, ↓ss9, ↓ss10, ↓ss11, ↓ss12, ↓ss13, ↓ss14, ↓ss15, ↓ss16, ↓ss17, upA_s, u_n, ni5, ↓aft_of (ek), ↓aft_of (em), ↓aft_of (e2), e1, e7, e11, hd, ↓aft_of (e9), ↓aft_of (e9'), Int32.add_zero, Int32.sub_zero]
  rw [hg] at key
  exact ⟨_, _, _, _, key, hs⟩
/-- pieces that are open -/
def opN (b : kT) : Nat := (opK b 0).toNatClampNeg + (opK b 1).toNatClampNeg + (opK b 2).toNatClampNeg + (opK b 3).toNatClampNeg
def opL : List kT → Nat
  | [] => 0
  | b :: K => opN b + opL K
theorem opL_set {b c : kT} : ∀ {K : List kT} {i : Nat}, K[i]? = some b → opL (K.set i c) + opN b = opL K + opN c
  | [], i, h => by simp at h
  | x :: K, 0, h => by
    simp only [List.getElem?_cons_zero, Option.some.injEq] at h
    subst h
    simp only [List.set_cons_zero, opL]; omega
  | x :: K, i + 1, h => by
    rw [List.getElem?_cons_succ] at h
    have := opL_set (c := c) h
    simp only [List.set_cons_succ, opL]; omega
theorem opL_le {n : Nat} : ∀ {K : List kT}, (∀ b ∈ K, opN b ≤ n) → opL K ≤ n * K.length
  | [], _ => Nat.le_refl _
  | b :: K, h => by
    have := opL_le (K := K) (fun b hb => h b (List.mem_cons_of_mem _ hb))
    have := h b List.mem_cons_self
    simp only [opL, List.length_cons, Nat.mul_add]; omega
theorem op_nI {b : kT} {k : Nat} (h : ∃ x y z, x ≤ 9 ∧ y + z ≤ x ∧ b 1 k = nI x ∧ b 2 k = nI y ∧ b 3 k = nI z) : ∃ w, w ≤ 9 ∧ opK b k = nI w := by
  obtain ⟨x, y, z, h1, h2, e1, e2, e3⟩ := h
  refine ⟨x - y - z, by omega, ?_⟩
  unfold opK
  rw [e1, e2, e3, nI_sub (by omega), nI_sub (by omega)]
theorem WF.op (hw : WF N V K B) : opL K ≤ 288 := by
  have h8 := hw.1.2.2.2.1
  have : opL K ≤ 36 * K.length := opL_le (fun b hb => by
    obtain ⟨i, hi⟩ := List.getElem?_of_mem hb
    have h4 := (hw.2.2.2.1 i b hi).2.2.2.2
    obtain ⟨a0, b0, c0⟩ := op_nI (h4 0 (by decide))
    obtain ⟨a1, b1, c1⟩ := op_nI (h4 1 (by decide))
    obtain ⟨a2, b2, c2⟩ := op_nI (h4 2 (by decide))
    obtain ⟨a3, b3, c3⟩ := op_nI (h4 3 (by decide))
    unfold opN
    rw [c0, c1, c2, c3, nI_clamp (by omega), nI_clamp (by omega), nI_clamp (by omega), nI_clamp (by omega)]
    omega)
  omega
theorem opN_in {b : kT} {k : Nat} (hk : k < 4) (h4 : ∀ k, k < 4 → ∃ x y z, x ≤ 9 ∧ y + z ≤ x ∧ b 1 k = nI x ∧ b 2 k = nI y ∧ b 3 k = nI z) (ho : 0 < opK b k) : opN (inB b k) + 1 = opN b := by
  have hn : ∀ j, j ≠ k → opK (inB b k) j = opK b j := fun j hj => by
    unfold opK inB
    rw [upA_n _ _ (show 1 ≠ 2 by decide), upA_s, upA_n _ _ (show 3 ≠ 2 by decide), upA_n _ _ hj]
  have hs : (opK (inB b k) k).toNatClampNeg + 1 = (opK b k).toNatClampNeg := by
    obtain ⟨w, hw, e⟩ := op_nI (h4 k hk)
    have e2 : opK (inB b k) k = opK b k - 1 := by
      unfold opK inB
      rw [upA_n _ _ (show 1 ≠ 2 by decide), upA_s, upA_n _ _ (show 3 ≠ 2 by decide), upA_s]
      grind
    rw [e, nI_posn (by omega)] at ho
    rw [e2, e, nI_clamp (by omega), show (1 : Int32) = nI 1 from rfl, nI_sub (by omega), nI_clamp (by omega)]
    omega
  unfold opN
  match k, hk with
  | 0, _ => rw [hn 1 (by decide), hn 2 (by decide), hn 3 (by decide)]; omega
  | 1, _ => rw [hn 0 (by decide), hn 2 (by decide), hn 3 (by decide)]; omega
  | 2, _ => rw [hn 0 (by decide), hn 1 (by decide), hn 3 (by decide)]; omega
  | 3, _ => rw [hn 0 (by decide), hn 1 (by decide), hn 2 (by decide)]; omega
theorem r_irons (h : sR f N V K B R) (hw : WF N V K B) : ∃ f', X 162 0 [.ref 366, .int m, .long 0, .long 0, .long 0, .long 0, .long 0, .long 0] [] (H (upA T 367 f) P) = some (some (.int (nI (irS N 288 V K m).1)), H (upA T 367 f') P) ∧ sR f' N (irS N 288 V K m).2.1 (irS N 288 V K m).2.2 B R ∧ WF N (irS N 288 V K m).2.1 (irS N 288 V K m).2.2 B := by
  have key : ∀ (n d : Nat) (f : Nat → Int32) (V : Nat → Nat → Int32) (K : List kT) (left : Int32) (w5 w6 w7 : Value), opL K ≤ n → sR f N V K B R → WF N V K B → ∃ f', X 162 10 [.ref 366, .int m, .int left, .int (nI d), .int (match nxS (fun i => irK V (gK K i)) (fun i => tnK N V (gK K i)) K.length with
      | some i => nI i
      | none => -5), w5, w6, w7] [] (H (upA T 367 f) P) = some (some (.int (nI (d + (irS N n V K left).1))), H (upA T 367 f') P) ∧ sR f' N (irS N n V K left).2.1 (irS N n V K left).2.2 B R ∧ WF N (irS N n V K left).2.1 (irS N n V K left).2.2 B := by
    intro n
    induction n with
    | zero =>
      intro d f V K left w5 w6 w7 hn h hw
      have hq : nxS (fun i => irK V (gK K i)) (fun i => tnK N V (gK K i)) K.length = none := by
        cases hq : nxS (fun i => irK V (gK K i)) (fun i => tnK N V (gK K i)) K.length with
        | none => rfl
        | some i =>
          obtain ⟨hi, hir⟩ := nxS_ok hq
          obtain ⟨k, hk, hlk, hop, -⟩ := ir_kind hir
          have h1 := opN_in hk (hw.2.2.2.1 i _ (gK_at hi)).2.2.2.2 hop
          have h2 := opL_set (c := inB (gK K i) k) (gK_at hi)
          omega
      rw [hq]
      refine ⟨f, ?_, h, hw⟩
      rw [x162_10]
      simp +decide only [x162_0, x162_1, x162_2, x162_3, x162_4, x162_5, x162_8, x162_12, x162_14, x162_17, x162_18, x162_20, x162_23, x162_25, x162_27, x162_28, x162_31, x162_32, x162_34, x162_35, x162_38, x162_39, x162_42, x162_44, x162_45, x162_48, x162_49, x162_52, x162_53, x162_55, x162_57, x162_58, x162_60, x162_61, x162_64, x162_67, x162_69, x162_72, x162_73, x162_76, x162_77, x162_78, x162_81, x162_82, x162_83, x162_85, x162_87, x162_88, x162_91, x162_92, x162_93, x162_94, x162_96, x162_97, x162_98, x162_101, x162_102, x162_105, x162_107, x162_109, x162_112, x162_113, x162_115, x162_116, x162_119, x162_122, x162_123, x162_126, x162_128, x162_129, x162_130, x162_131, x162_134, x162_136, x162_137, x162_138, x162_140, x162_143, x162_144, x162_147, x162_148, x162_149, x162_150, x162_151, x162_154, x162_156, x162_157, x162_158, x162_160, x162_161, x162_164, x162_165, x162_168, x162_169, x162_170, x162_171, x162_172, x162_175, x162_177, x162_178, x162_179, x162_180, x162_181, x162_182, x162_183, x162_186, x162_188, x162_189, x162_190, x162_192, x162_193, x162_194, x162_195, x162_197, x162_199, x162_201, x162_202, x162_203, x162_205, x162_207, x162_209, x162_210, x162_213, x162_214, x162_215, x162_218, x162_219, x162_222, x162_224, x162_227, x162_228, aft_some, aft_void, Option.bind_some, Option.toList_some, Option.toList_none, List.cons_append, List.nil_append, if_true, if_false, ↓reduceIte, eq_self, irS, Nat.add_zero]
    | succ n ih =>
      intro d f V K left w5 w6 w7 hn h hw
      cases hq : nxS (fun i => irK V (gK K i)) (fun i => tnK N V (gK K i)) K.length with
      | none =>
        simp only [irS, hq]
        refine ⟨f, ?_, h, hw⟩
        rw [x162_10]
        simp +decide only [x162_0, x162_1, x162_2, x162_3, x162_4, x162_5, x162_8, x162_12, x162_14, x162_17, x162_18, x162_20, x162_23, x162_25, x162_27, x162_28, x162_31, x162_32, x162_34, x162_35, x162_38, x162_39, x162_42, x162_44, x162_45, x162_48, x162_49, x162_52, x162_53, x162_55, x162_57, x162_58, x162_60, x162_61, x162_64, x162_67, x162_69, x162_72, x162_73, x162_76, x162_77, x162_78, x162_81, x162_82, x162_83, x162_85, x162_87, x162_88, x162_91, x162_92, x162_93, x162_94, x162_96, x162_97, x162_98, x162_101, x162_102, x162_105, x162_107, x162_109, x162_112, x162_113, x162_115, x162_116, x162_119, x162_122, x162_123, x162_126, x162_128, x162_129, x162_130, x162_131, x162_134, x162_136, x162_137, x162_138, x162_140, x162_143, x162_144, x162_147, x162_148, x162_149, x162_150, x162_151, x162_154, x162_156, x162_157, x162_158, x162_160, x162_161, x162_164, x162_165, x162_168, x162_169, x162_170, x162_171, x162_172, x162_175, x162_177, x162_178, x162_179, x162_180, x162_181, x162_182, x162_183, x162_186, x162_188, x162_189, x162_190, x162_192, x162_193, x162_194, x162_195, x162_197, x162_199, x162_201, x162_202, x162_203, x162_205, x162_207, x162_209, x162_210, x162_213, x162_214, x162_215, x162_218, x162_219, x162_222, x162_224, x162_227, x162_228, aft_some, aft_void, Option.bind_some, Option.toList_some, Option.toList_none, List.cons_append, List.nil_append, if_true, if_false, ↓reduceIte, eq_self, Nat.add_zero]
      | some i =>
        obtain ⟨hi, hir⟩ := nxS_ok hq
        obtain ⟨k, hk, hlk, hop, -⟩ := ir_kind hir
        have hkd : kdN V (gK K i) = k := by unfold kdN; rw [hlk, nI_clamp (by omega)]
        have h8 := hw.1.2.2.2.1
        simp only [irS, hq, hkd]
        by_cases hl : left < ndI V (gK K i) k
        · simp only [hl, if_true]
          refine ⟨f, ?_, h, hw⟩
          have hb := h.2.2.2.1 i hi
          have e7 : f 7 = V 0 1 := h.1.2.1.2.2.2
          have e11 : f 11 = V 48 0 := h.1.2.2.2.1 0 (by decide)
          have e1 : f 1 = V 1 1 := h.1.1 1 (by decide)
          have ek := r_kindNow (T := T) (P := P) hb (show i < 8 by omega)
          rw [e7, show lkK (gK K i) (if 0 < V 0 1 then 1 else 0) = nI k from hlk] at ek
          have em := r_minutesOf (h0 := H (upA T 367 f) P) (x := gK K i 0 3) hk
          have e2 := r_of (T := T) (P := P) (f := f) (i := i) (w := 2) (y := 2) rfl (show i < 8 by omega) (by decide)
          rw [hb.1.2.2.1] at e2
          have ni5 : (nI i = -5) = False := nI_ne5 (by omega)
          rw [x162_10]
          rcases sb_or V (gK K i) k with ⟨q1, q2, q3⟩ | ⟨q1, q2, q3⟩
          · have qk : k < 2 := q1.1
            have qp : (gK K i 0 3 = V 48 0) = False := eq_false q1.2
            rw [q3] at hl
            match k, qk with
            | 0, _ =>
              simp +decide only [nl0] at ek em hl
              simp +decide only [x162_0, x162_1, x162_2, x162_3, x162_4, x162_5, x162_8, x162_12, x162_14, x162_17, x162_18, x162_20, x162_23, x162_25, x162_27, x162_28, x162_31, x162_32, x162_34, x162_35, x162_38, x162_39, x162_42, x162_44, x162_45, x162_48, x162_49, x162_52, x162_53, x162_55, x162_57, x162_58, x162_60, x162_61, x162_64, x162_67, x162_69, x162_72, x162_73, x162_76, x162_77, x162_78, x162_81, x162_82, x162_83, x162_85, x162_87, x162_88, x162_91, x162_92, x162_93, x162_94, x162_96, x162_97, x162_98, x162_101, x162_102, x162_105, x162_107, x162_109, x162_112, x162_113, x162_115, x162_116, x162_119, x162_122, x162_123, x162_126, x162_128, x162_129, x162_130, x162_131, x162_134, x162_136, x162_137, x162_138, x162_140, x162_143, x162_144, x162_147, x162_148, x162_149, x162_150, x162_151, x162_154, x162_156, x162_157, x162_158, x162_160, x162_161, x162_164, x162_165, x162_168, x162_169, x162_170, x162_171, x162_172, x162_175, x162_177, x162_178, x162_179, x162_180, x162_181, x162_182, x162_183, x162_186, x162_188, x162_189, x162_190, x162_192, x162_193, x162_194, x162_195, x162_197, x162_199, x162_201, x162_202, x162_203, x162_205, x162_207, x162_209, x162_210, x162_213, x162_214, x162_215, x162_218, x162_219, x162_222, x162_224, x162_227, x162_228, aft_some, aft_void, Option.bind_some, Option.toList_some, Option.toList_none, List.cons_append, List.nil_append, if_true, if_false, ↓reduceIte, eq_self, z366_o, ↓z366_0, ↓z366_0p, ↓z366_1, ↓z366_2, ↓z366_3, ↓z366_4, ↓z366_4p, ↓z366_5, ↓z366_6, ↓z366_6p0, ↓z366_6p1, ↓z366_7, ↓z366_8, ↓z366_8p, ↓z366_9, ↓z366_9p, ↓z366_10, ↓z366_10p0, ↓z366_10p1, ↓z366_11, ↓z366_12, ↓z366_12p, ↓sg0, ↓sg1, ↓sg2, ↓sg3, ↓sg4, ↓sg5, ↓sg6, ↓sg7, ↓sg8, ↓sg9, ↓sg10, ↓sg11, ↓sg12, ↓sg13, ↓sg14, ↓sg15, ↓sg16, ↓sg17, ↓ss0, ↓ss1, ↓ss2, ↓ss3, ↓ss4, ↓ss5, ↓ss6, ↓ss7, ↓ss8, ↓ss9, ↓ss10, ↓ss11, ↓ss12, ↓ss13, ↓ss14, ↓ss15, ↓ss16, ↓ss17, ni5, ↓aft_of (ek), ↓aft_of (em), ↓aft_of (e2), e1, e7, e11, qp, hl, Nat.add_zero]
            | 1, _ =>
              simp +decide only [nl1] at ek em hl
              simp +decide only [x162_0, x162_1, x162_2, x162_3, x162_4, x162_5, x162_8, x162_12, x162_14, x162_17, x162_18, x162_20, x162_23, x162_25, x162_27, x162_28, x162_31, x162_32, x162_34, x162_35, x162_38, x162_39, x162_42, x162_44, x162_45, x162_48, x162_49, x162_52, x162_53, x162_55, x162_57, x162_58, x162_60, x162_61, x162_64, x162_67, x162_69, x162_72, x162_73, x162_76, x162_77, x162_78, x162_81, x162_82, x162_83, x162_85, x162_87, x162_88, x162_91, x162_92, x162_93, x162_94, x162_96, x162_97, x162_98, x162_101, x162_102, x162_105, x162_107, x162_109, x162_112, x162_113, x162_115, x162_116, x162_119, x162_122, x162_123, x162_126, x162_128, x162_129, x162_130, x162_131, x162_134, x162_136, x162_137, x162_138, x162_140, x162_143, x162_144, x162_147, x162_148, x162_149, x162_150, x162_151, x162_154, x162_156, x162_157, x162_158, x162_160, x162_161, x162_164, x162_165, x162_168, x162_169, x162_170, x162_171, x162_172, x162_175, x162_177, x162_178, x162_179, x162_180, x162_181, x162_182, x162_183, x162_186, x162_188, x162_189, x162_190, x162_192, x162_193, x162_194, x162_195, x162_197, x162_199, x162_201, x162_202, x162_203, x162_205, x162_207, x162_209, x162_210, x162_213, x162_214, x162_215, x162_218, x162_219, x162_222, x162_224, x162_227, x162_228, aft_some, aft_void, Option.bind_some, Option.toList_some, Option.toList_none, List.cons_append, List.nil_append, if_true, if_false, ↓reduceIte, eq_self, z366_o, ↓z366_0, ↓z366_0p, ↓z366_1, ↓z366_2, ↓z366_3, ↓z366_4, ↓z366_4p, ↓z366_5, ↓z366_6, ↓z366_6p0, ↓z366_6p1, ↓z366_7, ↓z366_8, ↓z366_8p, ↓z366_9, ↓z366_9p, ↓z366_10, ↓z366_10p0, ↓z366_10p1, ↓z366_11, ↓z366_12, ↓z366_12p, ↓sg0, ↓sg1, ↓sg2, ↓sg3, ↓sg4, ↓sg5, ↓sg6, ↓sg7, ↓sg8, ↓sg9, ↓sg10, ↓sg11, ↓sg12, ↓sg13, ↓sg14, ↓sg15, ↓sg16, ↓sg17, ↓ss0, ↓ss1, ↓ss2, ↓ss3, ↓ss4, ↓ss5, ↓ss6, ↓ss7, ↓ss8, ↓ss9, ↓ss10, ↓ss11, ↓ss12, ↓ss13, ↓ss14, ↓ss15, ↓ss16, ↓ss17, ni5, ↓aft_of (ek), ↓aft_of (em), ↓aft_of (e2), e1, e7, e11, qp, hl, Nat.add_zero]
          · rw [q3, Int32.add_zero] at hl
            match k, hk with
            | 0, _ =>
              have qp : (gK K i 0 3 = V 48 0) = True := eq_true (Classical.not_not.mp (fun q => q1 ⟨by decide, q⟩))
              simp +decide only [nl0] at ek em hl
              simp +decide only [x162_0, x162_1, x162_2, x162_3, x162_4, x162_5, x162_8, x162_12, x162_14, x162_17, x162_18, x162_20, x162_23, x162_25, x162_27, x162_28, x162_31, x162_32, x162_34, x162_35, x162_38, x162_39, x162_42, x162_44, x162_45, x162_48, x162_49, x162_52, x162_53, x162_55, x162_57, x162_58, x162_60, x162_61, x162_64, x162_67, x162_69, x162_72, x162_73, x162_76, x162_77, x162_78, x162_81, x162_82, x162_83, x162_85, x162_87, x162_88, x162_91, x162_92, x162_93, x162_94, x162_96, x162_97, x162_98, x162_101, x162_102, x162_105, x162_107, x162_109, x162_112, x162_113, x162_115, x162_116, x162_119, x162_122, x162_123, x162_126, x162_128, x162_129, x162_130, x162_131, x162_134, x162_136, x162_137, x162_138, x162_140, x162_143, x162_144, x162_147, x162_148, x162_149, x162_150, x162_151, x162_154, x162_156, x162_157, x162_158, x162_160, x162_161, x162_164, x162_165, x162_168, x162_169, x162_170, x162_171, x162_172, x162_175, x162_177, x162_178, x162_179, x162_180, x162_181, x162_182, x162_183, x162_186, x162_188, x162_189, x162_190, x162_192, x162_193, x162_194, x162_195, x162_197, x162_199, x162_201, x162_202, x162_203, x162_205, x162_207, x162_209, x162_210, x162_213, x162_214, x162_215, x162_218, x162_219, x162_222, x162_224, x162_227, x162_228, aft_some, aft_void, Option.bind_some, Option.toList_some, Option.toList_none, List.cons_append, List.nil_append, if_true, if_false, ↓reduceIte, eq_self, z366_o, ↓z366_0, ↓z366_0p, ↓z366_1, ↓z366_2, ↓z366_3, ↓z366_4, ↓z366_4p, ↓z366_5, ↓z366_6, ↓z366_6p0, ↓z366_6p1, ↓z366_7, ↓z366_8, ↓z366_8p, ↓z366_9, ↓z366_9p, ↓z366_10, ↓z366_10p0, ↓z366_10p1, ↓z366_11, ↓z366_12, ↓z366_12p, ↓sg0, ↓sg1, ↓sg2, ↓sg3, ↓sg4, ↓sg5, ↓sg6, ↓sg7, ↓sg8, ↓sg9, ↓sg10, ↓sg11, ↓sg12, ↓sg13, ↓sg14, ↓sg15, ↓sg16, ↓sg17, ↓ss0, ↓ss1, ↓ss2, ↓ss3, ↓ss4, ↓ss5, ↓ss6, ↓ss7, ↓ss8, ↓ss9, ↓ss10, ↓ss11, ↓ss12, ↓ss13, ↓ss14, ↓ss15, ↓ss16, ↓ss17, ni5, ↓aft_of (ek), ↓aft_of (em), ↓aft_of (e2), e1, e7, e11, qp, hl, Int32.add_zero, Nat.add_zero]
            | 1, _ =>
              have qp : (gK K i 0 3 = V 48 0) = True := eq_true (Classical.not_not.mp (fun q => q1 ⟨by decide, q⟩))
              simp +decide only [nl1] at ek em hl
              simp +decide only [x162_0, x162_1, x162_2, x162_3, x162_4, x162_5, x162_8, x162_12, x162_14, x162_17, x162_18, x162_20, x162_23, x162_25, x162_27, x162_28, x162_31, x162_32, x162_34, x162_35, x162_38, x162_39, x162_42, x162_44, x162_45, x162_48, x162_49, x162_52, x162_53, x162_55, x162_57, x162_58, x162_60, x162_61, x162_64, x162_67, x162_69, x162_72, x162_73, x162_76, x162_77, x162_78, x162_81, x162_82, x162_83, x162_85, x162_87, x162_88, x162_91, x162_92, x162_93, x162_94, x162_96, x162_97, x162_98, x162_101, x162_102, x162_105, x162_107, x162_109, x162_112, x162_113, x162_115, x162_116, x162_119, x162_122, x162_123, x162_126, x162_128, x162_129, x162_130, x162_131, x162_134, x162_136, x162_137, x162_138, x162_140, x162_143, x162_144, x162_147, x162_148, x162_149, x162_150, x162_151, x162_154, x162_156, x162_157, x162_158, x162_160, x162_161, x162_164, x162_165, x162_168, x162_169, x162_170, x162_171, x162_172, x162_175, x162_177, x162_178, x162_179, x162_180, x162_181, x162_182, x162_183, x162_186, x162_188, x162_189, x162_190, x162_192, x162_193, x162_194, x162_195, x162_197, x162_199, x162_201, x162_202, x162_203, x162_205, x162_207, x162_209, x162_210, x162_213, x162_214, x162_215, x162_218, x162_219, x162_222, x162_224, x162_227, x162_228, aft_some, aft_void, Option.bind_some, Option.toList_some, Option.toList_none, List.cons_append, List.nil_append, if_true, if_false, ↓reduceIte, eq_self, z366_o, ↓z366_0, ↓z366_0p, ↓z366_1, ↓z366_2, ↓z366_3, ↓z366_4, ↓z366_4p, ↓z366_5, ↓z366_6, ↓z366_6p0, ↓z366_6p1, ↓z366_7, ↓z366_8, ↓z366_8p, ↓z366_9, ↓z366_9p, ↓z366_10, ↓z366_10p0, ↓z366_10p1, ↓z366_11, ↓z366_12, ↓z366_12p, ↓sg0, ↓sg1, ↓sg2, ↓sg3, ↓sg4, ↓sg5, ↓sg6, ↓sg7, ↓sg8, ↓sg9, ↓sg10, ↓sg11, ↓sg12, ↓sg13, ↓sg14, ↓sg15, ↓sg16, ↓sg17, ↓ss0, ↓ss1, ↓ss2, ↓ss3, ↓ss4, ↓ss5, ↓ss6, ↓ss7, ↓ss8, ↓ss9, ↓ss10, ↓ss11, ↓ss12, ↓ss13, ↓ss14, ↓ss15, ↓ss16, ↓ss17, ni5, ↓aft_of (ek), ↓aft_of (em), ↓aft_of (e2), e1, e7, e11, qp, hl, Int32.add_zero, Nat.add_zero]
            | 2, _ =>
              simp +decide only [nl2] at ek em hl
              simp +decide only [x162_0, x162_1, x162_2, x162_3, x162_4, x162_5, x162_8, x162_12, x162_14, x162_17, x162_18, x162_20, x162_23, x162_25, x162_27, x162_28, x162_31, x162_32, x162_34, x162_35, x162_38, x162_39, x162_42, x162_44, x162_45, x162_48, x162_49, x162_52, x162_53, x162_55, x162_57, x162_58, x162_60, x162_61, x162_64, x162_67, x162_69, x162_72, x162_73, x162_76, x162_77, x162_78, x162_81, x162_82, x162_83, x162_85, x162_87, x162_88, x162_91, x162_92, x162_93, x162_94, x162_96, x162_97, x162_98, x162_101, x162_102, x162_105, x162_107, x162_109, x162_112, x162_113, x162_115, x162_116, x162_119, x162_122, x162_123, x162_126, x162_128, x162_129, x162_130, x162_131, x162_134, x162_136, x162_137, x162_138, x162_140, x162_143, x162_144, x162_147, x162_148, x162_149, x162_150, x162_151, x162_154, x162_156, x162_157, x162_158, x162_160, x162_161, x162_164, x162_165, x162_168, x162_169, x162_170, x162_171, x162_172, x162_175, x162_177, x162_178, x162_179, x162_180, x162_181, x162_182, x162_183, x162_186, x162_188, x162_189, x162_190, x162_192, x162_193, x162_194, x162_195, x162_197, x162_199, x162_201, x162_202, x162_203, x162_205, x162_207, x162_209, x162_210, x162_213, x162_214, x162_215, x162_218, x162_219, x162_222, x162_224, x162_227, x162_228, aft_some, aft_void, Option.bind_some, Option.toList_some, Option.toList_none, List.cons_append, List.nil_append, if_true, if_false, ↓reduceIte, eq_self, z366_o, ↓z366_0, ↓z366_0p, ↓z366_1, ↓z366_2, ↓z366_3, ↓z366_4, ↓z366_4p, ↓z366_5, ↓z366_6, ↓z366_6p0, ↓z366_6p1, ↓z366_7, ↓z366_8, ↓z366_8p, ↓z366_9, ↓z366_9p, ↓z366_10, ↓z366_10p0, ↓z366_10p1, ↓z366_11, ↓z366_12, ↓z366_12p, ↓sg0, ↓sg1, ↓sg2, ↓sg3, ↓sg4, ↓sg5, ↓sg6, ↓sg7, ↓sg8, ↓sg9, ↓sg10, ↓sg11, ↓sg12, ↓sg13, ↓sg14, ↓sg15, ↓sg16, ↓sg17, ↓ss0, ↓ss1, ↓ss2, ↓ss3, ↓ss4, ↓ss5, ↓ss6, ↓ss7, ↓ss8, ↓ss9, ↓ss10, ↓ss11, ↓ss12, ↓ss13, ↓ss14, ↓ss15, ↓ss16, ↓ss17, ni5, ↓aft_of (ek), ↓aft_of (em), ↓aft_of (e2), e1, e7, e11, hl, Int32.add_zero, Nat.add_zero]
            | 3, _ =>
              simp +decide only [nl3] at ek em hl
              simp +decide only [x162_0, x162_1, x162_2, x162_3, x162_4, x162_5, x162_8, x162_12, x162_14, x162_17, x162_18, x162_20, x162_23, x162_25, x162_27, x162_28, x162_31, x162_32, x162_34, x162_35, x162_38, x162_39, x162_42, x162_44, x162_45, x162_48, x162_49, x162_52, x162_53, x162_55, x162_57, x162_58, x162_60, x162_61, x162_64, x162_67, x162_69, x162_72, x162_73, x162_76, x162_77, x162_78, x162_81, x162_82, x162_83, x162_85, x162_87, x162_88, x162_91, x162_92, x162_93, x162_94, x162_96, x162_97, x162_98, x162_101, x162_102, x162_105, x162_107, x162_109, x162_112, x162_113, x162_115, x162_116, x162_119, x162_122, x162_123, x162_126, x162_128, x162_129, x162_130, x162_131, x162_134, x162_136, x162_137, x162_138, x162_140, x162_143, x162_144, x162_147, x162_148, x162_149, x162_150, x162_151, x162_154, x162_156, x162_157, x162_158, x162_160, x162_161, x162_164, x162_165, x162_168, x162_169, x162_170, x162_171, x162_172, x162_175, x162_177, x162_178, x162_179, x162_180, x162_181, x162_182, x162_183, x162_186, x162_188, x162_189, x162_190, x162_192, x162_193, x162_194, x162_195, x162_197, x162_199, x162_201, x162_202, x162_203, x162_205, x162_207, x162_209, x162_210, x162_213, x162_214, x162_215, x162_218, x162_219, x162_222, x162_224, x162_227, x162_228, aft_some, aft_void, Option.bind_some, Option.toList_some, Option.toList_none, List.cons_append, List.nil_append, if_true, if_false, ↓reduceIte, eq_self, z366_o, ↓z366_0, ↓z366_0p, ↓z366_1, ↓z366_2, ↓z366_3, ↓z366_4, ↓z366_4p, ↓z366_5, ↓z366_6, ↓z366_6p0, ↓z366_6p1, ↓z366_7, ↓z366_8, ↓z366_8p, ↓z366_9, ↓z366_9p, ↓z366_10, ↓z366_10p0, ↓z366_10p1, ↓z366_11, ↓z366_12, ↓z366_12p, ↓sg0, ↓sg1, ↓sg2, ↓sg3, ↓sg4, ↓sg5, ↓sg6, ↓sg7, ↓sg8, ↓sg9, ↓sg10, ↓sg11, ↓sg12, ↓sg13, ↓sg14, ↓sg15, ↓sg16, ↓sg17, ↓ss0, ↓ss1, ↓ss2, ↓ss3, ↓ss4, ↓ss5, ↓ss6, ↓ss7, ↓ss8, ↓ss9, ↓ss10, ↓ss11, ↓ss12, ↓ss13, ↓ss14, ↓ss15, ↓ss16, ↓ss17, ni5, ↓aft_of (ek), ↓aft_of (em), ↓aft_of (e2), e1, e7, e11, hl, Int32.add_zero, Nat.add_zero]
        · obtain ⟨g, v5, v6, v7, e1, h1⟩ := r_ironBody (T := T) (P := P) (m := m) (cnt := nI d) (w5 := w5) (w6 := w6) (w7 := w7) h hw hi hk hlk hl
          have hw1 := WF_iron hw (gK_at hi) hk hop
          have hop1 := opN_in hk (hw.2.2.2.1 i _ (gK_at hi)).2.2.2.2 hop
          have hop2 := opL_set (c := inB (gK K i) k) (gK_at hi)
          have en := r_nextBasket (T := T) (P := P) h1 hw1
          simp only [hl, if_false]
          obtain ⟨f', e2, h2, w2⟩ := ih (d + 1) g _ _ (left - ndI V (gK K i) k) v5 v6 v7 (by omega) h1 hw1
          refine ⟨f', ?_, h2, w2⟩
          rw [show d + ((irS N n (inV V (gK K i) k) (K.set i (inB (gK K i) k)) (left - ndI V (gK K i) k)).1 + 1) = d + 1 + (irS N n (inV V (gK K i) k) (K.set i (inB (gK K i) k)) (left - ndI V (gK K i) k)).1 by omega, ← e2]
          show X 162 10 [.ref 366, .int m, .int left, .int (nI d), .int (nI i), w5, w6, w7] [] (H (upA T 367 f) P) = _
          rw [e1]
          simp +decide only [x162_0, x162_1, x162_2, x162_3, x162_4, x162_5, x162_8, x162_12, x162_14, x162_17, x162_18, x162_20, x162_23, x162_25, x162_27, x162_28, x162_31, x162_32, x162_34, x162_35, x162_38, x162_39, x162_42, x162_44, x162_45, x162_48, x162_49, x162_52, x162_53, x162_55, x162_57, x162_58, x162_60, x162_61, x162_64, x162_67, x162_69, x162_72, x162_73, x162_76, x162_77, x162_78, x162_81, x162_82, x162_83, x162_85, x162_87, x162_88, x162_91, x162_92, x162_93, x162_94, x162_96, x162_97, x162_98, x162_101, x162_102, x162_105, x162_107, x162_109, x162_112, x162_113, x162_115, x162_116, x162_119, x162_122, x162_123, x162_126, x162_128, x162_129, x162_130, x162_131, x162_134, x162_136, x162_137, x162_138, x162_140, x162_143, x162_144, x162_147, x162_148, x162_149, x162_150, x162_151, x162_154, x162_156, x162_157, x162_158, x162_160, x162_161, x162_164, x162_165, x162_168, x162_169, x162_170, x162_171, x162_172, x162_175, x162_177, x162_178, x162_179, x162_180, x162_181, x162_182, x162_183, x162_186, x162_188, x162_189, x162_190, x162_192, x162_193, x162_194, x162_195, x162_197, x162_199, x162_201, x162_202, x162_203, x162_205, x162_207, x162_209, x162_210, x162_213, x162_214, x162_215, x162_218, x162_219, x162_222, x162_224, x162_227, x162_228, aft_some, aft_void, Option.bind_some, Option.toList_some, Option.toList_none, List.cons_append, List.nil_append, if_true, if_false, ↓reduceIte, eq_self, z366_o, ↓z366_0, ↓z366_0p, ↓z366_1, ↓z366_2, ↓z366_3, ↓z366_4, ↓z366_4p, ↓z366_5, ↓z366_6, ↓z366_6p0, ↓z366_6p1, ↓z366_7, ↓z366_8, ↓z366_8p, ↓z366_9, ↓z366_9p, ↓z366_10, ↓z366_10p0, ↓z366_10p1, ↓z366_11, ↓z366_12, ↓z366_12p, ↓sg0, ↓sg1, ↓sg2, ↓sg3, ↓sg4, ↓sg5, ↓sg6, ↓sg7, ↓sg8, ↓sg9, ↓sg10, ↓sg11, ↓sg12, ↓sg13, ↓sg14, ↓sg15, ↓sg16, ↓sg17, ↓ss0, ↓ss1, ↓ss2, ↓ss3, ↓ss4, ↓ss5, ↓ss6, ↓ss7, ↓ss8, ↓ss9, ↓ss10, ↓ss11, ↓ss12, ↓ss13, ↓ss14, ↓ss15, ↓ss16, ↓ss17, ↓aft_of (en), nI_1]
          try rfl
  have e0 := r_nextBasket (T := T) (P := P) h hw
  obtain ⟨f', e, r⟩ := key 288 0 f V K m (.long 0) (.long 0) (.long 0) hw.op h hw
  refine ⟨f', ?_, r⟩
  rw [Nat.zero_add] at e
  simp +decide only [x162_0, x162_1, x162_2, x162_3, x162_4, x162_5, x162_8, x162_12, x162_14, x162_17, x162_18, x162_20, x162_23, x162_25, x162_27, x162_28, x162_31, x162_32, x162_34, x162_35, x162_38, x162_39, x162_42, x162_44, x162_45, x162_48, x162_49, x162_52, x162_53, x162_55, x162_57, x162_58, x162_60, x162_61, x162_64, x162_67, x162_69, x162_72, x162_73, x162_76, x162_77, x162_78, x162_81, x162_82, x162_83, x162_85, x162_87, x162_88, x162_91, x162_92, x162_93, x162_94, x162_96, x162_97, x162_98, x162_101, x162_102, x162_105, x162_107, x162_109, x162_112, x162_113, x162_115, x162_116, x162_119, x162_122, x162_123, x162_126, x162_128, x162_129, x162_130, x162_131, x162_134, x162_136, x162_137, x162_138, x162_140, x162_143, x162_144, x162_147, x162_148, x162_149, x162_150, x162_151, x162_154, x162_156, x162_157, x162_158, x162_160, x162_161, x162_164, x162_165, x162_168, x162_169, x162_170, x162_171, x162_172, x162_175, x162_177, x162_178, x162_179, x162_180, x162_181, x162_182, x162_183, x162_186, x162_188, x162_189, x162_190, x162_192, x162_193, x162_194, x162_195, x162_197, x162_199, x162_201, x162_202, x162_203, x162_205, x162_207, x162_209, x162_210, x162_213, x162_214, x162_215, x162_218, x162_219, x162_222, x162_224, x162_227, x162_228, aft_some, aft_void, Option.bind_some, Option.toList_some, Option.toList_none, List.cons_append, List.nil_append, if_true, if_false, ↓reduceIte, eq_self, z366_o, ↓z366_0, ↓z366_0p, ↓z366_1, ↓z366_2, ↓z366_3, ↓z366_4, ↓z366_4p, ↓z366_5, ↓z366_6, ↓z366_6p0, ↓z366_6p1, ↓z366_7, ↓z366_8, ↓z366_8p, ↓z366_9, ↓z366_9p, ↓z366_10, ↓z366_10p0, ↓z366_10p1, ↓z366_11, ↓z366_12, ↓z366_12p, ↓sg0, ↓sg1, ↓sg2, ↓sg3, ↓sg4, ↓sg5, ↓sg6, ↓sg7, ↓sg8, ↓sg9, ↓sg10, ↓sg11, ↓sg12, ↓sg13, ↓sg14, ↓sg15, ↓sg16, ↓sg17, ↓ss0, ↓ss1, ↓ss2, ↓ss3, ↓ss4, ↓ss5, ↓ss6, ↓ss7, ↓ss8, ↓ss9, ↓ss10, ↓ss11, ↓ss12, ↓ss13, ↓ss14, ↓ss15, ↓ss16, ↓ss17, ↓aft_of (e0)]
  exact e
end IR
end
section
/-! the reference's pins, book, refusals -/
theorem fp_spec {u : Int32} {p : Nat} (hp : p < 8) (h : fpI u = nI p) : (∀ j, j < p → ¬ u >>> (nI j &&& 31) &&& 1 = 0) ∧ u >>> (nI p &&& 31) &&& 1 = 0 := by
  have e : fpI u = if u >>> (nI 0 &&& 31) &&& 1 = 0 then nI 0 else if u >>> (nI 1 &&& 31) &&& 1 = 0 then nI 1 else if u >>> (nI 2 &&& 31) &&& 1 = 0 then nI 2 else if u >>> (nI 3 &&& 31) &&& 1 = 0 then nI 3 else if u >>> (nI 4 &&& 31) &&& 1 = 0 then nI 4 else if u >>> (nI 5 &&& 31) &&& 1 = 0 then nI 5 else if u >>> (nI 6 &&& 31) &&& 1 = 0 then nI 6 else if u >>> (nI 7 &&& 31) &&& 1 = 0 then nI 7 else nI 8 := rfl
  rw [e] at h
  have inj : ∀ q : Nat, q ≤ 8 → nI q = nI p → q = p := fun q hq hh => by rwa [nI_inj (by omega) (by omega)] at hh
  by_cases h0 : u >>> (nI 0 &&& 31) &&& 1 = 0
  · rw [if_pos h0] at h
    obtain rfl := inj 0 (by omega) h
    exact ⟨fun j hj => by omega, h0⟩
  rw [if_neg h0] at h
  by_cases h1 : u >>> (nI 1 &&& 31) &&& 1 = 0
  · rw [if_pos h1] at h
    obtain rfl := inj 1 (by omega) h
    exact ⟨fun j hj => by match j, hj with | 0, _ => exact h0, h1⟩
  rw [if_neg h1] at h
  by_cases h2 : u >>> (nI 2 &&& 31) &&& 1 = 0
  · rw [if_pos h2] at h
    obtain rfl := inj 2 (by omega) h
    exact ⟨fun j hj => by match j, hj with | 0, _ => exact h0 | 1, _ => exact h1, h2⟩
  rw [if_neg h2] at h
  by_cases h3 : u >>> (nI 3 &&& 31) &&& 1 = 0
  · rw [if_pos h3] at h
    obtain rfl := inj 3 (by omega) h
    exact ⟨fun j hj => by match j, hj with | 0, _ => exact h0 | 1, _ => exact h1 | 2, _ => exact h2, h3⟩
  rw [if_neg h3] at h
  by_cases h4 : u >>> (nI 4 &&& 31) &&& 1 = 0
  · rw [if_pos h4] at h
    obtain rfl := inj 4 (by omega) h
    exact ⟨fun j hj => by match j, hj with | 0, _ => exact h0 | 1, _ => exact h1 | 2, _ => exact h2 | 3, _ => exact h3, h4⟩
  rw [if_neg h4] at h
  by_cases h5 : u >>> (nI 5 &&& 31) &&& 1 = 0
  · rw [if_pos h5] at h
    obtain rfl := inj 5 (by omega) h
    exact ⟨fun j hj => by match j, hj with | 0, _ => exact h0 | 1, _ => exact h1 | 2, _ => exact h2 | 3, _ => exact h3 | 4, _ => exact h4, h5⟩
  rw [if_neg h5] at h
  by_cases h6 : u >>> (nI 6 &&& 31) &&& 1 = 0
  · rw [if_pos h6] at h
    obtain rfl := inj 6 (by omega) h
    exact ⟨fun j hj => by match j, hj with | 0, _ => exact h0 | 1, _ => exact h1 | 2, _ => exact h2 | 3, _ => exact h3 | 4, _ => exact h4 | 5, _ => exact h5, h6⟩
  rw [if_neg h6] at h
  by_cases h7 : u >>> (nI 7 &&& 31) &&& 1 = 0
  · rw [if_pos h7] at h
    obtain rfl := inj 7 (by omega) h
    exact ⟨fun j hj => by match j, hj with | 0, _ => exact h0 | 1, _ => exact h1 | 2, _ => exact h2 | 3, _ => exact h3 | 4, _ => exact h4 | 5, _ => exact h5 | 6, _ => exact h6, h7⟩
  rw [if_neg h7] at h
  have := inj 8 (by omega) h
  omega
abbrev bkF (g : Nat → Int32) (m : Nat) (e x y : Int32) : Nat → Int32 := upA (upA (upA (upA (upA g (870 + 4 * m) e) (870 + 4 * m + 1) (g 4)) (870 + 4 * m + 2) x) (870 + 4 * m + 3) y) 17 (nI (m + 1))
section BO
variable {T : Nat → Nat → Int32} {P : Nat → Nat → Nat} {f : Nat → Int32} {N : Nat → Nat} {V : Nat → Nat → Int32} {K : List kT} {B : List bT} {R : Nat → Nat → Int32} {x y z w e : Int32} {n : Nat}
theorem r_freePin (h16 : f 16 = nI K.length) (h8 : K.length < 8) (hK : ∀ i, i < K.length → f (694 + 17 * i + 3) = gK K i 0 2) (hq : ∀ i, i < K.length → ∃ q, q < 8 ∧ gK K i 0 2 = nI q) : X 149 0 [.ref 366, .long 0, .long 0] [] (H (upA T 367 f) P) = some (some (.int (fpI (usI (fun i => gK K i 0 2) K.length))), H (upA T 367 f) P) := by
  have hstep : ∀ i, i < K.length → X 149 4 [.ref 366, .int (usI (fun i => gK K i 0 2) i), .int (nI i)] [] (H (upA T 367 f) P) = X 149 4 [.ref 366, .int (usI (fun i => gK K i 0 2) (i + 1)), .int (nI (i + 1))] [] (H (upA T 367 f) P) := by
    intro i hi
    have e := r_of (T := T) (P := P) (f := f) (i := i) (w := 3) (y := 3) rfl (show i < 8 by omega) (by decide)
    rw [hK i hi] at e
    rw [x149_4]
    simp +decide only [x149_0, x149_1, x149_2, x149_3, x149_5, x149_6, x149_9, x149_11, x149_12, x149_15, x149_16, x149_17, x149_18, x149_19, x149_20, x149_23, x149_24, x149_25, x149_26, x149_29, x149_32, x149_33, x149_35, x149_36, x149_37, x149_38, x149_39, x149_40, x149_43, x149_46, x149_49, x149_50, aft_some, aft_void, Option.bind_some, Option.toList_some, Option.toList_none, List.cons_append, List.nil_append, if_true, if_false, ↓reduceIte, eq_self, z366_o, ↓z366_0, ↓z366_0p, ↓z366_1, ↓z366_2, ↓z366_3, ↓z366_4, ↓z366_4p, ↓z366_5, ↓z366_6, ↓z366_6p0, ↓z366_6p1, ↓z366_7, ↓z366_8, ↓z366_8p, ↓z366_9, ↓z366_9p, ↓z366_10, ↓z366_10p0, ↓z366_10p1, ↓z366_11, ↓z366_12, ↓z366_12p, ↓sg0, ↓sg1, ↓sg2, ↓sg3, ↓sg4, ↓sg5, ↓sg6, ↓sg7, ↓sg8, ↓sg9, ↓sg10, ↓sg11, ↓sg12, ↓sg13, ↓sg14, ↓sg15, ↓sg16, ↓sg17, ↓ss0, ↓ss1, ↓ss2, ↓ss3, ↓ss4, ↓ss5, ↓ss6, ↓ss7, ↓ss8, ↓ss9, ↓ss10, ↓ss11, ↓ss12, ↓ss13, ↓ss14, ↓ss15, ↓ss16, ↓ss17, h16, nI_lt hi (show K.length < 2 ^ 31 by omega), ↓aft_of (e), nI_1, usI]
  simp +decide only [x149_0, x149_1, x149_2, x149_3, x149_5, x149_6, x149_9, x149_11, x149_12, x149_15, x149_16, x149_17, x149_18, x149_19, x149_20, x149_23, x149_24, x149_25, x149_26, x149_29, x149_32, x149_33, x149_35, x149_36, x149_37, x149_38, x149_39, x149_40, x149_43, x149_46, x149_49, x149_50, aft_some, aft_void, Option.bind_some, Option.toList_some, Option.toList_none, List.cons_append, List.nil_append, if_true, if_false, ↓reduceIte, eq_self]
  rw [show X 149 4 [.ref 366, .int 0, .int 0] [] (H (upA T 367 f) P) = _ from loop_up (fun i => X 149 4 [.ref 366, .int (usI (fun i => gK K i 0 2) i), .int (nI i)] [] (H (upA T 367 f) P)) K.length hstep, x149_4]
  obtain ⟨m, hm, em, hpc⟩ := us_small hq
  obtain ⟨p, hp, ep⟩ := fp_small m hm (by omega)
  rw [em, ep]
  obtain ⟨g1, g2⟩ := fp_spec hp ep
  have hs2 : ∀ j, j < p → X 149 34 [.ref 366, .int (nI m), .int (nI j)] [] (H (upA T 367 f) P) = X 149 34 [.ref 366, .int (nI m), .int (nI (j + 1))] [] (H (upA T 367 f) P) := by
    intro j hj
    have e1 : nI m >>> (nI j &&& 31) &&& 1 = 1 := by
      rcases and1 (nI m >>> (nI j &&& 31)) with q | q
      · exact absurd q (g1 j hj)
      · exact q
    rw [x149_34]
    simp +decide only [x149_0, x149_1, x149_2, x149_3, x149_5, x149_6, x149_9, x149_11, x149_12, x149_15, x149_16, x149_17, x149_18, x149_19, x149_20, x149_23, x149_24, x149_25, x149_26, x149_29, x149_32, x149_33, x149_35, x149_36, x149_37, x149_38, x149_39, x149_40, x149_43, x149_46, x149_49, x149_50, aft_some, aft_void, Option.bind_some, Option.toList_some, Option.toList_none, List.cons_append, List.nil_append, if_true, if_false, ↓reduceIte, eq_self, e1, nI_1]
  simp +decide only [x149_0, x149_1, x149_2, x149_3, x149_5, x149_6, x149_9, x149_11, x149_12, x149_15, x149_16, x149_17, x149_18, x149_19, x149_20, x149_23, x149_24, x149_25, x149_26, x149_29, x149_32, x149_33, x149_35, x149_36, x149_37, x149_38, x149_39, x149_40, x149_43, x149_46, x149_49, x149_50, aft_some, aft_void, Option.bind_some, Option.toList_some, Option.toList_none, List.cons_append, List.nil_append, if_true, if_false, ↓reduceIte, eq_self, z366_o, ↓z366_0, ↓z366_0p, ↓z366_1, ↓z366_2, ↓z366_3, ↓z366_4, ↓z366_4p, ↓z366_5, ↓z366_6, ↓z366_6p0, ↓z366_6p1, ↓z366_7, ↓z366_8, ↓z366_8p, ↓z366_9, ↓z366_9p, ↓z366_10, ↓z366_10p0, ↓z366_10p1, ↓z366_11, ↓z366_12, ↓z366_12p, ↓sg0, ↓sg1, ↓sg2, ↓sg3, ↓sg4, ↓sg5, ↓sg6, ↓sg7, ↓sg8, ↓sg9, ↓sg10, ↓sg11, ↓sg12, ↓sg13, ↓sg14, ↓sg15, ↓sg16, ↓sg17, ↓ss0, ↓ss1, ↓ss2, ↓ss3, ↓ss4, ↓ss5, ↓ss6, ↓ss7, ↓ss8, ↓ss9, ↓ss10, ↓ss11, ↓ss12, ↓ss13, ↓ss14, ↓ss15, ↓ss16, ↓ss17, h16, nI_nlt (Nat.le_refl K.length) (show K.length < 2 ^ 31 by omega)]
  rw [show X 149 34 [.ref 366, .int (nI m), .int 0] [] (H (upA T 367 f) P) = _ from loop_up (fun j => X 149 34 [.ref 366, .int (nI m), .int (nI j)] [] (H (upA T 367 f) P)) p hs2, x149_34]
  simp +decide only [x149_0, x149_1, x149_2, x149_3, x149_5, x149_6, x149_9, x149_11, x149_12, x149_15, x149_16, x149_17, x149_18, x149_19, x149_20, x149_23, x149_24, x149_25, x149_26, x149_29, x149_32, x149_33, x149_35, x149_36, x149_37, x149_38, x149_39, x149_40, x149_43, x149_46, x149_49, x149_50, aft_some, aft_void, Option.bind_some, Option.toList_some, Option.toList_none, List.cons_append, List.nil_append, if_true, if_false, ↓reduceIte, eq_self, g2]
/-- an event goes into the book -/
theorem r_books (h17 : f 17 = nI n) (h10 : n ≤ 10) (hJ : sJ f n R) : ∃ f', X 134 0 [.ref 366, .int e, .int x, .int y, .long 0] [] (H (upA T 367 f) P) = some (none, H (upA T 367 f') P) ∧ (∀ a, a ≠ 17 → (a < 870 ∨ 910 ≤ a) → f' a = f a) ∧ f' 17 = nI (min (n + 1) 10) ∧ sJ f' (min (n + 1) 10) (wrB R e (f 4) x y) := by
  have e1 : ∀ m : Nat, m ≤ 9 → 870 + 4 * nI m = nI (870 + 4 * m) := fun m hm => by
    rw [show (870 : Int32) = nI 870 from rfl, show (4 : Int32) = nI 4 from rfl, nI_mul, nI_add]
  have ea : ∀ a b : Nat, nI a + nI b = nI (a + b) := nI_add
  have tail : ∀ (g : Nat → Int32) (m : Nat) (v : Value), m ≤ 9 → g 17 = nI m → X 134 63 [.ref 366, .int e, .int x, .int y, v] [] (H (upA T 367 g) P) = some (none, H (upA T 367 (upA (upA (upA (upA (upA g (870 + 4 * m) e) (870 + 4 * m + 1) (g 4)) (870 + 4 * m + 2) x) (870 + 4 * m + 3) y) 17 (nI (m + 1)))) P) := by
    intro g m v hm hg
    have k1 : nI (870 + 4 * m) + 1 = nI (870 + 4 * m + 1) := nI_add _ 1
    have k2 : nI (870 + 4 * m) + 2 = nI (870 + 4 * m + 2) := nI_add _ 2
    have k3 : nI (870 + 4 * m) + 3 = nI (870 + 4 * m + 3) := nI_add _ 3
    have r4 : upA g (870 + 4 * m) e 4 = g 4 := upA_n _ _ (by omega)
    have r17 : upA (upA (upA (upA g (870 + 4 * m) e) (870 + 4 * m + 1) (g 4)) (870 + 4 * m + 2) x) (870 + 4 * m + 3) y 17 = nI m := by
      rw [upA_n _ _ (by omega), upA_n _ _ (by omega), upA_n _ _ (by omega), upA_n _ _ (by omega)]; exact hg
    have k4 : nI m + 1 = nI (m + 1) := nI_add _ 1
    simp +decide only [x134_0, x134_1, x134_4, x134_6, x134_7, x134_9, x134_12, x134_13, x134_17, x134_19, x134_22, x134_23, x134_26, x134_29, x134_31, x134_32, x134_33, x134_36, x134_39, x134_41, x134_42, x134_43, x134_44, x134_45, x134_46, x134_49, x134_52, x134_53, x134_56, x134_58, x134_59, x134_60, x134_61, x134_62, x134_63, x134_66, x134_67, x134_68, x134_71, x134_73, x134_74, x134_75, x134_76, x134_78, x134_79, x134_82, x134_84, x134_85, x134_86, x134_87, x134_90, x134_92, x134_93, x134_94, x134_95, x134_98, x134_99, x134_100, x134_101, x134_102, x134_105, x134_107, x134_108, x134_109, x134_110, x134_111, x134_112, x134_115, x134_117, x134_118, x134_119, x134_120, x134_121, x134_122, x134_125, x134_127, x134_128, x134_129, x134_130, x134_131, x134_132, aft_some, aft_void, Option.bind_some, Option.toList_some, Option.toList_none, List.cons_append, List.nil_append, if_true, if_false, ↓reduceIte, eq_self, z366_o, ↓z366_0, ↓z366_0p, ↓z366_1, ↓z366_2, ↓z366_3, ↓z366_4, ↓z366_4p, ↓z366_5, ↓z366_6, ↓z366_6p0, ↓z366_6p1, ↓z366_7, ↓z366_8, ↓z366_8p, ↓z366_9, ↓z366_9p, ↓z366_10, ↓z366_10p0, ↓z366_10p1, ↓z366_11, ↓z366_12, ↓z366_12p, ↓sg0, ↓sg1, ↓sg2, ↓sg3, ↓sg4, ↓sg5, ↓sg6, ↓sg7, ↓sg8, ↓sg9, ↓sg10, ↓sg11, ↓sg12, ↓sg13, ↓sg14, ↓sg15, ↓sg16, ↓sg17, ↓ss0, ↓ss1, ↓ss2, ↓ss3, ↓ss4, ↓ss5, ↓ss6, ↓ss7, ↓ss8, ↓ss9, ↓ss10, ↓ss11, ↓ss12, ↓ss13, ↓ss14, ↓ss15, ↓ss16, ↓ss17, hg, e1 m hm, k1, k2, k3, ↓s_s (show 870 + 4 * m < 912 by omega), ↓s_s (show 870 + 4 * m + 1 < 912 by omega), ↓s_s (show 870 + 4 * m + 2 < 912 by omega), ↓s_s (show 870 + 4 * m + 3 < 912 by omega), r4, r17, k4]
  have rd : ∀ (g : Nat → Int32) (m : Nat) (a : Nat) (v : Int32), (a < 870 + 4 * m ∨ 870 + 4 * m + 3 < a) → a ≠ 17 → upA (upA (upA (upA (upA g (870 + 4 * m) e) (870 + 4 * m + 1) (g 4)) (870 + 4 * m + 2) x) (870 + 4 * m + 3) y) 17 v a = g a := by
    intro g m a v h1 h2
    rw [upA_n _ _ h2, upA_n _ _ (by omega), upA_n _ _ (by omega), upA_n _ _ (by omega), upA_n _ _ (by omega)]
  have rw4 : ∀ (g : Nat → Int32) (m : Nat) (v : Int32) (R' : Nat → Nat → Int32), g 4 = f 4 → ∀ k, k < 4 → upA (upA (upA (upA (upA g (870 + 4 * m) e) (870 + 4 * m + 1) (g 4)) (870 + 4 * m + 2) x) (870 + 4 * m + 3) y) 17 v (870 + 4 * m + k) = wrB R' e (f 4) x y 0 k := by
    intro g m v R' h4 k hk
    rw [upA_n _ _ (by omega)]
    match k, hk with
    | 0, _ => rw [upA_n _ _ (by omega), upA_n _ _ (by omega), upA_n _ _ (by omega)]; exact upA_s _ _ _
    | 1, _ => rw [upA_n _ _ (by omega), upA_n _ _ (by omega), upA_s]; exact h4
    | 2, _ => rw [upA_n _ _ (by omega), upA_s]; rfl
    | 3, _ => rw [upA_s]; rfl
  by_cases c : n = 10
  · subst c
    have h17 : f 17 = 10 := h17
    obtain ⟨g, eg, i1, i2⟩ := loop_ex (fun i (g : Nat → Int32) => X 134 15 [.ref 366, .int e, .int x, .int y, .int (nI i)] [] (H (upA T 367 g) P)) (fun i g => (∀ a, (a < 870 ∨ 870 + i ≤ a) → g a = f a) ∧ ∀ k, k < i → g (870 + k) = f (870 + k + 4)) 36 f ⟨fun _ _ => rfl, fun k hk => absurd hk (Nat.not_lt_zero k)⟩ (by
      intro i g hi ⟨i1, i2⟩
      refine ⟨upA g (870 + i) (f (870 + i + 4)), ?_, fun a ha => ?_, fun k hk => ?_⟩
      · have hlt : nI i < 36 := nI_lt hi (by decide)
        have k1 : 870 + nI i = nI (870 + i) := nI_add 870 i
        have k2 : nI (870 + i) + 4 = nI (870 + i + 4) := nI_add _ 4
        have hs : g (870 + i + 4) = f (870 + i + 4) := i1 _ (by omega)
        show X 134 15 [.ref 366, .int e, .int x, .int y, .int (nI i)] [] (H (upA T 367 g) P) = _
        rw [x134_15]
        simp +decide only [x134_0, x134_1, x134_4, x134_6, x134_7, x134_9, x134_12, x134_13, x134_17, x134_19, x134_22, x134_23, x134_26, x134_29, x134_31, x134_32, x134_33, x134_36, x134_39, x134_41, x134_42, x134_43, x134_44, x134_45, x134_46, x134_49, x134_52, x134_53, x134_56, x134_58, x134_59, x134_60, x134_61, x134_62, x134_63, x134_66, x134_67, x134_68, x134_71, x134_73, x134_74, x134_75, x134_76, x134_78, x134_79, x134_82, x134_84, x134_85, x134_86, x134_87, x134_90, x134_92, x134_93, x134_94, x134_95, x134_98, x134_99, x134_100, x134_101, x134_102, x134_105, x134_107, x134_108, x134_109, x134_110, x134_111, x134_112, x134_115, x134_117, x134_118, x134_119, x134_120, x134_121, x134_122, x134_125, x134_127, x134_128, x134_129, x134_130, x134_131, x134_132, aft_some, aft_void, Option.bind_some, Option.toList_some, Option.toList_none, List.cons_append, List.nil_append, if_true, if_false, ↓reduceIte, eq_self, z366_o, ↓z366_0, ↓z366_0p, ↓z366_1, ↓z366_2, ↓z366_3, ↓z366_4, ↓z366_4p, ↓z366_5, ↓z366_6, ↓z366_6p0, ↓z366_6p1, ↓z366_7, ↓z366_8, ↓z366_8p, ↓z366_9, ↓z366_9p, ↓z366_10, ↓z366_10p0, ↓z366_10p1, ↓z366_11, ↓z366_12, ↓z366_12p, ↓sg0, ↓sg1, ↓sg2, ↓sg3, ↓sg4, ↓sg5, ↓sg6, ↓sg7, ↓sg8, ↓sg9, ↓sg10, ↓sg11, ↓sg12, ↓sg13, ↓sg14, ↓sg15, ↓sg16, ↓sg17, ↓ss0, ↓ss1, ↓ss2, ↓ss3, ↓ss4, ↓ss5, ↓ss6, ↓ss7, ↓ss8, ↓ss9, ↓ss10, ↓ss11, ↓ss12, ↓ss13, ↓ss14, ↓ss15, ↓ss16, ↓ss17, hlt, k1, k2, ↓s_g (show 870 + i + 4 < 912 by omega), ↓s_s (show 870 + i < 912 by omega), hs, nI_1]
      · rw [upA_n _ _ (by omega)]; exact i1 a (by omega)
      · by_cases q : k = i
        · rw [q, upA_s]
        · rw [upA_n _ _ (by omega)]; exact i2 k (by omega))
    have eg : X 134 15 [.ref 366, .int e, .int x, .int y, .int 0] [] (H (upA T 367 f) P) = X 134 15 [.ref 366, .int e, .int x, .int y, .int 36] [] (H (upA T 367 g) P) := eg
    have g17 : g 17 = 10 := by rw [i1 17 (by decide)]; exact h17
    have g4 : upA g 17 9 4 = f 4 := by rw [upA_n _ _ (by decide)]; exact i1 4 (by decide)
    have et := tail (upA g 17 9) 9 (.int 36) (by decide) (upA_s _ _ _)
    refine ⟨bkF (upA g 17 9) 9 e x y, ?_, fun a ha hb => ?_, upA_s _ _ _, fun j hj k hk => ?_⟩
    rotate_left
    · show upA _ 17 _ a = _
      rw [rd _ 9 a _ (by omega) ha, upA_n _ _ ha]; exact i1 a (by omega)
    · have hj : j < 10 := hj
      cases j with
      | zero => exact rw4 (upA g 17 9) 9 _ R g4 k hk
      | succ j =>
        show upA _ 17 _ (870 + 4 * (10 - 1 - (j + 1)) + k) = R j k
        rw [rd (upA g 17 9) 9 _ _ (by omega) (by omega), upA_n _ _ (by omega), show 870 + 4 * (10 - 1 - (j + 1)) + k = 870 + (4 * (10 - 1 - (j + 1)) + k) by omega, i2 _ (by omega), ← hJ j (by omega) k hk]
        congr 1; omega
    · simp +decide only [x134_0, x134_1, x134_4, x134_6, x134_7, x134_9, x134_12, x134_13, x134_17, x134_19, x134_22, x134_23, x134_26, x134_29, x134_31, x134_32, x134_33, x134_36, x134_39, x134_41, x134_42, x134_43, x134_44, x134_45, x134_46, x134_49, x134_52, x134_53, x134_56, x134_58, x134_59, x134_60, x134_61, x134_62, x134_66, x134_67, x134_68, x134_71, x134_73, x134_74, x134_75, x134_76, x134_78, x134_79, x134_82, x134_84, x134_85, x134_86, x134_87, x134_90, x134_92, x134_93, x134_94, x134_95, x134_98, x134_99, x134_100, x134_101, x134_102, x134_105, x134_107, x134_108, x134_109, x134_110, x134_111, x134_112, x134_115, x134_117, x134_118, x134_119, x134_120, x134_121, x134_122, x134_125, x134_127, x134_128, x134_129, x134_130, x134_131, x134_132, aft_some, aft_void, Option.bind_some, Option.toList_some, Option.toList_none, List.cons_append, List.nil_append, if_true, if_false, ↓reduceIte, eq_self, z366_o, ↓z366_0, ↓z366_0p, ↓z366_1, ↓z366_2, ↓z366_3, ↓z366_4, ↓z366_4p, ↓z366_5, ↓z366_6, ↓z366_6p0, ↓z366_6p1, ↓z366_7, ↓z366_8, ↓z366_8p, ↓z366_9, ↓z366_9p, ↓z366_10, ↓z366_10p0, ↓z366_10p1, ↓z366_11, ↓z366_12, ↓z366_12p, ↓sg0, ↓sg1, ↓sg2, ↓sg3, ↓sg4, ↓sg5, ↓sg6, ↓sg7, ↓sg8, ↓sg9, ↓sg10, ↓sg11, ↓sg12, ↓sg13, ↓sg14, ↓sg15, ↓sg16, ↓sg17, ↓ss0, ↓ss1, ↓ss2, ↓ss3, ↓ss4, ↓ss5, ↓ss6, ↓ss7, ↓ss8, ↓ss9, ↓ss10, ↓ss11, ↓ss12, ↓ss13, ↓ss14, ↓ss15, ↓ss16, ↓ss17, h17]
      rw [eg, x134_15]
      simp +decide only [x134_0, x134_1, x134_4, x134_6, x134_7, x134_9, x134_12, x134_13, x134_17, x134_19, x134_22, x134_23, x134_26, x134_29, x134_31, x134_32, x134_33, x134_36, x134_39, x134_41, x134_42, x134_43, x134_44, x134_45, x134_46, x134_49, x134_52, x134_53, x134_56, x134_58, x134_59, x134_60, x134_61, x134_62, x134_66, x134_67, x134_68, x134_71, x134_73, x134_74, x134_75, x134_76, x134_78, x134_79, x134_82, x134_84, x134_85, x134_86, x134_87, x134_90, x134_92, x134_93, x134_94, x134_95, x134_98, x134_99, x134_100, x134_101, x134_102, x134_105, x134_107, x134_108, x134_109, x134_110, x134_111, x134_112, x134_115, x134_117, x134_118, x134_119, x134_120, x134_121, x134_122, x134_125, x134_127, x134_128, x134_129, x134_130, x134_131, x134_132, aft_some, aft_void, Option.bind_some, Option.toList_some, Option.toList_none, List.cons_append, List.nil_append, if_true, if_false, ↓reduceIte, eq_self, z366_o, ↓z366_0, ↓z366_0p, ↓z366_1, ↓z366_2, ↓z366_3, ↓z366_4, ↓z366_4p, ↓z366_5, ↓z366_6, ↓z366_6p0, ↓z366_6p1, ↓z366_7, ↓z366_8, ↓z366_8p, ↓z366_9, ↓z366_9p, ↓z366_10, ↓z366_10p0, ↓z366_10p1, ↓z366_11, ↓z366_12, ↓z366_12p, ↓sg0, ↓sg1, ↓sg2, ↓sg3, ↓sg4, ↓sg5, ↓sg6, ↓sg7, ↓sg8, ↓sg9, ↓sg10, ↓sg11, ↓sg12, ↓sg13, ↓sg14, ↓sg15, ↓sg16, ↓sg17, ↓ss0, ↓ss1, ↓ss2, ↓ss3, ↓ss4, ↓ss5, ↓ss6, ↓ss7, ↓ss8, ↓ss9, ↓ss10, ↓ss11, ↓ss12, ↓ss13, ↓ss14, ↓ss15, ↓ss16, ↓ss17, g17, Int32.reduceSub]
      exact et
  · have hc : (nI n = 10) = False := by
      rw [show (10 : Int32) = nI 10 from rfl, nI_inj (by omega) (by decide)]; exact eq_false c
    have et := tail f n (.long 0) (by omega) h17
    have hmn : min (n + 1) 10 = n + 1 := by omega
    rw [hmn]
    refine ⟨bkF f n e x y, ?_, fun a ha hb => ?_, upA_s _ _ _, fun j hj k hk => ?_⟩
    rotate_left
    · exact rd f n a _ (by omega) ha
    · cases j with
      | zero => exact rw4 f n _ R rfl k hk
      | succ j =>
        show upA _ 17 _ (870 + 4 * (n + 1 - 1 - (j + 1)) + k) = R j k
        rw [rd f n _ _ (by omega) (by omega), ← hJ j (by omega) k hk]
        congr 1; omega
    · simp +decide only [x134_0, x134_1, x134_4, x134_6, x134_7, x134_9, x134_12, x134_13, x134_17, x134_19, x134_22, x134_23, x134_26, x134_29, x134_31, x134_32, x134_33, x134_36, x134_39, x134_41, x134_42, x134_43, x134_44, x134_45, x134_46, x134_49, x134_52, x134_53, x134_56, x134_58, x134_59, x134_60, x134_61, x134_62, x134_66, x134_67, x134_68, x134_71, x134_73, x134_74, x134_75, x134_76, x134_78, x134_79, x134_82, x134_84, x134_85, x134_86, x134_87, x134_90, x134_92, x134_93, x134_94, x134_95, x134_98, x134_99, x134_100, x134_101, x134_102, x134_105, x134_107, x134_108, x134_109, x134_110, x134_111, x134_112, x134_115, x134_117, x134_118, x134_119, x134_120, x134_121, x134_122, x134_125, x134_127, x134_128, x134_129, x134_130, x134_131, x134_132, aft_some, aft_void, Option.bind_some, Option.toList_some, Option.toList_none, List.cons_append, List.nil_append, if_true, if_false, ↓reduceIte, eq_self, z366_o, ↓z366_0, ↓z366_0p, ↓z366_1, ↓z366_2, ↓z366_3, ↓z366_4, ↓z366_4p, ↓z366_5, ↓z366_6, ↓z366_6p0, ↓z366_6p1, ↓z366_7, ↓z366_8, ↓z366_8p, ↓z366_9, ↓z366_9p, ↓z366_10, ↓z366_10p0, ↓z366_10p1, ↓z366_11, ↓z366_12, ↓z366_12p, ↓sg0, ↓sg1, ↓sg2, ↓sg3, ↓sg4, ↓sg5, ↓sg6, ↓sg7, ↓sg8, ↓sg9, ↓sg10, ↓sg11, ↓sg12, ↓sg13, ↓sg14, ↓sg15, ↓sg16, ↓sg17, ↓ss0, ↓ss1, ↓ss2, ↓ss3, ↓ss4, ↓ss5, ↓ss6, ↓ss7, ↓ss8, ↓ss9, ↓ss10, ↓ss11, ↓ss12, ↓ss13, ↓ss14, ↓ss15, ↓ss16, ↓ss17, h17, hc]
      exact et
theorem in_lt (hn : n < 2 ^ 31) : inI x 0 (nI n - 1) = if x < 0 then 0 else if x < nI n then 1 else 0 := by
  unfold inI
  by_cases h0 : x < 0
  · rw [if_pos h0, if_pos h0]
  · rw [if_neg h0, if_neg h0]
    obtain ⟨j, hj, rfl⟩ := nI_of h0
    have e : nI n - 1 < nI j ↔ ¬ (j < n) := by
      cases n with
      | zero =>
        refine ⟨fun _ => by omega, fun _ => ?_⟩
        rw [Int32.lt_iff_toInt_lt, nI_toInt hj, show (nI 0 - 1 : Int32).toInt = -1 from by decide]
        omega
      | succ n =>
        rw [nI_pred, nI_ltp (by omega) hj]
        omega
    have e2 : nI j < nI n ↔ j < n := by rw [nI_ltp hj (by omega)]
    by_cases q : j < n
    · rw [if_neg (fun z => (e.mp z) q), if_pos (e2.mpr q)]
    · rw [if_pos (e.mpr q), if_neg (fun z => q (e2.mp z))]
theorem cust_in (hn : n ≤ 10) : inI x 0 (nI n - 1) = if x < 0 then 0 else if x < nI n then 1 else 0 := in_lt (by omega)
theorem r_refuses (h : sR f N V K B R) (hw : WF N V K B) : X 148 0 [.ref 366, .int x, .int y, .int z, .int w] [] (H (upA T 367 f) P) = some (some (.int (rfI (N 1) B K.length (N 2) x y z w)), H (upA T 367 f) P) := by
  have hN1 : N 1 ≤ 10 := hw.1.2.1
  have hN2 : N 2 ≤ 99 := hw.1.2.2.1
  have h8 : K.length ≤ 8 := hw.1.2.2.2.1
  have h16 := h.1.n
  have h6 : f 6 = nI (N 2) := h.1.2.1.2.2.1
  have ec := r_isCust (T := T) (P := P) (f := f) (x := x)
  rw [show f 5 = nI (N 1) from h.1.2.1.2.1, cust_in hN1] at ec
  have e8 : (nI K.length = 8) = (K.length = 8) := by rw [show (8 : Int32) = nI 8 from rfl, nI_inj (by omega) (by decide)]
  have e99 : (nI (N 2) = 99) = (N 2 = 99) := by rw [show (99 : Int32) = nI 99 from rfl, nI_inj (by omega) (by decide)]
  unfold rfI
  by_cases c0 : x < 0
  · simp only [c0, if_true] at ec ⊢
    simp +decide only [x148_0, x148_1, x148_2, x148_5, x148_8, x148_9, x148_10, x148_11, x148_12, x148_15, x148_18, x148_21, x148_22, x148_23, x148_24, x148_27, x148_30, x148_32, x148_33, x148_35, x148_38, x148_41, x148_43, x148_44, x148_45, x148_46, x148_49, x148_51, x148_54, x148_56, x148_57, x148_58, x148_61, x148_63, x148_64, x148_66, x148_69, x148_70, x148_73, x148_75, x148_76, x148_78, x148_81, x148_83, x148_86, x148_87, aft_some, aft_void, Option.bind_some, Option.toList_some, Option.toList_none, List.cons_append, List.nil_append, if_true, if_false, ↓reduceIte, eq_self, z366_o, ↓z366_0, ↓z366_0p, ↓z366_1, ↓z366_2, ↓z366_3, ↓z366_4, ↓z366_4p, ↓z366_5, ↓z366_6, ↓z366_6p0, ↓z366_6p1, ↓z366_7, ↓z366_8, ↓z366_8p, ↓z366_9, ↓z366_9p, ↓z366_10, ↓z366_10p0, ↓z366_10p1, ↓z366_11, ↓z366_12, ↓z366_12p, ↓sg0, ↓sg1, ↓sg2, ↓sg3, ↓sg4, ↓sg5, ↓sg6, ↓sg7, ↓sg8, ↓sg9, ↓sg10, ↓sg11, ↓sg12, ↓sg13, ↓sg14, ↓sg15, ↓sg16, ↓sg17, ↓ss0, ↓ss1, ↓ss2, ↓ss3, ↓ss4, ↓ss5, ↓ss6, ↓ss7, ↓ss8, ↓ss9, ↓ss10, ↓ss11, ↓ss12, ↓ss13, ↓ss14, ↓ss15, ↓ss16, ↓ss17, ↓aft_of (ec)]
  · by_cases c1 : x < nI (N 1)
    · obtain ⟨c, hc, rfl⟩ := nI_ex c0 (by omega) c1
      have ho := r_outTo (T := T) (P := P) (f := f) (show c < 10 by omega)
      rw [smI_congr (fun k hk => h.2.2.1 c (by omega) k hk), smI_nI, rg_sum] at ho
      simp only [c0, c1, if_true, if_false] at ec ⊢
      rw [nI_clamp (by omega)]
      by_cases y1 : y < 1
      · simp +decide only [x148_0, x148_1, x148_2, x148_5, x148_8, x148_9, x148_10, x148_11, x148_12, x148_15, x148_18, x148_21, x148_22, x148_23, x148_24, x148_27, x148_30, x148_32, x148_33, x148_35, x148_38, x148_41, x148_43, x148_44, x148_45, x148_46, x148_49, x148_51, x148_54, x148_56, x148_57, x148_58, x148_61, x148_63, x148_64, x148_66, x148_69, x148_70, x148_73, x148_75, x148_76, x148_78, x148_81, x148_83, x148_86, x148_87, aft_some, aft_void, Option.bind_some, Option.toList_some, Option.toList_none, List.cons_append, List.nil_append, if_true, if_false, ↓reduceIte, eq_self, z366_o, ↓z366_0, ↓z366_0p, ↓z366_1, ↓z366_2, ↓z366_3, ↓z366_4, ↓z366_4p, ↓z366_5, ↓z366_6, ↓z366_6p0, ↓z366_6p1, ↓z366_7, ↓z366_8, ↓z366_8p, ↓z366_9, ↓z366_9p, ↓z366_10, ↓z366_10p0, ↓z366_10p1, ↓z366_11, ↓z366_12, ↓z366_12p, ↓sg0, ↓sg1, ↓sg2, ↓sg3, ↓sg4, ↓sg5, ↓sg6, ↓sg7, ↓sg8, ↓sg9, ↓sg10, ↓sg11, ↓sg12, ↓sg13, ↓sg14, ↓sg15, ↓sg16, ↓sg17, ↓ss0, ↓ss1, ↓ss2, ↓ss3, ↓ss4, ↓ss5, ↓ss6, ↓ss7, ↓ss8, ↓ss9, ↓ss10, ↓ss11, ↓ss12, ↓ss13, ↓ss14, ↓ss15, ↓ss16, ↓ss17, ↓aft_of (ec), ↓aft_of (r_in), inI, y1, true_or]
      by_cases y2 : 9999 < y
      · simp +decide only [x148_0, x148_1, x148_2, x148_5, x148_8, x148_9, x148_10, x148_11, x148_12, x148_15, x148_18, x148_21, x148_22, x148_23, x148_24, x148_27, x148_30, x148_32, x148_33, x148_35, x148_38, x148_41, x148_43, x148_44, x148_45, x148_46, x148_49, x148_51, x148_54, x148_56, x148_57, x148_58, x148_61, x148_63, x148_64, x148_66, x148_69, x148_70, x148_73, x148_75, x148_76, x148_78, x148_81, x148_83, x148_86, x148_87, aft_some, aft_void, Option.bind_some, Option.toList_some, Option.toList_none, List.cons_append, List.nil_append, if_true, if_false, ↓reduceIte, eq_self, z366_o, ↓z366_0, ↓z366_0p, ↓z366_1, ↓z366_2, ↓z366_3, ↓z366_4, ↓z366_4p, ↓z366_5, ↓z366_6, ↓z366_6p0, ↓z366_6p1, ↓z366_7, ↓z366_8, ↓z366_8p, ↓z366_9, ↓z366_9p, ↓z366_10, ↓z366_10p0, ↓z366_10p1, ↓z366_11, ↓z366_12, ↓z366_12p, ↓sg0, ↓sg1, ↓sg2, ↓sg3, ↓sg4, ↓sg5, ↓sg6, ↓sg7, ↓sg8, ↓sg9, ↓sg10, ↓sg11, ↓sg12, ↓sg13, ↓sg14, ↓sg15, ↓sg16, ↓sg17, ↓ss0, ↓ss1, ↓ss2, ↓ss3, ↓ss4, ↓ss5, ↓ss6, ↓ss7, ↓ss8, ↓ss9, ↓ss10, ↓ss11, ↓ss12, ↓ss13, ↓ss14, ↓ss15, ↓ss16, ↓ss17, ↓aft_of (ec), ↓aft_of (r_in), inI, y1, y2, true_or, or_true]
      by_cases z1 : z < 0
      · simp +decide only [x148_0, x148_1, x148_2, x148_5, x148_8, x148_9, x148_10, x148_11, x148_12, x148_15, x148_18, x148_21, x148_22, x148_23, x148_24, x148_27, x148_30, x148_32, x148_33, x148_35, x148_38, x148_41, x148_43, x148_44, x148_45, x148_46, x148_49, x148_51, x148_54, x148_56, x148_57, x148_58, x148_61, x148_63, x148_64, x148_66, x148_69, x148_70, x148_73, x148_75, x148_76, x148_78, x148_81, x148_83, x148_86, x148_87, aft_some, aft_void, Option.bind_some, Option.toList_some, Option.toList_none, List.cons_append, List.nil_append, if_true, if_false, ↓reduceIte, eq_self, z366_o, ↓z366_0, ↓z366_0p, ↓z366_1, ↓z366_2, ↓z366_3, ↓z366_4, ↓z366_4p, ↓z366_5, ↓z366_6, ↓z366_6p0, ↓z366_6p1, ↓z366_7, ↓z366_8, ↓z366_8p, ↓z366_9, ↓z366_9p, ↓z366_10, ↓z366_10p0, ↓z366_10p1, ↓z366_11, ↓z366_12, ↓z366_12p, ↓sg0, ↓sg1, ↓sg2, ↓sg3, ↓sg4, ↓sg5, ↓sg6, ↓sg7, ↓sg8, ↓sg9, ↓sg10, ↓sg11, ↓sg12, ↓sg13, ↓sg14, ↓sg15, ↓sg16, ↓sg17, ↓ss0, ↓ss1, ↓ss2, ↓ss3, ↓ss4, ↓ss5, ↓ss6, ↓ss7, ↓ss8, ↓ss9, ↓ss10, ↓ss11, ↓ss12, ↓ss13, ↓ss14, ↓ss15, ↓ss16, ↓ss17, ↓aft_of (ec), ↓aft_of (r_in), inI, y1, y2, z1, true_or, or_true]
      by_cases z2 : 3 < z
      · simp +decide only [x148_0, x148_1, x148_2, x148_5, x148_8, x148_9, x148_10, x148_11, x148_12, x148_15, x148_18, x148_21, x148_22, x148_23, x148_24, x148_27, x148_30, x148_32, x148_33, x148_35, x148_38, x148_41, x148_43, x148_44, x148_45, x148_46, x148_49, x148_51, x148_54, x148_56, x148_57, x148_58, x148_61, x148_63, x148_64, x148_66, x148_69, x148_70, x148_73, x148_75, x148_76, x148_78, x148_81, x148_83, x148_86, x148_87, aft_some, aft_void, Option.bind_some, Option.toList_some, Option.toList_none, List.cons_append, List.nil_append, if_true, if_false, ↓reduceIte, eq_self, z366_o, ↓z366_0, ↓z366_0p, ↓z366_1, ↓z366_2, ↓z366_3, ↓z366_4, ↓z366_4p, ↓z366_5, ↓z366_6, ↓z366_6p0, ↓z366_6p1, ↓z366_7, ↓z366_8, ↓z366_8p, ↓z366_9, ↓z366_9p, ↓z366_10, ↓z366_10p0, ↓z366_10p1, ↓z366_11, ↓z366_12, ↓z366_12p, ↓sg0, ↓sg1, ↓sg2, ↓sg3, ↓sg4, ↓sg5, ↓sg6, ↓sg7, ↓sg8, ↓sg9, ↓sg10, ↓sg11, ↓sg12, ↓sg13, ↓sg14, ↓sg15, ↓sg16, ↓sg17, ↓ss0, ↓ss1, ↓ss2, ↓ss3, ↓ss4, ↓ss5, ↓ss6, ↓ss7, ↓ss8, ↓ss9, ↓ss10, ↓ss11, ↓ss12, ↓ss13, ↓ss14, ↓ss15, ↓ss16, ↓ss17, ↓aft_of (ec), ↓aft_of (r_in), inI, y1, y2, z1, z2, true_or, or_true]
      by_cases w1 : w < 0
      · simp +decide only [x148_0, x148_1, x148_2, x148_5, x148_8, x148_9, x148_10, x148_11, x148_12, x148_15, x148_18, x148_21, x148_22, x148_23, x148_24, x148_27, x148_30, x148_32, x148_33, x148_35, x148_38, x148_41, x148_43, x148_44, x148_45, x148_46, x148_49, x148_51, x148_54, x148_56, x148_57, x148_58, x148_61, x148_63, x148_64, x148_66, x148_69, x148_70, x148_73, x148_75, x148_76, x148_78, x148_81, x148_83, x148_86, x148_87, aft_some, aft_void, Option.bind_some, Option.toList_some, Option.toList_none, List.cons_append, List.nil_append, if_true, if_false, ↓reduceIte, eq_self, z366_o, ↓z366_0, ↓z366_0p, ↓z366_1, ↓z366_2, ↓z366_3, ↓z366_4, ↓z366_4p, ↓z366_5, ↓z366_6, ↓z366_6p0, ↓z366_6p1, ↓z366_7, ↓z366_8, ↓z366_8p, ↓z366_9, ↓z366_9p, ↓z366_10, ↓z366_10p0, ↓z366_10p1, ↓z366_11, ↓z366_12, ↓z366_12p, ↓sg0, ↓sg1, ↓sg2, ↓sg3, ↓sg4, ↓sg5, ↓sg6, ↓sg7, ↓sg8, ↓sg9, ↓sg10, ↓sg11, ↓sg12, ↓sg13, ↓sg14, ↓sg15, ↓sg16, ↓sg17, ↓ss0, ↓ss1, ↓ss2, ↓ss3, ↓ss4, ↓ss5, ↓ss6, ↓ss7, ↓ss8, ↓ss9, ↓ss10, ↓ss11, ↓ss12, ↓ss13, ↓ss14, ↓ss15, ↓ss16, ↓ss17, ↓aft_of (ec), ↓aft_of (r_in), inI, y1, y2, z1, z2, w1, true_or, or_true]
      by_cases w2 : 99 < w
      · simp +decide only [x148_0, x148_1, x148_2, x148_5, x148_8, x148_9, x148_10, x148_11, x148_12, x148_15, x148_18, x148_21, x148_22, x148_23, x148_24, x148_27, x148_30, x148_32, x148_33, x148_35, x148_38, x148_41, x148_43, x148_44, x148_45, x148_46, x148_49, x148_51, x148_54, x148_56, x148_57, x148_58, x148_61, x148_63, x148_64, x148_66, x148_69, x148_70, x148_73, x148_75, x148_76, x148_78, x148_81, x148_83, x148_86, x148_87, aft_some, aft_void, Option.bind_some, Option.toList_some, Option.toList_none, List.cons_append, List.nil_append, if_true, if_false, ↓reduceIte, eq_self, z366_o, ↓z366_0, ↓z366_0p, ↓z366_1, ↓z366_2, ↓z366_3, ↓z366_4, ↓z366_4p, ↓z366_5, ↓z366_6, ↓z366_6p0, ↓z366_6p1, ↓z366_7, ↓z366_8, ↓z366_8p, ↓z366_9, ↓z366_9p, ↓z366_10, ↓z366_10p0, ↓z366_10p1, ↓z366_11, ↓z366_12, ↓z366_12p, ↓sg0, ↓sg1, ↓sg2, ↓sg3, ↓sg4, ↓sg5, ↓sg6, ↓sg7, ↓sg8, ↓sg9, ↓sg10, ↓sg11, ↓sg12, ↓sg13, ↓sg14, ↓sg15, ↓sg16, ↓sg17, ↓ss0, ↓ss1, ↓ss2, ↓ss3, ↓ss4, ↓ss5, ↓ss6, ↓ss7, ↓ss8, ↓ss9, ↓ss10, ↓ss11, ↓ss12, ↓ss13, ↓ss14, ↓ss15, ↓ss16, ↓ss17, ↓aft_of (ec), ↓aft_of (r_in), inI, y1, y2, z1, z2, w1, w2, true_or, or_true]
      simp +decide only [x148_0, x148_1, x148_2, x148_5, x148_8, x148_9, x148_10, x148_11, x148_12, x148_15, x148_18, x148_21, x148_22, x148_23, x148_24, x148_27, x148_30, x148_32, x148_33, x148_35, x148_38, x148_41, x148_43, x148_44, x148_45, x148_46, x148_49, x148_51, x148_54, x148_56, x148_57, x148_58, x148_61, x148_63, x148_64, x148_66, x148_69, x148_70, x148_73, x148_75, x148_76, x148_78, x148_81, x148_83, x148_86, x148_87, aft_some, aft_void, Option.bind_some, Option.toList_some, Option.toList_none, List.cons_append, List.nil_append, if_true, if_false, ↓reduceIte, eq_self, z366_o, ↓z366_0, ↓z366_0p, ↓z366_1, ↓z366_2, ↓z366_3, ↓z366_4, ↓z366_4p, ↓z366_5, ↓z366_6, ↓z366_6p0, ↓z366_6p1, ↓z366_7, ↓z366_8, ↓z366_8p, ↓z366_9, ↓z366_9p, ↓z366_10, ↓z366_10p0, ↓z366_10p1, ↓z366_11, ↓z366_12, ↓z366_12p, ↓sg0, ↓sg1, ↓sg2, ↓sg3, ↓sg4, ↓sg5, ↓sg6, ↓sg7, ↓sg8, ↓sg9, ↓sg10, ↓sg11, ↓sg12, ↓sg13, ↓sg14, ↓sg15, ↓sg16, ↓sg17, ↓ss0, ↓ss1, ↓ss2, ↓ss3, ↓ss4, ↓ss5, ↓ss6, ↓ss7, ↓ss8, ↓ss9, ↓ss10, ↓ss11, ↓ss12, ↓ss13, ↓ss14, ↓ss15, ↓ss16, ↓ss17, ↓aft_of (ec), ↓aft_of (r_in), inI, y1, y2, z1, z2, w1, w2, or_false, ↓aft_of (ho), h16, h6, e8, e99]
      by_cases g1 : nI (outL c B) < w
      · simp only [g1, if_true]
      · simp only [g1, if_false]
        by_cases g2 : K.length = 8
        · simp +decide only [g2, if_true, if_false, false_and]
        · have g2' : K.length < 8 := by omega
          by_cases g3 : N 2 = 99
          · simp +decide only [g2, g2', g3, if_true, if_false, and_false]
          · have g3' : N 2 < 99 := by omega
            simp +decide only [g2, g2', g3, g3', if_true, if_false, and_self]
    · simp only [c0, c1, if_false] at ec ⊢
      simp +decide only [x148_0, x148_1, x148_2, x148_5, x148_8, x148_9, x148_10, x148_11, x148_12, x148_15, x148_18, x148_21, x148_22, x148_23, x148_24, x148_27, x148_30, x148_32, x148_33, x148_35, x148_38, x148_41, x148_43, x148_44, x148_45, x148_46, x148_49, x148_51, x148_54, x148_56, x148_57, x148_58, x148_61, x148_63, x148_64, x148_66, x148_69, x148_70, x148_73, x148_75, x148_76, x148_78, x148_81, x148_83, x148_86, x148_87, aft_some, aft_void, Option.bind_some, Option.toList_some, Option.toList_none, List.cons_append, List.nil_append, if_true, if_false, ↓reduceIte, eq_self, z366_o, ↓z366_0, ↓z366_0p, ↓z366_1, ↓z366_2, ↓z366_3, ↓z366_4, ↓z366_4p, ↓z366_5, ↓z366_6, ↓z366_6p0, ↓z366_6p1, ↓z366_7, ↓z366_8, ↓z366_8p, ↓z366_9, ↓z366_9p, ↓z366_10, ↓z366_10p0, ↓z366_10p1, ↓z366_11, ↓z366_12, ↓z366_12p, ↓sg0, ↓sg1, ↓sg2, ↓sg3, ↓sg4, ↓sg5, ↓sg6, ↓sg7, ↓sg8, ↓sg9, ↓sg10, ↓sg11, ↓sg12, ↓sg13, ↓sg14, ↓sg15, ↓sg16, ↓sg17, ↓ss0, ↓ss1, ↓ss2, ↓ss3, ↓ss4, ↓ss5, ↓ss6, ↓ss7, ↓ss8, ↓ss9, ↓ss10, ↓ss11, ↓ss12, ↓ss13, ↓ss14, ↓ss15, ↓ss16, ↓ss17, ↓aft_of (ec)]
end BO
end
