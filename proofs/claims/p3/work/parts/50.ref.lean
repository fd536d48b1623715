/-! the reference: its state stands in the array 367; its own small methods -/
theorem nI_mul (a b : Nat) : nI a * nI b = nI (a * b) := (Int32.ofNat_mul a b).symm
section RF
variable {T : Nat → Nat → Int32} {P : Nat → Nat → Nat} {f : Nat → Int32} {G : Int32 → Option (Option Value × List hC)} {i pc k : Nat} {L S : List Value} {x y z : Int32} {h0 : List hC}
theorem s_g (hk : k < 912) : (getI (H (upA T 367 f) P)[367]? 367 0 (nI k)).bind G = G (f k) := by
  rw [z367_g, if_pos (okx_nI hk (by decide)), nI_clamp (by omega), upA_s]
theorem s_s (hk : k < 912) : (putI (H (upA T 367 f) P)[367]? 0 (nI k) y).bind (fun c => X i pc L S ((H (upA T 367 f) P).set 367 c)) = X i pc L S (H (upA T 367 (upA f k y)) P) := by
  rw [z367_s, if_pos (okx_nI hk (by decide)), nI_clamp (by omega)]
  show X i pc L S (H (upA (upA T 367 f) 367 (upA (upA T 367 f 367) k y)) P) = _
  rw [upA_upA, upA_s]
theorem sg0 : (getI (H (upA T 367 f) P)[367]? 367 0 0).bind G = G (f 0) := s_g (k := 0) (by decide)
theorem ss0 : (putI (H (upA T 367 f) P)[367]? 0 0 y).bind (fun c => X i pc L S ((H (upA T 367 f) P).set 367 c)) = X i pc L S (H (upA T 367 (upA f 0 y)) P) := s_s (k := 0) (by decide)
theorem sg1 : (getI (H (upA T 367 f) P)[367]? 367 0 1).bind G = G (f 1) := s_g (k := 1) (by decide)
theorem ss1 : (putI (H (upA T 367 f) P)[367]? 0 1 y).bind (fun c => X i pc L S ((H (upA T 367 f) P).set 367 c)) = X i pc L S (H (upA T 367 (upA f 1 y)) P) := s_s (k := 1) (by decide)
theorem sg2 : (getI (H (upA T 367 f) P)[367]? 367 0 2).bind G = G (f 2) := s_g (k := 2) (by decide)
theorem ss2 : (putI (H (upA T 367 f) P)[367]? 0 2 y).bind (fun c => X i pc L S ((H (upA T 367 f) P).set 367 c)) = X i pc L S (H (upA T 367 (upA f 2 y)) P) := s_s (k := 2) (by decide)
theorem sg3 : (getI (H (upA T 367 f) P)[367]? 367 0 3).bind G = G (f 3) := s_g (k := 3) (by decide)
theorem ss3 : (putI (H (upA T 367 f) P)[367]? 0 3 y).bind (fun c => X i pc L S ((H (upA T 367 f) P).set 367 c)) = X i pc L S (H (upA T 367 (upA f 3 y)) P) := s_s (k := 3) (by decide)
theorem sg4 : (getI (H (upA T 367 f) P)[367]? 367 0 4).bind G = G (f 4) := s_g (k := 4) (by decide)
theorem ss4 : (putI (H (upA T 367 f) P)[367]? 0 4 y).bind (fun c => X i pc L S ((H (upA T 367 f) P).set 367 c)) = X i pc L S (H (upA T 367 (upA f 4 y)) P) := s_s (k := 4) (by decide)
theorem sg5 : (getI (H (upA T 367 f) P)[367]? 367 0 5).bind G = G (f 5) := s_g (k := 5) (by decide)
theorem ss5 : (putI (H (upA T 367 f) P)[367]? 0 5 y).bind (fun c => X i pc L S ((H (upA T 367 f) P).set 367 c)) = X i pc L S (H (upA T 367 (upA f 5 y)) P) := s_s (k := 5) (by decide)
theorem sg6 : (getI (H (upA T 367 f) P)[367]? 367 0 6).bind G = G (f 6) := s_g (k := 6) (by decide)
theorem ss6 : (putI (H (upA T 367 f) P)[367]? 0 6 y).bind (fun c => X i pc L S ((H (upA T 367 f) P).set 367 c)) = X i pc L S (H (upA T 367 (upA f 6 y)) P) := s_s (k := 6) (by decide)
theorem sg7 : (getI (H (upA T 367 f) P)[367]? 367 0 7).bind G = G (f 7) := s_g (k := 7) (by decide)
theorem ss7 : (putI (H (upA T 367 f) P)[367]? 0 7 y).bind (fun c => X i pc L S ((H (upA T 367 f) P).set 367 c)) = X i pc L S (H (upA T 367 (upA f 7 y)) P) := s_s (k := 7) (by decide)
theorem sg8 : (getI (H (upA T 367 f) P)[367]? 367 0 8).bind G = G (f 8) := s_g (k := 8) (by decide)
theorem ss8 : (putI (H (upA T 367 f) P)[367]? 0 8 y).bind (fun c => X i pc L S ((H (upA T 367 f) P).set 367 c)) = X i pc L S (H (upA T 367 (upA f 8 y)) P) := s_s (k := 8) (by decide)
theorem sg9 : (getI (H (upA T 367 f) P)[367]? 367 0 9).bind G = G (f 9) := s_g (k := 9) (by decide)
theorem ss9 : (putI (H (upA T 367 f) P)[367]? 0 9 y).bind (fun c => X i pc L S ((H (upA T 367 f) P).set 367 c)) = X i pc L S (H (upA T 367 (upA f 9 y)) P) := s_s (k := 9) (by decide)
theorem sg10 : (getI (H (upA T 367 f) P)[367]? 367 0 10).bind G = G (f 10) := s_g (k := 10) (by decide)
theorem ss10 : (putI (H (upA T 367 f) P)[367]? 0 10 y).bind (fun c => X i pc L S ((H (upA T 367 f) P).set 367 c)) = X i pc L S (H (upA T 367 (upA f 10 y)) P) := s_s (k := 10) (by decide)
theorem sg11 : (getI (H (upA T 367 f) P)[367]? 367 0 11).bind G = G (f 11) := s_g (k := 11) (by decide)
theorem ss11 : (putI (H (upA T 367 f) P)[367]? 0 11 y).bind (fun c => X i pc L S ((H (upA T 367 f) P).set 367 c)) = X i pc L S (H (upA T 367 (upA f 11 y)) P) := s_s (k := 11) (by decide)
theorem sg12 : (getI (H (upA T 367 f) P)[367]? 367 0 12).bind G = G (f 12) := s_g (k := 12) (by decide)
theorem ss12 : (putI (H (upA T 367 f) P)[367]? 0 12 y).bind (fun c => X i pc L S ((H (upA T 367 f) P).set 367 c)) = X i pc L S (H (upA T 367 (upA f 12 y)) P) := s_s (k := 12) (by decide)
theorem sg13 : (getI (H (upA T 367 f) P)[367]? 367 0 13).bind G = G (f 13) := s_g (k := 13) (by decide)
theorem ss13 : (putI (H (upA T 367 f) P)[367]? 0 13 y).bind (fun c => X i pc L S ((H (upA T 367 f) P).set 367 c)) = X i pc L S (H (upA T 367 (upA f 13 y)) P) := s_s (k := 13) (by decide)
theorem sg14 : (getI (H (upA T 367 f) P)[367]? 367 0 14).bind G = G (f 14) := s_g (k := 14) (by decide)
theorem ss14 : (putI (H (upA T 367 f) P)[367]? 0 14 y).bind (fun c => X i pc L S ((H (upA T 367 f) P).set 367 c)) = X i pc L S (H (upA T 367 (upA f 14 y)) P) := s_s (k := 14) (by decide)
theorem sg15 : (getI (H (upA T 367 f) P)[367]? 367 0 15).bind G = G (f 15) := s_g (k := 15) (by decide)
theorem ss15 : (putI (H (upA T 367 f) P)[367]? 0 15 y).bind (fun c => X i pc L S ((H (upA T 367 f) P).set 367 c)) = X i pc L S (H (upA T 367 (upA f 15 y)) P) := s_s (k := 15) (by decide)
theorem sg16 : (getI (H (upA T 367 f) P)[367]? 367 0 16).bind G = G (f 16) := s_g (k := 16) (by decide)
theorem ss16 : (putI (H (upA T 367 f) P)[367]? 0 16 y).bind (fun c => X i pc L S ((H (upA T 367 f) P).set 367 c)) = X i pc L S (H (upA T 367 (upA f 16 y)) P) := s_s (k := 16) (by decide)
theorem sg17 : (getI (H (upA T 367 f) P)[367]? 367 0 17).bind G = G (f 17) := s_g (k := 17) (by decide)
theorem ss17 : (putI (H (upA T 367 f) P)[367]? 0 17 y).bind (fun c => X i pc L S ((H (upA T 367 f) P).set 367 c)) = X i pc L S (H (upA T 367 (upA f 17 y)) P) := s_s (k := 17) (by decide)
theorem r_in : X 124 0 [.int x, .int y, .int z] [] h0 = some (some (.int (inI x y z)), h0) := by
  simp +decide only [x124_0, x124_1, x124_2, x124_5, x124_6, x124_7, x124_10, x124_11, x124_14, x124_15, aft_some, aft_void, Option.bind_some, Option.toList_some, Option.toList_none, List.cons_append, List.nil_append, if_true, if_false, ↓reduceIte, eq_self, or_true, true_or]
  unfold inI
  repeat' split
  all_goals rfl
theorem r_isCust : X 125 0 [.ref 366, .int x] [] (H (upA T 367 f) P) = some (some (.int (inI x 0 (f 5 - 1))), H (upA T 367 f) P) := by
  have h01 : (inI x 0 (f 5 - 1) = 0 ∨ inI x 0 (f 5 - 1) = 1) = True := by
    apply eq_true
    unfold inI
    repeat' split
    all_goals simp
  simp +decide only [x125_0, x125_1, x125_2, x125_2N, x125_3, x125_6, x125_7, x125_8, x125_9, x125_10, x125_13, aft_some, aft_void, Option.bind_some, Option.toList_some, Option.toList_none, List.cons_append, List.nil_append, if_true, if_false, ↓reduceIte, eq_self, z366_o, ↓z366_0, ↓z366_0p, ↓z366_1, ↓z366_2, ↓z366_3, ↓z366_4, ↓z366_4p, ↓z366_5, ↓z366_6, ↓z366_6p0, ↓z366_6p1, ↓z366_7, ↓z366_8, ↓z366_8p, ↓z366_9, ↓z366_9p, ↓z366_10, ↓z366_10p0, ↓z366_10p1, ↓z366_11, ↓z366_12, ↓z366_12p, ↓sg0, ↓sg1, ↓sg2, ↓sg3, ↓sg4, ↓sg5, ↓sg6, ↓sg7, ↓sg8, ↓sg9, ↓sg10, ↓sg11, ↓sg12, ↓sg13, ↓sg14, ↓sg15, ↓sg16, ↓sg17, ↓ss0, ↓ss1, ↓ss2, ↓ss3, ↓ss4, ↓ss5, ↓ss6, ↓ss7, ↓ss8, ↓ss9, ↓ss10, ↓ss11, ↓ss12, ↓ss13, ↓ss14, ↓ss15, ↓ss16, ↓ss17, ↓aft_of (r_in), h01]
theorem ixB {i w : Nat} (e : y = nI w) : 694 + 17 * nI i + y = nI (694 + 17 * i + w) := by
  rw [e, show (694 : Int32) = nI 694 from rfl, show (17 : Int32) = nI 17 from rfl, nI_mul, nI_add, nI_add]
theorem ixC {i w : Nat} (e : y = nI w) : 24 + 3 * nI i + y = nI (24 + 3 * i + w) := by
  rw [e, show (24 : Int32) = nI 24 from rfl, show (3 : Int32) = nI 3 from rfl, nI_mul, nI_add, nI_add]
theorem ixO {i w : Nat} (e : y = nI w) : 54 + 64 * nI i + y = nI (54 + 64 * i + w) := by
  rw [e, show (54 : Int32) = nI 54 from rfl, show (64 : Int32) = nI 64 from rfl, nI_mul, nI_add, nI_add]
theorem r_of {i w : Nat} (e : y = nI w) (hi : i < 8) (hw : w < 17) : X 128 0 [.ref 366, .int (nI i), .int y] [] (H (upA T 367 f) P) = some (some (.int (f (694 + 17 * i + w))), H (upA T 367 f) P) := by
  simp +decide only [x128_0, x128_0N, x128_1, x128_4, x128_7, x128_9, x128_10, x128_11, x128_12, x128_13, x128_14, x128_15, aft_some, aft_void, Option.bind_some, Option.toList_some, Option.toList_none, List.cons_append, List.nil_append, if_true, if_false, ↓reduceIte, eq_self, z366_o, ↓z366_0, ↓z366_0p, ↓z366_1, ↓z366_2, ↓z366_3, ↓z366_4, ↓z366_4p, ↓z366_5, ↓z366_6, ↓z366_6p0, ↓z366_6p1, ↓z366_7, ↓z366_8, ↓z366_8p, ↓z366_9, ↓z366_9p, ↓z366_10, ↓z366_10p0, ↓z366_10p1, ↓z366_11, ↓z366_12, ↓z366_12p, ↓sg0, ↓sg1, ↓sg2, ↓sg3, ↓sg4, ↓sg5, ↓sg6, ↓sg7, ↓sg8, ↓sg9, ↓sg10, ↓sg11, ↓sg12, ↓sg13, ↓sg14, ↓sg15, ↓sg16, ↓sg17, ↓ss0, ↓ss1, ↓ss2, ↓ss3, ↓ss4, ↓ss5, ↓ss6, ↓ss7, ↓ss8, ↓ss9, ↓ss10, ↓ss11, ↓ss12, ↓ss13, ↓ss14, ↓ss15, ↓ss16, ↓ss17, ixB e, ↓s_g (show 694 + 17 * i + w < 912 by omega)]
theorem r_lay {i w : Nat} (e : y = nI w) (hi : i < 8) (hw : w < 17) : X 129 0 [.ref 366, .int (nI i), .int y, .int z] [] (H (upA T 367 f) P) = some (none, H (upA T 367 (upA f (694 + 17 * i + w) z)) P) := by
  simp +decide only [x129_0, x129_0N, x129_1, x129_4, x129_7, x129_9, x129_10, x129_11, x129_12, x129_13, x129_14, x129_15, x129_16, aft_some, aft_void, Option.bind_some, Option.toList_some, Option.toList_none, List.cons_append, List.nil_append, if_true, if_false, ↓reduceIte, eq_self, z366_o, ↓z366_0, ↓z366_0p, ↓z366_1, ↓z366_2, ↓z366_3, ↓z366_4, ↓z366_4p, ↓z366_5, ↓z366_6, ↓z366_6p0, ↓z366_6p1, ↓z366_7, ↓z366_8, ↓z366_8p, ↓z366_9, ↓z366_9p, ↓z366_10, ↓z366_10p0, ↓z366_10p1, ↓z366_11, ↓z366_12, ↓z366_12p, ↓sg0, ↓sg1, ↓sg2, ↓sg3, ↓sg4, ↓sg5, ↓sg6, ↓sg7, ↓sg8, ↓sg9, ↓sg10, ↓sg11, ↓sg12, ↓sg13, ↓sg14, ↓sg15, ↓sg16, ↓sg17, ↓ss0, ↓ss1, ↓ss2, ↓ss3, ↓ss4, ↓ss5, ↓ss6, ↓ss7, ↓ss8, ↓ss9, ↓ss10, ↓ss11, ↓ss12, ↓ss13, ↓ss14, ↓ss15, ↓ss16, ↓ss17, ixB e, ↓s_s (show 694 + 17 * i + w < 912 by omega)]
theorem r_ofCust {i w : Nat} (e : y = nI w) (hi : i < 10) (hw : w < 3) : X 126 0 [.ref 366, .int (nI i), .int y] [] (H (upA T 367 f) P) = some (some (.int (f (24 + 3 * i + w))), H (upA T 367 f) P) := by
  simp +decide only [x126_0, x126_0N, x126_1, x126_4, x126_6, x126_7, x126_8, x126_9, x126_10, x126_11, x126_12, x126_13, aft_some, aft_void, Option.bind_some, Option.toList_some, Option.toList_none, List.cons_append, List.nil_append, if_true, if_false, ↓reduceIte, eq_self, z366_o, ↓z366_0, ↓z366_0p, ↓z366_1, ↓z366_2, ↓z366_3, ↓z366_4, ↓z366_4p, ↓z366_5, ↓z366_6, ↓z366_6p0, ↓z366_6p1, ↓z366_7, ↓z366_8, ↓z366_8p, ↓z366_9, ↓z366_9p, ↓z366_10, ↓z366_10p0, ↓z366_10p1, ↓z366_11, ↓z366_12, ↓z366_12p, ↓sg0, ↓sg1, ↓sg2, ↓sg3, ↓sg4, ↓sg5, ↓sg6, ↓sg7, ↓sg8, ↓sg9, ↓sg10, ↓sg11, ↓sg12, ↓sg13, ↓sg14, ↓sg15, ↓sg16, ↓sg17, ↓ss0, ↓ss1, ↓ss2, ↓ss3, ↓ss4, ↓ss5, ↓ss6, ↓ss7, ↓ss8, ↓ss9, ↓ss10, ↓ss11, ↓ss12, ↓ss13, ↓ss14, ↓ss15, ↓ss16, ↓ss17, ixC e, ↓s_g (show 24 + 3 * i + w < 912 by omega)]
theorem r_layCust {i w : Nat} (e : y = nI w) (hi : i < 10) (hw : w < 3) : X 127 0 [.ref 366, .int (nI i), .int y, .int z] [] (H (upA T 367 f) P) = some (none, H (upA T 367 (upA f (24 + 3 * i + w) z)) P) := by
  simp +decide only [x127_0, x127_0N, x127_1, x127_4, x127_6, x127_7, x127_8, x127_9, x127_10, x127_11, x127_12, x127_13, x127_14, aft_some, aft_void, Option.bind_some, Option.toList_some, Option.toList_none, List.cons_append, List.nil_append, if_true, if_false, ↓reduceIte, eq_self, z366_o, ↓z366_0, ↓z366_0p, ↓z366_1, ↓z366_2, ↓z366_3, ↓z366_4, ↓z366_4p, ↓z366_5, ↓z366_6, ↓z366_6p0, ↓z366_6p1, ↓z366_7, ↓z366_8, ↓z366_8p, ↓z366_9, ↓z366_9p, ↓z366_10, ↓z366_10p0, ↓z366_10p1, ↓z366_11, ↓z366_12, ↓z366_12p, ↓sg0, ↓sg1, ↓sg2, ↓sg3, ↓sg4, ↓sg5, ↓sg6, ↓sg7, ↓sg8, ↓sg9, ↓sg10, ↓sg11, ↓sg12, ↓sg13, ↓sg14, ↓sg15, ↓sg16, ↓sg17, ↓ss0, ↓ss1, ↓ss2, ↓ss3, ↓ss4, ↓ss5, ↓ss6, ↓ss7, ↓ss8, ↓ss9, ↓ss10, ↓ss11, ↓ss12, ↓ss13, ↓ss14, ↓ss15, ↓ss16, ↓ss17, ixC e, ↓s_s (show 24 + 3 * i + w < 912 by omega)]
theorem r_minutesOf (hk : k < 4) : X 135 0 [.int (nI k), .int x] [] h0 = some (some (.int (mnI x k)), h0) := by
  match k, hk with
  | 0, _ => simp +decide only [x135_0, x135_1, x135_28, x135_29, x135_30, x135_31, x135_32, x135_33, x135_34, x135_35, x135_36, x135_38, x135_39, x135_41, aft_some, aft_void, Option.bind_some, Option.toList_some, Option.toList_none, List.cons_append, List.nil_append, if_true, if_false, ↓reduceIte, eq_self, nl0]; rfl
  | 1, _ => simp +decide only [x135_0, x135_1, x135_28, x135_29, x135_30, x135_31, x135_32, x135_33, x135_34, x135_35, x135_36, x135_38, x135_39, x135_41, aft_some, aft_void, Option.bind_some, Option.toList_some, Option.toList_none, List.cons_append, List.nil_append, if_true, if_false, ↓reduceIte, eq_self, nl1]; rfl
  | 2, _ => simp +decide only [x135_0, x135_1, x135_28, x135_29, x135_30, x135_31, x135_32, x135_33, x135_34, x135_35, x135_36, x135_38, x135_39, x135_41, aft_some, aft_void, Option.bind_some, Option.toList_some, Option.toList_none, List.cons_append, List.nil_append, if_true, if_false, ↓reduceIte, eq_self, nl2]; rfl
  | 3, _ => simp +decide only [x135_0, x135_1, x135_28, x135_29, x135_30, x135_31, x135_32, x135_33, x135_34, x135_35, x135_36, x135_38, x135_39, x135_41, aft_some, aft_void, Option.bind_some, Option.toList_some, Option.toList_none, List.cons_append, List.nil_append, if_true, if_false, ↓reduceIte, eq_self, nl3]; rfl
/-- the basket at the place i is b -/
def bR (f : Nat → Int32) (i : Nat) (b : kT) : Prop := (f (694 + 17 * i + 0) = b 0 0 ∧ f (694 + 17 * i + 1) = b 0 1 ∧ f (694 + 17 * i + 2) = b 0 3 ∧ f (694 + 17 * i + 3) = b 0 2 ∧ f (694 + 17 * i + 4) = b 0 4) ∧ ∀ k, k < 4 → f (694 + 17 * i + (5 + k)) = b 1 k ∧ f (694 + 17 * i + (9 + k)) = b 2 k ∧ f (694 + 17 * i + (13 + k)) = b 3 k
theorem r_left {b : kT} (hb : bR f i b) (hi : i < 8) (hk : k < 4) : X 136 0 [.ref 366, .int (nI i), .int (nI k)] [] (H (upA T 367 f) P) = some (some (.int (opK b k)), H (upA T 367 f) P) := by
  have e5 := r_of (T := T) (P := P) (f := f) (i := i) (w := 5 + k) (y := 5 + nI k) (nI_add 5 k) hi (by omega)
  have e9 := r_of (T := T) (P := P) (f := f) (i := i) (w := 9 + k) (y := 9 + nI k) (nI_add 9 k) hi (by omega)
  have e13 := r_of (T := T) (P := P) (f := f) (i := i) (w := 13 + k) (y := 13 + nI k) (nI_add 13 k) hi (by omega)
  obtain ⟨h1, h2, h3⟩ := hb.2 k hk
  rw [h1] at e5; rw [h2] at e9; rw [h3] at e13
  simp +decide only [x136_0, x136_0N, x136_1, x136_2, x136_3, x136_4, x136_5, x136_8, x136_8N, x136_9, x136_10, x136_12, x136_13, x136_14, x136_17, x136_18, x136_18N, x136_19, x136_20, x136_22, x136_23, x136_24, x136_27, x136_28, aft_some, aft_void, Option.bind_some, Option.toList_some, Option.toList_none, List.cons_append, List.nil_append, if_true, if_false, ↓reduceIte, eq_self, z366_o, ↓z366_0, ↓z366_0p, ↓z366_1, ↓z366_2, ↓z366_3, ↓z366_4, ↓z366_4p, ↓z366_5, ↓z366_6, ↓z366_6p0, ↓z366_6p1, ↓z366_7, ↓z366_8, ↓z366_8p, ↓z366_9, ↓z366_9p, ↓z366_10, ↓z366_10p0, ↓z366_10p1, ↓z366_11, ↓z366_12, ↓z366_12p, ↓sg0, ↓sg1, ↓sg2, ↓sg3, ↓sg4, ↓sg5, ↓sg6, ↓sg7, ↓sg8, ↓sg9, ↓sg10, ↓sg11, ↓sg12, ↓sg13, ↓sg14, ↓sg15, ↓sg16, ↓sg17, ↓ss0, ↓ss1, ↓ss2, ↓ss3, ↓ss4, ↓ss5, ↓ss6, ↓ss7, ↓ss8, ↓ss9, ↓ss10, ↓ss11, ↓ss12, ↓ss13, ↓ss14, ↓ss15, ↓ss16, ↓ss17, ↓aft_of (e5), ↓aft_of (e9), ↓aft_of (e13)]
  rfl
theorem r_minutesLeft {b : kT} (hb : bR f i b) (hi : i < 8) : X 137 0 [.ref 366, .int (nI i), .long 0, .long 0] [] (H (upA T 367 f) P) = some (some (.int (omK b)), H (upA T 367 f) P) := by
  have l0 := r_left (T := T) (P := P) hb hi (show 0 < 4 by decide)
  have l1 := r_left (T := T) (P := P) hb hi (show 1 < 4 by decide)
  have l2 := r_left (T := T) (P := P) hb hi (show 2 < 4 by decide)
  have l3 := r_left (T := T) (P := P) hb hi (show 3 < 4 by decide)
  have m0 := r_minutesOf (h0 := H (upA T 367 f) P) (x := b 0 3) (show 0 < 4 by decide)
  have m1 := r_minutesOf (h0 := H (upA T 367 f) P) (x := b 0 3) (show 1 < 4 by decide)
  have m2 := r_minutesOf (h0 := H (upA T 367 f) P) (x := b 0 3) (show 2 < 4 by decide)
  have m3 := r_minutesOf (h0 := H (upA T 367 f) P) (x := b 0 3) (show 3 < 4 by decide)
  have e2 := r_of (T := T) (P := P) (f := f) (i := i) (w := 2) (y := 2) rfl hi (by decide)
  rw [hb.1.2.2.1] at e2
  simp only [nl0, nl1, nl2, nl3] at l0 l1 l2 l3 m0 m1 m2 m3
  simp +decide only [x137_0, x137_1, x137_2, x137_3, x137_4, x137_5, x137_6, x137_9, x137_10, x137_10N, x137_11, x137_12, x137_13, x137_16, x137_17, x137_17N, x137_18, x137_19, x137_20, x137_23, x137_26, x137_27, x137_28, x137_29, x137_32, x137_35, x137_36, aft_some, aft_void, Option.bind_some, Option.toList_some, Option.toList_none, List.cons_append, List.nil_append, if_true, if_false, ↓reduceIte, eq_self, z366_o, ↓z366_0, ↓z366_0p, ↓z366_1, ↓z366_2, ↓z366_3, ↓z366_4, ↓z366_4p, ↓z366_5, ↓z366_6, ↓z366_6p0, ↓z366_6p1, ↓z366_7, ↓z366_8, ↓z366_8p, ↓z366_9, ↓z366_9p, ↓z366_10, ↓z366_10p0, ↓z366_10p1, ↓z366_11, ↓z366_12, ↓z366_12p, ↓sg0, ↓sg1, ↓sg2, ↓sg3, ↓sg4, ↓sg5, ↓sg6, ↓sg7, ↓sg8, ↓sg9, ↓sg10, ↓sg11, ↓sg12, ↓sg13, ↓sg14, ↓sg15, ↓sg16, ↓sg17, ↓ss0, ↓ss1, ↓ss2, ↓ss3, ↓ss4, ↓ss5, ↓ss6, ↓ss7, ↓ss8, ↓ss9, ↓ss10, ↓ss11, ↓ss12, ↓ss13, ↓ss14, ↓ss15, ↓ss16, ↓ss17, ↓aft_of (l0), ↓aft_of (l1), ↓aft_of (l2), ↓aft_of (l3), ↓aft_of (m0), ↓aft_of (m1), ↓aft_of (m2), ↓aft_of (m3), ↓aft_of (e2), Int32.reduceAdd]
  rfl
theorem r_priceOf {b : kT} (hb : bR f i b) (hi : i < 8) : X 138 0 [.ref 366, .int (nI i), .long 0, .long 0] [] (H (upA T 367 f) P) = some (some (.int (prK b)), H (upA T 367 f) P) := by
  have m0 := r_minutesOf (h0 := H (upA T 367 f) P) (x := b 0 3) (show 0 < 4 by decide)
  have m1 := r_minutesOf (h0 := H (upA T 367 f) P) (x := b 0 3) (show 1 < 4 by decide)
  have m2 := r_minutesOf (h0 := H (upA T 367 f) P) (x := b 0 3) (show 2 < 4 by decide)
  have m3 := r_minutesOf (h0 := H (upA T 367 f) P) (x := b 0 3) (show 3 < 4 by decide)
  have e2 := r_of (T := T) (P := P) (f := f) (i := i) (w := 2) (y := 2) rfl hi (by decide)
  have e5 := r_of (T := T) (P := P) (f := f) (i := i) (w := 5) (y := 5) rfl hi (by decide)
  have e6 := r_of (T := T) (P := P) (f := f) (i := i) (w := 6) (y := 6) rfl hi (by decide)
  have e7 := r_of (T := T) (P := P) (f := f) (i := i) (w := 7) (y := 7) rfl hi (by decide)
  have e8 := r_of (T := T) (P := P) (f := f) (i := i) (w := 8) (y := 8) rfl hi (by decide)
  rw [hb.1.2.2.1] at e2
  rw [(hb.2 0 (by decide)).1] at e5
  rw [(hb.2 1 (by decide)).1] at e6
  rw [(hb.2 2 (by decide)).1] at e7
  rw [(hb.2 3 (by decide)).1] at e8
  simp only [nl0, nl1, nl2, nl3] at m0 m1 m2 m3
  simp +decide only [x138_0, x138_1, x138_2, x138_3, x138_4, x138_5, x138_6, x138_9, x138_10, x138_10N, x138_11, x138_12, x138_13, x138_14, x138_15, x138_18, x138_19, x138_19N, x138_20, x138_21, x138_22, x138_25, x138_28, x138_29, x138_30, x138_31, x138_32, x138_33, x138_34, x138_35, x138_38, x138_41, x138_42, aft_some, aft_void, Option.bind_some, Option.toList_some, Option.toList_none, List.cons_append, List.nil_append, if_true, if_false, ↓reduceIte, eq_self, z366_o, ↓z366_0, ↓z366_0p, ↓z366_1, ↓z366_2, ↓z366_3, ↓z366_4, ↓z366_4p, ↓z366_5, ↓z366_6, ↓z366_6p0, ↓z366_6p1, ↓z366_7, ↓z366_8, ↓z366_8p, ↓z366_9, ↓z366_9p, ↓z366_10, ↓z366_10p0, ↓z366_10p1, ↓z366_11, ↓z366_12, ↓z366_12p, ↓sg0, ↓sg1, ↓sg2, ↓sg3, ↓sg4, ↓sg5, ↓sg6, ↓sg7, ↓sg8, ↓sg9, ↓sg10, ↓sg11, ↓sg12, ↓sg13, ↓sg14, ↓sg15, ↓sg16, ↓sg17, ↓ss0, ↓ss1, ↓ss2, ↓ss3, ↓ss4, ↓ss5, ↓ss6, ↓ss7, ↓ss8, ↓ss9, ↓ss10, ↓ss11, ↓ss12, ↓ss13, ↓ss14, ↓ss15, ↓ss16, ↓ss17, ↓aft_of (m0), ↓aft_of (m1), ↓aft_of (m2), ↓aft_of (m3), ↓aft_of (e2), ↓aft_of (e5), ↓aft_of (e6), ↓aft_of (e7), ↓aft_of (e8), Int32.reduceAdd]
  rfl
noncomputable def rdE (b : kT) : Int32 := if b 2 0 = b 1 0 then (if b 2 1 = b 1 1 then (if b 2 2 = b 1 2 then (if b 2 3 = b 1 3 then 1 else 0) else 0) else 0) else 0
theorem r_isReady {b : kT} (hb : bR f i b) (hi : i < 8) : X 139 0 [.ref 366, .int (nI i), .long 0, .long 0] [] (H (upA T 367 f) P) = some (some (.int (rdE b)), H (upA T 367 f) P) := by
  have e5 := r_of (T := T) (P := P) (f := f) (i := i) (w := 5) (y := 5) rfl hi (by decide)
  have e6 := r_of (T := T) (P := P) (f := f) (i := i) (w := 6) (y := 6) rfl hi (by decide)
  have e7 := r_of (T := T) (P := P) (f := f) (i := i) (w := 7) (y := 7) rfl hi (by decide)
  have e8 := r_of (T := T) (P := P) (f := f) (i := i) (w := 8) (y := 8) rfl hi (by decide)
  have e9 := r_of (T := T) (P := P) (f := f) (i := i) (w := 9) (y := 9) rfl hi (by decide)
  have e10 := r_of (T := T) (P := P) (f := f) (i := i) (w := 10) (y := 10) rfl hi (by decide)
  have e11 := r_of (T := T) (P := P) (f := f) (i := i) (w := 11) (y := 11) rfl hi (by decide)
  have e12 := r_of (T := T) (P := P) (f := f) (i := i) (w := 12) (y := 12) rfl hi (by decide)
  rw [(hb.2 0 (by decide)).1] at e5
  rw [(hb.2 1 (by decide)).1] at e6
  rw [(hb.2 2 (by decide)).1] at e7
  rw [(hb.2 3 (by decide)).1] at e8
  rw [(hb.2 0 (by decide)).2.1] at e9
  rw [(hb.2 1 (by decide)).2.1] at e10
  rw [(hb.2 2 (by decide)).2.1] at e11
  rw [(hb.2 3 (by decide)).2.1] at e12
  unfold rdE
  by_cases c0 : b 2 0 = b 1 0 <;> by_cases c1 : b 2 1 = b 1 1 <;> by_cases c2 : b 2 2 = b 1 2 <;> by_cases c3 : b 2 3 = b 1 3 <;>
    simp +decide only [x139_0, x139_1, x139_2, x139_3, x139_4, x139_5, x139_6, x139_9, x139_10, x139_13, x139_13N, x139_14, x139_15, x139_17, x139_18, x139_19, x139_22, x139_22N, x139_23, x139_24, x139_25, x139_26, x139_27, x139_30, x139_33, x139_34, x139_37, x139_38, x139_39, x139_42, x139_45, x139_46, aft_some, aft_void, Option.bind_some, Option.toList_some, Option.toList_none, List.cons_append, List.nil_append, if_true, if_false, ↓reduceIte, eq_self, z366_o, ↓z366_0, ↓z366_0p, ↓z366_1, ↓z366_2, ↓z366_3, ↓z366_4, ↓z366_4p, ↓z366_5, ↓z366_6, ↓z366_6p0, ↓z366_6p1, ↓z366_7, ↓z366_8, ↓z366_8p, ↓z366_9, ↓z366_9p, ↓z366_10, ↓z366_10p0, ↓z366_10p1, ↓z366_11, ↓z366_12, ↓z366_12p, ↓sg0, ↓sg1, ↓sg2, ↓sg3, ↓sg4, ↓sg5, ↓sg6, ↓sg7, ↓sg8, ↓sg9, ↓sg10, ↓sg11, ↓sg12, ↓sg13, ↓sg14, ↓sg15, ↓sg16, ↓sg17, ↓ss0, ↓ss1, ↓ss2, ↓ss3, ↓ss4, ↓ss5, ↓ss6, ↓ss7, ↓ss8, ↓ss9, ↓ss10, ↓ss11, ↓ss12, ↓ss13, ↓ss14, ↓ss15, ↓ss16, ↓ss17, ↓aft_of (e5), ↓aft_of (e6), ↓aft_of (e7), ↓aft_of (e8), ↓aft_of (e9), ↓aft_of (e10), ↓aft_of (e11), ↓aft_of (e12), c0, c1, c2, c3, Int32.reduceAdd]
theorem r_kindNow {b : kT} (hb : bR f i b) (hi : i < 8) : X 160 0 [.ref 366, .int (nI i), .long 0] [] (H (upA T 367 f) P) = some (some (.int (lkK b (if 0 < f 7 then 1 else 0))), H (upA T 367 f) P) := by
  have l0 := r_left (T := T) (P := P) hb hi (show 0 < 4 by decide)
  have l1 := r_left (T := T) (P := P) hb hi (show 1 < 4 by decide)
  have l2 := r_left (T := T) (P := P) hb hi (show 2 < 4 by decide)
  have l3 := r_left (T := T) (P := P) hb hi (show 3 < 4 by decide)
  simp only [nl0, nl1, nl2, nl3] at l0 l1 l2 l3
  unfold lkK
  by_cases s0 : 0 < f 7 <;> by_cases c0 : 0 < opK b 0 <;> by_cases c1 : 0 < opK b 1 <;> by_cases c2 : 0 < opK b 2 <;> by_cases c3 : 0 < opK b 3 <;>
    simp +decide only [x160_0, x160_1, x160_2, x160_3, x160_4, x160_7, x160_7N, x160_8, x160_9, x160_10, x160_13, x160_16, x160_17, x160_18, x160_21, x160_21N, x160_22, x160_25, x160_27, x160_28, x160_31, x160_32, x160_33, x160_36, x160_39, x160_41, aft_some, aft_void, Option.bind_some, Option.toList_some, Option.toList_none, List.cons_append, List.nil_append, if_true, if_false, ↓reduceIte, eq_self, z366_o, ↓z366_0, ↓z366_0p, ↓z366_1, ↓z366_2, ↓z366_3, ↓z366_4, ↓z366_4p, ↓z366_5, ↓z366_6, ↓z366_6p0, ↓z366_6p1, ↓z366_7, ↓z366_8, ↓z366_8p, ↓z366_9, ↓z366_9p, ↓z366_10, ↓z366_10p0, ↓z366_10p1, ↓z366_11, ↓z366_12, ↓z366_12p, ↓sg0, ↓sg1, ↓sg2, ↓sg3, ↓sg4, ↓sg5, ↓sg6, ↓sg7, ↓sg8, ↓sg9, ↓sg10, ↓sg11, ↓sg12, ↓sg13, ↓sg14, ↓sg15, ↓sg16, ↓sg17, ↓ss0, ↓ss1, ↓ss2, ↓ss3, ↓ss4, ↓ss5, ↓ss6, ↓ss7, ↓ss8, ↓ss9, ↓ss10, ↓ss11, ↓ss12, ↓ss13, ↓ss14, ↓ss15, ↓ss16, ↓ss17, ↓aft_of (l0), ↓aft_of (l1), ↓aft_of (l2), ↓aft_of (l3), s0, c0, c1, c2, c3, Int32.reduceAdd]
theorem and1 (z : Int32) : z &&& 1 = 0 ∨ z &&& 1 = 1 := by
  have h : (z &&& 1).toBitVec = BitVec.setWidth 32 (BitVec.ofBool (z.toBitVec.getLsbD 0)) := by
    rw [Int32.toBitVec_and]; exact BitVec.and_one_eq_setWidth_ofBool_getLsbD
  cases hb : z.toBitVec.getLsbD 0 with
  | false => rw [hb] at h; exact Or.inl (Int32.toBitVec_inj.mp h)
  | true => rw [hb] at h; exact Or.inr (Int32.toBitVec_inj.mp h)
theorem vs_01 (v : Int32) (D : Nat) : (vsI v D = 1) = ¬ vsI v D = 0 := by
  unfold vsI
  rcases and1 (v >>> (nI (D % 7) &&& 31)) with h | h <;> rw [h] <;> simp
/-- the day of the next visit -/
def nvF (v : Int32) (D : Nat) : Nat → Nat → Int32
  | 0, _ => 99999
  | m + 1, a => if vsI v (D + a) = 0 then nvF v D m (a + 1) else nI (D + a)
theorem r_nextVisit {D d : Nat} (h4 : f 4 = nI D) (hD : D ≤ 10100) (hd : d < 5) : X 145 0 [.ref 366, .int (nI d), .long 0] [] (H (upA T 367 f) P) = some (some (.int (nvI 99999 (f (18 + d)) D)), H (upA T 367 f) P) := by
  have k18 : 18 + nI d = nI (18 + d) := nI_add 18 d
  have k7 : nI D + 7 = nI (D + 7) := nI_add _ 7
  have key : ∀ m a : Nat, a + m = 8 → X 145 9 [.ref 366, .int (nI d), .int (nI (D + a))] [] (H (upA T 367 f) P) = some (some (.int (nvF (f (18 + d)) D m a)), H (upA T 367 f) P) := by
    intro m
    induction m with
    | zero =>
      intro a ha
      have ha : a = 8 := by omega
      subst ha
      have n8 : nI (D + 7) < nI (D + 8) := nI_lt (by omega) (by omega)
      rw [x145_9]
      simp +decide only [x145_0, x145_0N, x145_1, x145_4, x145_5, x145_6, x145_7, x145_8, x145_10, x145_10N, x145_11, x145_14, x145_15, x145_16, x145_18, x145_19, x145_22, x145_22N, x145_23, x145_26, x145_28, x145_29, x145_30, x145_31, x145_32, x145_34, x145_35, x145_36, x145_37, x145_38, x145_39, x145_42, x145_43, x145_44, x145_47, x145_50, x145_52, aft_some, aft_void, Option.bind_some, Option.toList_some, Option.toList_none, List.cons_append, List.nil_append, if_true, if_false, ↓reduceIte, eq_self, z366_o, ↓z366_0, ↓z366_0p, ↓z366_1, ↓z366_2, ↓z366_3, ↓z366_4, ↓z366_4p, ↓z366_5, ↓z366_6, ↓z366_6p0, ↓z366_6p1, ↓z366_7, ↓z366_8, ↓z366_8p, ↓z366_9, ↓z366_9p, ↓z366_10, ↓z366_10p0, ↓z366_10p1, ↓z366_11, ↓z366_12, ↓z366_12p, ↓sg0, ↓sg1, ↓sg2, ↓sg3, ↓sg4, ↓sg5, ↓sg6, ↓sg7, ↓sg8, ↓sg9, ↓sg10, ↓sg11, ↓sg12, ↓sg13, ↓sg14, ↓sg15, ↓sg16, ↓sg17, ↓ss0, ↓ss1, ↓ss2, ↓ss3, ↓ss4, ↓ss5, ↓ss6, ↓ss7, ↓ss8, ↓ss9, ↓ss10, ↓ss11, ↓ss12, ↓ss13, ↓ss14, ↓ss15, ↓ss16, ↓ss17, h4, k7, n8, nvF]
    | succ m ih =>
      intro a ha
      have n7 : ¬ nI (D + 7) < nI (D + a) := nI_nlt (by omega) (by omega)
      have e : nI (D + a) - nI (D + a) / 7 * 7 = nI ((D + a) % 7) := nI_modp (a := D + a) (b := 7) (by omega) (by decide) (by decide)
      have hv : f (18 + d) >>> (nI ((D + a) % 7) &&& 31) &&& 1 = vsI (f (18 + d)) (D + a) := rfl
      have h01 := vs_01 (f (18 + d)) (D + a)
      rw [x145_9]
      by_cases c : vsI (f (18 + d)) (D + a) = 0
      · simp +decide only [x145_0, x145_0N, x145_1, x145_4, x145_5, x145_6, x145_7, x145_8, x145_10, x145_10N, x145_11, x145_14, x145_15, x145_16, x145_18, x145_19, x145_22, x145_22N, x145_23, x145_26, x145_28, x145_29, x145_30, x145_31, x145_32, x145_34, x145_35, x145_36, x145_37, x145_38, x145_39, x145_42, x145_43, x145_44, x145_47, x145_50, x145_52, aft_some, aft_void, Option.bind_some, Option.toList_some, Option.toList_none, List.cons_append, List.nil_append, if_true, if_false, ↓reduceIte, eq_self, z366_o, ↓z366_0, ↓z366_0p, ↓z366_1, ↓z366_2, ↓z366_3, ↓z366_4, ↓z366_4p, ↓z366_5, ↓z366_6, ↓z366_6p0, ↓z366_6p1, ↓z366_7, ↓z366_8, ↓z366_8p, ↓z366_9, ↓z366_9p, ↓z366_10, ↓z366_10p0, ↓z366_10p1, ↓z366_11, ↓z366_12, ↓z366_12p, ↓sg0, ↓sg1, ↓sg2, ↓sg3, ↓sg4, ↓sg5, ↓sg6, ↓sg7, ↓sg8, ↓sg9, ↓sg10, ↓sg11, ↓sg12, ↓sg13, ↓sg14, ↓sg15, ↓sg16, ↓sg17, ↓ss0, ↓ss1, ↓ss2, ↓ss3, ↓ss4, ↓ss5, ↓ss6, ↓ss7, ↓ss8, ↓ss9, ↓ss10, ↓ss11, ↓ss12, ↓ss13, ↓ss14, ↓ss15, ↓ss16, ↓ss17, h4, k7, n7, k18, ↓s_g (show 18 + d < 912 by omega), e, hv, h01, c, nvF, nI_1]
        exact ih (a + 1) (by omega)
      · simp +decide only [x145_0, x145_0N, x145_1, x145_4, x145_5, x145_6, x145_7, x145_8, x145_10, x145_10N, x145_11, x145_14, x145_15, x145_16, x145_18, x145_19, x145_22, x145_22N, x145_23, x145_26, x145_28, x145_29, x145_30, x145_31, x145_32, x145_34, x145_35, x145_36, x145_37, x145_38, x145_39, x145_42, x145_43, x145_44, x145_47, x145_50, x145_52, aft_some, aft_void, Option.bind_some, Option.toList_some, Option.toList_none, List.cons_append, List.nil_append, if_true, if_false, ↓reduceIte, eq_self, z366_o, ↓z366_0, ↓z366_0p, ↓z366_1, ↓z366_2, ↓z366_3, ↓z366_4, ↓z366_4p, ↓z366_5, ↓z366_6, ↓z366_6p0, ↓z366_6p1, ↓z366_7, ↓z366_8, ↓z366_8p, ↓z366_9, ↓z366_9p, ↓z366_10, ↓z366_10p0, ↓z366_10p1, ↓z366_11, ↓z366_12, ↓z366_12p, ↓sg0, ↓sg1, ↓sg2, ↓sg3, ↓sg4, ↓sg5, ↓sg6, ↓sg7, ↓sg8, ↓sg9, ↓sg10, ↓sg11, ↓sg12, ↓sg13, ↓sg14, ↓sg15, ↓sg16, ↓sg17, ↓ss0, ↓ss1, ↓ss2, ↓ss3, ↓ss4, ↓ss5, ↓ss6, ↓ss7, ↓ss8, ↓ss9, ↓ss10, ↓ss11, ↓ss12, ↓ss13, ↓ss14, ↓ss15, ↓ss16, ↓ss17, h4, k7, n7, k18, ↓s_g (show 18 + d < 912 by omega), e, hv, h01, c, nvF]
  have k1 : nI D + 1 = nI (D + 1) := nI_add _ 1
  simp +decide only [x145_0, x145_0N, x145_1, x145_4, x145_5, x145_6, x145_7, x145_8, x145_10, x145_10N, x145_11, x145_14, x145_15, x145_16, x145_18, x145_19, x145_22, x145_22N, x145_23, x145_26, x145_28, x145_29, x145_30, x145_31, x145_32, x145_34, x145_35, x145_36, x145_37, x145_38, x145_39, x145_42, x145_43, x145_44, x145_47, x145_50, x145_52, aft_some, aft_void, Option.bind_some, Option.toList_some, Option.toList_none, List.cons_append, List.nil_append, if_true, if_false, ↓reduceIte, eq_self, z366_o, ↓z366_0, ↓z366_0p, ↓z366_1, ↓z366_2, ↓z366_3, ↓z366_4, ↓z366_4p, ↓z366_5, ↓z366_6, ↓z366_6p0, ↓z366_6p1, ↓z366_7, ↓z366_8, ↓z366_8p, ↓z366_9, ↓z366_9p, ↓z366_10, ↓z366_10p0, ↓z366_10p1, ↓z366_11, ↓z366_12, ↓z366_12p, ↓sg0, ↓sg1, ↓sg2, ↓sg3, ↓sg4, ↓sg5, ↓sg6, ↓sg7, ↓sg8, ↓sg9, ↓sg10, ↓sg11, ↓sg12, ↓sg13, ↓sg14, ↓sg15, ↓sg16, ↓sg17, ↓ss0, ↓ss1, ↓ss2, ↓ss3, ↓ss4, ↓ss5, ↓ss6, ↓ss7, ↓ss8, ↓ss9, ↓ss10, ↓ss11, ↓ss12, ↓ss13, ↓ss14, ↓ss15, ↓ss16, ↓ss17, h4, k1]
  exact key 7 1 (by omega)
end RF
