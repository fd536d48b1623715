/-! what would be, in the reference -/
section QW
variable {T U : Nat → Nat → Int32} {P : Nat → Nat → Nat} {f g : Nat → Int32} {s : gT} {x y z w m : Int32} {N M : Nat → Nat} {V W : Nat → Nat → Int32} {K : List kT} {B : List bT} {R R' : Nat → Nat → Int32} {i k r : Nat}
theorem ag12 {G : Int32 → Option (Option Value × List hC)} : (getI (H T P)[368]? 368 0 12).bind G = G (T 368 12) := a368_g (k := 12) (by decide)
/-- the state is laid aside -/
theorem q_aside (h : CF T f s) : ∃ U, X 132 0 [.ref 366, .long 0] [] (H (upA T 367 f) P) = some (none, H (upA U 367 f) P) ∧ (∀ a, a ≠ 368 → U a = T a) ∧ (∀ k, k < 912 → U 368 k = f k) ∧ CF U f s := by
  obtain ⟨U, e, f1, g1, -⟩ := r_putAside (T := upA T 367 f) (P := P)
  have hU : U 367 = f := by rw [f1 367 (by decide), upA_s]
  have hUU : upA U 367 f = U := by rw [← hU]; exact upA_self _ _
  have n1 : ∀ a, a ≠ 368 → upA U 367 (T 367) a = T a := fun a q1 => by
    by_cases q : a = 367
    · subst q; exact upA_s _ _ _
    · rw [upA_n _ _ q, f1 a q1, upA_n _ _ q]
  refine ⟨upA U 367 (T 367), ?_, n1, fun k hk => ?_, ?_⟩
  · rw [upA_upA, hUU]; exact e
  · rw [upA_n _ _ (by decide), g1 k hk, upA_s]
  · obtain ⟨⟨h0, hk, hh, hx⟩, hs⟩ := h
    refine ⟨⟨?_, ?_, ?_, ?_⟩, hs⟩
    · rw [n1 366 (by decide)]; exact h0
    · cases hq : s.2.1 with
      | none => rw [hq] at hk; show upA U 367 (T 367) 366 6 = 0; rw [n1 366 (by decide)]; exact hk
      | some v => rw [hq] at hk; exact ⟨by rw [n1 366 (by decide)]; exact hk.1, by rw [n1 370 (by decide)]; exact hk.2⟩
    · exact hh.same (by rw [n1 366 (by decide)]) (n1 369 (by decide))
    · exact hx.same (by rw [n1 366 (by decide)]) (n1 371 (by decide))
/-- and taken back -/
theorem q_back (h : CF U f s) (hw : WG s) (ha : ∀ k, k < 912 → U 368 k = f k) : ∃ U' f', X 133 0 [.ref 366, .long 0] [] (H (upA U 367 g) P) = some (none, H (upA U' 367 f') P) ∧ (∀ a, a < 366 → U' a = U a) ∧ CF U' f' s := by
  obtain ⟨W, e, f1, g1, -⟩ := r_takeBack (T := upA U 367 g) (P := P)
  have n1 : ∀ a, a ≠ 367 → W a = U a := fun a q => by rw [f1 a q, upA_n _ _ q]
  refine ⟨W, W 367, by rw [upA_self]; exact e, fun a ha => n1 a (by omega), ?_⟩
  obtain ⟨⟨h0, hk, hh, hx⟩, hs⟩ := h
  refine ⟨⟨?_, ?_, ?_, ?_⟩, sU.same hs hw.1 (fun k hk => ?_)⟩
  · rw [n1 366 (by decide)]; exact h0
  · cases hq : s.2.1 with
    | none => rw [hq] at hk; show W 366 6 = 0; rw [n1 366 (by decide)]; exact hk
    | some v => rw [hq] at hk; exact ⟨by rw [n1 366 (by decide)]; exact hk.1, by rw [n1 370 (by decide)]; exact hk.2⟩
  · exact hh.same (by rw [n1 366 (by decide)]) (n1 369 (by decide))
  · exact hx.same (by rw [n1 366 (by decide)]) (n1 371 (by decide))
  · rw [g1 k hk, upA_n _ _ (by decide)]; exact ha k hk
theorem WF.ord (hw : WF N V K B) (hr : r < 3) : WF N (up1 V 1 0 (nI r)) K B := by
  obtain ⟨-, g3, g4⟩ := hw.2.2.1
  refine hw.v ?_ ?_ ?_ ?_ ⟨⟨r, hr, ?_⟩, ?_, ?_⟩
  · simp +decide only [u_n]
  · simp +decide only [u_n]
  · simp +decide only [u_n]
  · simp +decide only [u_n]
  · simp +decide only [upA_s]
  · simp +decide only [upA_s, u_n]; exact g3
  · simp +decide only [upA_s, u_n]; exact g4
/-- what ironing by the order r would answer -/
noncomputable def wdU (u : uT) (r m w : Int32) : Int32 := if w = 0 then tuN u r m else if w = 1 then smI (fun i => rdK (gK (tuU u r m).2 i)) (tuU u r m).2.length else (tuU u r m).1.2.1 48 1 - u.1.2.1 48 1
theorem r_would (h : CF T f s) (hw : WG s) (hr : r < 3) (m w : Int32) : RQ T P f 203 [.ref 366, .int (nI r), .int m, .int w, .long 0, .long 0] (wdU s.1 (nI r) m w, s) := by
  obtain ⟨U, e1, f1, g1, hU⟩ := q_aside (P := P) h
  have hs := h.2
  have w8 : s.1.2.length ≤ 8 := hw.1.1.1.2.2.2.1
  have hso : sR (upA f 0 (nI r)) s.1.1.1 (up1 s.1.1.2.1 1 0 (nI r)) s.1.2 s.1.1.2.2.1 s.1.1.2.2.2 := by
    have n : ∀ a, a ≠ 0 → upA f 0 (nI r) a = f a := fun a ha => upA_n _ _ ha
    have vn : ∀ q, q ≠ 1 → up1 s.1.1.2.1 1 0 (nI r) q = s.1.1.2.1 q := fun q hq => up1_n hq
    obtain ⟨⟨a1, ⟨a2, a3, a4, a5⟩, ⟨a6, a7, a8⟩, a9, ⟨a10, a11, a12⟩, a13, a14⟩, hC, hO, hK, hL, hJ⟩ := id hs
    refine sR.rows (W := up1 s.1.1.2.1 1 0 (nI r)) hs w8 hw.1.1.1.2.2.2.2.1 hw.1.1.1.2.2.2.2.2 (fun j hj => ?_) ⟨n 4 (by omega), n 5 (by omega), n 6 (by omega), n 10 (by omega), n 16 (by omega), n 17 (by omega)⟩ ?_ (n 8 (by omega)) ?_ ?_ (fun j hj => n _ (by omega)) (fun d hd => ?_) ?_ (fun c hc => ⟨n _ (by omega), ?_, n _ (by omega)⟩) (fun a ha => n a (by omega)) (vn 48 (by decide)) (vn 4 (by decide)) (vn 6 (by decide)) (vn 46 (by decide)) (vn 47 (by decide))
    · rw [up1_s]
      by_cases e : j = 0
      · rw [e, upA_s, upA_s]
      · rw [n _ e, upA_n _ _ e]; exact a1 j hj
    · rw [n 7 (by omega), vn 0 (by decide)]; exact a5
    · rw [n 9 (by omega), vn 0 (by decide)]; exact a7
    · rw [n 15 (by omega), vn 0 (by decide)]; exact a10
    · rw [n _ (by omega), vn 2 (by decide)]; exact a13 d hd
    · rw [vn 0 (by decide)]
    · rw [n _ (by omega), vn 5 (by decide)]; exact (hC c hc).2.1
  obtain ⟨G, ei, hG, wG⟩ := r_irons (T := U) (P := P) (m := m) hso (hw.1.1.ord hr)
  obtain ⟨U', f', e2, fr2, hB⟩ := q_back (P := P) (g := G) hU hw g1
  have er := r_readyMany (T := U) (P := P) hG wG
  have f12 : f 12 = s.1.1.2.1 48 1 := hs.1.2.2.2.1 1 (by decide)
  have g12 : G 12 = (irS s.1.1.1 288 (up1 s.1.1.2.1 1 0 (nI r)) s.1.2 m).2.1 48 1 := hG.1.2.2.2.1 1 (by decide)
  have u12 : upA U 367 G 368 12 = s.1.1.2.1 48 1 := by rw [upA_n _ _ (by decide), g1 12 (by decide)]; exact f12
  refine ⟨U', f', ?_, fun a ha => (fr2 a ha).trans (f1 a (by omega)), hB⟩
  unfold wdU
  by_cases w0 : w = 0
  · simp +decide only [x203_0, x203_0N, x203_1, x203_4, x203_4N, x203_5, x203_8, x203_9, x203_10, x203_11, x203_11N, x203_12, x203_13, x203_16, x203_18, x203_19, x203_22, x203_24, x203_27, x203_28, x203_29, x203_32, x203_32N, x203_33, x203_36, x203_39, x203_39N, x203_40, x203_43, x203_45, x203_46, x203_46N, x203_47, x203_50, x203_52, x203_53, x203_54, x203_56, x203_56N, x203_57, x203_60, x203_62, aft_some, aft_void, Option.bind_some, Option.toList_some, Option.toList_none, List.cons_append, List.nil_append, if_true, if_false, ↓reduceIte, eq_self, z366_o, ↓z366_0, ↓z366_0p, ↓z366_1, ↓z366_2, ↓z366_3, ↓z366_4, ↓z366_4p, ↓z366_5, ↓z366_6, ↓z366_6p0, ↓z366_6p1, ↓z366_7, ↓z366_8, ↓z366_8p, ↓z366_9, ↓z366_9p, ↓z366_10, ↓z366_10p0, ↓z366_10p1, ↓z366_11, ↓z366_12, ↓z366_12p, ↓sg0, ↓sg1, ↓sg2, ↓sg3, ↓sg4, ↓sg5, ↓sg6, ↓sg7, ↓sg8, ↓sg9, ↓sg10, ↓sg11, ↓sg12, ↓sg13, ↓sg14, ↓sg15, ↓sg16, ↓sg17, ↓ss0, ↓ss1, ↓ss2, ↓ss3, ↓ss4, ↓ss5, ↓ss6, ↓ss7, ↓ss8, ↓ss9, ↓ss10, ↓ss11, ↓ss12, ↓ss13, ↓ss14, ↓ss15, ↓ss16, ↓ss17, ↓aft_of (e1), ↓aft_of (ei), w0, ↓aft_of (e2)]
  by_cases w1 : w = 1
  · simp +decide only [x203_0, x203_0N, x203_1, x203_4, x203_4N, x203_5, x203_8, x203_9, x203_10, x203_11, x203_11N, x203_12, x203_13, x203_16, x203_18, x203_19, x203_22, x203_24, x203_27, x203_28, x203_29, x203_32, x203_32N, x203_33, x203_36, x203_39, x203_39N, x203_40, x203_43, x203_45, x203_46, x203_46N, x203_47, x203_50, x203_52, x203_53, x203_54, x203_56, x203_56N, x203_57, x203_60, x203_62, aft_some, aft_void, Option.bind_some, Option.toList_some, Option.toList_none, List.cons_append, List.nil_append, if_true, if_false, ↓reduceIte, eq_self, z366_o, ↓z366_0, ↓z366_0p, ↓z366_1, ↓z366_2, ↓z366_3, ↓z366_4, ↓z366_4p, ↓z366_5, ↓z366_6, ↓z366_6p0, ↓z366_6p1, ↓z366_7, ↓z366_8, ↓z366_8p, ↓z366_9, ↓z366_9p, ↓z366_10, ↓z366_10p0, ↓z366_10p1, ↓z366_11, ↓z366_12, ↓z366_12p, ↓sg0, ↓sg1, ↓sg2, ↓sg3, ↓sg4, ↓sg5, ↓sg6, ↓sg7, ↓sg8, ↓sg9, ↓sg10, ↓sg11, ↓sg12, ↓sg13, ↓sg14, ↓sg15, ↓sg16, ↓sg17, ↓ss0, ↓ss1, ↓ss2, ↓ss3, ↓ss4, ↓ss5, ↓ss6, ↓ss7, ↓ss8, ↓ss9, ↓ss10, ↓ss11, ↓ss12, ↓ss13, ↓ss14, ↓ss15, ↓ss16, ↓ss17, ↓aft_of (e1), ↓aft_of (ei), w0, w1, ↓aft_of (er), ↓aft_of (e2)]
  simp +decide only [x203_0, x203_0N, x203_1, x203_4, x203_4N, x203_5, x203_8, x203_9, x203_10, x203_11, x203_11N, x203_12, x203_13, x203_16, x203_18, x203_19, x203_22, x203_24, x203_27, x203_28, x203_29, x203_32, x203_32N, x203_33, x203_36, x203_39, x203_39N, x203_40, x203_43, x203_45, x203_46, x203_46N, x203_47, x203_50, x203_52, x203_53, x203_54, x203_56, x203_56N, x203_57, x203_60, x203_62, aft_some, aft_void, Option.bind_some, Option.toList_some, Option.toList_none, List.cons_append, List.nil_append, if_true, if_false, ↓reduceIte, eq_self, z366_o, ↓z366_0, ↓z366_0p, ↓z366_1, ↓z366_2, ↓z366_3, ↓z366_4, ↓z366_4p, ↓z366_5, ↓z366_6, ↓z366_6p0, ↓z366_6p1, ↓z366_7, ↓z366_8, ↓z366_8p, ↓z366_9, ↓z366_9p, ↓z366_10, ↓z366_10p0, ↓z366_10p1, ↓z366_11, ↓z366_12, ↓z366_12p, ↓sg0, ↓sg1, ↓sg2, ↓sg3, ↓sg4, ↓sg5, ↓sg6, ↓sg7, ↓sg8, ↓sg9, ↓sg10, ↓sg11, ↓sg12, ↓sg13, ↓sg14, ↓sg15, ↓sg16, ↓sg17, ↓ss0, ↓ss1, ↓ss2, ↓ss3, ↓ss4, ↓ss5, ↓ss6, ↓ss7, ↓ss8, ↓ss9, ↓ss10, ↓ss11, ↓ss12, ↓ss13, ↓ss14, ↓ss15, ↓ss16, ↓ss17, ↓ag12, ↓aft_of (e1), ↓aft_of (ei), w0, w1, g12, u12, ↓aft_of (e2)]
theorem q_if (h : CF T f s) (hw : WG s) (r m w : Int32) : RQ T P f 204 [.ref 366, .int r, .int m, .int w, .long 0] (gIf r m w s, s) := by
  have t0 := thr (f := f) h.1.1
  unfold gIf
  by_cases c1 : inI r 0 2 = 0
  · rw [if_pos c1]
    exact RQ.same h (by simp +decide only [x204_0, x204_0N, x204_1, x204_2, x204_5, x204_6, x204_7, x204_8, x204_11, x204_14, x204_15, x204_16, x204_19, x204_22, x204_25, x204_26, x204_27, x204_28, x204_31, x204_34, x204_35, x204_38, x204_39, x204_41, x204_43, x204_46, x204_46N, x204_47, x204_48, x204_49, x204_50, x204_53, x204_56, x204_58, aft_some, aft_void, Option.bind_some, Option.toList_some, Option.toList_none, List.cons_append, List.nil_append, if_true, if_false, ↓reduceIte, eq_self, z366_o, ↓z366_0, ↓z366_0p, ↓z366_1, ↓z366_2, ↓z366_3, ↓z366_4, ↓z366_4p, ↓z366_5, ↓z366_6, ↓z366_6p0, ↓z366_6p1, ↓z366_7, ↓z366_8, ↓z366_8p, ↓z366_9, ↓z366_9p, ↓z366_10, ↓z366_10p0, ↓z366_10p1, ↓z366_11, ↓z366_12, ↓z366_12p, ↓sg0, ↓sg1, ↓sg2, ↓sg3, ↓sg4, ↓sg5, ↓sg6, ↓sg7, ↓sg8, ↓sg9, ↓sg10, ↓sg11, ↓sg12, ↓sg13, ↓sg14, ↓sg15, ↓sg16, ↓sg17, ↓ss0, ↓ss1, ↓ss2, ↓ss3, ↓ss4, ↓ss5, ↓ss6, ↓ss7, ↓ss8, ↓ss9, ↓ss10, ↓ss11, ↓ss12, ↓ss13, ↓ss14, ↓ss15, ↓ss16, ↓ss17, t0, ↓aft_of (r_in), c1])
  rw [if_neg c1]
  by_cases c2 : inI m 1 600 = 0
  · rw [if_pos c2]
    exact RQ.same h (by simp +decide only [x204_0, x204_0N, x204_1, x204_2, x204_5, x204_6, x204_7, x204_8, x204_11, x204_14, x204_15, x204_16, x204_19, x204_22, x204_25, x204_26, x204_27, x204_28, x204_31, x204_34, x204_35, x204_38, x204_39, x204_41, x204_43, x204_46, x204_46N, x204_47, x204_48, x204_49, x204_50, x204_53, x204_56, x204_58, aft_some, aft_void, Option.bind_some, Option.toList_some, Option.toList_none, List.cons_append, List.nil_append, if_true, if_false, ↓reduceIte, eq_self, z366_o, ↓z366_0, ↓z366_0p, ↓z366_1, ↓z366_2, ↓z366_3, ↓z366_4, ↓z366_4p, ↓z366_5, ↓z366_6, ↓z366_6p0, ↓z366_6p1, ↓z366_7, ↓z366_8, ↓z366_8p, ↓z366_9, ↓z366_9p, ↓z366_10, ↓z366_10p0, ↓z366_10p1, ↓z366_11, ↓z366_12, ↓z366_12p, ↓sg0, ↓sg1, ↓sg2, ↓sg3, ↓sg4, ↓sg5, ↓sg6, ↓sg7, ↓sg8, ↓sg9, ↓sg10, ↓sg11, ↓sg12, ↓sg13, ↓sg14, ↓sg15, ↓sg16, ↓sg17, ↓ss0, ↓ss1, ↓ss2, ↓ss3, ↓ss4, ↓ss5, ↓ss6, ↓ss7, ↓ss8, ↓ss9, ↓ss10, ↓ss11, ↓ss12, ↓ss13, ↓ss14, ↓ss15, ↓ss16, ↓ss17, t0, ↓aft_of (r_in), c1, c2])
  rw [if_neg c2]
  by_cases c3 : inI w 0 2 = 0
  · rw [if_pos c3]
    exact RQ.same h (by simp +decide only [x204_0, x204_0N, x204_1, x204_2, x204_5, x204_6, x204_7, x204_8, x204_11, x204_14, x204_15, x204_16, x204_19, x204_22, x204_25, x204_26, x204_27, x204_28, x204_31, x204_34, x204_35, x204_38, x204_39, x204_41, x204_43, x204_46, x204_46N, x204_47, x204_48, x204_49, x204_50, x204_53, x204_56, x204_58, aft_some, aft_void, Option.bind_some, Option.toList_some, Option.toList_none, List.cons_append, List.nil_append, if_true, if_false, ↓reduceIte, eq_self, z366_o, ↓z366_0, ↓z366_0p, ↓z366_1, ↓z366_2, ↓z366_3, ↓z366_4, ↓z366_4p, ↓z366_5, ↓z366_6, ↓z366_6p0, ↓z366_6p1, ↓z366_7, ↓z366_8, ↓z366_8p, ↓z366_9, ↓z366_9p, ↓z366_10, ↓z366_10p0, ↓z366_10p1, ↓z366_11, ↓z366_12, ↓z366_12p, ↓sg0, ↓sg1, ↓sg2, ↓sg3, ↓sg4, ↓sg5, ↓sg6, ↓sg7, ↓sg8, ↓sg9, ↓sg10, ↓sg11, ↓sg12, ↓sg13, ↓sg14, ↓sg15, ↓sg16, ↓sg17, ↓ss0, ↓ss1, ↓ss2, ↓ss3, ↓ss4, ↓ss5, ↓ss6, ↓ss7, ↓ss8, ↓ss9, ↓ss10, ↓ss11, ↓ss12, ↓ss13, ↓ss14, ↓ss15, ↓ss16, ↓ss17, t0, ↓aft_of (r_in), c1, c2, c3])
  rw [if_neg c3]
  obtain ⟨k, hk, rfl⟩ := inI_ex (n := 2) (by decide) c1
  obtain ⟨U, g, e, fr, hU⟩ := r_would (P := P) h hw (show k < 3 by omega) m w
  refine ⟨U, g, ?_, fr, hU⟩
  show X 204 0 [.ref 366, .int (nI k), .int m, .int w, .long 0] [] (H (upA T 367 f) P) = some (some (.int (wdU s.1 (nI k) m w)), H (upA U 367 g) P)
  simp +decide only [x204_0, x204_0N, x204_1, x204_2, x204_5, x204_6, x204_7, x204_8, x204_11, x204_14, x204_15, x204_16, x204_19, x204_22, x204_25, x204_26, x204_27, x204_28, x204_31, x204_34, x204_35, x204_38, x204_39, x204_41, x204_43, x204_46, x204_46N, x204_47, x204_48, x204_49, x204_50, x204_53, x204_56, x204_58, aft_some, aft_void, Option.bind_some, Option.toList_some, Option.toList_none, List.cons_append, List.nil_append, if_true, if_false, ↓reduceIte, eq_self, z366_o, ↓z366_0, ↓z366_0p, ↓z366_1, ↓z366_2, ↓z366_3, ↓z366_4, ↓z366_4p, ↓z366_5, ↓z366_6, ↓z366_6p0, ↓z366_6p1, ↓z366_7, ↓z366_8, ↓z366_8p, ↓z366_9, ↓z366_9p, ↓z366_10, ↓z366_10p0, ↓z366_10p1, ↓z366_11, ↓z366_12, ↓z366_12p, ↓sg0, ↓sg1, ↓sg2, ↓sg3, ↓sg4, ↓sg5, ↓sg6, ↓sg7, ↓sg8, ↓sg9, ↓sg10, ↓sg11, ↓sg12, ↓sg13, ↓sg14, ↓sg15, ↓sg16, ↓sg17, ↓ss0, ↓ss1, ↓ss2, ↓ss3, ↓ss4, ↓ss5, ↓ss6, ↓ss7, ↓ss8, ↓ss9, ↓ss10, ↓ss11, ↓ss12, ↓ss13, ↓ss14, ↓ss15, ↓ss16, ↓ss17, t0, ↓aft_of (r_in), c1, c2, c3, ↓aft_of (e)]
/-- how many pieces -/
theorem irS_le (N : Nat → Nat) : ∀ (n : Nat) (V : Nat → Nat → Int32) (K : List kT) (m : Int32), (irS N n V K m).1 ≤ n
  | 0, _, _, _ => Nat.le_refl _
  | n + 1, V, K, m => by
    unfold irS
    split
    · exact Nat.zero_le _
    · split
      · exact Nat.zero_le _
      · rename_i i _ _
        have := irS_le N n (inV V (gK K i) (kdN V (gK K i))) (K.set i (inB (gK K i) (kdN V (gK K i)))) (m - ndI V (gK K i) (kdN V (gK K i)))
        simp only []
        omega
theorem irS_len (N : Nat → Nat) : ∀ (n : Nat) (V : Nat → Nat → Int32) (K : List kT) (m : Int32), (irS N n V K m).2.2.length = K.length
  | 0, _, _, _ => rfl
  | n + 1, V, K, m => by
    unfold irS
    split
    · rfl
    · split
      · rfl
      · rename_i i _ _
        have := irS_len N n (inV V (gK K i) (kdN V (gK K i))) (K.set i (inB (gK K i) (kdN V (gK K i)))) (m - ndI V (gK K i) (kdN V (gK K i)))
        simp only []
        rw [this, List.length_set]
theorem rd_sum {K : List kT} : ∀ n, ∃ y, y ≤ n ∧ smI (fun i => rdK (gK K i)) n = nI y
  | 0 => ⟨0, Nat.le_refl _, rfl⟩
  | n + 1 => by
    obtain ⟨y, h1, h2⟩ := rd_sum (K := K) n
    have h01 : rdK (gK K n) = 0 ∨ rdK (gK K n) = 1 := by
      unfold rdK
      repeat' split
      all_goals simp
    simp only [smI]
    rcases h01 with h | h
    · exact ⟨y, by omega, by rw [h2, h, Int32.add_zero]⟩
    · exact ⟨y + 1, by omega, by rw [h2, h]; exact nI_add y 1⟩
/-- the best so far: the reference's way and the class's -/
def BI (b : bsT) (bo mo : Int32) : Prop := b.1 = bo ∧ ((b.2.1 = -1 ∧ b.2.2 = -1 ∧ mo = -5) ∨ ∃ r p, r ≤ 8 ∧ p ≤ 288 ∧ b.2.1 = nI r ∧ b.2.2 = nI p ∧ mo = nI (1000 * r + p))
theorem BI.step {b : bsT} {bo mo : Int32} (h : BI b bo mo) {k r p : Nat} (hr : r ≤ 8) (hp : p ≤ 288) : BI (bsS (nI k) (nI r) (nI p) b) (if mo < nI (1000 * r + p) then nI k else bo) (if mo < nI (1000 * r + p) then nI (1000 * r + p) else mo) := by
  obtain ⟨h1, h2⟩ := h
  unfold bsS
  rcases h2 with ⟨q1, q2, q3⟩ | ⟨r', p', hr', hp', q1, q2, q3⟩
  · have c1 : (-1 : Int32) < nI r := by
      rw [Int32.lt_iff_toInt_lt, nI_toInt (by omega), show (-1 : Int32).toInt = -1 from by decide]; omega
    have c2 : (-5 : Int32) < nI (1000 * r + p) := by
      rw [Int32.lt_iff_toInt_lt, nI_toInt (by omega), show (-5 : Int32).toInt = -5 from by decide]; omega
    rw [q1, q3, if_pos c1, if_pos c2, if_pos c2]
    exact ⟨rfl, Or.inr ⟨r, p, hr, hp, rfl, rfl, rfl⟩⟩
  · rw [q1, q2, q3]
    have e1 : nI r' < nI r ↔ r' < r := by rw [nI_ltp (by omega) (by omega)]
    have e2 : nI r = nI r' ↔ r = r' := by rw [nI_inj (by omega) (by omega)]
    have e3 : nI p' < nI p ↔ p' < p := by rw [nI_ltp (by omega) (by omega)]
    have e4 : nI (1000 * r' + p') < nI (1000 * r + p) ↔ 1000 * r' + p' < 1000 * r + p := by rw [nI_ltp (by omega) (by omega)]
    by_cases c1 : r' < r
    · rw [if_pos (e1.mpr c1), if_pos (e4.mpr (by omega)), if_pos (e4.mpr (by omega))]
      exact ⟨rfl, Or.inr ⟨r, p, hr, hp, rfl, rfl, rfl⟩⟩
    · rw [if_neg (fun z => c1 (e1.mp z))]
      by_cases c2 : r = r'
      · rw [if_pos (e2.mpr c2)]
        by_cases c3 : p' < p
        · rw [if_pos (e3.mpr c3), if_pos (e4.mpr (by omega)), if_pos (e4.mpr (by omega))]
          exact ⟨rfl, Or.inr ⟨r, p, hr, hp, rfl, rfl, rfl⟩⟩
        · rw [if_neg (fun z => c3 (e3.mp z)), if_neg (fun z => by have := e4.mp z; omega), if_neg (fun z => by have := e4.mp z; omega)]
          exact ⟨h1, Or.inr ⟨r', p', hr', hp', q1, q2, rfl⟩⟩
      · rw [if_neg (fun z => c2 (e2.mp z)), if_neg (fun z => by have := e4.mp z; omega), if_neg (fun z => by have := e4.mp z; omega)]
        exact ⟨h1, Or.inr ⟨r', p', hr', hp', q1, q2, rfl⟩⟩
theorem q_best (h : CF T f s) (hw : WG s) (m : Int32) : RQ T P f 205 [.ref 366, .int m, .long 0, .long 0, .long 0, .long 0] (gBest m s, s) := by
  have t0 := thr (f := f) h.1.1
  unfold gBest
  by_cases c1 : inI m 1 600 = 0
  · rw [if_pos c1]
    exact RQ.same h (by simp +decide only [x205_0, x205_0N, x205_1, x205_2, x205_5, x205_6, x205_7, x205_10, x205_13, x205_16, x205_18, x205_19, x205_20, x205_21, x205_23, x205_24, x205_25, x205_27, x205_29, x205_30, x205_33, x205_36, x205_36N, x205_37, x205_39, x205_40, x205_41, x205_44, x205_45, x205_45N, x205_46, x205_48, x205_49, x205_50, x205_53, x205_54, x205_56, x205_58, x205_59, x205_62, x205_64, x205_67, x205_68, x205_69, x205_71, x205_72, x205_75, x205_77, x205_80, x205_81, x205_82, x205_85, x205_88, x205_89, aft_some, aft_void, Option.bind_some, Option.toList_some, Option.toList_none, List.cons_append, List.nil_append, if_true, if_false, ↓reduceIte, eq_self, z366_o, ↓z366_0, ↓z366_0p, ↓z366_1, ↓z366_2, ↓z366_3, ↓z366_4, ↓z366_4p, ↓z366_5, ↓z366_6, ↓z366_6p0, ↓z366_6p1, ↓z366_7, ↓z366_8, ↓z366_8p, ↓z366_9, ↓z366_9p, ↓z366_10, ↓z366_10p0, ↓z366_10p1, ↓z366_11, ↓z366_12, ↓z366_12p, ↓sg0, ↓sg1, ↓sg2, ↓sg3, ↓sg4, ↓sg5, ↓sg6, ↓sg7, ↓sg8, ↓sg9, ↓sg10, ↓sg11, ↓sg12, ↓sg13, ↓sg14, ↓sg15, ↓sg16, ↓sg17, ↓ss0, ↓ss1, ↓ss2, ↓ss3, ↓ss4, ↓ss5, ↓ss6, ↓ss7, ↓ss8, ↓ss9, ↓ss10, ↓ss11, ↓ss12, ↓ss13, ↓ss14, ↓ss15, ↓ss16, ↓ss17, t0, ↓aft_of (r_in), c1])
  rw [if_neg c1]
  have w8 : s.1.2.length ≤ 8 := hw.1.1.1.2.2.2.1
  obtain ⟨⟨U, g, bo, mo, v5⟩, e, i1, i2, i3⟩ := loop_ex (fun i (t : (Nat → Nat → Int32) × (Nat → Int32) × Int32 × Int32 × Value) => X 205 27 [.ref 366, .int m, .int t.2.2.1, .int t.2.2.2.1, .int (nI i), t.2.2.2.2] [] (H (upA t.1 367 t.2.1) P))
    (fun i t => BI (bsU m s.1 i) t.2.2.1 t.2.2.2.1 ∧ (∀ a, a < 366 → t.1 a = T a) ∧ CF t.1 t.2.1 s) 3 (T, f, 0, -5, .long 0) ⟨⟨rfl, Or.inl ⟨rfl, rfl, rfl⟩⟩, fun _ _ => rfl, h⟩ (by
      intro i ⟨U, g, bo, mo, v5⟩ hi ⟨i1, i2, i3⟩
      have i1 : BI (bsU m s.1 i) bo mo := i1
      have i2 : ∀ a, a < 366 → U a = T a := i2
      have i3 : CF U g s := i3
      obtain ⟨U1, g1, e1, fr1, h1⟩ := r_would (P := P) i3 hw hi m 1
      obtain ⟨U2, g2, e2, fr2, h2⟩ := r_would (P := P) h1 hw hi m 0
      obtain ⟨y, hy, ey⟩ := rd_sum (K := (tuU s.1 (nI i) m).2) (tuU s.1 (nI i) m).2.length
      have hlen : (tuU s.1 (nI i) m).2.length = s.1.2.length := irS_len _ _ _ _ _
      have hcnt := irS_le s.1.1.1 288 (up1 s.1.1.2.1 1 0 (nI i)) s.1.2 m
      have w1 : wdU s.1 (nI i) m 1 = nI y := ey
      have w0 : wdU s.1 (nI i) m 0 = tuN s.1 (nI i) m := rfl
      have ea : 1000 * nI y + tuN s.1 (nI i) m = nI (1000 * y + (irS s.1.1.1 288 (up1 s.1.1.2.1 1 0 (nI i)) s.1.2 m).1) := by
        rw [show (1000 : Int32) = nI 1000 from rfl, nI_mul, nI_add]
      have hb := i1.step (k := i) (r := y) (p := (irS s.1.1.1 288 (up1 s.1.1.2.1 1 0 (nI i)) s.1.2 m).1) (by omega) hcnt
      have hbs : bsU m s.1 (i + 1) = bsS (nI i) (nI y) (nI (irS s.1.1.1 288 (up1 s.1.1.2.1 1 0 (nI i)) s.1.2 m).1) (bsU m s.1 i) := by
        show bsS (nI i) (rdU (tuU s.1 (nI i) m)) (tuN s.1 (nI i) m) (bsU m s.1 i) = _
        rw [show rdU (tuU s.1 (nI i) m) = nI y from ey]
      rw [w1] at e1
      rw [w0] at e2
      have hlt : nI i < 3 := nI_lt hi (by decide)
      obtain ⟨q, hq⟩ : ∃ q, q = nI (1000 * y + (irS s.1.1.1 288 (up1 s.1.1.2.1 1 0 (nI i)) s.1.2 m).1) := ⟨_, rfl⟩
      rw [← hq] at ea hb
      refine ⟨(U2, g2, (if mo < q then nI i else bo), (if mo < q then q else mo), .int q), ?_, by rw [hbs]; exact hb, fun a ha => (fr2 a ha).trans ((fr1 a ha).trans (i2 a ha)), h2⟩
      show X 205 27 [.ref 366, .int m, .int bo, .int mo, .int (nI i), v5] [] (H (upA U 367 g) P) = X 205 27 [.ref 366, .int m, .int (if mo < q then nI i else bo), .int (if mo < q then q else mo), .int (nI (i + 1)), .int q] [] (H (upA U2 367 g2) P)
      rw [x205_27]
      by_cases c : mo < q
      · simp +decide only [x205_0, x205_0N, x205_1, x205_2, x205_5, x205_6, x205_7, x205_10, x205_13, x205_16, x205_18, x205_19, x205_20, x205_21, x205_23, x205_24, x205_25, x205_29, x205_30, x205_33, x205_36, x205_36N, x205_37, x205_39, x205_40, x205_41, x205_44, x205_45, x205_45N, x205_46, x205_48, x205_49, x205_50, x205_53, x205_54, x205_56, x205_58, x205_59, x205_62, x205_64, x205_67, x205_68, x205_69, x205_71, x205_72, x205_75, x205_77, x205_80, x205_81, x205_82, x205_85, x205_88, x205_89, aft_some, aft_void, Option.bind_some, Option.toList_some, Option.toList_none, List.cons_append, List.nil_append, if_true, if_false, ↓reduceIte, eq_self, z366_o, ↓z366_0, ↓z366_0p, ↓z366_1, ↓z366_2, ↓z366_3, ↓z366_4, ↓z366_4p, ↓z366_5, ↓z366_6, ↓z366_6p0, ↓z366_6p1, ↓z366_7, ↓z366_8, ↓z366_8p, ↓z366_9, ↓z366_9p, ↓z366_10, ↓z366_10p0, ↓z366_10p1, ↓z366_11, ↓z366_12, ↓z366_12p, ↓sg0, ↓sg1, ↓sg2, ↓sg3, ↓sg4, ↓sg5, ↓sg6, ↓sg7, ↓sg8, ↓sg9, ↓sg10, ↓sg11, ↓sg12, ↓sg13, ↓sg14, ↓sg15, ↓sg16, ↓sg17, ↓ss0, ↓ss1, ↓ss2, ↓ss3, ↓ss4, ↓ss5, ↓ss6, ↓ss7, ↓ss8, ↓ss9, ↓ss10, ↓ss11, ↓ss12, ↓ss13, ↓ss14, ↓ss15, ↓ss16, ↓ss17, hlt, ↓aft_of (e1), ↓aft_of (e2), ea, c, nI_1]
      · simp +decide only [x205_0, x205_0N, x205_1, x205_2, x205_5, x205_6, x205_7, x205_10, x205_13, x205_16, x205_18, x205_19, x205_20, x205_21, x205_23, x205_24, x205_25, x205_29, x205_30, x205_33, x205_36, x205_36N, x205_37, x205_39, x205_40, x205_41, x205_44, x205_45, x205_45N, x205_46, x205_48, x205_49, x205_50, x205_53, x205_54, x205_56, x205_58, x205_59, x205_62, x205_64, x205_67, x205_68, x205_69, x205_71, x205_72, x205_75, x205_77, x205_80, x205_81, x205_82, x205_85, x205_88, x205_89, aft_some, aft_void, Option.bind_some, Option.toList_some, Option.toList_none, List.cons_append, List.nil_append, if_true, if_false, ↓reduceIte, eq_self, z366_o, ↓z366_0, ↓z366_0p, ↓z366_1, ↓z366_2, ↓z366_3, ↓z366_4, ↓z366_4p, ↓z366_5, ↓z366_6, ↓z366_6p0, ↓z366_6p1, ↓z366_7, ↓z366_8, ↓z366_8p, ↓z366_9, ↓z366_9p, ↓z366_10, ↓z366_10p0, ↓z366_10p1, ↓z366_11, ↓z366_12, ↓z366_12p, ↓sg0, ↓sg1, ↓sg2, ↓sg3, ↓sg4, ↓sg5, ↓sg6, ↓sg7, ↓sg8, ↓sg9, ↓sg10, ↓sg11, ↓sg12, ↓sg13, ↓sg14, ↓sg15, ↓sg16, ↓sg17, ↓ss0, ↓ss1, ↓ss2, ↓ss3, ↓ss4, ↓ss5, ↓ss6, ↓ss7, ↓ss8, ↓ss9, ↓ss10, ↓ss11, ↓ss12, ↓ss13, ↓ss14, ↓ss15, ↓ss16, ↓ss17, hlt, ↓aft_of (e1), ↓aft_of (e2), ea, c, nI_1])
  have i1 : BI (bsU m s.1 3) bo mo := i1
  have e : X 205 27 [.ref 366, .int m, .int 0, .int (-5), .int 0, .long 0] [] (H (upA T 367 f) P) = X 205 27 [.ref 366, .int m, .int bo, .int mo, .int 3, v5] [] (H (upA U 367 g) P) := e
  refine ⟨U, g, ?_, i2, i3⟩
  simp +decide only [x205_0, x205_0N, x205_1, x205_2, x205_5, x205_6, x205_7, x205_10, x205_13, x205_16, x205_18, x205_19, x205_20, x205_21, x205_23, x205_24, x205_25, x205_29, x205_30, x205_33, x205_36, x205_36N, x205_37, x205_39, x205_40, x205_41, x205_44, x205_45, x205_45N, x205_46, x205_48, x205_49, x205_50, x205_53, x205_54, x205_56, x205_58, x205_59, x205_62, x205_64, x205_67, x205_68, x205_69, x205_71, x205_72, x205_75, x205_77, x205_80, x205_81, x205_82, x205_85, x205_88, x205_89, aft_some, aft_void, Option.bind_some, Option.toList_some, Option.toList_none, List.cons_append, List.nil_append, if_true, if_false, ↓reduceIte, eq_self, z366_o, ↓z366_0, ↓z366_0p, ↓z366_1, ↓z366_2, ↓z366_3, ↓z366_4, ↓z366_4p, ↓z366_5, ↓z366_6, ↓z366_6p0, ↓z366_6p1, ↓z366_7, ↓z366_8, ↓z366_8p, ↓z366_9, ↓z366_9p, ↓z366_10, ↓z366_10p0, ↓z366_10p1, ↓z366_11, ↓z366_12, ↓z366_12p, ↓sg0, ↓sg1, ↓sg2, ↓sg3, ↓sg4, ↓sg5, ↓sg6, ↓sg7, ↓sg8, ↓sg9, ↓sg10, ↓sg11, ↓sg12, ↓sg13, ↓sg14, ↓sg15, ↓sg16, ↓sg17, ↓ss0, ↓ss1, ↓ss2, ↓ss3, ↓ss4, ↓ss5, ↓ss6, ↓ss7, ↓ss8, ↓ss9, ↓ss10, ↓ss11, ↓ss12, ↓ss13, ↓ss14, ↓ss15, ↓ss16, ↓ss17, t0, ↓aft_of (r_in), c1]
  rw [e, x205_27]
  simp +decide only [x205_0, x205_0N, x205_1, x205_2, x205_5, x205_6, x205_7, x205_10, x205_13, x205_16, x205_18, x205_19, x205_20, x205_21, x205_23, x205_24, x205_25, x205_29, x205_30, x205_33, x205_36, x205_36N, x205_37, x205_39, x205_40, x205_41, x205_44, x205_45, x205_45N, x205_46, x205_48, x205_49, x205_50, x205_53, x205_54, x205_56, x205_58, x205_59, x205_62, x205_64, x205_67, x205_68, x205_69, x205_71, x205_72, x205_75, x205_77, x205_80, x205_81, x205_82, x205_85, x205_88, x205_89, aft_some, aft_void, Option.bind_some, Option.toList_some, Option.toList_none, List.cons_append, List.nil_append, if_true, if_false, ↓reduceIte, eq_self]
  rw [i1.1]
theorem q_home (h : CF T f s) (hw : WG s) (x m : Int32) : RQ T P f 206 [.ref 366, .int x, .int m, .long 0, .long 0] (gHome x m s, s) := by
  have t0 := thr (f := f) h.1.1
  have e1 := r_placeOf (T := T) (P := P) (x := x) h.2 hw.1.1
  unfold plI at e1
  unfold gHome
  cases hq : wnK x s.1.2 with
  | none =>
    rw [hq] at e1
    simp only at e1 ⊢
    exact RQ.same h (by simp +decide only [x206_0, x206_0N, x206_1, x206_2, x206_5, x206_5N, x206_6, x206_7, x206_10, x206_12, x206_15, x206_16, x206_17, x206_18, x206_19, x206_22, x206_25, x206_28, x206_30, x206_31, x206_31N, x206_32, x206_35, x206_36, x206_37, x206_38, x206_40, x206_43, x206_43N, x206_44, x206_45, x206_48, x206_50, x206_53, x206_53N, x206_54, x206_55, x206_58, x206_59, x206_59N, x206_60, x206_63, x206_64, x206_67, x206_70, x206_70N, x206_71, x206_72, x206_75, x206_77, x206_80, x206_80N, x206_81, x206_84, x206_85, x206_86, x206_89, x206_91, x206_93, x206_93N, x206_94, x206_97, x206_99, aft_some, aft_void, Option.bind_some, Option.toList_some, Option.toList_none, List.cons_append, List.nil_append, if_true, if_false, ↓reduceIte, eq_self, z366_o, ↓z366_0, ↓z366_0p, ↓z366_1, ↓z366_2, ↓z366_3, ↓z366_4, ↓z366_4p, ↓z366_5, ↓z366_6, ↓z366_6p0, ↓z366_6p1, ↓z366_7, ↓z366_8, ↓z366_8p, ↓z366_9, ↓z366_9p, ↓z366_10, ↓z366_10p0, ↓z366_10p1, ↓z366_11, ↓z366_12, ↓z366_12p, ↓sg0, ↓sg1, ↓sg2, ↓sg3, ↓sg4, ↓sg5, ↓sg6, ↓sg7, ↓sg8, ↓sg9, ↓sg10, ↓sg11, ↓sg12, ↓sg13, ↓sg14, ↓sg15, ↓sg16, ↓sg17, ↓ss0, ↓ss1, ↓ss2, ↓ss3, ↓ss4, ↓ss5, ↓ss6, ↓ss7, ↓ss8, ↓ss9, ↓ss10, ↓ss11, ↓ss12, ↓ss13, ↓ss14, ↓ss15, ↓ss16, ↓ss17, t0, ↓aft_of (e1)])
  | some i =>
    rw [hq] at e1
    simp only at e1 ⊢
    have w8 : s.1.2.length ≤ 8 := hw.1.1.1.2.2.2.1
    obtain ⟨-, hi, -⟩ := fst_some hq
    rw [Nat.zero_add] at hi
    have ni5 : (nI i = -5) = False := nI_ne5 (by omega)
    by_cases c1 : inI m 1 600 = 0
    · rw [if_pos c1]
      exact RQ.same h (by simp +decide only [x206_0, x206_0N, x206_1, x206_2, x206_5, x206_5N, x206_6, x206_7, x206_10, x206_12, x206_15, x206_16, x206_17, x206_18, x206_19, x206_22, x206_25, x206_28, x206_30, x206_31, x206_31N, x206_32, x206_35, x206_36, x206_37, x206_38, x206_40, x206_43, x206_43N, x206_44, x206_45, x206_48, x206_50, x206_53, x206_53N, x206_54, x206_55, x206_58, x206_59, x206_59N, x206_60, x206_63, x206_64, x206_67, x206_70, x206_70N, x206_71, x206_72, x206_75, x206_77, x206_80, x206_80N, x206_81, x206_84, x206_85, x206_86, x206_89, x206_91, x206_93, x206_93N, x206_94, x206_97, x206_99, aft_some, aft_void, Option.bind_some, Option.toList_some, Option.toList_none, List.cons_append, List.nil_append, if_true, if_false, ↓reduceIte, eq_self, z366_o, ↓z366_0, ↓z366_0p, ↓z366_1, ↓z366_2, ↓z366_3, ↓z366_4, ↓z366_4p, ↓z366_5, ↓z366_6, ↓z366_6p0, ↓z366_6p1, ↓z366_7, ↓z366_8, ↓z366_8p, ↓z366_9, ↓z366_9p, ↓z366_10, ↓z366_10p0, ↓z366_10p1, ↓z366_11, ↓z366_12, ↓z366_12p, ↓sg0, ↓sg1, ↓sg2, ↓sg3, ↓sg4, ↓sg5, ↓sg6, ↓sg7, ↓sg8, ↓sg9, ↓sg10, ↓sg11, ↓sg12, ↓sg13, ↓sg14, ↓sg15, ↓sg16, ↓sg17, ↓ss0, ↓ss1, ↓ss2, ↓ss3, ↓ss4, ↓ss5, ↓ss6, ↓ss7, ↓ss8, ↓ss9, ↓ss10, ↓ss11, ↓ss12, ↓ss13, ↓ss14, ↓ss15, ↓ss16, ↓ss17, t0, ↓aft_of (e1), ni5, ↓aft_of (r_in), c1])
    rw [if_neg c1]
    obtain ⟨U, e2, f1, g1, hU⟩ := q_aside (P := P) h
    have key : ∀ (n d : Nat) (u : uT) (G : Nat → Int32), d + n = 60 → sU G u → WF u.1.1 u.1.2.1 u.2 u.1.2.2.1 → u.1.1 0 ≤ 9999 + d → (∃ j, wnK x u.2 = some j) → ∃ G', X 206 37 [.ref 366, .int x, .int m, .int (nI d), .long 0] [] (H (upA U 367 G) P) = X 206 93 [.ref 366, .int x, .int m, .int (nI 60), .int (hmU x m n u)] [] (H (upA U 367 G') P) ∨ ∃ d', X 206 37 [.ref 366, .int x, .int m, .int (nI d), .long 0] [] (H (upA U 367 G) P) = X 206 93 [.ref 366, .int x, .int m, .int d', .int (hmU x m n u)] [] (H (upA U 367 G') P) := by
      intro n
      induction n with
      | zero =>
        intro d u G hd hs hwf h0 ⟨j, hj⟩
        have hd : d = 60 := by omega
        subst hd
        have ep := r_placeOf (T := U) (P := P) (x := x) hs hwf
        unfold plI at ep
        rw [hj] at ep
        simp only at ep
        obtain ⟨-, hj8, -⟩ := fst_some hj
        have h8 := hwf.1.2.2.2.1
        have nj5 : (nI j = -5) = False := nI_ne5 (by omega)
        refine ⟨G, Or.inr ⟨nI 60, ?_⟩⟩
        rw [x206_37]
        simp +decide only [x206_0, x206_0N, x206_1, x206_2, x206_5, x206_5N, x206_6, x206_7, x206_10, x206_12, x206_15, x206_16, x206_17, x206_18, x206_19, x206_22, x206_25, x206_28, x206_30, x206_31, x206_31N, x206_32, x206_35, x206_36, x206_38, x206_40, x206_43, x206_43N, x206_44, x206_45, x206_48, x206_50, x206_53, x206_53N, x206_54, x206_55, x206_58, x206_59, x206_59N, x206_60, x206_63, x206_64, x206_67, x206_70, x206_70N, x206_71, x206_72, x206_75, x206_77, x206_80, x206_80N, x206_81, x206_84, x206_85, x206_86, x206_89, x206_91, x206_94, x206_97, x206_99, aft_some, aft_void, Option.bind_some, Option.toList_some, Option.toList_none, List.cons_append, List.nil_append, if_true, if_false, ↓reduceIte, eq_self, z366_o, ↓z366_0, ↓z366_0p, ↓z366_1, ↓z366_2, ↓z366_3, ↓z366_4, ↓z366_4p, ↓z366_5, ↓z366_6, ↓z366_6p0, ↓z366_6p1, ↓z366_7, ↓z366_8, ↓z366_8p, ↓z366_9, ↓z366_9p, ↓z366_10, ↓z366_10p0, ↓z366_10p1, ↓z366_11, ↓z366_12, ↓z366_12p, ↓sg0, ↓sg1, ↓sg2, ↓sg3, ↓sg4, ↓sg5, ↓sg6, ↓sg7, ↓sg8, ↓sg9, ↓sg10, ↓sg11, ↓sg12, ↓sg13, ↓sg14, ↓sg15, ↓sg16, ↓sg17, ↓ss0, ↓ss1, ↓ss2, ↓ss3, ↓ss4, ↓ss5, ↓ss6, ↓ss7, ↓ss8, ↓ss9, ↓ss10, ↓ss11, ↓ss12, ↓ss13, ↓ss14, ↓ss15, ↓ss16, ↓ss17, show nI 60 = 60 from rfl, ↓aft_of (ep), nj5, hmU]
      | succ n ih =>
        intro d u G hd hs hwf h0 ⟨j, hj⟩
        have ep := r_placeOf (T := U) (P := P) (x := x) hs hwf
        unfold plI at ep
        rw [hj] at ep
        simp only at ep
        obtain ⟨-, hj8, -⟩ := fst_some hj
        have h8 := hwf.1.2.2.2.1
        have nj5 : (nI j = -5) = False := nI_ne5 (by omega)
        have hlt : nI d < 60 := nI_lt (show d < 60 by omega) (by decide)
        obtain ⟨G1, ei, hs1, w1⟩ := r_irons (T := U) (P := P) (m := m) hs hwf
        have hs1 : sU G1 (irU u m) := hs1
        have w1 : WF (irU u m).1.1 (irU u m).1.2.1 (irU u m).2 (irU u m).1.2.2.1 := w1
        obtain ⟨G2, eg, hs2⟩ := r_goesBy (T := U) (P := P) hs1 w1 (show u.1.1 0 < 10100 by omega)
        have hs2 : sU G2 (dyU (irU u m)) := hs2
        have w2 : WF (dyU (irU u m)).1.1 (dyU (irU u m)).1.2.1 (dyU (irU u m)).2 (dyU (irU u m)).1.2.2.1 := WF_day w1 (show u.1.1 0 < 10100 by omega)
        have hday : (dyU (irU u m)).1.1 0 = u.1.1 0 + 1 := dy_day _
        have ep2 := r_placeOf (T := U) (P := P) (x := x) hs2 w2
        unfold plI at ep2
        have k1 : nI d + 1 = nI (d + 1) := nI_add _ 1
        cases hq2 : wnK x (dyU (irU u m)).2 with
        | none =>
          rw [hq2] at ep2
          simp only at ep2
          have hh : hmU x m (n + 1) u = (dyU (irU u m)).1.2.1 0 0 := by
            show (match wnK x (dyU (irU u m)).2 with
              | none => (dyU (irU u m)).1.2.1 0 0
              | some _ => hmU x m n (dyU (irU u m))) = _
            rw [hq2]
          have g4 : G2 4 = (dyU (irU u m)).1.2.1 0 0 := by rw [hs2.1.d, hs2.1.2.2.2.2.2.2]
          rw [hh]
          refine ⟨G2, Or.inr ⟨nI (d + 1), ?_⟩⟩
          rw [x206_37]
          simp +decide only [x206_0, x206_0N, x206_1, x206_2, x206_5, x206_5N, x206_6, x206_7, x206_10, x206_12, x206_15, x206_16, x206_17, x206_18, x206_19, x206_22, x206_25, x206_28, x206_30, x206_31, x206_31N, x206_32, x206_35, x206_36, x206_38, x206_40, x206_43, x206_43N, x206_44, x206_45, x206_48, x206_50, x206_53, x206_53N, x206_54, x206_55, x206_58, x206_59, x206_59N, x206_60, x206_63, x206_64, x206_67, x206_70, x206_70N, x206_71, x206_72, x206_75, x206_77, x206_80, x206_80N, x206_81, x206_84, x206_85, x206_86, x206_89, x206_91, x206_94, x206_97, x206_99, aft_some, aft_void, Option.bind_some, Option.toList_some, Option.toList_none, List.cons_append, List.nil_append, if_true, if_false, ↓reduceIte, eq_self, z366_o, ↓z366_0, ↓z366_0p, ↓z366_1, ↓z366_2, ↓z366_3, ↓z366_4, ↓z366_4p, ↓z366_5, ↓z366_6, ↓z366_6p0, ↓z366_6p1, ↓z366_7, ↓z366_8, ↓z366_8p, ↓z366_9, ↓z366_9p, ↓z366_10, ↓z366_10p0, ↓z366_10p1, ↓z366_11, ↓z366_12, ↓z366_12p, ↓sg0, ↓sg1, ↓sg2, ↓sg3, ↓sg4, ↓sg5, ↓sg6, ↓sg7, ↓sg8, ↓sg9, ↓sg10, ↓sg11, ↓sg12, ↓sg13, ↓sg14, ↓sg15, ↓sg16, ↓sg17, ↓ss0, ↓ss1, ↓ss2, ↓ss3, ↓ss4, ↓ss5, ↓ss6, ↓ss7, ↓ss8, ↓ss9, ↓ss10, ↓ss11, ↓ss12, ↓ss13, ↓ss14, ↓ss15, ↓ss16, ↓ss17, hlt, ↓aft_of (ep), nj5, ↓aft_of (ei), ↓aft_of (eg), k1]
          rw [x206_37]
          by_cases c60 : d + 1 < 60
          · have hlt2 : nI (d + 1) < 60 := nI_lt c60 (by decide)
            simp +decide only [x206_0, x206_0N, x206_1, x206_2, x206_5, x206_5N, x206_6, x206_7, x206_10, x206_12, x206_15, x206_16, x206_17, x206_18, x206_19, x206_22, x206_25, x206_28, x206_30, x206_31, x206_31N, x206_32, x206_35, x206_36, x206_38, x206_40, x206_43, x206_43N, x206_44, x206_45, x206_48, x206_50, x206_53, x206_53N, x206_54, x206_55, x206_58, x206_59, x206_59N, x206_60, x206_63, x206_64, x206_67, x206_70, x206_70N, x206_71, x206_72, x206_75, x206_77, x206_80, x206_80N, x206_81, x206_84, x206_85, x206_86, x206_89, x206_91, x206_94, x206_97, x206_99, aft_some, aft_void, Option.bind_some, Option.toList_some, Option.toList_none, List.cons_append, List.nil_append, if_true, if_false, ↓reduceIte, eq_self, z366_o, ↓z366_0, ↓z366_0p, ↓z366_1, ↓z366_2, ↓z366_3, ↓z366_4, ↓z366_4p, ↓z366_5, ↓z366_6, ↓z366_6p0, ↓z366_6p1, ↓z366_7, ↓z366_8, ↓z366_8p, ↓z366_9, ↓z366_9p, ↓z366_10, ↓z366_10p0, ↓z366_10p1, ↓z366_11, ↓z366_12, ↓z366_12p, ↓sg0, ↓sg1, ↓sg2, ↓sg3, ↓sg4, ↓sg5, ↓sg6, ↓sg7, ↓sg8, ↓sg9, ↓sg10, ↓sg11, ↓sg12, ↓sg13, ↓sg14, ↓sg15, ↓sg16, ↓sg17, ↓ss0, ↓ss1, ↓ss2, ↓ss3, ↓ss4, ↓ss5, ↓ss6, ↓ss7, ↓ss8, ↓ss9, ↓ss10, ↓ss11, ↓ss12, ↓ss13, ↓ss14, ↓ss15, ↓ss16, ↓ss17, hlt2, ↓aft_of (ep2), g4]
          · have hlt2 : ¬ nI (d + 1) < 60 := nI_nlt (show 60 ≤ d + 1 by omega) (by omega)
            simp +decide only [x206_0, x206_0N, x206_1, x206_2, x206_5, x206_5N, x206_6, x206_7, x206_10, x206_12, x206_15, x206_16, x206_17, x206_18, x206_19, x206_22, x206_25, x206_28, x206_30, x206_31, x206_31N, x206_32, x206_35, x206_36, x206_38, x206_40, x206_43, x206_43N, x206_44, x206_45, x206_48, x206_50, x206_53, x206_53N, x206_54, x206_55, x206_58, x206_59, x206_59N, x206_60, x206_63, x206_64, x206_67, x206_70, x206_70N, x206_71, x206_72, x206_75, x206_77, x206_80, x206_80N, x206_81, x206_84, x206_85, x206_86, x206_89, x206_91, x206_94, x206_97, x206_99, aft_some, aft_void, Option.bind_some, Option.toList_some, Option.toList_none, List.cons_append, List.nil_append, if_true, if_false, ↓reduceIte, eq_self, z366_o, ↓z366_0, ↓z366_0p, ↓z366_1, ↓z366_2, ↓z366_3, ↓z366_4, ↓z366_4p, ↓z366_5, ↓z366_6, ↓z366_6p0, ↓z366_6p1, ↓z366_7, ↓z366_8, ↓z366_8p, ↓z366_9, ↓z366_9p, ↓z366_10, ↓z366_10p0, ↓z366_10p1, ↓z366_11, ↓z366_12, ↓z366_12p, ↓sg0, ↓sg1, ↓sg2, ↓sg3, ↓sg4, ↓sg5, ↓sg6, ↓sg7, ↓sg8, ↓sg9, ↓sg10, ↓sg11, ↓sg12, ↓sg13, ↓sg14, ↓sg15, ↓sg16, ↓sg17, ↓ss0, ↓ss1, ↓ss2, ↓ss3, ↓ss4, ↓ss5, ↓ss6, ↓ss7, ↓ss8, ↓ss9, ↓ss10, ↓ss11, ↓ss12, ↓ss13, ↓ss14, ↓ss15, ↓ss16, ↓ss17, hlt2, ↓aft_of (ep2), g4]
        | some j2 =>
          have hh : hmU x m (n + 1) u = hmU x m n (dyU (irU u m)) := by
            show (match wnK x (dyU (irU u m)).2 with
              | none => (dyU (irU u m)).1.2.1 0 0
              | some _ => hmU x m n (dyU (irU u m))) = _
            rw [hq2]
          rw [hh]
          obtain ⟨G3, e3⟩ := ih (d + 1) (dyU (irU u m)) G2 (by omega) hs2 w2 (by omega) ⟨j2, hq2⟩
          refine ⟨G3, ?_⟩
          have es : X 206 37 [.ref 366, .int x, .int m, .int (nI d), .long 0] [] (H (upA U 367 G) P) = X 206 37 [.ref 366, .int x, .int m, .int (nI (d + 1)), .long 0] [] (H (upA U 367 G2) P) := by
            rw [x206_37]
            simp +decide only [x206_0, x206_0N, x206_1, x206_2, x206_5, x206_5N, x206_6, x206_7, x206_10, x206_12, x206_15, x206_16, x206_17, x206_18, x206_19, x206_22, x206_25, x206_28, x206_30, x206_31, x206_31N, x206_32, x206_35, x206_36, x206_38, x206_40, x206_43, x206_43N, x206_44, x206_45, x206_48, x206_50, x206_53, x206_53N, x206_54, x206_55, x206_58, x206_59, x206_59N, x206_60, x206_63, x206_64, x206_67, x206_70, x206_70N, x206_71, x206_72, x206_75, x206_77, x206_80, x206_80N, x206_81, x206_84, x206_85, x206_86, x206_89, x206_91, x206_94, x206_97, x206_99, aft_some, aft_void, Option.bind_some, Option.toList_some, Option.toList_none, List.cons_append, List.nil_append, if_true, if_false, ↓reduceIte, eq_self, z366_o, ↓z366_0, ↓z366_0p, ↓z366_1, ↓z366_2, ↓z366_3, ↓z366_4, ↓z366_4p, ↓z366_5, ↓z366_6, ↓z366_6p0, ↓z366_6p1, ↓z366_7, ↓z366_8, ↓z366_8p, ↓z366_9, ↓z366_9p, ↓z366_10, ↓z366_10p0, ↓z366_10p1, ↓z366_11, ↓z366_12, ↓z366_12p, ↓sg0, ↓sg1, ↓sg2, ↓sg3, ↓sg4, ↓sg5, ↓sg6, ↓sg7, ↓sg8, ↓sg9, ↓sg10, ↓sg11, ↓sg12, ↓sg13, ↓sg14, ↓sg15, ↓sg16, ↓sg17, ↓ss0, ↓ss1, ↓ss2, ↓ss3, ↓ss4, ↓ss5, ↓ss6, ↓ss7, ↓ss8, ↓ss9, ↓ss10, ↓ss11, ↓ss12, ↓ss13, ↓ss14, ↓ss15, ↓ss16, ↓ss17, hlt, ↓aft_of (ep), nj5, ↓aft_of (ei), ↓aft_of (eg), k1]
          rw [es]
          exact e3
    obtain ⟨G', ek⟩ := key 60 0 s.1 f (by omega) hU.2 hw.1.1 (by have := hw.1.2; omega) ⟨i, hq⟩
    obtain ⟨d', ek⟩ : ∃ d', X 206 37 [.ref 366, .int x, .int m, .int (nI 0), .long 0] [] (H (upA U 367 f) P) = X 206 93 [.ref 366, .int x, .int m, .int d', .int (hmU x m 60 s.1)] [] (H (upA U 367 G') P) := by
      rcases ek with ek | ek
      · exact ⟨_, ek⟩
      · exact ek
    have ek : X 206 37 [.ref 366, .int x, .int m, .int 0, .long 0] [] (H (upA U 367 f) P) = X 206 93 [.ref 366, .int x, .int m, .int d', .int (hmU x m 60 s.1)] [] (H (upA U 367 G') P) := ek
    obtain ⟨U', f', e3, fr3, hB⟩ := q_back (P := P) (g := G') hU hw g1
    refine ⟨U', f', ?_, fun a ha => (fr3 a ha).trans (f1 a (by omega)), hB⟩
    simp +decide only [x206_0, x206_0N, x206_1, x206_2, x206_5, x206_5N, x206_6, x206_7, x206_10, x206_12, x206_15, x206_16, x206_17, x206_18, x206_19, x206_22, x206_25, x206_28, x206_30, x206_31, x206_31N, x206_32, x206_35, x206_36, x206_38, x206_40, x206_43, x206_43N, x206_44, x206_45, x206_48, x206_50, x206_53, x206_53N, x206_54, x206_55, x206_58, x206_59, x206_59N, x206_60, x206_63, x206_64, x206_67, x206_70, x206_70N, x206_71, x206_72, x206_75, x206_77, x206_80, x206_80N, x206_81, x206_84, x206_85, x206_86, x206_89, x206_91, x206_94, x206_97, x206_99, aft_some, aft_void, Option.bind_some, Option.toList_some, Option.toList_none, List.cons_append, List.nil_append, if_true, if_false, ↓reduceIte, eq_self, z366_o, ↓z366_0, ↓z366_0p, ↓z366_1, ↓z366_2, ↓z366_3, ↓z366_4, ↓z366_4p, ↓z366_5, ↓z366_6, ↓z366_6p0, ↓z366_6p1, ↓z366_7, ↓z366_8, ↓z366_8p, ↓z366_9, ↓z366_9p, ↓z366_10, ↓z366_10p0, ↓z366_10p1, ↓z366_11, ↓z366_12, ↓z366_12p, ↓sg0, ↓sg1, ↓sg2, ↓sg3, ↓sg4, ↓sg5, ↓sg6, ↓sg7, ↓sg8, ↓sg9, ↓sg10, ↓sg11, ↓sg12, ↓sg13, ↓sg14, ↓sg15, ↓sg16, ↓sg17, ↓ss0, ↓ss1, ↓ss2, ↓ss3, ↓ss4, ↓ss5, ↓ss6, ↓ss7, ↓ss8, ↓ss9, ↓ss10, ↓ss11, ↓ss12, ↓ss13, ↓ss14, ↓ss15, ↓ss16, ↓ss17, t0, ↓aft_of (e1), ni5, ↓aft_of (r_in), c1, ↓aft_of (e2)]
    rw [ek, x206_93]
    simp +decide only [x206_0, x206_0N, x206_1, x206_2, x206_5, x206_5N, x206_6, x206_7, x206_10, x206_12, x206_15, x206_16, x206_17, x206_18, x206_19, x206_22, x206_25, x206_28, x206_30, x206_31, x206_31N, x206_32, x206_35, x206_36, x206_38, x206_40, x206_43, x206_43N, x206_44, x206_45, x206_48, x206_50, x206_53, x206_53N, x206_54, x206_55, x206_58, x206_59, x206_59N, x206_60, x206_63, x206_64, x206_67, x206_70, x206_70N, x206_71, x206_72, x206_75, x206_77, x206_80, x206_80N, x206_81, x206_84, x206_85, x206_86, x206_89, x206_91, x206_94, x206_97, x206_99, aft_some, aft_void, Option.bind_some, Option.toList_some, Option.toList_none, List.cons_append, List.nil_append, if_true, if_false, ↓reduceIte, eq_self, z366_o, ↓z366_0, ↓z366_0p, ↓z366_1, ↓z366_2, ↓z366_3, ↓z366_4, ↓z366_4p, ↓z366_5, ↓z366_6, ↓z366_6p0, ↓z366_6p1, ↓z366_7, ↓z366_8, ↓z366_8p, ↓z366_9, ↓z366_9p, ↓z366_10, ↓z366_10p0, ↓z366_10p1, ↓z366_11, ↓z366_12, ↓z366_12p, ↓sg0, ↓sg1, ↓sg2, ↓sg3, ↓sg4, ↓sg5, ↓sg6, ↓sg7, ↓sg8, ↓sg9, ↓sg10, ↓sg11, ↓sg12, ↓sg13, ↓sg14, ↓sg15, ↓sg16, ↓sg17, ↓ss0, ↓ss1, ↓ss2, ↓ss3, ↓ss4, ↓ss5, ↓ss6, ↓ss7, ↓ss8, ↓ss9, ↓ss10, ↓ss11, ↓ss12, ↓ss13, ↓ss14, ↓ss15, ↓ss16, ↓ss17, ↓aft_of (e3)]
end QW
