/-! the reference's lose and find -/
section QC
variable {T : Nat → Nat → Int32} {P : Nat → Nat → Nat} {f g : Nat → Int32} {s : gT} {x y z w : Int32} {N M : Nat → Nat} {V W : Nat → Nat → Int32} {K : List kT} {B : List bT} {R R' : Nat → Nat → Int32} {i k : Nat}
theorem r_degree {b : kT} (hb : bR f i b) (hi : i < 8) (hk : k < 4) : X 153 0 [.ref 366, .int (nI i), .int (nI k)] [] (H (upA T 367 f) P) = some (some (.int (dgI (b 0 3) k)), H (upA T 367 f) P) := by
  have e2 := r_of (T := T) (P := P) (f := f) (i := i) (w := 2) (y := 2) rfl hi (by decide)
  rw [hb.1.2.2.1] at e2
  match k, hk with
  | 0, _ => simp +decide only [x153_0, x153_1, x153_2, x153_5, x153_5N, x153_6, x153_7, x153_8, x153_11, x153_14, x153_15, aft_some, aft_void, Option.bind_some, Option.toList_some, Option.toList_none, List.cons_append, List.nil_append, if_true, if_false, ↓reduceIte, eq_self, z366_o, ↓z366_0, ↓z366_0p, ↓z366_1, ↓z366_2, ↓z366_3, ↓z366_4, ↓z366_4p, ↓z366_5, ↓z366_6, ↓z366_6p0, ↓z366_6p1, ↓z366_7, ↓z366_8, ↓z366_8p, ↓z366_9, ↓z366_9p, ↓z366_10, ↓z366_10p0, ↓z366_10p1, ↓z366_11, ↓z366_12, ↓z366_12p, ↓sg0, ↓sg1, ↓sg2, ↓sg3, ↓sg4, ↓sg5, ↓sg6, ↓sg7, ↓sg8, ↓sg9, ↓sg10, ↓sg11, ↓sg12, ↓sg13, ↓sg14, ↓sg15, ↓sg16, ↓sg17, ↓ss0, ↓ss1, ↓ss2, ↓ss3, ↓ss4, ↓ss5, ↓ss6, ↓ss7, ↓ss8, ↓ss9, ↓ss10, ↓ss11, ↓ss12, ↓ss13, ↓ss14, ↓ss15, ↓ss16, ↓ss17, nl0, ↓aft_of (e2), dgI]
  | 1, _ => simp +decide only [x153_0, x153_1, x153_2, x153_5, x153_5N, x153_6, x153_7, x153_8, x153_11, x153_14, x153_15, aft_some, aft_void, Option.bind_some, Option.toList_some, Option.toList_none, List.cons_append, List.nil_append, if_true, if_false, ↓reduceIte, eq_self, z366_o, ↓z366_0, ↓z366_0p, ↓z366_1, ↓z366_2, ↓z366_3, ↓z366_4, ↓z366_4p, ↓z366_5, ↓z366_6, ↓z366_6p0, ↓z366_6p1, ↓z366_7, ↓z366_8, ↓z366_8p, ↓z366_9, ↓z366_9p, ↓z366_10, ↓z366_10p0, ↓z366_10p1, ↓z366_11, ↓z366_12, ↓z366_12p, ↓sg0, ↓sg1, ↓sg2, ↓sg3, ↓sg4, ↓sg5, ↓sg6, ↓sg7, ↓sg8, ↓sg9, ↓sg10, ↓sg11, ↓sg12, ↓sg13, ↓sg14, ↓sg15, ↓sg16, ↓sg17, ↓ss0, ↓ss1, ↓ss2, ↓ss3, ↓ss4, ↓ss5, ↓ss6, ↓ss7, ↓ss8, ↓ss9, ↓ss10, ↓ss11, ↓ss12, ↓ss13, ↓ss14, ↓ss15, ↓ss16, ↓ss17, nl1, ↓aft_of (e2), dgI]
  | 2, _ => simp +decide only [x153_0, x153_1, x153_2, x153_5, x153_5N, x153_6, x153_7, x153_8, x153_11, x153_14, x153_15, aft_some, aft_void, Option.bind_some, Option.toList_some, Option.toList_none, List.cons_append, List.nil_append, if_true, if_false, ↓reduceIte, eq_self, z366_o, ↓z366_0, ↓z366_0p, ↓z366_1, ↓z366_2, ↓z366_3, ↓z366_4, ↓z366_4p, ↓z366_5, ↓z366_6, ↓z366_6p0, ↓z366_6p1, ↓z366_7, ↓z366_8, ↓z366_8p, ↓z366_9, ↓z366_9p, ↓z366_10, ↓z366_10p0, ↓z366_10p1, ↓z366_11, ↓z366_12, ↓z366_12p, ↓sg0, ↓sg1, ↓sg2, ↓sg3, ↓sg4, ↓sg5, ↓sg6, ↓sg7, ↓sg8, ↓sg9, ↓sg10, ↓sg11, ↓sg12, ↓sg13, ↓sg14, ↓sg15, ↓sg16, ↓sg17, ↓ss0, ↓ss1, ↓ss2, ↓ss3, ↓ss4, ↓ss5, ↓ss6, ↓ss7, ↓ss8, ↓ss9, ↓ss10, ↓ss11, ↓ss12, ↓ss13, ↓ss14, ↓ss15, ↓ss16, ↓ss17, nl2, dgI]
  | 3, _ => simp +decide only [x153_0, x153_1, x153_2, x153_5, x153_5N, x153_6, x153_7, x153_8, x153_11, x153_14, x153_15, aft_some, aft_void, Option.bind_some, Option.toList_some, Option.toList_none, List.cons_append, List.nil_append, if_true, if_false, ↓reduceIte, eq_self, z366_o, ↓z366_0, ↓z366_0p, ↓z366_1, ↓z366_2, ↓z366_3, ↓z366_4, ↓z366_4p, ↓z366_5, ↓z366_6, ↓z366_6p0, ↓z366_6p1, ↓z366_7, ↓z366_8, ↓z366_8p, ↓z366_9, ↓z366_9p, ↓z366_10, ↓z366_10p0, ↓z366_10p1, ↓z366_11, ↓z366_12, ↓z366_12p, ↓sg0, ↓sg1, ↓sg2, ↓sg3, ↓sg4, ↓sg5, ↓sg6, ↓sg7, ↓sg8, ↓sg9, ↓sg10, ↓sg11, ↓sg12, ↓sg13, ↓sg14, ↓sg15, ↓sg16, ↓sg17, ↓ss0, ↓ss1, ↓ss2, ↓ss3, ↓ss4, ↓ss5, ↓ss6, ↓ss7, ↓ss8, ↓ss9, ↓ss10, ↓ss11, ↓ss12, ↓ss13, ↓ss14, ↓ss15, ↓ss16, ↓ss17, nl3, dgI]
theorem ixL {p : Nat} : 830 + 2 * nI p = nI (830 + 2 * p) := by
  rw [show (830 : Int32) = nI 830 from rfl, show (2 : Int32) = nI 2 from rfl, nI_mul, nI_add]
theorem r_canBelong (h : sR f N V K B R) (hw : WF N V K B) {p : Nat} (hp : p < N 3) (hi : i < K.length) (hk : k < 4) (ek : V 46 p = nI k) : X 155 0 [.ref 366, .int (nI p), .int (nI i), .long 0] [] (H (upA T 367 f) P) = some (some (.int (msK k (V 47 p) (gK K i))), H (upA T 367 f) P) := by
  have h8 := hw.1.2.2.2.1
  have h20 := hw.1.2.2.2.2.1
  have hb := h.2.2.2.1 i hi
  obtain ⟨q1, q2⟩ := h.2.2.2.2.1 p hp
  rw [ek] at q1
  have e13 := r_of (T := T) (P := P) (f := f) (i := i) (w := 13 + k) (y := 13 + nI k) (nI_add 13 k) (by omega) (by omega)
  rw [(hb.2 k hk).2.2] at e13
  have ed := r_degree (T := T) (P := P) hb (show i < 8 by omega) hk
  have k1 : nI (830 + 2 * p) + 1 = nI (830 + 2 * p + 1) := nI_add _ 1
  unfold msK
  by_cases c1 : 0 < gK K i 3 k
  · by_cases c2 : dgI (gK K i 0 3) k = V 47 p
    · rw [c2] at ed
      simp +decide only [x155_0, x155_0N, x155_1, x155_4, x155_7, x155_8, x155_9, x155_10, x155_11, x155_12, x155_13, x155_13N, x155_14, x155_15, x155_17, x155_18, x155_19, x155_22, x155_25, x155_25N, x155_26, x155_27, x155_28, x155_31, x155_31N, x155_32, x155_35, x155_38, x155_39, x155_40, x155_41, x155_42, x155_43, x155_44, x155_45, x155_48, x155_49, x155_52, x155_53, aft_some, aft_void, Option.bind_some, Option.toList_some, Option.toList_none, List.cons_append, List.nil_append, if_true, if_false, ↓reduceIte, eq_self, z366_o, ↓z366_0, ↓z366_0p, ↓z366_1, ↓z366_2, ↓z366_3, ↓z366_4, ↓z366_4p, ↓z366_5, ↓z366_6, ↓z366_6p0, ↓z366_6p1, ↓z366_7, ↓z366_8, ↓z366_8p, ↓z366_9, ↓z366_9p, ↓z366_10, ↓z366_10p0, ↓z366_10p1, ↓z366_11, ↓z366_12, ↓z366_12p, ↓sg0, ↓sg1, ↓sg2, ↓sg3, ↓sg4, ↓sg5, ↓sg6, ↓sg7, ↓sg8, ↓sg9, ↓sg10, ↓sg11, ↓sg12, ↓sg13, ↓sg14, ↓sg15, ↓sg16, ↓sg17, ↓ss0, ↓ss1, ↓ss2, ↓ss3, ↓ss4, ↓ss5, ↓ss6, ↓ss7, ↓ss8, ↓ss9, ↓ss10, ↓ss11, ↓ss12, ↓ss13, ↓ss14, ↓ss15, ↓ss16, ↓ss17, ixL, k1, ↓s_g (show 830 + 2 * p < 912 by omega), ↓s_g (show 830 + 2 * p + 1 < 912 by omega), q1, q2, ↓aft_of (e13), ↓aft_of (ed), c1, c2, and_self]
    · simp +decide only [x155_0, x155_0N, x155_1, x155_4, x155_7, x155_8, x155_9, x155_10, x155_11, x155_12, x155_13, x155_13N, x155_14, x155_15, x155_17, x155_18, x155_19, x155_22, x155_25, x155_25N, x155_26, x155_27, x155_28, x155_31, x155_31N, x155_32, x155_35, x155_38, x155_39, x155_40, x155_41, x155_42, x155_43, x155_44, x155_45, x155_48, x155_49, x155_52, x155_53, aft_some, aft_void, Option.bind_some, Option.toList_some, Option.toList_none, List.cons_append, List.nil_append, if_true, if_false, ↓reduceIte, eq_self, z366_o, ↓z366_0, ↓z366_0p, ↓z366_1, ↓z366_2, ↓z366_3, ↓z366_4, ↓z366_4p, ↓z366_5, ↓z366_6, ↓z366_6p0, ↓z366_6p1, ↓z366_7, ↓z366_8, ↓z366_8p, ↓z366_9, ↓z366_9p, ↓z366_10, ↓z366_10p0, ↓z366_10p1, ↓z366_11, ↓z366_12, ↓z366_12p, ↓sg0, ↓sg1, ↓sg2, ↓sg3, ↓sg4, ↓sg5, ↓sg6, ↓sg7, ↓sg8, ↓sg9, ↓sg10, ↓sg11, ↓sg12, ↓sg13, ↓sg14, ↓sg15, ↓sg16, ↓sg17, ↓ss0, ↓ss1, ↓ss2, ↓ss3, ↓ss4, ↓ss5, ↓ss6, ↓ss7, ↓ss8, ↓ss9, ↓ss10, ↓ss11, ↓ss12, ↓ss13, ↓ss14, ↓ss15, ↓ss16, ↓ss17, ixL, k1, ↓s_g (show 830 + 2 * p < 912 by omega), ↓s_g (show 830 + 2 * p + 1 < 912 by omega), q1, q2, ↓aft_of (e13), ↓aft_of (ed), c1, c2, and_false]
  · simp +decide only [x155_0, x155_0N, x155_1, x155_4, x155_7, x155_8, x155_9, x155_10, x155_11, x155_12, x155_13, x155_13N, x155_14, x155_15, x155_17, x155_18, x155_19, x155_22, x155_25, x155_25N, x155_26, x155_27, x155_28, x155_31, x155_31N, x155_32, x155_35, x155_38, x155_39, x155_40, x155_41, x155_42, x155_43, x155_44, x155_45, x155_48, x155_49, x155_52, x155_53, aft_some, aft_void, Option.bind_some, Option.toList_some, Option.toList_none, List.cons_append, List.nil_append, if_true, if_false, ↓reduceIte, eq_self, z366_o, ↓z366_0, ↓z366_0p, ↓z366_1, ↓z366_2, ↓z366_3, ↓z366_4, ↓z366_4p, ↓z366_5, ↓z366_6, ↓z366_6p0, ↓z366_6p1, ↓z366_7, ↓z366_8, ↓z366_8p, ↓z366_9, ↓z366_9p, ↓z366_10, ↓z366_10p0, ↓z366_10p1, ↓z366_11, ↓z366_12, ↓z366_12p, ↓sg0, ↓sg1, ↓sg2, ↓sg3, ↓sg4, ↓sg5, ↓sg6, ↓sg7, ↓sg8, ↓sg9, ↓sg10, ↓sg11, ↓sg12, ↓sg13, ↓sg14, ↓sg15, ↓sg16, ↓sg17, ↓ss0, ↓ss1, ↓ss2, ↓ss3, ↓ss4, ↓ss5, ↓ss6, ↓ss7, ↓ss8, ↓ss9, ↓ss10, ↓ss11, ↓ss12, ↓ss13, ↓ss14, ↓ss15, ↓ss16, ↓ss17, ixL, k1, ↓s_g (show 830 + 2 * p < 912 by omega), ↓s_g (show 830 + 2 * p + 1 < 912 by omega), q1, q2, ↓aft_of (e13), ↓aft_of (ed), c1, false_and]
theorem r_isLost : X 156 0 [.ref 366, .int x] [] (H (upA T 367 f) P) = some (some (.int (inI x 0 (f 10 - 1))), H (upA T 367 f) P) := by
  have h01 : (inI x 0 (f 10 - 1) = 0 ∨ inI x 0 (f 10 - 1) = 1) = True := by
    apply eq_true
    unfold inI
    repeat' split
    all_goals simp
  simp +decide only [x156_0, x156_1, x156_2, x156_2N, x156_3, x156_6, x156_8, x156_9, x156_10, x156_11, x156_14, aft_some, aft_void, Option.bind_some, Option.toList_some, Option.toList_none, List.cons_append, List.nil_append, if_true, if_false, ↓reduceIte, eq_self, z366_o, ↓z366_0, ↓z366_0p, ↓z366_1, ↓z366_2, ↓z366_3, ↓z366_4, ↓z366_4p, ↓z366_5, ↓z366_6, ↓z366_6p0, ↓z366_6p1, ↓z366_7, ↓z366_8, ↓z366_8p, ↓z366_9, ↓z366_9p, ↓z366_10, ↓z366_10p0, ↓z366_10p1, ↓z366_11, ↓z366_12, ↓z366_12p, ↓sg0, ↓sg1, ↓sg2, ↓sg3, ↓sg4, ↓sg5, ↓sg6, ↓sg7, ↓sg8, ↓sg9, ↓sg10, ↓sg11, ↓sg12, ↓sg13, ↓sg14, ↓sg15, ↓sg16, ↓sg17, ↓ss0, ↓ss1, ↓ss2, ↓ss3, ↓ss4, ↓ss5, ↓ss6, ↓ss7, ↓ss8, ↓ss9, ↓ss10, ↓ss11, ↓ss12, ↓ss13, ↓ss14, ↓ss15, ↓ss16, ↓ss17, ↓aft_of (r_in), h01]
/-- a basket misses one more, or one less; the lost and the book are told anew -/
theorem sR.miss (h : sR f N V K B R) (h8 : K.length ≤ 8) (hi : i < K.length) (hk : k < 4) {v : Int32}
    (hg : ∀ a, a ≠ 10 → a ≠ 17 → a ≠ 694 + 17 * i + (13 + k) → a < 830 → g a = f a) (g10 : g 10 = nI (M 3)) (g17 : g 17 = nI (M 4)) (gv : g (694 + 17 * i + (13 + k)) = v) (gL : sL g (M 3) W) (gJ : sJ g (M 4) R')
    (hM : ∀ r, r ≠ 3 → r ≠ 4 → M r = N r) (hW : ∀ r, r ≠ 46 → r ≠ 47 → W r = V r) : sR g M W (K.set i (up1 (gK K i) 3 k v)) B R' := by
  obtain ⟨⟨a1, ⟨a2, a3, a4, a5⟩, ⟨a6, a7, a8⟩, a9, ⟨a10, a11, a12⟩, a13, a14⟩, hC, hO, hK, hL, hJ⟩ := h
  refine ⟨⟨fun j hj => ?_, ⟨?_, ?_, ?_, ?_⟩, ⟨?_, ?_, g10⟩, fun j hj => ?_, ⟨?_, ?_, g17⟩, fun d hd => ?_, ?_⟩, ?_, ?_, ?_, gL, gJ⟩
  · rw [hg j (by omega) (by omega) (by omega) (by omega), hW 1 (by decide) (by decide)]; exact a1 j hj
  · rw [hg 4 (by omega) (by omega) (by omega) (by omega), hM 0 (by decide) (by decide)]; exact a2
  · rw [hg 5 (by omega) (by omega) (by omega) (by omega), hM 1 (by decide) (by decide)]; exact a3
  · rw [hg 6 (by omega) (by omega) (by omega) (by omega), hM 2 (by decide) (by decide)]; exact a4
  · rw [hg 7 (by omega) (by omega) (by omega) (by omega), hW 0 (by decide) (by decide)]; exact a5
  · rw [hg 8 (by omega) (by omega) (by omega) (by omega), hM 1 (by decide) (by decide), hW 6 (by decide) (by decide)]; exact a6
  · rw [hg 9 (by omega) (by omega) (by omega) (by omega), hW 0 (by decide) (by decide)]; exact a7
  · rw [hg _ (by omega) (by omega) (by omega) (by omega), hW 48 (by decide) (by decide)]; exact a9 j hj
  · rw [hg 15 (by omega) (by omega) (by omega) (by omega), hW 0 (by decide) (by decide)]; exact a10
  · rw [hg 16 (by omega) (by omega) (by omega) (by omega), List.length_set]; exact a11
  · rw [hg _ (by omega) (by omega) (by omega) (by omega), hW 2 (by decide) (by decide)]; exact a13 d hd
  · rw [hW 0 (by decide) (by decide), hM 0 (by decide) (by decide)]; exact a14
  · intro c hc
    rw [hM 1 (by decide) (by decide), hW 4 (by decide) (by decide), hW 5 (by decide) (by decide), hW 6 (by decide) (by decide)]
    exact hC.same (fun a h1 h2 => hg a (by omega) (by omega) (by omega) (by omega)) c hc
  · exact hO.same (fun a h1 h2 => hg a (by omega) (by omega) (by omega) (by omega))
  · intro j hj
    rw [List.length_set] at hj
    by_cases e : j = i
    · subst e
      rw [gK_set_s hi]
      obtain ⟨⟨b1, b2, b3, b4, b5⟩, b6⟩ := hK j hj
      have n3 : ∀ r, r ≠ 3 → up1 (gK K j) 3 k v r = gK K j r := fun r hr => up1_n hr
      have hg' : ∀ q, q < 17 → q ≠ 13 + k → g (694 + 17 * j + q) = f (694 + 17 * j + q) := fun q hq hn => hg _ (by omega) (by omega) (by omega) (by omega)
      refine ⟨⟨?_, ?_, ?_, ?_, ?_⟩, fun q hq => ⟨?_, ?_, ?_⟩⟩
      · rw [hg' 0 (by decide) (by omega), n3 0 (by decide)]; exact b1
      · rw [hg' 1 (by decide) (by omega), n3 0 (by decide)]; exact b2
      · rw [hg' 2 (by decide) (by omega), n3 0 (by decide)]; exact b3
      · rw [hg' 3 (by decide) (by omega), n3 0 (by decide)]; exact b4
      · rw [hg' 4 (by decide) (by omega), n3 0 (by decide)]; exact b5
      · rw [hg' _ (by omega) (by omega), n3 1 (by decide)]; exact (b6 q hq).1
      · rw [hg' _ (by omega) (by omega), n3 2 (by decide)]; exact (b6 q hq).2.1
      · rw [up1_s]
        by_cases e : q = k
        · subst e; rw [upA_s]; exact gv
        · rw [hg' _ (by omega) (by omega), upA_n _ _ e]; exact (b6 q hq).2.2
    · rw [gK_set_n e]
      exact (hK j hj).same (fun a h1 h2 => hg a (by omega) (by omega) (by omega) (by omega))
/-- what the reference's lose answers -/
noncomputable def rLose (x k : Int32) (s : gT) : Int32 := match wnK x s.1.2 with
  | none => -1
  | some i => if inI k 0 3 = 0 then -1 else if opK (gK s.1.2 i) k.toNatClampNeg = 0 then -5 else if s.1.1.1 3 < 20 then nI (s.1.1.1 3 + 1) else -3
theorem q_lose (h : CF T f s) (hw : WG s) (x k : Int32) : RQ T P f 154 [.ref 366, .int x, .int k, .long 0] (rLose x k s, (gLose x k s).2) := by
  have t0 := thr (f := f) h.1.1
  have hs := h.2
  have e1 := r_placeOf (T := T) (P := P) (x := x) hs hw.1.1
  have h8 : s.1.2.length ≤ 8 := hw.1.1.1.2.2.2.1
  have h20 : s.1.1.1 3 ≤ 20 := hw.1.1.1.2.2.2.2.1
  have h10 : s.1.1.1 4 ≤ 10 := hw.1.1.1.2.2.2.2.2
  unfold plI at e1
  unfold rLose gLose
  cases hq : wnK x s.1.2 with
  | none =>
    rw [hq] at e1
    simp only at e1 ⊢
    exact ⟨T, f, by simp +decide only [x154_0, x154_0N, x154_1, x154_2, x154_5, x154_5N, x154_6, x154_7, x154_10, x154_11, x154_12, x154_14, x154_17, x154_18, x154_19, x154_20, x154_23, x154_26, x154_27, x154_28, x154_28N, x154_29, x154_30, x154_31, x154_34, x154_37, x154_39, x154_40, x154_40N, x154_41, x154_44, x154_46, x154_47, x154_49, x154_52, x154_54, x154_55, x154_55N, x154_56, x154_59, x154_59N, x154_60, x154_61, x154_63, x154_64, x154_65, x154_65N, x154_66, x154_67, x154_69, x154_70, x154_71, x154_74, x154_75, x154_76, x154_79, x154_79N, x154_80, x154_83, x154_86, x154_87, x154_87N, x154_88, x154_91, x154_93, x154_94, x154_95, x154_96, x154_97, x154_98, x154_98N, x154_99, x154_102, x154_105, x154_106, x154_106N, x154_107, x154_110, x154_112, x154_113, x154_114, x154_115, x154_116, x154_117, x154_117N, x154_118, x154_119, x154_120, x154_123, x154_124, x154_124N, x154_125, x154_128, x154_130, x154_131, x154_132, x154_133, x154_134, x154_135, x154_135N, x154_136, x154_137, x154_138, x154_139, x154_142, x154_142N, x154_143, x154_146, x154_148, x154_149, aft_some, aft_void, Option.bind_some, Option.toList_some, Option.toList_none, List.cons_append, List.nil_append, if_true, if_false, ↓reduceIte, eq_self, z366_o, ↓z366_0, ↓z366_0p, ↓z366_1, ↓z366_2, ↓z366_3, ↓z366_4, ↓z366_4p, ↓z366_5, ↓z366_6, ↓z366_6p0, ↓z366_6p1, ↓z366_7, ↓z366_8, ↓z366_8p, ↓z366_9, ↓z366_9p, ↓z366_10, ↓z366_10p0, ↓z366_10p1, ↓z366_11, ↓z366_12, ↓z366_12p, ↓sg0, ↓sg1, ↓sg2, ↓sg3, ↓sg4, ↓sg5, ↓sg6, ↓sg7, ↓sg8, ↓sg9, ↓sg10, ↓sg11, ↓sg12, ↓sg13, ↓sg14, ↓sg15, ↓sg16, ↓sg17, ↓ss0, ↓ss1, ↓ss2, ↓ss3, ↓ss4, ↓ss5, ↓ss6, ↓ss7, ↓ss8, ↓ss9, ↓ss10, ↓ss11, ↓ss12, ↓ss13, ↓ss14, ↓ss15, ↓ss16, ↓ss17, t0, ↓aft_of (e1)], fun _ _ => rfl, h⟩
  | some i =>
    rw [hq] at e1
    simp only at e1 ⊢
    obtain ⟨-, hi, -⟩ := fst_some hq
    rw [Nat.zero_add] at hi
    have ni5 : (nI i = -5) = False := nI_ne5 (by omega)
    by_cases c1 : inI k 0 3 = 0
    · rw [if_pos c1, if_pos c1]
      exact ⟨T, f, by simp +decide only [x154_0, x154_0N, x154_1, x154_2, x154_5, x154_5N, x154_6, x154_7, x154_10, x154_11, x154_12, x154_14, x154_17, x154_18, x154_19, x154_20, x154_23, x154_26, x154_27, x154_28, x154_28N, x154_29, x154_30, x154_31, x154_34, x154_37, x154_39, x154_40, x154_40N, x154_41, x154_44, x154_46, x154_47, x154_49, x154_52, x154_54, x154_55, x154_55N, x154_56, x154_59, x154_59N, x154_60, x154_61, x154_63, x154_64, x154_65, x154_65N, x154_66, x154_67, x154_69, x154_70, x154_71, x154_74, x154_75, x154_76, x154_79, x154_79N, x154_80, x154_83, x154_86, x154_87, x154_87N, x154_88, x154_91, x154_93, x154_94, x154_95, x154_96, x154_97, x154_98, x154_98N, x154_99, x154_102, x154_105, x154_106, x154_106N, x154_107, x154_110, x154_112, x154_113, x154_114, x154_115, x154_116, x154_117, x154_117N, x154_118, x154_119, x154_120, x154_123, x154_124, x154_124N, x154_125, x154_128, x154_130, x154_131, x154_132, x154_133, x154_134, x154_135, x154_135N, x154_136, x154_137, x154_138, x154_139, x154_142, x154_142N, x154_143, x154_146, x154_148, x154_149, aft_some, aft_void, Option.bind_some, Option.toList_some, Option.toList_none, List.cons_append, List.nil_append, if_true, if_false, ↓reduceIte, eq_self, z366_o, ↓z366_0, ↓z366_0p, ↓z366_1, ↓z366_2, ↓z366_3, ↓z366_4, ↓z366_4p, ↓z366_5, ↓z366_6, ↓z366_6p0, ↓z366_6p1, ↓z366_7, ↓z366_8, ↓z366_8p, ↓z366_9, ↓z366_9p, ↓z366_10, ↓z366_10p0, ↓z366_10p1, ↓z366_11, ↓z366_12, ↓z366_12p, ↓sg0, ↓sg1, ↓sg2, ↓sg3, ↓sg4, ↓sg5, ↓sg6, ↓sg7, ↓sg8, ↓sg9, ↓sg10, ↓sg11, ↓sg12, ↓sg13, ↓sg14, ↓sg15, ↓sg16, ↓sg17, ↓ss0, ↓ss1, ↓ss2, ↓ss3, ↓ss4, ↓ss5, ↓ss6, ↓ss7, ↓ss8, ↓ss9, ↓ss10, ↓ss11, ↓ss12, ↓ss13, ↓ss14, ↓ss15, ↓ss16, ↓ss17, t0, ↓aft_of (e1), ni5, ↓aft_of (r_in), c1], fun _ _ => rfl, h⟩
    rw [if_neg c1, if_neg c1]
    obtain ⟨kk, hkk, rfl⟩ := inI_ex (n := 3) (by decide) c1
    have hk4 : kk < 4 := by omega
    rw [nI_clamp (by omega)]
    have hb := hs.2.2.2.1 i hi
    have el := r_left (T := T) (P := P) hb (show i < 8 by omega) hk4
    obtain ⟨q, hq9, eq⟩ := op_nI ((hw.1.1.2.2.2.1 i _ (gK_at hi)).2.2.2.2 kk hk4)
    have f10 : f 10 = nI (s.1.1.1 3) := hs.1.2.2.1.2.2
    have e20 : (nI (s.1.1.1 3) = 20) = (s.1.1.1 3 = 20) := by rw [show (20 : Int32) = nI 20 from rfl, nI_inj (by omega) (by decide)]
    by_cases c2 : opK (gK s.1.2 i) kk = 0
    · rw [if_pos c2]
      have c2' : ¬ 0 < opK (gK s.1.2 i) kk := by rw [c2]; decide
      rw [if_neg c2', show (if s.1.1.1 3 < 20 then ((-5 : Int32), s) else (-3, s)).2 = s by split <;> rfl]
      rw [c2] at el
      exact ⟨T, f, by simp +decide only [x154_0, x154_0N, x154_1, x154_2, x154_5, x154_5N, x154_6, x154_7, x154_10, x154_11, x154_12, x154_14, x154_17, x154_18, x154_19, x154_20, x154_23, x154_26, x154_27, x154_28, x154_28N, x154_29, x154_30, x154_31, x154_34, x154_37, x154_39, x154_40, x154_40N, x154_41, x154_44, x154_46, x154_47, x154_49, x154_52, x154_54, x154_55, x154_55N, x154_56, x154_59, x154_59N, x154_60, x154_61, x154_63, x154_64, x154_65, x154_65N, x154_66, x154_67, x154_69, x154_70, x154_71, x154_74, x154_75, x154_76, x154_79, x154_79N, x154_80, x154_83, x154_86, x154_87, x154_87N, x154_88, x154_91, x154_93, x154_94, x154_95, x154_96, x154_97, x154_98, x154_98N, x154_99, x154_102, x154_105, x154_106, x154_106N, x154_107, x154_110, x154_112, x154_113, x154_114, x154_115, x154_116, x154_117, x154_117N, x154_118, x154_119, x154_120, x154_123, x154_124, x154_124N, x154_125, x154_128, x154_130, x154_131, x154_132, x154_133, x154_134, x154_135, x154_135N, x154_136, x154_137, x154_138, x154_139, x154_142, x154_142N, x154_143, x154_146, x154_148, x154_149, aft_some, aft_void, Option.bind_some, Option.toList_some, Option.toList_none, List.cons_append, List.nil_append, if_true, if_false, ↓reduceIte, eq_self, z366_o, ↓z366_0, ↓z366_0p, ↓z366_1, ↓z366_2, ↓z366_3, ↓z366_4, ↓z366_4p, ↓z366_5, ↓z366_6, ↓z366_6p0, ↓z366_6p1, ↓z366_7, ↓z366_8, ↓z366_8p, ↓z366_9, ↓z366_9p, ↓z366_10, ↓z366_10p0, ↓z366_10p1, ↓z366_11, ↓z366_12, ↓z366_12p, ↓sg0, ↓sg1, ↓sg2, ↓sg3, ↓sg4, ↓sg5, ↓sg6, ↓sg7, ↓sg8, ↓sg9, ↓sg10, ↓sg11, ↓sg12, ↓sg13, ↓sg14, ↓sg15, ↓sg16, ↓sg17, ↓ss0, ↓ss1, ↓ss2, ↓ss3, ↓ss4, ↓ss5, ↓ss6, ↓ss7, ↓ss8, ↓ss9, ↓ss10, ↓ss11, ↓ss12, ↓ss13, ↓ss14, ↓ss15, ↓ss16, ↓ss17, t0, ↓aft_of (e1), ni5, ↓aft_of (r_in), c1, ↓aft_of (el)], fun _ _ => rfl, h⟩
    rw [if_neg c2]
    have c2' : 0 < opK (gK s.1.2 i) kk := by
      rw [eq, nI_posn (by omega)]
      rw [eq, show (0 : Int32) = nI 0 from rfl, nI_inj (by omega) (by decide)] at c2
      omega
    rw [if_pos c2']
    by_cases c3 : s.1.1.1 3 < 20
    · rw [if_pos c3, if_pos c3]
      have c20 : (s.1.1.1 3 = 20) = False := eq_false (by omega)
      obtain ⟨U, e, fr, -, hU⟩ := h.push (P := P) hw
      obtain ⟨n, hn⟩ : ∃ n, n = s.1.1.1 3 := ⟨_, rfl⟩
      rw [← hn] at f10 e20 c20 h20 c3
      have o13 := r_of (T := U) (P := P) (f := f) (i := i) (w := 13 + kk) (y := 13 + nI kk) (nI_add 13 kk) (by omega) (by omega)
      rw [(hb.2 kk hk4).2.2] at o13
      have l13 := r_lay (T := U) (P := P) (f := f) (i := i) (w := 13 + kk) (y := 13 + nI kk) (z := gK s.1.2 i 3 kk + 1) (nI_add 13 kk) (by omega) (by omega)
      obtain ⟨G1, hG1⟩ : ∃ G1, G1 = upA f (694 + 17 * i + (13 + kk)) (gK s.1.2 i 3 kk + 1) := ⟨_, rfl⟩
      rw [← hG1] at l13
      have g110 : G1 10 = nI n := by rw [hG1, upA_n _ _ (by omega)]; exact f10
      obtain ⟨G2, hG2⟩ : ∃ G2, G2 = upA G1 (830 + 2 * n) (nI kk) := ⟨_, rfl⟩
      have n2 : ∀ a, a ≠ 694 + 17 * i + (13 + kk) → a ≠ 830 + 2 * n → G2 a = f a := fun a q1 q2 => by rw [hG2, upA_n _ _ q2, hG1, upA_n _ _ q1]
      have g210 : G2 10 = nI n := by rw [n2 10 (by omega) (by omega)]; exact f10
      have o2 := r_of (T := U) (P := P) (f := G2) (i := i) (w := 2) (y := 2) rfl (show i < 8 by omega) (by decide)
      rw [n2 _ (by omega) (by omega), hb.1.2.2.1] at o2
      have ed : X 153 0 [.ref 366, .int (nI i), .int (nI kk)] [] (H (upA U 367 G2) P) = some (some (.int (dgI (gK s.1.2 i 0 3) kk)), H (upA U 367 G2) P) := by
        match kk, hk4 with
        | 0, _ => simp +decide only [x153_0, x153_1, x153_2, x153_5, x153_5N, x153_6, x153_7, x153_8, x153_11, x153_14, x153_15, aft_some, aft_void, Option.bind_some, Option.toList_some, Option.toList_none, List.cons_append, List.nil_append, if_true, if_false, ↓reduceIte, eq_self, z366_o, ↓z366_0, ↓z366_0p, ↓z366_1, ↓z366_2, ↓z366_3, ↓z366_4, ↓z366_4p, ↓z366_5, ↓z366_6, ↓z366_6p0, ↓z366_6p1, ↓z366_7, ↓z366_8, ↓z366_8p, ↓z366_9, ↓z366_9p, ↓z366_10, ↓z366_10p0, ↓z366_10p1, ↓z366_11, ↓z366_12, ↓z366_12p, ↓sg0, ↓sg1, ↓sg2, ↓sg3, ↓sg4, ↓sg5, ↓sg6, ↓sg7, ↓sg8, ↓sg9, ↓sg10, ↓sg11, ↓sg12, ↓sg13, ↓sg14, ↓sg15, ↓sg16, ↓sg17, ↓ss0, ↓ss1, ↓ss2, ↓ss3, ↓ss4, ↓ss5, ↓ss6, ↓ss7, ↓ss8, ↓ss9, ↓ss10, ↓ss11, ↓ss12, ↓ss13, ↓ss14, ↓ss15, ↓ss16, ↓ss17, nl0, ↓aft_of (o2), dgI]
        | 1, _ => simp +decide only [x153_0, x153_1, x153_2, x153_5, x153_5N, x153_6, x153_7, x153_8, x153_11, x153_14, x153_15, aft_some, aft_void, Option.bind_some, Option.toList_some, Option.toList_none, List.cons_append, List.nil_append, if_true, if_false, ↓reduceIte, eq_self, z366_o, ↓z366_0, ↓z366_0p, ↓z366_1, ↓z366_2, ↓z366_3, ↓z366_4, ↓z366_4p, ↓z366_5, ↓z366_6, ↓z366_6p0, ↓z366_6p1, ↓z366_7, ↓z366_8, ↓z366_8p, ↓z366_9, ↓z366_9p, ↓z366_10, ↓z366_10p0, ↓z366_10p1, ↓z366_11, ↓z366_12, ↓z366_12p, ↓sg0, ↓sg1, ↓sg2, ↓sg3, ↓sg4, ↓sg5, ↓sg6, ↓sg7, ↓sg8, ↓sg9, ↓sg10, ↓sg11, ↓sg12, ↓sg13, ↓sg14, ↓sg15, ↓sg16, ↓sg17, ↓ss0, ↓ss1, ↓ss2, ↓ss3, ↓ss4, ↓ss5, ↓ss6, ↓ss7, ↓ss8, ↓ss9, ↓ss10, ↓ss11, ↓ss12, ↓ss13, ↓ss14, ↓ss15, ↓ss16, ↓ss17, nl1, ↓aft_of (o2), dgI]
        | 2, _ => simp +decide only [x153_0, x153_1, x153_2, x153_5, x153_5N, x153_6, x153_7, x153_8, x153_11, x153_14, x153_15, aft_some, aft_void, Option.bind_some, Option.toList_some, Option.toList_none, List.cons_append, List.nil_append, if_true, if_false, ↓reduceIte, eq_self, z366_o, ↓z366_0, ↓z366_0p, ↓z366_1, ↓z366_2, ↓z366_3, ↓z366_4, ↓z366_4p, ↓z366_5, ↓z366_6, ↓z366_6p0, ↓z366_6p1, ↓z366_7, ↓z366_8, ↓z366_8p, ↓z366_9, ↓z366_9p, ↓z366_10, ↓z366_10p0, ↓z366_10p1, ↓z366_11, ↓z366_12, ↓z366_12p, ↓sg0, ↓sg1, ↓sg2, ↓sg3, ↓sg4, ↓sg5, ↓sg6, ↓sg7, ↓sg8, ↓sg9, ↓sg10, ↓sg11, ↓sg12, ↓sg13, ↓sg14, ↓sg15, ↓sg16, ↓sg17, ↓ss0, ↓ss1, ↓ss2, ↓ss3, ↓ss4, ↓ss5, ↓ss6, ↓ss7, ↓ss8, ↓ss9, ↓ss10, ↓ss11, ↓ss12, ↓ss13, ↓ss14, ↓ss15, ↓ss16, ↓ss17, nl2, dgI]
        | 3, _ => simp +decide only [x153_0, x153_1, x153_2, x153_5, x153_5N, x153_6, x153_7, x153_8, x153_11, x153_14, x153_15, aft_some, aft_void, Option.bind_some, Option.toList_some, Option.toList_none, List.cons_append, List.nil_append, if_true, if_false, ↓reduceIte, eq_self, z366_o, ↓z366_0, ↓z366_0p, ↓z366_1, ↓z366_2, ↓z366_3, ↓z366_4, ↓z366_4p, ↓z366_5, ↓z366_6, ↓z366_6p0, ↓z366_6p1, ↓z366_7, ↓z366_8, ↓z366_8p, ↓z366_9, ↓z366_9p, ↓z366_10, ↓z366_10p0, ↓z366_10p1, ↓z366_11, ↓z366_12, ↓z366_12p, ↓sg0, ↓sg1, ↓sg2, ↓sg3, ↓sg4, ↓sg5, ↓sg6, ↓sg7, ↓sg8, ↓sg9, ↓sg10, ↓sg11, ↓sg12, ↓sg13, ↓sg14, ↓sg15, ↓sg16, ↓sg17, ↓ss0, ↓ss1, ↓ss2, ↓ss3, ↓ss4, ↓ss5, ↓ss6, ↓ss7, ↓ss8, ↓ss9, ↓ss10, ↓ss11, ↓ss12, ↓ss13, ↓ss14, ↓ss15, ↓ss16, ↓ss17, nl3, dgI]
      obtain ⟨G3, hG3⟩ : ∃ G3, G3 = upA G2 (830 + 2 * n + 1) (dgI (gK s.1.2 i 0 3) kk) := ⟨_, rfl⟩
      have g310 : G3 10 = nI n := by rw [hG3, upA_n _ _ (by omega)]; exact g210
      have k1 : nI n + 1 = nI (n + 1) := nI_add _ 1
      have k2 : nI (830 + 2 * n) + 1 = nI (830 + 2 * n + 1) := nI_add _ 1
      obtain ⟨G4, hG4⟩ : ∃ G4, G4 = upA G3 10 (nI (n + 1)) := ⟨_, rfl⟩
      have n4 : ∀ a, a ≠ 10 → a ≠ 694 + 17 * i + (13 + kk) → a ≠ 830 + 2 * n → a ≠ 830 + 2 * n + 1 → G4 a = f a := fun a q1 q2 q3 q4 => by rw [hG4, upA_n _ _ q1, hG3, upA_n _ _ q4]; exact n2 a q2 q3
      obtain ⟨G5, e6, n5, s17, sJ5⟩ := r_books (T := U) (P := P) (f := G4) (n := s.1.1.1 4) (R := s.1.1.2.2.2) (e := 3) (x := x) (y := nI kk) (by rw [n4 17 (by omega) (by omega) (by omega) (by omega)]; exact hs.1.2.2.2.2.1.2.2) h10 (hs.2.2.2.2.2.same h10 (fun a h1 h2 => n4 a (by omega) (by omega) (by omega) (by omega)))
      have g44 : G4 4 = s.1.1.2.1 0 0 := by rw [n4 4 (by omega) (by omega) (by omega) (by omega), hs.1.d, hs.1.2.2.2.2.2.2]
      rw [g44] at sJ5
      have g510 : G5 10 = nI (n + 1) := by rw [n5 10 (by decide) (by decide), hG4, upA_s]
      rw [← hn]
      refine ⟨U, G5, ?_, fun a ha => fr a (by omega) (by omega), hU.now ?_⟩
      · simp +decide only [x154_0, x154_0N, x154_1, x154_2, x154_5, x154_5N, x154_6, x154_7, x154_10, x154_11, x154_12, x154_14, x154_17, x154_18, x154_19, x154_20, x154_23, x154_26, x154_27, x154_28, x154_28N, x154_29, x154_30, x154_31, x154_34, x154_37, x154_39, x154_40, x154_40N, x154_41, x154_44, x154_46, x154_47, x154_49, x154_52, x154_54, x154_55, x154_55N, x154_56, x154_59, x154_59N, x154_60, x154_61, x154_63, x154_64, x154_65, x154_65N, x154_66, x154_67, x154_69, x154_70, x154_71, x154_74, x154_75, x154_76, x154_79, x154_79N, x154_80, x154_83, x154_86, x154_87, x154_87N, x154_88, x154_91, x154_93, x154_94, x154_95, x154_96, x154_97, x154_98, x154_98N, x154_99, x154_102, x154_105, x154_106, x154_106N, x154_107, x154_110, x154_112, x154_113, x154_114, x154_115, x154_116, x154_117, x154_117N, x154_118, x154_119, x154_120, x154_123, x154_124, x154_124N, x154_125, x154_128, x154_130, x154_131, x154_132, x154_133, x154_134, x154_135, x154_135N, x154_136, x154_137, x154_138, x154_139, x154_142, x154_142N, x154_143, x154_146, x154_148, x154_149, aft_some, aft_void, Option.bind_some, Option.toList_some, Option.toList_none, List.cons_append, List.nil_append, if_true, if_false, ↓reduceIte, eq_self, z366_o, ↓z366_0, ↓z366_0p, ↓z366_1, ↓z366_2, ↓z366_3, ↓z366_4, ↓z366_4p, ↓z366_5, ↓z366_6, ↓z366_6p0, ↓z366_6p1, ↓z366_7, ↓z366_8, ↓z366_8p, ↓z366_9, ↓z366_9p, ↓z366_10, ↓z366_10p0, ↓z366_10p1, ↓z366_11, ↓z366_12, ↓z366_12p, ↓sg0, ↓sg1, ↓sg2, ↓sg3, ↓sg4, ↓sg5, ↓sg6, ↓sg7, ↓sg8, ↓sg9, ↓sg10, ↓sg11, ↓sg12, ↓sg13, ↓sg14, ↓sg15, ↓sg16, ↓sg17, ↓ss0, ↓ss1, ↓ss2, ↓ss3, ↓ss4, ↓ss5, ↓ss6, ↓ss7, ↓ss8, ↓ss9, ↓ss10, ↓ss11, ↓ss12, ↓ss13, ↓ss14, ↓ss15, ↓ss16, ↓ss17, t0, ↓aft_of (e1), ni5, ↓aft_of (r_in), c1, ↓aft_of (el), c2, f10, e20, c20, ↓aft_of (e), ↓aft_of (o13), ↓aft_of (l13), g110, ixL, ↓s_s (show 830 + 2 * n < 912 by omega), ↓s_s (show 830 + 2 * n + 1 < 912 by omega), ← hG2, g210, k2, ↓aft_of (ed), ← hG3, g310, k1, ← hG4, ↓aft_of (e6), g510]
      · refine sR.miss (M := (loU s.1 i kk x).1.1) (W := (loU s.1 i kk x).1.2.1) hs h8 hi hk4 (fun a q1 q2 q3 q4 => ?_) ?_ ?_ ?_ ?_ ?_ (fun r h3 h4 => ?_) (fun r h6 h7 => ?_)
        · rw [n5 a q2 (by omega), n4 a q1 q3 (by omega) (by omega)]
        · show G5 10 = nI (upA (upA s.1.1.1 3 (s.1.1.1 3 + 1)) 4 (min (s.1.1.1 4 + 1) 10) 3)
          rw [upA_n _ _ (by decide), upA_s, g510, hn]
        · show G5 17 = nI (upA (upA s.1.1.1 3 (s.1.1.1 3 + 1)) 4 (min (s.1.1.1 4 + 1) 10) 4)
          rw [upA_s, s17]
        · rw [n5 _ (by omega) (by omega), hG4, upA_n _ _ (by omega), hG3, upA_n _ _ (by omega), hG2, upA_n _ _ (by omega), hG1, upA_s]
        · show sL G5 (upA (upA s.1.1.1 3 (s.1.1.1 3 + 1)) 4 (min (s.1.1.1 4 + 1) 10) 3) _
          rw [upA_n _ _ (by decide), upA_s, ← hn]
          intro j hj
          show G5 (830 + 2 * j) = upA (upA s.1.1.2.1 46 (fun j => if j < s.1.1.1 3 then s.1.1.2.1 46 j else nI kk)) 47 (fun j => if j < s.1.1.1 3 then s.1.1.2.1 47 j else dgI (gK s.1.2 i 0 3) kk) 46 j ∧ G5 (830 + 2 * j + 1) = upA (upA s.1.1.2.1 46 (fun j => if j < s.1.1.1 3 then s.1.1.2.1 46 j else nI kk)) 47 (fun j => if j < s.1.1.1 3 then s.1.1.2.1 47 j else dgI (gK s.1.2 i 0 3) kk) 47 j
          rw [upA_n _ _ (show 46 ≠ 47 by decide), upA_s, upA_s, ← hn]
          by_cases e : j < n
          · rw [if_pos e, if_pos e]
            obtain ⟨t1, t2⟩ := hs.2.2.2.2.1 j (by rw [← hn]; exact e)
            rw [n5 _ (by omega) (by omega), n4 _ (by omega) (by omega) (by omega) (by omega), n5 _ (by omega) (by omega), n4 _ (by omega) (by omega) (by omega) (by omega)]
            exact ⟨t1, t2⟩
          · have e : j = n := by omega
            subst e
            rw [if_neg (Nat.lt_irrefl _), if_neg (Nat.lt_irrefl _)]
            refine ⟨?_, ?_⟩
            · rw [n5 _ (by omega) (by omega), hG4, upA_n _ _ (by omega), hG3, upA_n _ _ (by omega), hG2, upA_s]
            · rw [n5 _ (by omega) (by omega), hG4, upA_n _ _ (by omega), hG3, upA_s]
        · show sJ G5 (upA (upA s.1.1.1 3 (s.1.1.1 3 + 1)) 4 (min (s.1.1.1 4 + 1) 10) 4) _
          rw [upA_s]; exact sJ5
        · show upA (upA s.1.1.1 3 (s.1.1.1 3 + 1)) 4 (min (s.1.1.1 4 + 1) 10) r = _
          rw [upA_n _ _ h4, upA_n _ _ h3]
        · show upA (upA s.1.1.2.1 46 (fun j => if j < s.1.1.1 3 then s.1.1.2.1 46 j else nI kk)) 47 (fun j => if j < s.1.1.1 3 then s.1.1.2.1 47 j else dgI (gK s.1.2 i 0 3) kk) r = _
          rw [upA_n _ _ h7, upA_n _ _ h6]
    · rw [if_neg c3, if_neg c3]
      have c20 : (s.1.1.1 3 = 20) = True := eq_true (by omega)
      exact ⟨T, f, by simp +decide only [x154_0, x154_0N, x154_1, x154_2, x154_5, x154_5N, x154_6, x154_7, x154_10, x154_11, x154_12, x154_14, x154_17, x154_18, x154_19, x154_20, x154_23, x154_26, x154_27, x154_28, x154_28N, x154_29, x154_30, x154_31, x154_34, x154_37, x154_39, x154_40, x154_40N, x154_41, x154_44, x154_46, x154_47, x154_49, x154_52, x154_54, x154_55, x154_55N, x154_56, x154_59, x154_59N, x154_60, x154_61, x154_63, x154_64, x154_65, x154_65N, x154_66, x154_67, x154_69, x154_70, x154_71, x154_74, x154_75, x154_76, x154_79, x154_79N, x154_80, x154_83, x154_86, x154_87, x154_87N, x154_88, x154_91, x154_93, x154_94, x154_95, x154_96, x154_97, x154_98, x154_98N, x154_99, x154_102, x154_105, x154_106, x154_106N, x154_107, x154_110, x154_112, x154_113, x154_114, x154_115, x154_116, x154_117, x154_117N, x154_118, x154_119, x154_120, x154_123, x154_124, x154_124N, x154_125, x154_128, x154_130, x154_131, x154_132, x154_133, x154_134, x154_135, x154_135N, x154_136, x154_137, x154_138, x154_139, x154_142, x154_142N, x154_143, x154_146, x154_148, x154_149, aft_some, aft_void, Option.bind_some, Option.toList_some, Option.toList_none, List.cons_append, List.nil_append, if_true, if_false, ↓reduceIte, eq_self, z366_o, ↓z366_0, ↓z366_0p, ↓z366_1, ↓z366_2, ↓z366_3, ↓z366_4, ↓z366_4p, ↓z366_5, ↓z366_6, ↓z366_6p0, ↓z366_6p1, ↓z366_7, ↓z366_8, ↓z366_8p, ↓z366_9, ↓z366_9p, ↓z366_10, ↓z366_10p0, ↓z366_10p1, ↓z366_11, ↓z366_12, ↓z366_12p, ↓sg0, ↓sg1, ↓sg2, ↓sg3, ↓sg4, ↓sg5, ↓sg6, ↓sg7, ↓sg8, ↓sg9, ↓sg10, ↓sg11, ↓sg12, ↓sg13, ↓sg14, ↓sg15, ↓sg16, ↓sg17, ↓ss0, ↓ss1, ↓ss2, ↓ss3, ↓ss4, ↓ss5, ↓ss6, ↓ss7, ↓ss8, ↓ss9, ↓ss10, ↓ss11, ↓ss12, ↓ss13, ↓ss14, ↓ss15, ↓ss16, ↓ss17, t0, ↓aft_of (e1), ni5, ↓aft_of (r_in), c1, ↓aft_of (el), c2, f10, e20, c20], fun _ _ => rfl, h⟩
theorem q_find (h : CF T f s) (hw : WG s) (p x : Int32) : RQ T P f 157 [.ref 366, .int p, .int x, .long 0, .long 0, .long 0] (gFind p x s) := by
  have t0 := thr (f := f) h.1.1
  have hs := h.2
  have e1 := r_placeOf (T := T) (P := P) (x := x) hs hw.1.1
  have h8 : s.1.2.length ≤ 8 := hw.1.1.1.2.2.2.1
  have h20 : s.1.1.1 3 ≤ 20 := hw.1.1.1.2.2.2.2.1
  have h10 : s.1.1.1 4 ≤ 10 := hw.1.1.1.2.2.2.2.2
  have f10 : f 10 = nI (s.1.1.1 3) := hs.1.2.2.1.2.2
  have ei := r_isLost (T := T) (P := P) (f := f) (x := p)
  rw [f10, in_lt (show s.1.1.1 3 < 2 ^ 31 by omega)] at ei
  unfold plI at e1
  unfold gFind
  cases hq : wnK x s.1.2 with
  | none =>
    rw [hq] at e1
    simp only at e1 ⊢
    refine ⟨T, f, ?_, fun _ _ => rfl, h⟩
    by_cases q1 : p < 0
    · rw [if_pos q1] at ei
      simp +decide only [x157_0, x157_0N, x157_1, x157_2, x157_5, x157_5N, x157_6, x157_7, x157_10, x157_11, x157_11N, x157_12, x157_13, x157_16, x157_19, x157_20, x157_22, x157_25, x157_26, x157_27, x157_27N, x157_28, x157_29, x157_30, x157_33, x157_36, x157_38, x157_39, x157_39N, x157_40, x157_43, x157_43N, x157_44, x157_47, x157_50, x157_51, x157_52, x157_53, x157_54, x157_55, x157_57, x157_57N, x157_58, x157_59, x157_61, x157_63, x157_64, x157_64N, x157_65, x157_66, x157_68, x157_70, x157_71, x157_74, x157_75, x157_76, x157_79, x157_79N, x157_80, x157_83, x157_85, x157_86, x157_87, x157_88, x157_89, x157_90, x157_91, x157_92, x157_93, x157_95, x157_97, x157_98, x157_98N, x157_99, x157_102, x157_104, x157_105, x157_106, x157_109, x157_109N, x157_110, x157_113, x157_116, x157_118, x157_119, x157_119N, x157_120, x157_123, x157_126, x157_128, x157_129, x157_130, x157_131, x157_132, x157_133, x157_136, x157_139, x157_139N, x157_140, x157_143, x157_146, x157_147, x157_147N, x157_148, x157_151, x157_153, x157_154, x157_155, x157_156, x157_157, x157_158, x157_158N, x157_159, x157_162, x157_165, x157_166, x157_166N, x157_167, x157_170, x157_172, x157_173, x157_174, x157_175, x157_176, x157_177, x157_178, x157_179, x157_179N, x157_180, x157_181, x157_182, x157_184, x157_187, x157_187N, x157_188, x157_191, x157_193, x157_194, aft_some, aft_void, Option.bind_some, Option.toList_some, Option.toList_none, List.cons_append, List.nil_append, if_true, if_false, ↓reduceIte, eq_self, z366_o, ↓z366_0, ↓z366_0p, ↓z366_1, ↓z366_2, ↓z366_3, ↓z366_4, ↓z366_4p, ↓z366_5, ↓z366_6, ↓z366_6p0, ↓z366_6p1, ↓z366_7, ↓z366_8, ↓z366_8p, ↓z366_9, ↓z366_9p, ↓z366_10, ↓z366_10p0, ↓z366_10p1, ↓z366_11, ↓z366_12, ↓z366_12p, ↓sg0, ↓sg1, ↓sg2, ↓sg3, ↓sg4, ↓sg5, ↓sg6, ↓sg7, ↓sg8, ↓sg9, ↓sg10, ↓sg11, ↓sg12, ↓sg13, ↓sg14, ↓sg15, ↓sg16, ↓sg17, ↓ss0, ↓ss1, ↓ss2, ↓ss3, ↓ss4, ↓ss5, ↓ss6, ↓ss7, ↓ss8, ↓ss9, ↓ss10, ↓ss11, ↓ss12, ↓ss13, ↓ss14, ↓ss15, ↓ss16, ↓ss17, t0, ↓aft_of (e1), ↓aft_of (ei)]
    · by_cases q2 : p < nI (s.1.1.1 3)
      · rw [if_neg q1, if_pos q2] at ei
        simp +decide only [x157_0, x157_0N, x157_1, x157_2, x157_5, x157_5N, x157_6, x157_7, x157_10, x157_11, x157_11N, x157_12, x157_13, x157_16, x157_19, x157_20, x157_22, x157_25, x157_26, x157_27, x157_27N, x157_28, x157_29, x157_30, x157_33, x157_36, x157_38, x157_39, x157_39N, x157_40, x157_43, x157_43N, x157_44, x157_47, x157_50, x157_51, x157_52, x157_53, x157_54, x157_55, x157_57, x157_57N, x157_58, x157_59, x157_61, x157_63, x157_64, x157_64N, x157_65, x157_66, x157_68, x157_70, x157_71, x157_74, x157_75, x157_76, x157_79, x157_79N, x157_80, x157_83, x157_85, x157_86, x157_87, x157_88, x157_89, x157_90, x157_91, x157_92, x157_93, x157_95, x157_97, x157_98, x157_98N, x157_99, x157_102, x157_104, x157_105, x157_106, x157_109, x157_109N, x157_110, x157_113, x157_116, x157_118, x157_119, x157_119N, x157_120, x157_123, x157_126, x157_128, x157_129, x157_130, x157_131, x157_132, x157_133, x157_136, x157_139, x157_139N, x157_140, x157_143, x157_146, x157_147, x157_147N, x157_148, x157_151, x157_153, x157_154, x157_155, x157_156, x157_157, x157_158, x157_158N, x157_159, x157_162, x157_165, x157_166, x157_166N, x157_167, x157_170, x157_172, x157_173, x157_174, x157_175, x157_176, x157_177, x157_178, x157_179, x157_179N, x157_180, x157_181, x157_182, x157_184, x157_187, x157_187N, x157_188, x157_191, x157_193, x157_194, aft_some, aft_void, Option.bind_some, Option.toList_some, Option.toList_none, List.cons_append, List.nil_append, if_true, if_false, ↓reduceIte, eq_self, z366_o, ↓z366_0, ↓z366_0p, ↓z366_1, ↓z366_2, ↓z366_3, ↓z366_4, ↓z366_4p, ↓z366_5, ↓z366_6, ↓z366_6p0, ↓z366_6p1, ↓z366_7, ↓z366_8, ↓z366_8p, ↓z366_9, ↓z366_9p, ↓z366_10, ↓z366_10p0, ↓z366_10p1, ↓z366_11, ↓z366_12, ↓z366_12p, ↓sg0, ↓sg1, ↓sg2, ↓sg3, ↓sg4, ↓sg5, ↓sg6, ↓sg7, ↓sg8, ↓sg9, ↓sg10, ↓sg11, ↓sg12, ↓sg13, ↓sg14, ↓sg15, ↓sg16, ↓sg17, ↓ss0, ↓ss1, ↓ss2, ↓ss3, ↓ss4, ↓ss5, ↓ss6, ↓ss7, ↓ss8, ↓ss9, ↓ss10, ↓ss11, ↓ss12, ↓ss13, ↓ss14, ↓ss15, ↓ss16, ↓ss17, t0, ↓aft_of (e1), ↓aft_of (ei)]
      · rw [if_neg q1, if_neg q2] at ei
        simp +decide only [x157_0, x157_0N, x157_1, x157_2, x157_5, x157_5N, x157_6, x157_7, x157_10, x157_11, x157_11N, x157_12, x157_13, x157_16, x157_19, x157_20, x157_22, x157_25, x157_26, x157_27, x157_27N, x157_28, x157_29, x157_30, x157_33, x157_36, x157_38, x157_39, x157_39N, x157_40, x157_43, x157_43N, x157_44, x157_47, x157_50, x157_51, x157_52, x157_53, x157_54, x157_55, x157_57, x157_57N, x157_58, x157_59, x157_61, x157_63, x157_64, x157_64N, x157_65, x157_66, x157_68, x157_70, x157_71, x157_74, x157_75, x157_76, x157_79, x157_79N, x157_80, x157_83, x157_85, x157_86, x157_87, x157_88, x157_89, x157_90, x157_91, x157_92, x157_93, x157_95, x157_97, x157_98, x157_98N, x157_99, x157_102, x157_104, x157_105, x157_106, x157_109, x157_109N, x157_110, x157_113, x157_116, x157_118, x157_119, x157_119N, x157_120, x157_123, x157_126, x157_128, x157_129, x157_130, x157_131, x157_132, x157_133, x157_136, x157_139, x157_139N, x157_140, x157_143, x157_146, x157_147, x157_147N, x157_148, x157_151, x157_153, x157_154, x157_155, x157_156, x157_157, x157_158, x157_158N, x157_159, x157_162, x157_165, x157_166, x157_166N, x157_167, x157_170, x157_172, x157_173, x157_174, x157_175, x157_176, x157_177, x157_178, x157_179, x157_179N, x157_180, x157_181, x157_182, x157_184, x157_187, x157_187N, x157_188, x157_191, x157_193, x157_194, aft_some, aft_void, Option.bind_some, Option.toList_some, Option.toList_none, List.cons_append, List.nil_append, if_true, if_false, ↓reduceIte, eq_self, z366_o, ↓z366_0, ↓z366_0p, ↓z366_1, ↓z366_2, ↓z366_3, ↓z366_4, ↓z366_4p, ↓z366_5, ↓z366_6, ↓z366_6p0, ↓z366_6p1, ↓z366_7, ↓z366_8, ↓z366_8p, ↓z366_9, ↓z366_9p, ↓z366_10, ↓z366_10p0, ↓z366_10p1, ↓z366_11, ↓z366_12, ↓z366_12p, ↓sg0, ↓sg1, ↓sg2, ↓sg3, ↓sg4, ↓sg5, ↓sg6, ↓sg7, ↓sg8, ↓sg9, ↓sg10, ↓sg11, ↓sg12, ↓sg13, ↓sg14, ↓sg15, ↓sg16, ↓sg17, ↓ss0, ↓ss1, ↓ss2, ↓ss3, ↓ss4, ↓ss5, ↓ss6, ↓ss7, ↓ss8, ↓ss9, ↓ss10, ↓ss11, ↓ss12, ↓ss13, ↓ss14, ↓ss15, ↓ss16, ↓ss17, t0, ↓aft_of (e1), ↓aft_of (ei)]
  | some i =>
    rw [hq] at e1
    simp only at e1 ⊢
    obtain ⟨-, hi, -⟩ := fst_some hq
    rw [Nat.zero_add] at hi
    have ni5 : (nI i = -5) = False := nI_ne5 (by omega)
    by_cases ch : hsI (s.1.1.1 3) p
    · rw [if_pos ch]
      rw [if_neg ch.1, if_pos ch.2] at ei
      obtain ⟨m, hm, rfl⟩ := nI_ex ch.1 (by omega) ch.2
      rw [nI_clamp (by omega)]
      obtain ⟨kk, hk4, ek⟩ := hw.1.1.2.2.2.2.2.2.1 m hm
      rw [ek, nI_clamp (by omega)]
      have hb := hs.2.2.2.1 i hi
      have ec := r_canBelong (T := T) (P := P) hs hw.1.1 hm hi hk4 ek
      unfold msK at ec
      by_cases c2 : 0 < gK s.1.2 i 3 kk ∧ dgI (gK s.1.2 i 0 3) kk = s.1.1.2.1 47 m
      · rw [if_pos c2]
        rw [if_pos c2] at ec
        obtain ⟨U, e, fr, -, hU⟩ := h.push (P := P) hw
        obtain ⟨n, hn⟩ : ∃ n, n + 1 = s.1.1.1 3 := ⟨s.1.1.1 3 - 1, by omega⟩
        rw [← hn] at f10 h20
        have hf := (hs.2.2.2.2.1 m hm).1
        rw [ek] at hf
        have o13 := r_of (T := U) (P := P) (f := f) (i := i) (w := 13 + kk) (y := 13 + nI kk) (nI_add 13 kk) (by omega) (by omega)
        rw [(hb.2 kk hk4).2.2] at o13
        have l13 := r_lay (T := U) (P := P) (f := f) (i := i) (w := 13 + kk) (y := 13 + nI kk) (z := gK s.1.2 i 3 kk - 1) (nI_add 13 kk) (by omega) (by omega)
        obtain ⟨G1, hG1⟩ : ∃ G1, G1 = upA f (694 + 17 * i + (13 + kk)) (gK s.1.2 i 3 kk - 1) := ⟨_, rfl⟩
        rw [← hG1] at l13
        have g110 : G1 10 = nI (n + 1) := by rw [hG1, upA_n _ _ (by omega)]; exact f10
        obtain ⟨G2, hG2⟩ : ∃ G2, G2 = upA G1 10 (nI n) := ⟨_, rfl⟩
        have n2 : ∀ a, a ≠ 694 + 17 * i + (13 + kk) → a ≠ 10 → G2 a = f a := fun a q1 q2 => by rw [hG2, upA_n _ _ q2, hG1, upA_n _ _ q1]
        have g210 : G2 10 = nI n := by rw [hG2, upA_s]
        have k1 : nI (n + 1) - 1 = nI n := nI_pred n
        have k8 : ∀ j : Nat, 830 + nI (2 * j) = nI (830 + 2 * j) := fun j => nI_add 830 _
        have k2m : ∀ j : Nat, 2 * nI j = nI (2 * j) := fun j => by rw [show (2 : Int32) = nI 2 from rfl, nI_mul]
        obtain ⟨G3, eG3, j1, j2⟩ := loop_ex (fun q (G : Nat → Int32) => X 157 95 [.ref 366, .int (nI m), .int x, .int (nI i), .int (nI kk), .int (nI (2 * m + q))] [] (H (upA U 367 G) P)) (fun q G => (∀ a, (a < 830 + 2 * m ∨ 830 + 2 * m + q ≤ a) → G a = G2 a) ∧ ∀ z, z < q → G (830 + 2 * m + z) = G2 (830 + 2 * m + z + 2)) (2 * (n - m)) G2 ⟨fun _ _ => rfl, fun z hz => absurd hz (Nat.not_lt_zero z)⟩ (by
          intro q G hq ⟨j1, j2⟩
          refine ⟨upA G (830 + 2 * m + q) (G2 (830 + 2 * m + q + 2)), ?_, fun a ha => ?_, fun z hz => ?_⟩
          · have hlt : nI (2 * m + q) < nI (2 * n) := nI_lt (by omega) (by omega)
            have q1 : G 10 = nI n := by rw [j1 10 (by omega)]; exact g210
            have q2 : 830 + nI (2 * m + q) = nI (830 + 2 * m + q) := by rw [show (830 : Int32) = nI 830 from rfl, nI_add, Nat.add_assoc]
            have q3 : nI (830 + 2 * m + q) + 2 = nI (830 + 2 * m + q + 2) := nI_add _ 2
            have q4 : G (830 + 2 * m + q + 2) = G2 (830 + 2 * m + q + 2) := j1 _ (by omega)
            have q5 : nI (2 * m + q) + 1 = nI (2 * m + (q + 1)) := nI_add _ 1
            show X 157 95 [.ref 366, .int (nI m), .int x, .int (nI i), .int (nI kk), .int (nI (2 * m + q))] [] (H (upA U 367 G) P) = _
            rw [x157_95]
            simp +decide only [x157_0, x157_0N, x157_1, x157_2, x157_5, x157_5N, x157_6, x157_7, x157_10, x157_11, x157_11N, x157_12, x157_13, x157_16, x157_19, x157_20, x157_22, x157_25, x157_26, x157_27, x157_27N, x157_28, x157_29, x157_30, x157_33, x157_36, x157_38, x157_39, x157_39N, x157_40, x157_43, x157_43N, x157_44, x157_47, x157_50, x157_51, x157_52, x157_53, x157_54, x157_55, x157_57, x157_57N, x157_58, x157_59, x157_61, x157_63, x157_64, x157_64N, x157_65, x157_66, x157_68, x157_70, x157_71, x157_74, x157_75, x157_76, x157_79, x157_79N, x157_80, x157_83, x157_85, x157_86, x157_87, x157_88, x157_89, x157_90, x157_91, x157_92, x157_93, x157_97, x157_98, x157_98N, x157_99, x157_102, x157_104, x157_105, x157_106, x157_109, x157_109N, x157_110, x157_113, x157_116, x157_118, x157_119, x157_119N, x157_120, x157_123, x157_126, x157_128, x157_129, x157_130, x157_131, x157_132, x157_133, x157_136, x157_139, x157_139N, x157_140, x157_143, x157_146, x157_147, x157_147N, x157_148, x157_151, x157_153, x157_154, x157_155, x157_156, x157_157, x157_158, x157_158N, x157_159, x157_162, x157_165, x157_166, x157_166N, x157_167, x157_170, x157_172, x157_173, x157_174, x157_175, x157_176, x157_177, x157_178, x157_179, x157_179N, x157_180, x157_181, x157_182, x157_184, x157_187, x157_187N, x157_188, x157_191, x157_193, x157_194, aft_some, aft_void, Option.bind_some, Option.toList_some, Option.toList_none, List.cons_append, List.nil_append, if_true, if_false, ↓reduceIte, eq_self, z366_o, ↓z366_0, ↓z366_0p, ↓z366_1, ↓z366_2, ↓z366_3, ↓z366_4, ↓z366_4p, ↓z366_5, ↓z366_6, ↓z366_6p0, ↓z366_6p1, ↓z366_7, ↓z366_8, ↓z366_8p, ↓z366_9, ↓z366_9p, ↓z366_10, ↓z366_10p0, ↓z366_10p1, ↓z366_11, ↓z366_12, ↓z366_12p, ↓sg0, ↓sg1, ↓sg2, ↓sg3, ↓sg4, ↓sg5, ↓sg6, ↓sg7, ↓sg8, ↓sg9, ↓sg10, ↓sg11, ↓sg12, ↓sg13, ↓sg14, ↓sg15, ↓sg16, ↓sg17, ↓ss0, ↓ss1, ↓ss2, ↓ss3, ↓ss4, ↓ss5, ↓ss6, ↓ss7, ↓ss8, ↓ss9, ↓ss10, ↓ss11, ↓ss12, ↓ss13, ↓ss14, ↓ss15, ↓ss16, ↓ss17, q1, k2m, hlt, q2, q3, ↓s_g (show 830 + 2 * m + q + 2 < 912 by omega), ↓s_s (show 830 + 2 * m + q < 912 by omega), q4, q5]
          · rw [upA_n _ _ (by omega)]; exact j1 a (by omega)
          · by_cases e : z = q
            · rw [e, upA_s]
            · rw [upA_n _ _ (by omega)]; exact j2 z (by omega))
        have eG3 : X 157 95 [.ref 366, .int (nI m), .int x, .int (nI i), .int (nI kk), .int (nI (2 * m))] [] (H (upA U 367 G2) P) = X 157 95 [.ref 366, .int (nI m), .int x, .int (nI i), .int (nI kk), .int (nI (2 * n))] [] (H (upA U 367 G3) P) := by
          rw [show 2 * n = 2 * m + 2 * (n - m) by omega]; exact eG3
        have g310 : G3 10 = nI n := by rw [j1 10 (by omega)]; exact g210
        obtain ⟨G4, hG4⟩ : ∃ G4, G4 = upA G3 (830 + 2 * n) 0 := ⟨_, rfl⟩
        have g410 : G4 10 = nI n := by rw [hG4, upA_n _ _ (by omega)]; exact g310
        obtain ⟨G5, hG5⟩ : ∃ G5, G5 = upA G4 (830 + 2 * n + 1) 0 := ⟨_, rfl⟩
        have kx : nI (830 + 2 * n) + 1 = nI (830 + 2 * n + 1) := nI_add _ 1
        have n5 : ∀ a, (a < 830 ∨ 870 ≤ a) → G5 a = G2 a := fun a ha => by rw [hG5, upA_n _ _ (by omega), hG4, upA_n _ _ (by omega), j1 a (by omega)]
        obtain ⟨G6, e6, n6, s17, sJ6⟩ := r_books (T := U) (P := P) (f := G5) (n := s.1.1.1 4) (R := s.1.1.2.2.2) (e := 4) (x := x) (y := nI kk) (by rw [n5 17 (by decide), n2 17 (by omega) (by decide)]; exact hs.1.2.2.2.2.1.2.2) h10 (hs.2.2.2.2.2.same h10 (fun a h1 h2 => by rw [n5 a (by omega), n2 a (by omega) (by omega)]))
        have g54 : G5 4 = s.1.1.2.1 0 0 := by rw [n5 4 (by decide), n2 4 (by omega) (by decide), hs.1.d, hs.1.2.2.2.2.2.2]
        rw [g54] at sJ6
        have g610 : G6 10 = nI n := by rw [n6 10 (by decide) (by decide), n5 10 (by decide)]; exact g210
        have hn1 : s.1.1.1 3 - 1 = n := by omega
        rw [hn1]
        refine ⟨U, G6, ?_, fun a ha => fr a (by omega) (by omega), hU.now ?_⟩
        · simp +decide only [x157_0, x157_0N, x157_1, x157_2, x157_5, x157_5N, x157_6, x157_7, x157_10, x157_11, x157_11N, x157_12, x157_13, x157_16, x157_19, x157_20, x157_22, x157_25, x157_26, x157_27, x157_27N, x157_28, x157_29, x157_30, x157_33, x157_36, x157_38, x157_39, x157_39N, x157_40, x157_43, x157_43N, x157_44, x157_47, x157_50, x157_51, x157_52, x157_53, x157_54, x157_55, x157_57, x157_57N, x157_58, x157_59, x157_61, x157_63, x157_64, x157_64N, x157_65, x157_66, x157_68, x157_70, x157_71, x157_74, x157_75, x157_76, x157_79, x157_79N, x157_80, x157_83, x157_85, x157_86, x157_87, x157_88, x157_89, x157_90, x157_91, x157_92, x157_93, x157_97, x157_98, x157_98N, x157_99, x157_102, x157_104, x157_105, x157_106, x157_109, x157_109N, x157_110, x157_113, x157_116, x157_118, x157_119, x157_119N, x157_120, x157_123, x157_126, x157_128, x157_129, x157_130, x157_131, x157_132, x157_133, x157_136, x157_139, x157_139N, x157_140, x157_143, x157_146, x157_147, x157_147N, x157_148, x157_151, x157_153, x157_154, x157_155, x157_156, x157_157, x157_158, x157_158N, x157_159, x157_162, x157_165, x157_166, x157_166N, x157_167, x157_170, x157_172, x157_173, x157_174, x157_175, x157_176, x157_177, x157_178, x157_179, x157_179N, x157_180, x157_181, x157_182, x157_184, x157_187, x157_187N, x157_188, x157_191, x157_193, x157_194, aft_some, aft_void, Option.bind_some, Option.toList_some, Option.toList_none, List.cons_append, List.nil_append, if_true, if_false, ↓reduceIte, eq_self, z366_o, ↓z366_0, ↓z366_0p, ↓z366_1, ↓z366_2, ↓z366_3, ↓z366_4, ↓z366_4p, ↓z366_5, ↓z366_6, ↓z366_6p0, ↓z366_6p1, ↓z366_7, ↓z366_8, ↓z366_8p, ↓z366_9, ↓z366_9p, ↓z366_10, ↓z366_10p0, ↓z366_10p1, ↓z366_11, ↓z366_12, ↓z366_12p, ↓sg0, ↓sg1, ↓sg2, ↓sg3, ↓sg4, ↓sg5, ↓sg6, ↓sg7, ↓sg8, ↓sg9, ↓sg10, ↓sg11, ↓sg12, ↓sg13, ↓sg14, ↓sg15, ↓sg16, ↓sg17, ↓ss0, ↓ss1, ↓ss2, ↓ss3, ↓ss4, ↓ss5, ↓ss6, ↓ss7, ↓ss8, ↓ss9, ↓ss10, ↓ss11, ↓ss12, ↓ss13, ↓ss14, ↓ss15, ↓ss16, ↓ss17, t0, ↓aft_of (e1), ↓aft_of (ei), ni5, ↓aft_of (ec), ↓aft_of (e), k8, ↓s_g (show 830 + 2 * m < 912 by omega), hf, ↓aft_of (o13), ↓aft_of (l13), g110, k1, ← hG2, k2m]
          rw [eG3, x157_95]
          simp +decide only [x157_0, x157_0N, x157_1, x157_2, x157_5, x157_5N, x157_6, x157_7, x157_10, x157_11, x157_11N, x157_12, x157_13, x157_16, x157_19, x157_20, x157_22, x157_25, x157_26, x157_27, x157_27N, x157_28, x157_29, x157_30, x157_33, x157_36, x157_38, x157_39, x157_39N, x157_40, x157_43, x157_43N, x157_44, x157_47, x157_50, x157_51, x157_52, x157_53, x157_54, x157_55, x157_57, x157_57N, x157_58, x157_59, x157_61, x157_63, x157_64, x157_64N, x157_65, x157_66, x157_68, x157_70, x157_71, x157_74, x157_75, x157_76, x157_79, x157_79N, x157_80, x157_83, x157_85, x157_86, x157_87, x157_88, x157_89, x157_90, x157_91, x157_92, x157_93, x157_97, x157_98, x157_98N, x157_99, x157_102, x157_104, x157_105, x157_106, x157_109, x157_109N, x157_110, x157_113, x157_116, x157_118, x157_119, x157_119N, x157_120, x157_123, x157_126, x157_128, x157_129, x157_130, x157_131, x157_132, x157_133, x157_136, x157_139, x157_139N, x157_140, x157_143, x157_146, x157_147, x157_147N, x157_148, x157_151, x157_153, x157_154, x157_155, x157_156, x157_157, x157_158, x157_158N, x157_159, x157_162, x157_165, x157_166, x157_166N, x157_167, x157_170, x157_172, x157_173, x157_174, x157_175, x157_176, x157_177, x157_178, x157_179, x157_179N, x157_180, x157_181, x157_182, x157_184, x157_187, x157_187N, x157_188, x157_191, x157_193, x157_194, aft_some, aft_void, Option.bind_some, Option.toList_some, Option.toList_none, List.cons_append, List.nil_append, if_true, if_false, ↓reduceIte, eq_self, z366_o, ↓z366_0, ↓z366_0p, ↓z366_1, ↓z366_2, ↓z366_3, ↓z366_4, ↓z366_4p, ↓z366_5, ↓z366_6, ↓z366_6p0, ↓z366_6p1, ↓z366_7, ↓z366_8, ↓z366_8p, ↓z366_9, ↓z366_9p, ↓z366_10, ↓z366_10p0, ↓z366_10p1, ↓z366_11, ↓z366_12, ↓z366_12p, ↓sg0, ↓sg1, ↓sg2, ↓sg3, ↓sg4, ↓sg5, ↓sg6, ↓sg7, ↓sg8, ↓sg9, ↓sg10, ↓sg11, ↓sg12, ↓sg13, ↓sg14, ↓sg15, ↓sg16, ↓sg17, ↓ss0, ↓ss1, ↓ss2, ↓ss3, ↓ss4, ↓ss5, ↓ss6, ↓ss7, ↓ss8, ↓ss9, ↓ss10, ↓ss11, ↓ss12, ↓ss13, ↓ss14, ↓ss15, ↓ss16, ↓ss17, g310, k2m, nI_nlt (Nat.le_refl (2 * n)) (show 2 * n < 2 ^ 31 by omega), k8, ↓s_s (show 830 + 2 * n < 912 by omega), ← hG4, g410, kx, ↓s_s (show 830 + 2 * n + 1 < 912 by omega), ← hG5, ↓aft_of (e6), g610]
        · refine sR.miss (M := (fiU s.1 i m kk x).1.1) (W := (fiU s.1 i m kk x).1.2.1) hs h8 hi hk4 (fun a q1 q2 q3 q4 => ?_) ?_ ?_ ?_ ?_ ?_ (fun r h3 h4 => ?_) (fun r h6 h7 => ?_)
          · rw [n6 a q2 (by omega), n5 a (by omega), n2 a q3 q1]
          · show G6 10 = nI (upA (upA s.1.1.1 3 (s.1.1.1 3 - 1)) 4 (min (s.1.1.1 4 + 1) 10) 3)
            rw [upA_n _ _ (by decide), upA_s, g610, hn1]
          · show G6 17 = nI (upA (upA s.1.1.1 3 (s.1.1.1 3 - 1)) 4 (min (s.1.1.1 4 + 1) 10) 4)
            rw [upA_s, s17]
          · rw [n6 _ (by omega) (by omega), n5 _ (by omega), hG2, upA_n _ _ (by omega), hG1, upA_s]
          · show sL G6 (upA (upA s.1.1.1 3 (s.1.1.1 3 - 1)) 4 (min (s.1.1.1 4 + 1) 10) 3) _
            rw [upA_n _ _ (by decide), upA_s, hn1]
            intro j hj
            show G6 (830 + 2 * j) = upA (upA s.1.1.2.1 46 (fun j => if j < m then s.1.1.2.1 46 j else s.1.1.2.1 46 (j + 1))) 47 (fun j => if j < m then s.1.1.2.1 47 j else s.1.1.2.1 47 (j + 1)) 46 j ∧ G6 (830 + 2 * j + 1) = upA (upA s.1.1.2.1 46 (fun j => if j < m then s.1.1.2.1 46 j else s.1.1.2.1 46 (j + 1))) 47 (fun j => if j < m then s.1.1.2.1 47 j else s.1.1.2.1 47 (j + 1)) 47 j
            rw [upA_n _ _ (show 46 ≠ 47 by decide), upA_s, upA_s]
            rw [n6 _ (by omega) (by omega), n6 _ (by omega) (by omega), hG5, upA_n _ _ (by omega), upA_n _ _ (by omega), hG4, upA_n _ _ (by omega), upA_n _ _ (by omega)]
            by_cases e : j < m
            · rw [if_pos e, if_pos e]
              obtain ⟨t1, t2⟩ := hs.2.2.2.2.1 j (by omega)
              rw [j1 _ (by omega), n2 _ (by omega) (by omega), j1 _ (by omega), n2 _ (by omega) (by omega)]
              exact ⟨t1, t2⟩
            · rw [if_neg e, if_neg e]
              obtain ⟨t1, t2⟩ := hs.2.2.2.2.1 (j + 1) (by omega)
              have s1 := j2 (2 * (j - m)) (by omega)
              have s2 := j2 (2 * (j - m) + 1) (by omega)
              rw [show 830 + 2 * m + 2 * (j - m) = 830 + 2 * j by omega, show 830 + 2 * j + 2 = 830 + 2 * (j + 1) by omega, n2 _ (by omega) (by omega)] at s1
              rw [show 830 + 2 * m + (2 * (j - m) + 1) = 830 + 2 * j + 1 by omega, show 830 + 2 * j + 1 + 2 = 830 + 2 * (j + 1) + 1 by omega, n2 _ (by omega) (by omega)] at s2
              exact ⟨s1.trans t1, s2.trans t2⟩
          · show sJ G6 (upA (upA s.1.1.1 3 (s.1.1.1 3 - 1)) 4 (min (s.1.1.1 4 + 1) 10) 4) _
            rw [upA_s]; exact sJ6
          · show upA (upA s.1.1.1 3 (s.1.1.1 3 - 1)) 4 (min (s.1.1.1 4 + 1) 10) r = _
            rw [upA_n _ _ h4, upA_n _ _ h3]
          · show upA (upA s.1.1.2.1 46 (fun j => if j < m then s.1.1.2.1 46 j else s.1.1.2.1 46 (j + 1))) 47 (fun j => if j < m then s.1.1.2.1 47 j else s.1.1.2.1 47 (j + 1)) r = _
            rw [upA_n _ _ h7, upA_n _ _ h6]
      · rw [if_neg c2]
        rw [if_neg c2] at ec
        exact ⟨T, f, by simp +decide only [x157_0, x157_0N, x157_1, x157_2, x157_5, x157_5N, x157_6, x157_7, x157_10, x157_11, x157_11N, x157_12, x157_13, x157_16, x157_19, x157_20, x157_22, x157_25, x157_26, x157_27, x157_27N, x157_28, x157_29, x157_30, x157_33, x157_36, x157_38, x157_39, x157_39N, x157_40, x157_43, x157_43N, x157_44, x157_47, x157_50, x157_51, x157_52, x157_53, x157_54, x157_55, x157_57, x157_57N, x157_58, x157_59, x157_61, x157_63, x157_64, x157_64N, x157_65, x157_66, x157_68, x157_70, x157_71, x157_74, x157_75, x157_76, x157_79, x157_79N, x157_80, x157_83, x157_85, x157_86, x157_87, x157_88, x157_89, x157_90, x157_91, x157_92, x157_93, x157_95, x157_97, x157_98, x157_98N, x157_99, x157_102, x157_104, x157_105, x157_106, x157_109, x157_109N, x157_110, x157_113, x157_116, x157_118, x157_119, x157_119N, x157_120, x157_123, x157_126, x157_128, x157_129, x157_130, x157_131, x157_132, x157_133, x157_136, x157_139, x157_139N, x157_140, x157_143, x157_146, x157_147, x157_147N, x157_148, x157_151, x157_153, x157_154, x157_155, x157_156, x157_157, x157_158, x157_158N, x157_159, x157_162, x157_165, x157_166, x157_166N, x157_167, x157_170, x157_172, x157_173, x157_174, x157_175, x157_176, x157_177, x157_178, x157_179, x157_179N, x157_180, x157_181, x157_182, x157_184, x157_187, x157_187N, x157_188, x157_191, x157_193, x157_194, aft_some, aft_void, Option.bind_some, Option.toList_some, Option.toList_none, List.cons_append, List.nil_append, if_true, if_false, ↓reduceIte, eq_self, z366_o, ↓z366_0, ↓z366_0p, ↓z366_1, ↓z366_2, ↓z366_3, ↓z366_4, ↓z366_4p, ↓z366_5, ↓z366_6, ↓z366_6p0, ↓z366_6p1, ↓z366_7, ↓z366_8, ↓z366_8p, ↓z366_9, ↓z366_9p, ↓z366_10, ↓z366_10p0, ↓z366_10p1, ↓z366_11, ↓z366_12, ↓z366_12p, ↓sg0, ↓sg1, ↓sg2, ↓sg3, ↓sg4, ↓sg5, ↓sg6, ↓sg7, ↓sg8, ↓sg9, ↓sg10, ↓sg11, ↓sg12, ↓sg13, ↓sg14, ↓sg15, ↓sg16, ↓sg17, ↓ss0, ↓ss1, ↓ss2, ↓ss3, ↓ss4, ↓ss5, ↓ss6, ↓ss7, ↓ss8, ↓ss9, ↓ss10, ↓ss11, ↓ss12, ↓ss13, ↓ss14, ↓ss15, ↓ss16, ↓ss17, t0, ↓aft_of (e1), ↓aft_of (ei), ni5, ↓aft_of (ec)], fun _ _ => rfl, h⟩
    · rw [if_neg ch]
      refine ⟨T, f, ?_, fun _ _ => rfl, h⟩
      have e0 : (if p < 0 then (0 : Int32) else if p < nI (s.1.1.1 3) then 1 else 0) = 0 := by
        by_cases q : p < 0
        · rw [if_pos q]
        · rw [if_neg q, if_neg (fun z => ch ⟨q, z⟩)]
      rw [e0] at ei
      simp +decide only [x157_0, x157_0N, x157_1, x157_2, x157_5, x157_5N, x157_6, x157_7, x157_10, x157_11, x157_11N, x157_12, x157_13, x157_16, x157_19, x157_20, x157_22, x157_25, x157_26, x157_27, x157_27N, x157_28, x157_29, x157_30, x157_33, x157_36, x157_38, x157_39, x157_39N, x157_40, x157_43, x157_43N, x157_44, x157_47, x157_50, x157_51, x157_52, x157_53, x157_54, x157_55, x157_57, x157_57N, x157_58, x157_59, x157_61, x157_63, x157_64, x157_64N, x157_65, x157_66, x157_68, x157_70, x157_71, x157_74, x157_75, x157_76, x157_79, x157_79N, x157_80, x157_83, x157_85, x157_86, x157_87, x157_88, x157_89, x157_90, x157_91, x157_92, x157_93, x157_95, x157_97, x157_98, x157_98N, x157_99, x157_102, x157_104, x157_105, x157_106, x157_109, x157_109N, x157_110, x157_113, x157_116, x157_118, x157_119, x157_119N, x157_120, x157_123, x157_126, x157_128, x157_129, x157_130, x157_131, x157_132, x157_133, x157_136, x157_139, x157_139N, x157_140, x157_143, x157_146, x157_147, x157_147N, x157_148, x157_151, x157_153, x157_154, x157_155, x157_156, x157_157, x157_158, x157_158N, x157_159, x157_162, x157_165, x157_166, x157_166N, x157_167, x157_170, x157_172, x157_173, x157_174, x157_175, x157_176, x157_177, x157_178, x157_179, x157_179N, x157_180, x157_181, x157_182, x157_184, x157_187, x157_187N, x157_188, x157_191, x157_193, x157_194, aft_some, aft_void, Option.bind_some, Option.toList_some, Option.toList_none, List.cons_append, List.nil_append, if_true, if_false, ↓reduceIte, eq_self, z366_o, ↓z366_0, ↓z366_0p, ↓z366_1, ↓z366_2, ↓z366_3, ↓z366_4, ↓z366_4p, ↓z366_5, ↓z366_6, ↓z366_6p0, ↓z366_6p1, ↓z366_7, ↓z366_8, ↓z366_8p, ↓z366_9, ↓z366_9p, ↓z366_10, ↓z366_10p0, ↓z366_10p1, ↓z366_11, ↓z366_12, ↓z366_12p, ↓sg0, ↓sg1, ↓sg2, ↓sg3, ↓sg4, ↓sg5, ↓sg6, ↓sg7, ↓sg8, ↓sg9, ↓sg10, ↓sg11, ↓sg12, ↓sg13, ↓sg14, ↓sg15, ↓sg16, ↓sg17, ↓ss0, ↓ss1, ↓ss2, ↓ss3, ↓ss4, ↓ss5, ↓ss6, ↓ss7, ↓ss8, ↓ss9, ↓ss10, ↓ss11, ↓ss12, ↓ss13, ↓ss14, ↓ss15, ↓ss16, ↓ss17, t0, ↓aft_of (e1), ↓aft_of (ei)]
end QC
