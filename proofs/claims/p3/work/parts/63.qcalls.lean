/-! the reference's calls: what they answer, and the state behind them -/
/-- the reference stands for s: its state is in the array f -/
def CF (T : Nat → Nat → Int32) (f : Nat → Int32) (s : gT) : Prop := (T 366 0 = 0 ∧ kR T s.2.1 ∧ hR T s.2.2.1 ∧ xR T s.2.2.2) ∧ sU f s.1
/-- what always holds of what is kept -/
def WG (s : gT) : Prop := WFu s.1 ∧ (∀ v ∈ s.2.2.1, WFu v) ∧ ∀ v, s.2.1 = some v → WFu v
/-- the call j at A answers a.1 and leaves a.2 -/
def RQ (T : Nat → Nat → Int32) (P : Nat → Nat → Nat) (f : Nat → Int32) (j : Nat) (A : List Value) (a : Int32 × gT) : Prop := ∃ T' f', X j 0 A [] (H (upA T 367 f) P) = some (some (.int a.1), H (upA T' 367 f') P) ∧ (∀ a, a < 366 → T' a = T a) ∧ CF T' f' a.2
section QA
variable {T : Nat → Nat → Int32} {P : Nat → Nat → Nat} {f : Nat → Int32} {s : gT} {x y z w : Int32}
theorem thr (h : T 366 0 = 0) : up1 (upA T 367 f) 366 0 0 = upA T 367 f := by
  have e : upA (upA T 367 f 366) 0 0 = upA T 367 f 366 := by
    rw [upA_n _ _ (show 366 ≠ 367 by decide)]
    have := upA_self (T 366) 0
    rwa [h] at this
  show upA (upA T 367 f) 366 (upA (upA T 367 f 366) 0 0) = _
  rw [e]
  exact upA_self _ _
theorem kR.same {U : Nat → Nat → Int32} {k : Option uT} (h : kR T k) (hw : ∀ v, k = some v → WFu v) (h6 : U 366 6 = T 366 6) (h370 : ∀ j, j < 912 → U 370 j = T 370 j) : kR U k := by
  cases k with
  | none => exact h6.trans h
  | some v => exact ⟨h6.trans h.1, sU.same h.2 (hw v rfl) h370⟩
theorem hR.same {U : Nat → Nat → Int32} {L : List uT} (h : hR T L) (h4 : U 366 4 = T 366 4) (h369 : U 369 = T 369) : hR U L := by
  refine ⟨h4.trans h.1, h.2.1, fun g u hg => ?_⟩
  have := h.2.2 g u hg
  rw [← h369] at this
  exact this
theorem xR.same {U : Nat → Nat → Int32} {t : Nat × (Nat → Int32)} (h : xR T t) (h8 : U 366 8 = T 366 8) (h371 : U 371 = T 371) : xR U t := ⟨h8.trans h.1, h.2.1, fun i hi => by rw [h371]; exact h.2.2 i hi⟩
/-- the state goes into the history -/
theorem CF.push (h : CF T f s) (hw : WG s) : ∃ U, X 131 0 [.ref 366, .long 0] [] (H (upA T 367 f) P) = some (none, H (upA U 367 f) P) ∧ (∀ a, a ≠ 366 → a ≠ 369 → U a = T a) ∧ (∀ k, k ≠ 4 → U 366 k = T 366 k) ∧ CF U f (s.1, s.2.1, psL s, s.2.2.2) := by
  obtain ⟨⟨h0, hk, hh, hx⟩, hs⟩ := h
  have hh' : hR (upA T 367 f) s.2.2.1 := hh.same (congrFun (upA_n _ _ (by decide)) 4) (upA_n _ _ (by decide))
  have hs' : sU ((upA T 367 f) 367) s.1 := by rw [upA_s]; exact hs
  obtain ⟨U, e, f1, f2, r⟩ := hh'.push (P := P) hw.2.1 hs' hw.1
  have hU : U 367 = f := by rw [f1 367 (by decide) (by decide), upA_s]
  have hUU : upA U 367 f = U := by rw [← hU]; exact upA_self _ _
  have g1 : ∀ a, a ≠ 366 → a ≠ 367 → a ≠ 369 → U a = T a := fun a q1 q2 q3 => (f1 a q1 q3).trans (upA_n _ _ q2)
  have g2 : ∀ k, k ≠ 4 → U 366 k = T 366 k := fun k hk => (f2 k hk).trans (congrFun (upA_n _ _ (by decide)) k)
  refine ⟨upA U 367 (T 367), ?_, fun a q1 q2 => ?_, ?_, ⟨?_, ?_, ?_, ?_⟩, hs⟩
  · rw [upA_upA, hUU]; exact e
  · by_cases q : a = 367
    · subst q; exact upA_s _ _ _
    · rw [upA_n _ _ q]; exact g1 a q1 q q2
  · intro k hk; rw [upA_n _ _ (by decide)]; exact g2 k hk
  · rw [upA_n _ _ (by decide), g2 0 (by decide)]; exact h0
  · exact hk.same hw.2.2 (by rw [upA_n _ _ (by decide)]; exact g2 6 (by decide)) (fun j _ => by rw [upA_n _ _ (by decide), g1 370 (by decide) (by decide) (by decide)])
  · exact r.same (by rw [upA_n _ _ (by decide)]) (upA_n _ _ (by decide))
  · exact hx.same (by rw [upA_n _ _ (by decide)]; exact g2 8 (by decide)) (by rw [upA_n _ _ (by decide)]; exact g1 371 (by decide) (by decide) (by decide))
/-- only the state changes -/
theorem CF.now {f' : Nat → Int32} {u : uT} (h : CF T f s) (hu : sU f' u) : CF T f' (u, s.2) := ⟨h.1, hu⟩
theorem q_cust (h : CF T f s) (hw : WG s) (d : Int32) : RQ T P f 146 [.ref 366, .int d] (gCust d s) := by
  have t0 := thr (f := f) h.1.1
  unfold gCust
  by_cases c1 : inI d 0 4 = 0
  · rw [if_pos c1]
    exact ⟨T, f, by simp +decide only [x146_0, x146_0N, x146_1, x146_2, x146_5, x146_6, x146_7, x146_8, x146_11, x146_14, x146_15, x146_16, x146_16N, x146_17, x146_20, x146_21, x146_22, x146_24, x146_27, x146_29, x146_30, x146_30N, x146_31, x146_34, x146_34N, x146_35, x146_35N, x146_36, x146_39, x146_40, x146_41, x146_42, x146_43, x146_46, x146_46N, x146_47, x146_50, x146_51, x146_52, x146_53, x146_54, x146_55, x146_56, x146_56N, x146_57, x146_60, x146_61, x146_62, x146_63, x146_64, aft_some, aft_void, Option.bind_some, Option.toList_some, Option.toList_none, List.cons_append, List.nil_append, if_true, if_false, ↓reduceIte, eq_self, z366_o, ↓z366_0, ↓z366_0p, ↓z366_1, ↓z366_2, ↓z366_3, ↓z366_4, ↓z366_4p, ↓z366_5, ↓z366_6, ↓z366_6p0, ↓z366_6p1, ↓z366_7, ↓z366_8, ↓z366_8p, ↓z366_9, ↓z366_9p, ↓z366_10, ↓z366_10p0, ↓z366_10p1, ↓z366_11, ↓z366_12, ↓z366_12p, ↓sg0, ↓sg1, ↓sg2, ↓sg3, ↓sg4, ↓sg5, ↓sg6, ↓sg7, ↓sg8, ↓sg9, ↓sg10, ↓sg11, ↓sg12, ↓sg13, ↓sg14, ↓sg15, ↓sg16, ↓sg17, ↓ss0, ↓ss1, ↓ss2, ↓ss3, ↓ss4, ↓ss5, ↓ss6, ↓ss7, ↓ss8, ↓ss9, ↓ss10, ↓ss11, ↓ss12, ↓ss13, ↓ss14, ↓ss15, ↓ss16, ↓ss17, t0, ↓aft_of (r_in), c1], fun _ _ => rfl, h⟩
  rw [if_neg c1]
  have hN1 := hw.1.1.1.2.1
  have h5 : f 5 = nI (s.1.1.1 1) := h.2.1.2.1.2.1
  have e10 : (nI (s.1.1.1 1) = 10) = (s.1.1.1 1 = 10) := by rw [show (10 : Int32) = nI 10 from rfl, nI_inj (by omega) (by decide)]
  by_cases c2 : s.1.1.1 1 < 10
  · rw [if_pos c2]
    have c10 : (s.1.1.1 1 = 10) = False := eq_false (by omega)
    obtain ⟨U, e, fr, -, hU⟩ := h.push (P := P) hw
    obtain ⟨n, hn⟩ : ∃ n, n = s.1.1.1 1 := ⟨_, rfl⟩
    have l1 := r_layCust (T := U) (P := P) (f := f) (i := n) (w := 0) (y := 0) (z := d) rfl (by omega) (by decide)
    have k1 : nI n + 1 = nI (n + 1) := nI_add _ 1
    have k2 : nI (n + 1) - 1 = nI n := nI_pred n
    have r5 : upA f (24 + 3 * n + 0) d 5 = nI n := by rw [upA_n _ _ (by omega), h5, hn]
    rw [← hn] at h5 e10 c10 ⊢
    refine ⟨U, upA (upA f (24 + 3 * n + 0) d) 5 (nI (n + 1)), ?_, fun a ha => fr a (by omega) (by omega), hU.now ?_⟩
    · simp +decide only [x146_0, x146_0N, x146_1, x146_2, x146_5, x146_6, x146_7, x146_8, x146_11, x146_14, x146_15, x146_16, x146_16N, x146_17, x146_20, x146_21, x146_22, x146_24, x146_27, x146_29, x146_30, x146_30N, x146_31, x146_34, x146_34N, x146_35, x146_35N, x146_36, x146_39, x146_40, x146_41, x146_42, x146_43, x146_46, x146_46N, x146_47, x146_50, x146_51, x146_52, x146_53, x146_54, x146_55, x146_56, x146_56N, x146_57, x146_60, x146_61, x146_62, x146_63, x146_64, aft_some, aft_void, Option.bind_some, Option.toList_some, Option.toList_none, List.cons_append, List.nil_append, if_true, if_false, ↓reduceIte, eq_self, z366_o, ↓z366_0, ↓z366_0p, ↓z366_1, ↓z366_2, ↓z366_3, ↓z366_4, ↓z366_4p, ↓z366_5, ↓z366_6, ↓z366_6p0, ↓z366_6p1, ↓z366_7, ↓z366_8, ↓z366_8p, ↓z366_9, ↓z366_9p, ↓z366_10, ↓z366_10p0, ↓z366_10p1, ↓z366_11, ↓z366_12, ↓z366_12p, ↓sg0, ↓sg1, ↓sg2, ↓sg3, ↓sg4, ↓sg5, ↓sg6, ↓sg7, ↓sg8, ↓sg9, ↓sg10, ↓sg11, ↓sg12, ↓sg13, ↓sg14, ↓sg15, ↓sg16, ↓sg17, ↓ss0, ↓ss1, ↓ss2, ↓ss3, ↓ss4, ↓ss5, ↓ss6, ↓ss7, ↓ss8, ↓ss9, ↓ss10, ↓ss11, ↓ss12, ↓ss13, ↓ss14, ↓ss15, ↓ss16, ↓ss17, upA_s, u_n, t0, ↓aft_of (r_in), c1, h5, e10, c10, ↓aft_of (e), ↓aft_of (l1), r5, k1, k2]
    · obtain ⟨⟨⟨N, V, B, R⟩, K⟩, sr⟩ := s
      have hn : n = N 1 := hn
      obtain ⟨⟨a1, ⟨a2, a3, a4, a5⟩, ⟨a6, a7, a8⟩, a9, ⟨a10, a11, a12⟩, a13, a14⟩, hC, hO, hK, hL, hJ⟩ := h.2
      have w8 : K.length ≤ 8 := hw.1.1.1.2.2.2.1
      have w20 : N 3 ≤ 20 := hw.1.1.1.2.2.2.2.1
      have w10 : N 4 ≤ 10 := hw.1.1.1.2.2.2.2.2
      have nf : ∀ a, a ≠ 5 → a ≠ 24 + 3 * n → upA (upA f (24 + 3 * n + 0) d) 5 (nI (n + 1)) a = f a := fun a q1 q2 => by rw [upA_n _ _ q1, upA_n _ _ (by omega)]
      have n1 : cuN N 1 = N 1 + 1 := upA_s _ _ _
      have nn : ∀ j, j ≠ 1 → cuN N j = N j := fun j hj => upA_n _ _ hj
      have v4 : cuV N V d 4 = upA (V 4) (N 1) d := by simp +decide only [upA_s, u_n]
      have v5 : cuV N V d 5 = upA (V 5) (N 1) 0 := by simp +decide only [upA_s, u_n]
      have v6 : cuV N V d 6 = upA (V 6) (N 1) 0 := by simp +decide only [upA_s, u_n]
      have vn : ∀ r, r ≠ 4 → r ≠ 5 → r ≠ 6 → cuV N V d r = V r := fun r q4 q5 q6 => by simp only [upA_n _ _ q4, upA_n _ _ q5, upA_n _ _ q6]
      show sR _ (cuN N) (cuV N V d) K B R
      refine ⟨⟨fun j hj => ?_, ⟨?_, ?_, ?_, ?_⟩, ⟨?_, ?_, ?_⟩, fun j hj => ?_, ⟨?_, ?_, ?_⟩, fun d' hd => ?_, ?_⟩, ?_, ?_, ?_, ?_, ?_⟩
      · rw [nf j (by omega) (by omega), vn 1 (by decide) (by decide) (by decide)]; exact a1 j hj
      · rw [nf 4 (by decide) (by omega), nn 0 (by decide)]; exact a2
      · rw [upA_s, n1, hn]
      · rw [nf 6 (by decide) (by omega), nn 2 (by decide)]; exact a4
      · rw [nf 7 (by decide) (by omega), vn 0 (by decide) (by decide) (by decide)]; exact a5
      · rw [nf 8 (by decide) (by omega), n1, v6]
        simp only [smI, upA_s]
        rw [smI_congr (g := V 6) (fun i hi => upA_n _ _ (by omega)), Int32.add_zero]; exact a6
      · rw [nf 9 (by decide) (by omega), vn 0 (by decide) (by decide) (by decide)]; exact a7
      · rw [nf 10 (by decide) (by omega), nn 3 (by decide)]; exact a8
      · rw [nf _ (by omega) (by omega), vn 48 (by decide) (by decide) (by decide)]; exact a9 j hj
      · rw [nf 15 (by decide) (by omega), vn 0 (by decide) (by decide) (by decide)]; exact a10
      · rw [nf 16 (by decide) (by omega)]; exact a11
      · rw [nf 17 (by decide) (by omega), nn 4 (by decide)]; exact a12
      · rw [nf _ (by omega) (by omega), vn 2 (by decide) (by decide) (by decide)]; exact a13 d' hd
      · rw [vn 0 (by decide) (by decide) (by decide), nn 0 (by decide)]; exact a14
      · intro c hc
        rw [n1, v4, v5, v6]
        obtain ⟨q1, q2, q3⟩ := hC c hc
        by_cases e : c = N 1
        · refine ⟨fun _ => ?_, ?_, ?_⟩
          · rw [e, upA_s, upA_n _ _ (by omega), ← hn, upA_s]
          · rw [if_pos (by omega), e, upA_s, ← e, nf _ (by omega) (by omega), q2, if_neg (by omega)]
          · rw [if_pos (by omega), e, upA_s, ← e, nf _ (by omega) (by omega), q3, if_neg (by omega)]
        · refine ⟨fun hl => ?_, ?_, ?_⟩
          · rw [upA_n _ _ e, nf _ (by omega) (by omega)]; exact q1 (by omega)
          · rw [upA_n _ _ e, nf _ (by omega) (by omega), q2]
            by_cases hl : c < N 1
            · rw [if_pos hl, if_pos (by omega)]
            · rw [if_neg hl, if_neg (by omega)]
          · rw [upA_n _ _ e, nf _ (by omega) (by omega), q3]
            by_cases hl : c < N 1
            · rw [if_pos hl, if_pos (by omega)]
            · rw [if_neg hl, if_neg (by omega)]
      · exact hO.same (fun a h1 h2 => nf a (by omega) (by omega))
      · exact hK.same w8 (fun a h1 h2 => nf a (by omega) (by omega))
      · rw [nn 3 (by decide)]
        intro i hi
        rw [vn 46 (by decide) (by decide) (by decide), vn 47 (by decide) (by decide) (by decide)]
        exact hL.same w20 (fun a h1 h2 => nf a (by omega) (by omega)) i hi
      · rw [nn 4 (by decide)]
        exact hJ.same w10 (fun a h1 h2 => nf a (by omega) (by omega))
  · rw [if_neg c2]
    have c10 : (s.1.1.1 1 = 10) = True := eq_true (by omega)
    exact ⟨T, f, by simp +decide only [x146_0, x146_0N, x146_1, x146_2, x146_5, x146_6, x146_7, x146_8, x146_11, x146_14, x146_15, x146_16, x146_16N, x146_17, x146_20, x146_21, x146_22, x146_24, x146_27, x146_29, x146_30, x146_30N, x146_31, x146_34, x146_34N, x146_35, x146_35N, x146_36, x146_39, x146_40, x146_41, x146_42, x146_43, x146_46, x146_46N, x146_47, x146_50, x146_51, x146_52, x146_53, x146_54, x146_55, x146_56, x146_56N, x146_57, x146_60, x146_61, x146_62, x146_63, x146_64, aft_some, aft_void, Option.bind_some, Option.toList_some, Option.toList_none, List.cons_append, List.nil_append, if_true, if_false, ↓reduceIte, eq_self, z366_o, ↓z366_0, ↓z366_0p, ↓z366_1, ↓z366_2, ↓z366_3, ↓z366_4, ↓z366_4p, ↓z366_5, ↓z366_6, ↓z366_6p0, ↓z366_6p1, ↓z366_7, ↓z366_8, ↓z366_8p, ↓z366_9, ↓z366_9p, ↓z366_10, ↓z366_10p0, ↓z366_10p1, ↓z366_11, ↓z366_12, ↓z366_12p, ↓sg0, ↓sg1, ↓sg2, ↓sg3, ↓sg4, ↓sg5, ↓sg6, ↓sg7, ↓sg8, ↓sg9, ↓sg10, ↓sg11, ↓sg12, ↓sg13, ↓sg14, ↓sg15, ↓sg16, ↓sg17, ↓ss0, ↓ss1, ↓ss2, ↓ss3, ↓ss4, ↓ss5, ↓ss6, ↓ss7, ↓ss8, ↓ss9, ↓ss10, ↓ss11, ↓ss12, ↓ss13, ↓ss14, ↓ss15, ↓ss16, ↓ss17, t0, ↓aft_of (r_in), c1, h5, e10, c10], fun _ _ => rfl, h⟩
/-- rows of numbers change -/
theorem sR.rows {g : Nat → Int32} {N : Nat → Nat} {V W : Nat → Nat → Int32} {K : List kT} {B : List bT} {R : Nat → Nat → Int32} (h : sR f N V K B R) (h8 : K.length ≤ 8) (h20 : N 3 ≤ 20) (h10 : N 4 ≤ 10)
    (e1 : ∀ k, k < 4 → g k = W 1 k) (e4 : g 4 = f 4 ∧ g 5 = f 5 ∧ g 6 = f 6 ∧ g 10 = f 10 ∧ g 16 = f 16 ∧ g 17 = f 17) (e7 : g 7 = W 0 1) (e8 : g 8 = f 8) (e9 : g 9 = W 0 2) (e15 : g 15 = W 0 3) (e11 : ∀ k, k < 4 → g (11 + k) = f (11 + k)) (e18 : ∀ d, d < 5 → g (18 + d) = W 2 d) (e0 : W 0 0 = V 0 0)
    (eC : ∀ c, c < 10 → g (24 + 3 * c + 0) = f (24 + 3 * c + 0) ∧ g (24 + 3 * c + 1) = (if c < N 1 then W 5 c else 0) ∧ g (24 + 3 * c + 2) = f (24 + 3 * c + 2)) (hi : ∀ a, 54 ≤ a → g a = f a) (w48 : W 48 = V 48) (w4 : W 4 = V 4) (w6 : W 6 = V 6) (w46 : W 46 = V 46) (w47 : W 47 = V 47) : sR g N W K B R := by
  obtain ⟨⟨a1, ⟨a2, a3, a4, a5⟩, ⟨a6, a7, a8⟩, a9, ⟨a10, a11, a12⟩, a13, a14⟩, hC, hO, hK, hL, hJ⟩ := h
  refine ⟨⟨e1, ⟨e4.1.trans a2, e4.2.1.trans a3, e4.2.2.1.trans a4, e7⟩, ⟨by rw [e8, w6]; exact a6, e9, e4.2.2.2.1.trans a8⟩, fun j hj => by rw [e11 j hj, w48]; exact a9 j hj, ⟨e15, e4.2.2.2.2.1.trans a11, e4.2.2.2.2.2.trans a12⟩, e18, e0.trans a14⟩, fun c hc => ?_, hO.same (fun a h1 h2 => hi a h1), hK.same h8 (fun a h1 h2 => hi a (by omega)), ?_, hJ.same h10 (fun a h1 h2 => hi a (by omega))⟩
  · obtain ⟨q1, q2, q3⟩ := hC c hc
    obtain ⟨p1, p2, p3⟩ := eC c hc
    exact ⟨fun hl => by rw [p1, w4]; exact q1 hl, p2, by rw [p3, w6]; exact q3⟩
  · intro i hi'
    rw [w46, w47]
    exact hL.same h20 (fun a h1 h2 => hi a (by omega)) i hi'
theorem q_vis (h : CF T f s) (hw : WG s) (d x : Int32) : RQ T P f 147 [.ref 366, .int d, .int x, .long 0] (gVis d x s) := by
  have t0 := thr (f := f) h.1.1
  unfold gVis
  by_cases c1 : inI d 0 4 = 0
  · rw [if_pos c1]
    exact ⟨T, f, by simp +decide only [x147_0, x147_0N, x147_1, x147_2, x147_5, x147_6, x147_7, x147_8, x147_11, x147_14, x147_15, x147_16, x147_17, x147_18, x147_20, x147_23, x147_26, x147_28, x147_29, x147_29N, x147_30, x147_33, x147_35, x147_36, x147_37, x147_38, x147_39, x147_40, x147_41, x147_44, x147_46, x147_47, x147_47N, x147_48, x147_51, x147_51N, x147_52, x147_55, x147_57, x147_58, x147_59, x147_60, x147_61, x147_62, aft_some, aft_void, Option.bind_some, Option.toList_some, Option.toList_none, List.cons_append, List.nil_append, if_true, if_false, ↓reduceIte, eq_self, z366_o, ↓z366_0, ↓z366_0p, ↓z366_1, ↓z366_2, ↓z366_3, ↓z366_4, ↓z366_4p, ↓z366_5, ↓z366_6, ↓z366_6p0, ↓z366_6p1, ↓z366_7, ↓z366_8, ↓z366_8p, ↓z366_9, ↓z366_9p, ↓z366_10, ↓z366_10p0, ↓z366_10p1, ↓z366_11, ↓z366_12, ↓z366_12p, ↓sg0, ↓sg1, ↓sg2, ↓sg3, ↓sg4, ↓sg5, ↓sg6, ↓sg7, ↓sg8, ↓sg9, ↓sg10, ↓sg11, ↓sg12, ↓sg13, ↓sg14, ↓sg15, ↓sg16, ↓sg17, ↓ss0, ↓ss1, ↓ss2, ↓ss3, ↓ss4, ↓ss5, ↓ss6, ↓ss7, ↓ss8, ↓ss9, ↓ss10, ↓ss11, ↓ss12, ↓ss13, ↓ss14, ↓ss15, ↓ss16, ↓ss17, t0, ↓aft_of (r_in), c1], fun _ _ => rfl, h⟩
  rw [if_neg c1]
  by_cases c2 : inI x 0 127 = 0
  · rw [if_pos c2]
    exact ⟨T, f, by simp +decide only [x147_0, x147_0N, x147_1, x147_2, x147_5, x147_6, x147_7, x147_8, x147_11, x147_14, x147_15, x147_16, x147_17, x147_18, x147_20, x147_23, x147_26, x147_28, x147_29, x147_29N, x147_30, x147_33, x147_35, x147_36, x147_37, x147_38, x147_39, x147_40, x147_41, x147_44, x147_46, x147_47, x147_47N, x147_48, x147_51, x147_51N, x147_52, x147_55, x147_57, x147_58, x147_59, x147_60, x147_61, x147_62, aft_some, aft_void, Option.bind_some, Option.toList_some, Option.toList_none, List.cons_append, List.nil_append, if_true, if_false, ↓reduceIte, eq_self, z366_o, ↓z366_0, ↓z366_0p, ↓z366_1, ↓z366_2, ↓z366_3, ↓z366_4, ↓z366_4p, ↓z366_5, ↓z366_6, ↓z366_6p0, ↓z366_6p1, ↓z366_7, ↓z366_8, ↓z366_8p, ↓z366_9, ↓z366_9p, ↓z366_10, ↓z366_10p0, ↓z366_10p1, ↓z366_11, ↓z366_12, ↓z366_12p, ↓sg0, ↓sg1, ↓sg2, ↓sg3, ↓sg4, ↓sg5, ↓sg6, ↓sg7, ↓sg8, ↓sg9, ↓sg10, ↓sg11, ↓sg12, ↓sg13, ↓sg14, ↓sg15, ↓sg16, ↓sg17, ↓ss0, ↓ss1, ↓ss2, ↓ss3, ↓ss4, ↓ss5, ↓ss6, ↓ss7, ↓ss8, ↓ss9, ↓ss10, ↓ss11, ↓ss12, ↓ss13, ↓ss14, ↓ss15, ↓ss16, ↓ss17, t0, ↓aft_of (r_in), c1, c2], fun _ _ => rfl, h⟩
  rw [if_neg c2]
  obtain ⟨k, hk, rfl⟩ := inI_ex (n := 4) (by decide) c1
  rw [nI_clamp (by omega)]
  have e18 : 18 + nI k = nI (18 + k) := nI_add 18 k
  have hv : f (18 + k) = s.1.1.2.1 2 k := h.2.1.2.2.2.2.2.1 k (by omega)
  by_cases c3 : s.1.1.2.1 2 k = x
  · rw [if_pos c3]
    exact ⟨T, f, by simp +decide only [x147_0, x147_0N, x147_1, x147_2, x147_5, x147_6, x147_7, x147_8, x147_11, x147_14, x147_15, x147_16, x147_17, x147_18, x147_20, x147_23, x147_26, x147_28, x147_29, x147_29N, x147_30, x147_33, x147_35, x147_36, x147_37, x147_38, x147_39, x147_40, x147_41, x147_44, x147_46, x147_47, x147_47N, x147_48, x147_51, x147_51N, x147_52, x147_55, x147_57, x147_58, x147_59, x147_60, x147_61, x147_62, aft_some, aft_void, Option.bind_some, Option.toList_some, Option.toList_none, List.cons_append, List.nil_append, if_true, if_false, ↓reduceIte, eq_self, z366_o, ↓z366_0, ↓z366_0p, ↓z366_1, ↓z366_2, ↓z366_3, ↓z366_4, ↓z366_4p, ↓z366_5, ↓z366_6, ↓z366_6p0, ↓z366_6p1, ↓z366_7, ↓z366_8, ↓z366_8p, ↓z366_9, ↓z366_9p, ↓z366_10, ↓z366_10p0, ↓z366_10p1, ↓z366_11, ↓z366_12, ↓z366_12p, ↓sg0, ↓sg1, ↓sg2, ↓sg3, ↓sg4, ↓sg5, ↓sg6, ↓sg7, ↓sg8, ↓sg9, ↓sg10, ↓sg11, ↓sg12, ↓sg13, ↓sg14, ↓sg15, ↓sg16, ↓sg17, ↓ss0, ↓ss1, ↓ss2, ↓ss3, ↓ss4, ↓ss5, ↓ss6, ↓ss7, ↓ss8, ↓ss9, ↓ss10, ↓ss11, ↓ss12, ↓ss13, ↓ss14, ↓ss15, ↓ss16, ↓ss17, t0, ↓aft_of (r_in), c1, c2, e18, ↓s_g (show 18 + k < 912 by omega), hv, c3], fun _ _ => rfl, h⟩
  rw [if_neg c3]
  obtain ⟨U, e, fr, -, hU⟩ := h.push (P := P) hw
  refine ⟨U, upA f (18 + k) x, by simp +decide only [x147_0, x147_0N, x147_1, x147_2, x147_5, x147_6, x147_7, x147_8, x147_11, x147_14, x147_15, x147_16, x147_17, x147_18, x147_20, x147_23, x147_26, x147_28, x147_29, x147_29N, x147_30, x147_33, x147_35, x147_36, x147_37, x147_38, x147_39, x147_40, x147_41, x147_44, x147_46, x147_47, x147_47N, x147_48, x147_51, x147_51N, x147_52, x147_55, x147_57, x147_58, x147_59, x147_60, x147_61, x147_62, aft_some, aft_void, Option.bind_some, Option.toList_some, Option.toList_none, List.cons_append, List.nil_append, if_true, if_false, ↓reduceIte, eq_self, z366_o, ↓z366_0, ↓z366_0p, ↓z366_1, ↓z366_2, ↓z366_3, ↓z366_4, ↓z366_4p, ↓z366_5, ↓z366_6, ↓z366_6p0, ↓z366_6p1, ↓z366_7, ↓z366_8, ↓z366_8p, ↓z366_9, ↓z366_9p, ↓z366_10, ↓z366_10p0, ↓z366_10p1, ↓z366_11, ↓z366_12, ↓z366_12p, ↓sg0, ↓sg1, ↓sg2, ↓sg3, ↓sg4, ↓sg5, ↓sg6, ↓sg7, ↓sg8, ↓sg9, ↓sg10, ↓sg11, ↓sg12, ↓sg13, ↓sg14, ↓sg15, ↓sg16, ↓sg17, ↓ss0, ↓ss1, ↓ss2, ↓ss3, ↓ss4, ↓ss5, ↓ss6, ↓ss7, ↓ss8, ↓ss9, ↓ss10, ↓ss11, ↓ss12, ↓ss13, ↓ss14, ↓ss15, ↓ss16, ↓ss17, t0, ↓aft_of (r_in), c1, c2, e18, ↓s_g (show 18 + k < 912 by omega), ↓s_s (show 18 + k < 912 by omega), hv, c3, ↓aft_of (e)], fun a ha => fr a (by omega) (by omega), hU.now ?_⟩
  have hs := h.2
  have n : ∀ a, a ≠ 18 + k → upA f (18 + k) x a = f a := fun a ha => upA_n _ _ ha
  have vn : ∀ r, r ≠ 2 → up1 s.1.1.2.1 2 k x r = s.1.1.2.1 r := fun r hr => up1_n hr
  obtain ⟨⟨a1, ⟨a2, a3, a4, a5⟩, ⟨a6, a7, a8⟩, a9, ⟨a10, a11, a12⟩, a13, a14⟩, hC, hO, hK, hL, hJ⟩ := id hs
  refine sR.rows (W := up1 s.1.1.2.1 2 k x) hs hw.1.1.1.2.2.2.1 hw.1.1.1.2.2.2.2.1 hw.1.1.1.2.2.2.2.2 (fun j hj => ?_) ⟨n 4 (by omega), n 5 (by omega), n 6 (by omega), n 10 (by omega), n 16 (by omega), n 17 (by omega)⟩ ?_ (n 8 (by omega)) ?_ ?_ (fun j hj => n _ (by omega)) (fun d hd => ?_) ?_ (fun c hc => ⟨n _ (by omega), ?_, n _ (by omega)⟩) (fun a ha => n a (by omega)) (vn 48 (by decide)) (vn 4 (by decide)) (vn 6 (by decide)) (vn 46 (by decide)) (vn 47 (by decide))
  · rw [n j (by omega), vn 1 (by decide)]; exact a1 j hj
  · rw [n 7 (by omega), vn 0 (by decide)]; exact a5
  · rw [n 9 (by omega), vn 0 (by decide)]; exact a7
  · rw [n 15 (by omega), vn 0 (by decide)]; exact a10
  · rw [up1_s]
    by_cases e : d = k
    · rw [e, upA_s, upA_s]
    · rw [n _ (by omega), upA_n _ _ e]; exact a13 d hd
  · rw [vn 0 (by decide)]
  · rw [n _ (by omega), vn 5 (by decide)]; exact (hC c hc).2.1
theorem q_buy (h : CF T f s) (hw : WG s) (m : Int32) : RQ T P f 168 [.ref 366, .int m] (gBuy m s) := by
  have t0 := thr (f := f) h.1.1
  unfold gBuy
  by_cases c1 : inI m 1 99 = 0
  · rw [if_pos c1]
    exact ⟨T, f, by simp +decide only [x168_0, x168_0N, x168_1, x168_2, x168_5, x168_6, x168_7, x168_9, x168_12, x168_15, x168_17, x168_18, x168_20, x168_20N, x168_21, x168_24, x168_26, x168_27, x168_28, x168_28N, x168_29, x168_32, x168_34, x168_35, x168_36, x168_37, x168_38, x168_41, x168_44, x168_46, x168_47, x168_47N, x168_48, x168_51, x168_51N, x168_52, x168_55, x168_57, x168_58, x168_59, x168_60, x168_61, x168_62, x168_62N, x168_63, x168_66, x168_68, x168_69, x168_70, x168_71, x168_72, x168_73, x168_73N, x168_74, x168_77, x168_79, x168_80, aft_some, aft_void, Option.bind_some, Option.toList_some, Option.toList_none, List.cons_append, List.nil_append, if_true, if_false, ↓reduceIte, eq_self, z366_o, ↓z366_0, ↓z366_0p, ↓z366_1, ↓z366_2, ↓z366_3, ↓z366_4, ↓z366_4p, ↓z366_5, ↓z366_6, ↓z366_6p0, ↓z366_6p1, ↓z366_7, ↓z366_8, ↓z366_8p, ↓z366_9, ↓z366_9p, ↓z366_10, ↓z366_10p0, ↓z366_10p1, ↓z366_11, ↓z366_12, ↓z366_12p, ↓sg0, ↓sg1, ↓sg2, ↓sg3, ↓sg4, ↓sg5, ↓sg6, ↓sg7, ↓sg8, ↓sg9, ↓sg10, ↓sg11, ↓sg12, ↓sg13, ↓sg14, ↓sg15, ↓sg16, ↓sg17, ↓ss0, ↓ss1, ↓ss2, ↓ss3, ↓ss4, ↓ss5, ↓ss6, ↓ss7, ↓ss8, ↓ss9, ↓ss10, ↓ss11, ↓ss12, ↓ss13, ↓ss14, ↓ss15, ↓ss16, ↓ss17, t0, ↓aft_of (r_in), c1], fun _ _ => rfl, h⟩
  rw [if_neg c1]
  have hs := h.2
  obtain ⟨⟨a1, ⟨a2, a3, a4, a5⟩, ⟨a6, a7, a8⟩, a9, ⟨a10, a11, a12⟩, a13, a14⟩, hC, hO, hK, hL, hJ⟩ := id hs
  have hsv : 60 + f 9 - f 8 = svI s.1 := by
    rw [a7, a6]
    unfold svI
    exact hw.1.1.2.2.2.2.2.2.2.symm
  by_cases c2 : 999 < svI s.1 + m
  · rw [if_pos c2]
    exact ⟨T, f, by simp +decide only [x168_0, x168_0N, x168_1, x168_2, x168_5, x168_6, x168_7, x168_9, x168_12, x168_15, x168_17, x168_18, x168_20, x168_20N, x168_21, x168_24, x168_26, x168_27, x168_28, x168_28N, x168_29, x168_32, x168_34, x168_35, x168_36, x168_37, x168_38, x168_41, x168_44, x168_46, x168_47, x168_47N, x168_48, x168_51, x168_51N, x168_52, x168_55, x168_57, x168_58, x168_59, x168_60, x168_61, x168_62, x168_62N, x168_63, x168_66, x168_68, x168_69, x168_70, x168_71, x168_72, x168_73, x168_73N, x168_74, x168_77, x168_79, x168_80, aft_some, aft_void, Option.bind_some, Option.toList_some, Option.toList_none, List.cons_append, List.nil_append, if_true, if_false, ↓reduceIte, eq_self, z366_o, ↓z366_0, ↓z366_0p, ↓z366_1, ↓z366_2, ↓z366_3, ↓z366_4, ↓z366_4p, ↓z366_5, ↓z366_6, ↓z366_6p0, ↓z366_6p1, ↓z366_7, ↓z366_8, ↓z366_8p, ↓z366_9, ↓z366_9p, ↓z366_10, ↓z366_10p0, ↓z366_10p1, ↓z366_11, ↓z366_12, ↓z366_12p, ↓sg0, ↓sg1, ↓sg2, ↓sg3, ↓sg4, ↓sg5, ↓sg6, ↓sg7, ↓sg8, ↓sg9, ↓sg10, ↓sg11, ↓sg12, ↓sg13, ↓sg14, ↓sg15, ↓sg16, ↓sg17, ↓ss0, ↓ss1, ↓ss2, ↓ss3, ↓ss4, ↓ss5, ↓ss6, ↓ss7, ↓ss8, ↓ss9, ↓ss10, ↓ss11, ↓ss12, ↓ss13, ↓ss14, ↓ss15, ↓ss16, ↓ss17, t0, ↓aft_of (r_in), c1, hsv, c2], fun _ _ => rfl, h⟩
  rw [if_neg c2]
  obtain ⟨U, e, fr, -, hU⟩ := h.push (P := P) hw
  have r9 : upA f 9 (f 9 + m) 7 = f 7 := upA_n _ _ (by decide)
  have hs9 : f 9 = s.1.1.2.1 0 2 := a7
  have hs7 : f 7 = s.1.1.2.1 0 1 := a5
  refine ⟨U, upA (upA f 9 (s.1.1.2.1 0 2 + m)) 7 (s.1.1.2.1 0 1 + m), ?_, fun a ha => fr a (by omega) (by omega), hU.now ?_⟩
  · simp +decide only [x168_0, x168_0N, x168_1, x168_2, x168_5, x168_6, x168_7, x168_9, x168_12, x168_15, x168_17, x168_18, x168_20, x168_20N, x168_21, x168_24, x168_26, x168_27, x168_28, x168_28N, x168_29, x168_32, x168_34, x168_35, x168_36, x168_37, x168_38, x168_41, x168_44, x168_46, x168_47, x168_47N, x168_48, x168_51, x168_51N, x168_52, x168_55, x168_57, x168_58, x168_59, x168_60, x168_61, x168_62, x168_62N, x168_63, x168_66, x168_68, x168_69, x168_70, x168_71, x168_72, x168_73, x168_73N, x168_74, x168_77, x168_79, x168_80, aft_some, aft_void, Option.bind_some, Option.toList_some, Option.toList_none, List.cons_append, List.nil_append, if_true, if_false, ↓reduceIte, eq_self, z366_o, ↓z366_0, ↓z366_0p, ↓z366_1, ↓z366_2, ↓z366_3, ↓z366_4, ↓z366_4p, ↓z366_5, ↓z366_6, ↓z366_6p0, ↓z366_6p1, ↓z366_7, ↓z366_8, ↓z366_8p, ↓z366_9, ↓z366_9p, ↓z366_10, ↓z366_10p0, ↓z366_10p1, ↓z366_11, ↓z366_12, ↓z366_12p, ↓sg0, ↓sg1, ↓sg2, ↓sg3, ↓sg4, ↓sg5, ↓sg6, ↓sg7, ↓sg8, ↓sg9, ↓sg10, ↓sg11, ↓sg12, ↓sg13, ↓sg14, ↓sg15, ↓sg16, ↓sg17, ↓ss0, ↓ss1, ↓ss2, ↓ss3, ↓ss4, ↓ss5, ↓ss6, ↓ss7, ↓ss8, ↓ss9, ↓ss10, ↓ss11, ↓ss12, ↓ss13, ↓ss14, ↓ss15, ↓ss16, ↓ss17, t0, ↓aft_of (r_in), c1, hsv, c2, ↓aft_of (e), r9]
    rw [hs9, hs7, upA_s]
  have n : ∀ a, a ≠ 7 → a ≠ 9 → upA (upA f 9 (s.1.1.2.1 0 2 + m)) 7 (s.1.1.2.1 0 1 + m) a = f a := fun a h7 h9 => by rw [upA_n _ _ h7, upA_n _ _ h9]
  have vn : ∀ r, r ≠ 0 → up1 (up1 s.1.1.2.1 0 1 (s.1.1.2.1 0 1 + m)) 0 2 (s.1.1.2.1 0 2 + m) r = s.1.1.2.1 r := fun r hr => by rw [up1_n hr, up1_n hr]
  have v0 : up1 (up1 s.1.1.2.1 0 1 (s.1.1.2.1 0 1 + m)) 0 2 (s.1.1.2.1 0 2 + m) 0 = upA (upA (s.1.1.2.1 0) 1 (s.1.1.2.1 0 1 + m)) 2 (s.1.1.2.1 0 2 + m) := by rw [up1_s, up1_s]
  refine sR.rows (W := up1 (up1 s.1.1.2.1 0 1 (s.1.1.2.1 0 1 + m)) 0 2 (s.1.1.2.1 0 2 + m)) hs hw.1.1.1.2.2.2.1 hw.1.1.1.2.2.2.2.1 hw.1.1.1.2.2.2.2.2 (fun j hj => ?_) ⟨n 4 (by omega) (by omega), n 5 (by omega) (by omega), n 6 (by omega) (by omega), n 10 (by omega) (by omega), n 16 (by omega) (by omega), n 17 (by omega) (by omega)⟩ ?_ (n 8 (by omega) (by omega)) ?_ ?_ (fun j hj => n _ (by omega) (by omega)) (fun d hd => ?_) ?_ (fun c hc => ⟨n _ (by omega) (by omega), ?_, n _ (by omega) (by omega)⟩) (fun a ha => n a (by omega) (by omega)) (vn 48 (by decide)) (vn 4 (by decide)) (vn 6 (by decide)) (vn 46 (by decide)) (vn 47 (by decide))
  · rw [n j (by omega) (by omega), vn 1 (by decide)]; exact a1 j hj
  · rw [upA_s, v0, upA_n _ _ (by decide), upA_s]
  · rw [upA_n _ _ (by decide), upA_s, v0, upA_s]
  · rw [n 15 (by omega) (by omega), v0, upA_n _ _ (by decide), upA_n _ _ (by decide)]; exact a10
  · rw [n _ (by omega) (by omega), vn 2 (by decide)]; exact a13 d hd
  · rw [v0, upA_n _ _ (by decide), upA_n _ _ (by decide)]
  · rw [n _ (by omega) (by omega), vn 5 (by decide)]; exact (hC c hc).2.1
theorem q_pay (h : CF T f s) (hw : WG s) (c : Int32) : RQ T P f 169 [.ref 366, .int c, .long 0] (gPay c s) := by
  have t0 := thr (f := f) h.1.1
  have hs := h.2
  obtain ⟨⟨a1, ⟨a2, a3, a4, a5⟩, ⟨a6, a7, a8⟩, a9, ⟨a10, a11, a12⟩, a13, a14⟩, hC, hO, hK, hL, hJ⟩ := id hs
  have hN1 := hw.1.1.1.2.1
  have ec := r_isCust (T := T) (P := P) (f := f) (x := c)
  rw [a3, cust_in hN1] at ec
  unfold gPay
  by_cases ch : hsI (s.1.1.1 1) c
  · rw [if_pos ch]
    rw [if_neg ch.1, if_pos ch.2] at ec
    obtain ⟨k, hk, rfl⟩ := nI_ex ch.1 (by omega) ch.2
    rw [nI_clamp (by omega)]
    have e1 := r_ofCust (T := T) (P := P) (f := f) (i := k) (w := 1) (y := 1) rfl (by omega) (by decide)
    rw [(hC k (by omega)).2.1, if_pos hk] at e1
    by_cases c3 : s.1.1.2.1 5 k = 0
    · rw [if_pos c3]
      exact ⟨T, f, by simp +decide only [x169_0, x169_0N, x169_1, x169_2, x169_5, x169_5N, x169_6, x169_7, x169_10, x169_13, x169_14, x169_15, x169_15N, x169_16, x169_17, x169_18, x169_21, x169_22, x169_23, x169_26, x169_28, x169_29, x169_29N, x169_30, x169_33, x169_33N, x169_34, x169_35, x169_36, x169_37, x169_40, x169_40N, x169_41, x169_44, x169_46, x169_47, x169_48, x169_49, x169_50, x169_51, x169_52, aft_some, aft_void, Option.bind_some, Option.toList_some, Option.toList_none, List.cons_append, List.nil_append, if_true, if_false, ↓reduceIte, eq_self, z366_o, ↓z366_0, ↓z366_0p, ↓z366_1, ↓z366_2, ↓z366_3, ↓z366_4, ↓z366_4p, ↓z366_5, ↓z366_6, ↓z366_6p0, ↓z366_6p1, ↓z366_7, ↓z366_8, ↓z366_8p, ↓z366_9, ↓z366_9p, ↓z366_10, ↓z366_10p0, ↓z366_10p1, ↓z366_11, ↓z366_12, ↓z366_12p, ↓sg0, ↓sg1, ↓sg2, ↓sg3, ↓sg4, ↓sg5, ↓sg6, ↓sg7, ↓sg8, ↓sg9, ↓sg10, ↓sg11, ↓sg12, ↓sg13, ↓sg14, ↓sg15, ↓sg16, ↓sg17, ↓ss0, ↓ss1, ↓ss2, ↓ss3, ↓ss4, ↓ss5, ↓ss6, ↓ss7, ↓ss8, ↓ss9, ↓ss10, ↓ss11, ↓ss12, ↓ss13, ↓ss14, ↓ss15, ↓ss16, ↓ss17, t0, ↓aft_of (ec), ↓aft_of (e1), c3], fun _ _ => rfl, h⟩
    rw [if_neg c3]
    obtain ⟨U, e, fr, -, hU⟩ := h.push (P := P) hw
    have l1 := r_layCust (T := U) (P := P) (f := f) (i := k) (w := 1) (y := 1) (z := 0) rfl (by omega) (by decide)
    have r15 : upA f (24 + 3 * k + 1) 0 15 = s.1.1.2.1 0 3 := by rw [upA_n _ _ (by omega)]; exact a10
    refine ⟨U, upA (upA f (24 + 3 * k + 1) 0) 15 (s.1.1.2.1 0 3 + s.1.1.2.1 5 k), by simp +decide only [x169_0, x169_0N, x169_1, x169_2, x169_5, x169_5N, x169_6, x169_7, x169_10, x169_13, x169_14, x169_15, x169_15N, x169_16, x169_17, x169_18, x169_21, x169_22, x169_23, x169_26, x169_28, x169_29, x169_29N, x169_30, x169_33, x169_33N, x169_34, x169_35, x169_36, x169_37, x169_40, x169_40N, x169_41, x169_44, x169_46, x169_47, x169_48, x169_49, x169_50, x169_51, x169_52, aft_some, aft_void, Option.bind_some, Option.toList_some, Option.toList_none, List.cons_append, List.nil_append, if_true, if_false, ↓reduceIte, eq_self, z366_o, ↓z366_0, ↓z366_0p, ↓z366_1, ↓z366_2, ↓z366_3, ↓z366_4, ↓z366_4p, ↓z366_5, ↓z366_6, ↓z366_6p0, ↓z366_6p1, ↓z366_7, ↓z366_8, ↓z366_8p, ↓z366_9, ↓z366_9p, ↓z366_10, ↓z366_10p0, ↓z366_10p1, ↓z366_11, ↓z366_12, ↓z366_12p, ↓sg0, ↓sg1, ↓sg2, ↓sg3, ↓sg4, ↓sg5, ↓sg6, ↓sg7, ↓sg8, ↓sg9, ↓sg10, ↓sg11, ↓sg12, ↓sg13, ↓sg14, ↓sg15, ↓sg16, ↓sg17, ↓ss0, ↓ss1, ↓ss2, ↓ss3, ↓ss4, ↓ss5, ↓ss6, ↓ss7, ↓ss8, ↓ss9, ↓ss10, ↓ss11, ↓ss12, ↓ss13, ↓ss14, ↓ss15, ↓ss16, ↓ss17, t0, ↓aft_of (ec), ↓aft_of (e1), c3, ↓aft_of (e), ↓aft_of (l1), r15], fun a ha => fr a (by omega) (by omega), hU.now ?_⟩
    have n : ∀ a, a ≠ 15 → a ≠ 24 + 3 * k + 1 → upA (upA f (24 + 3 * k + 1) 0) 15 (s.1.1.2.1 0 3 + s.1.1.2.1 5 k) a = f a := fun a h7 h9 => by rw [upA_n _ _ h7, upA_n _ _ h9]
    have vn : ∀ r, r ≠ 0 → r ≠ 5 → up1 (up1 s.1.1.2.1 5 k 0) 0 3 (s.1.1.2.1 0 3 + s.1.1.2.1 5 k) r = s.1.1.2.1 r := fun r hr h5 => by rw [up1_n hr, up1_n h5]
    have v0 : up1 (up1 s.1.1.2.1 5 k 0) 0 3 (s.1.1.2.1 0 3 + s.1.1.2.1 5 k) 0 = upA (s.1.1.2.1 0) 3 (s.1.1.2.1 0 3 + s.1.1.2.1 5 k) := by rw [up1_s, up1_n (by decide)]
    have v5 : up1 (up1 s.1.1.2.1 5 k 0) 0 3 (s.1.1.2.1 0 3 + s.1.1.2.1 5 k) 5 = upA (s.1.1.2.1 5) k 0 := by rw [up1_n (by decide), up1_s]
    refine sR.rows (W := up1 (up1 s.1.1.2.1 5 k 0) 0 3 (s.1.1.2.1 0 3 + s.1.1.2.1 5 k)) hs hw.1.1.1.2.2.2.1 hw.1.1.1.2.2.2.2.1 hw.1.1.1.2.2.2.2.2 (fun j hj => ?_) ⟨n 4 (by omega) (by omega), n 5 (by omega) (by omega), n 6 (by omega) (by omega), n 10 (by omega) (by omega), n 16 (by omega) (by omega), n 17 (by omega) (by omega)⟩ ?_ (n 8 (by omega) (by omega)) ?_ ?_ (fun j hj => n _ (by omega) (by omega)) (fun d hd => ?_) ?_ (fun c hc => ⟨n _ (by omega) (by omega), ?_, n _ (by omega) (by omega)⟩) (fun a ha => n a (by omega) (by omega)) (vn 48 (by decide) (by decide)) (vn 4 (by decide) (by decide)) (vn 6 (by decide) (by decide)) (vn 46 (by decide) (by decide)) (vn 47 (by decide) (by decide))
    · rw [n j (by omega) (by omega), vn 1 (by decide) (by decide)]; exact a1 j hj
    · rw [n 7 (by omega) (by omega), v0, upA_n _ _ (by decide)]; exact a5
    · rw [n 9 (by omega) (by omega), v0, upA_n _ _ (by decide)]; exact a7
    · rw [upA_s, v0, upA_s]
    · rw [n _ (by omega) (by omega), vn 2 (by decide) (by decide)]; exact a13 d hd
    · rw [v0, upA_n _ _ (by decide)]
    · rw [v5]
      by_cases e : c = k
      · subst e
        rw [upA_n _ _ (by omega), upA_s, if_pos hk, upA_s]
      · rw [n _ (by omega) (by omega), upA_n _ _ e]; exact (hC c hc).2.1
  · rw [if_neg ch]
    have e0 : (if c < 0 then (0 : Int32) else if c < nI (s.1.1.1 1) then 1 else 0) = 0 := by
      by_cases q : c < 0
      · rw [if_pos q]
      · rw [if_neg q, if_neg (fun z => ch ⟨q, z⟩)]
    rw [e0] at ec
    exact ⟨T, f, by simp +decide only [x169_0, x169_0N, x169_1, x169_2, x169_5, x169_5N, x169_6, x169_7, x169_10, x169_13, x169_14, x169_15, x169_15N, x169_16, x169_17, x169_18, x169_21, x169_22, x169_23, x169_26, x169_28, x169_29, x169_29N, x169_30, x169_33, x169_33N, x169_34, x169_35, x169_36, x169_37, x169_40, x169_40N, x169_41, x169_44, x169_46, x169_47, x169_48, x169_49, x169_50, x169_51, x169_52, aft_some, aft_void, Option.bind_some, Option.toList_some, Option.toList_none, List.cons_append, List.nil_append, if_true, if_false, ↓reduceIte, eq_self, z366_o, ↓z366_0, ↓z366_0p, ↓z366_1, ↓z366_2, ↓z366_3, ↓z366_4, ↓z366_4p, ↓z366_5, ↓z366_6, ↓z366_6p0, ↓z366_6p1, ↓z366_7, ↓z366_8, ↓z366_8p, ↓z366_9, ↓z366_9p, ↓z366_10, ↓z366_10p0, ↓z366_10p1, ↓z366_11, ↓z366_12, ↓z366_12p, ↓sg0, ↓sg1, ↓sg2, ↓sg3, ↓sg4, ↓sg5, ↓sg6, ↓sg7, ↓sg8, ↓sg9, ↓sg10, ↓sg11, ↓sg12, ↓sg13, ↓sg14, ↓sg15, ↓sg16, ↓sg17, ↓ss0, ↓ss1, ↓ss2, ↓ss3, ↓ss4, ↓ss5, ↓ss6, ↓ss7, ↓ss8, ↓ss9, ↓ss10, ↓ss11, ↓ss12, ↓ss13, ↓ss14, ↓ss15, ↓ss16, ↓ss17, t0, ↓aft_of (ec)], fun _ _ => rfl, h⟩
end QA
