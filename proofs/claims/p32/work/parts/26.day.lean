/-! a day begins: hangers that are paid -/
abbrev chV (V : Nat → Nat → Int32) (c m : Nat) : Nat → Nat → Int32 := upA (upA V 6 (upA (V 6) c (V 6 c + nI m))) 5 (upA (V 5) c (V 5 c + nI m * V 1 3))
def chS (l0 : Nat) (s : sT) (c : Nat) : sT := if 0 < oldL l0 c s.2.2.1 then (hoN s.1, chV s.2.1 c (oldL l0 c s.2.2.1), dropE (zeroL l0 c s.2.2.1), wrB s.2.2.2 2 (s.2.1 0 0) (nI c) (nI (oldL l0 c s.2.2.1) * s.2.1 1 3)) else (s.1, s.2.1, dropE (zeroL l0 c s.2.2.1), s.2.2.2)
def chE (l0 : Nat) : Nat → sT → sT
  | 0, s => s
  | n + 1, s => chS l0 (chE l0 n s) n
theorem lim_ok {D g : Nat} (hD : D < 20000) (hg : g ≤ 60) : ∀ d : Nat, d < 20000 → (nI d < nI D - nI g ↔ d < D - g) := by
  intro d hd
  rw [Int32.lt_iff_toInt_lt, Int32.toInt_sub, nI_toInt (by omega), nI_toInt (by omega), nI_toInt (by omega), Int.bmod_eq_of_le (by omega) (by omega)]
  omega
theorem dropE_pos {B : List bT} (h : ∀ q ∈ B, 0 < q.2.2) : dropE B = B := by
  unfold dropE
  rw [List.filter_eq_self]
  intro q hq
  exact decide_eq_true (h q hq)
theorem zeroL_id {l0 c : Nat} {B : List bT} (h : ∀ q ∈ B, ¬ q.2.1 < l0) : zeroL l0 c B = B := by
  unfold zeroL
  have : B.map (fun q : bT => if q.1 = c ∧ q.2.1 < l0 then (q.1, q.2.1, 0) else q) = B.map id := by
    apply List.map_congr_left
    intro q hq
    rw [if_neg (fun z => h q hq z.2)]; rfl
  rw [this, List.map_id]
theorem oldL_0 {l0 c : Nat} : ∀ {B : List bT}, (∀ q ∈ B, ¬ q.2.1 < l0) → oldL l0 c B = 0
  | [], _ => rfl
  | q :: B, h => by
    simp only [oldL]
    rw [if_neg (fun z => h q List.mem_cons_self z.2), oldL_0 (fun x hx => h x (List.mem_cons_of_mem _ hx))]
theorem chE_id {l0 : Nat} {s : sT} (h : ∀ q ∈ s.2.2.1, ¬ q.2.1 < l0) (hp : ∀ q ∈ s.2.2.1, 0 < q.2.2) : ∀ n, chE l0 n s = s
  | 0 => rfl
  | n + 1 => by
    show chS l0 (chE l0 n s) n = s
    rw [chE_id h hp n]
    unfold chS
    rw [oldL_0 h, if_neg (by decide), zeroL_id h, dropE_pos hp]
theorem dropE_small {B : List bT} (h : OS B) : OS (dropE B) := fun q hq => h q (List.mem_filter.mp hq).1
theorem OS_ch {l0 : Nat} {s : sT} (h : OS s.2.2.1) : ∀ n, OS (chE l0 n s).2.2.1
  | 0 => h
  | n + 1 => by
    have := OS_ch h (l0 := l0) n
    show OS (chS l0 (chE l0 n s) n).2.2.1
    unfold chS
    split
    · exact dropE_small (zeroL_small this)
    · exact dropE_small (zeroL_small this)
theorem ch_keep {l0 : Nat} {s : sT} : ∀ n, (chE l0 n s).1 0 = s.1 0 ∧ (chE l0 n s).1 1 = s.1 1 ∧ (chE l0 n s).1 2 = s.1 2 ∧ (chE l0 n s).1 3 = s.1 3 ∧ (∀ r, r ≠ 5 → r ≠ 6 → (chE l0 n s).2.1 r = s.2.1 r) ∧ (chE l0 n s).2.2.1.length ≤ s.2.2.1.length
  | 0 => ⟨rfl, rfl, rfl, rfl, fun _ _ _ => rfl, Nat.le_refl _⟩
  | n + 1 => by
    obtain ⟨h0, h1, h2, h3, h4, h5⟩ := ch_keep (l0 := l0) (s := s) n
    have hl : (dropE (zeroL l0 n (chE l0 n s).2.2.1)).length ≤ (chE l0 n s).2.2.1.length := by
      refine Nat.le_trans (List.length_filter_le _ _) ?_
      unfold zeroL
      rw [List.length_map]; exact Nat.le_refl _
    show (chS l0 (chE l0 n s) n).1 0 = _ ∧ (chS l0 (chE l0 n s) n).1 1 = _ ∧ (chS l0 (chE l0 n s) n).1 2 = _ ∧ (chS l0 (chE l0 n s) n).1 3 = _ ∧ (∀ r, r ≠ 5 → r ≠ 6 → (chS l0 (chE l0 n s) n).2.1 r = s.2.1 r) ∧ (chS l0 (chE l0 n s) n).2.2.1.length ≤ _
    unfold chS
    split
    · refine ⟨?_, ?_, ?_, ?_, fun r g5 g6 => ?_, Nat.le_trans hl h5⟩
      · rw [← h0]; simp +decide only [u_n]
      · rw [← h1]; simp +decide only [u_n]
      · rw [← h2]; simp +decide only [u_n]
      · rw [← h3]; simp +decide only [u_n]
      · rw [← h4 r g5 g6]
        simp only [upA_n _ _ g5, upA_n _ _ g6]
    · exact ⟨h0, h1, h2, h3, h4, Nat.le_trans hl h5⟩
section DY
variable {T : Nat → Nat → Int32} {P : Nat → Nat → Nat} {o : Nat} {N : Nat → Nat} {V : Nat → Nat → Int32} {K : List kT} {B : List bT} {R : Nat → Nat → Int32}
theorem c_charge (ho : isB o) (h : CS o T P N V K B R) (hN0 : N 0 < 20000) (hN1 : N 1 ≤ 10) (h8 : K.length ≤ 8) (hs : OS B) (hp : ∀ q ∈ B, 0 < q.2.2) (hso : B.Pairwise (fun p q => p.2.1 ≤ q.2.1)) {g : Nat} (hg : g ≤ 60) (eg : V 1 2 = nI g) : ∃ T', X 86 0 [.ref o, .long 0, .long 0, .long 0, .long 0] [] (H T P) = some (none, H T' P) ∧ (∀ a, (a < o ∨ o + 51 ≤ a) → T' a = T a) ∧ CSs o T' P (chE (N 0 - g) (N 1) (N, V, B, R)) K := by
  have hlim := lim_ok hN0 hg
  have hday : T o 0 = nI (N 0) := by rw [h.1.1 0 (by decide)]; exact h.1.2.2.2
  have hgr : T (o + 1) 2 = nI g := by rw [h.1.2.1 2 (by decide)]; exact eg
  have ea := c_anyOld (P := P) (lim := nI (N 0) - nI g) ho h.2.2.2.1
  by_cases ho2 : 0 < B.length ∧ T (o + 43) 0 < nI (N 0) - nI g
  · rw [if_pos ho2] at ea
    obtain ⟨⟨U, v3, v4⟩, e1, i1, i2⟩ := loop_ex (fun c (s : (Nat → Nat → Int32) × Value × Value) => X 86 26 [.ref o, .int (nI (N 0) - nI g), .int (nI c), s.2.1, s.2.2] [] (H s.1 P))
      (fun c s => (∀ a, (a < o ∨ o + 51 ≤ a) → s.1 a = T a) ∧ CSs o s.1 P (chE (N 0 - g) c (N, V, B, R)) K) (N 1) (T, .long 0, .long 0) ⟨fun _ _ => rfl, h⟩ (by
        intro c ⟨U, v3, v4⟩ hc ⟨j1, j2⟩
        have j1 : ∀ a, (a < o ∨ o + 51 ≤ a) → U a = T a := j1
        have j2 : CSs o U P (chE (N 0 - g) c (N, V, B, R)) K := j2
        obtain ⟨n0, n1, n2, n3, n4, n5⟩ := ch_keep (l0 := N 0 - g) (s := (N, V, B, R)) c
        have hos := OS_ch (l0 := N 0 - g) (s := (N, V, B, R)) hs c
        obtain ⟨s, hsd⟩ : ∃ s, s = chE (N 0 - g) c (N, V, B, R) := ⟨_, rfl⟩
        rw [← hsd] at j2 n0 n1 n2 n3 n4 n5 hos
        have hE : chE (N 0 - g) (c + 1) (N, V, B, R) = chS (N 0 - g) s c := by rw [hsd]; rfl
        obtain ⟨⟨k0, k1, k2, k00⟩, ⟨k3, k4, k5, k6⟩, ⟨kP, kn, kc, kK⟩, kB, kL, k48, kJ⟩ := id j2
        obtain ⟨U1, e2, f2, b2⟩ := c_takeOld (P := P) (c := c) (l0 := N 0 - g) ho kB hos (show c < 10 by omega) hlim
        have hr1 : ∀ a, (a < o + 41 ∨ o + 44 < a) → U1 a = U a := fun a ha => f2 a (by omega) (by omega) (by omega) (by omega)
        have hcn : U (o + 3) 0 = nI (N 1) := by rw [k3, n1]
        have hlt : nI c < nI (N 1) := nI_lt hc (by omega)
        have hmm : oldL (N 0 - g) c s.2.2.1 < 2 ^ 31 := by
          have hb : ∀ (L : List bT), OS L → oldL (N 0 - g) c L ≤ 1000 * L.length := by
            intro L
            induction L with
            | nil => intro _; exact Nat.le_refl _
            | cons q L ih =>
              intro hL
              have := ih (fun x hx => hL x (List.mem_cons_of_mem _ hx))
              have h3 := (hL q List.mem_cons_self).2.2
              simp only [oldL, List.length_cons]
              split <;> omega
          have := hb _ hos
          have h99 := kB.2.1
          omega
        obtain ⟨mm, hmd⟩ : ∃ mm, mm = oldL (N 0 - g) c s.2.2.1 := ⟨_, rfl⟩
        rw [← hmd] at hmm e2
        have hcs1 : ∀ W : Nat → Nat → Int32, (∀ a, (a < o + 41 ∨ o + 44 < a) → W a = U a) → OB W o (dropE (zeroL (N 0 - g) c s.2.2.1)) → CS o W P s.1 s.2.1 K (dropE (zeroL (N 0 - g) c s.2.2.1)) s.2.2.2 := by
          intro W hW hWB
          have r1 := kP.rg (show 0 < 8 by decide)
          refine ⟨⟨?_, ?_, ?_, k00⟩, ⟨?_, ?_, ?_, ?_⟩, ⟨kP, ?_, ?_, fun j q hq => (kK j q hq).same (fun x hx => hW _ (by
            have hj := (List.getElem?_eq_some_iff.mp hq).1
            have := kP.rg (show j < 8 by omega)
            omega))⟩, hWB, kL.same (hW _ (by omega)) (hW _ (by omega)) (hW _ (by omega)), ?_, kJ.same (hW _ (by omega)) (hW _ (by omega))⟩
          · rw [hW o (by omega)]; exact k0
          · rw [hW (o + 1) (by omega)]; exact k1
          · rw [hW (o + 2) (by omega)]; exact k2
          · rw [hW (o + 3) (by omega)]; exact k3
          · rw [hW (o + 4) (by omega)]; exact k4
          · rw [hW (o + 5) (by omega)]; exact k5
          · rw [hW (o + 6) (by omega)]; exact k6
          · rw [hW (o + 7) (by omega)]; exact kn
          · rw [hW (o + 7) (by omega)]; exact kc
          · rw [hW (o + 48) (by omega)]; exact k48
        by_cases hm0 : 0 < mm
        · have hs1 := hcs1 U1 hr1 b2
          have hcc : c < s.1 1 := by rw [n1]; exact hc
          have g6 : U1 (o + 6) c = s.2.1 6 c := hs1.2.1.2.2.2 c hcc
          have g5 : U1 (o + 5) c = s.2.1 5 c := hs1.2.1.2.2.1 c hcc
          have gp : U1 (o + 1) 3 = s.2.1 1 3 := hs1.1.2.1 3 (by decide)
          have gd : U1 o 0 = s.2.1 0 0 := hs1.1.1 0 (by decide)
          obtain ⟨U2, hU2⟩ : ∃ U2, U2 = up1 (up1 U1 (o + 6) c (s.2.1 6 c + nI mm)) (o + 5) c (s.2.1 5 c + nI mm * s.2.1 1 3) := ⟨_, rfl⟩
          have hU2f : ∀ a, a ≠ o + 5 → a ≠ o + 6 → U2 a = U1 a := fun a q5 q6 => by rw [hU2]; simp only [upA_n _ _ q5, upA_n _ _ q6]
          have hJ2 : JO U2 o (s.1 4) s.2.2.2 := hs1.2.2.2.2.2.2.same (hU2f _ (by omega) (by omega)) (hU2f _ (by omega) (by omega))
          obtain ⟨U3, e3, f3, j3⟩ := c_write (P := P) (e := 2) (d := s.2.1 0 0) (x := nI c) (y := nI mm * s.2.1 1 3) ho hJ2
          have gd2 : U2 o 0 = s.2.1 0 0 := by rw [hU2f o (by omega) (by omega)]; exact gd
          rw [hU2] at e3 gd2
          have hU3 : ∀ a, a ≠ o + 5 → a ≠ o + 6 → a ≠ o + 49 → a ≠ o + 50 → U3 a = U1 a := fun a q5 q6 q49 q50 => by rw [f3 a q49 q50]; exact hU2f a q5 q6
          refine ⟨(U3, .int (nI mm), .int (nI mm * s.2.1 1 3)), ?_, fun a ha => ?_, ?_⟩
          · show X 86 26 _ _ _ = _
            rw [x86_26]
            simp +decide only [x86_0, x86_1, x86_4, x86_5, x86_8, x86_9, x86_10, x86_11, x86_12, x86_13, x86_16, x86_17, x86_20, x86_23, x86_24, x86_25, x86_27, x86_28, x86_31, x86_34, x86_37, x86_38, x86_41, x86_42, x86_43, x86_46, x86_47, x86_48, x86_51, x86_52, x86_53, x86_56, x86_57, x86_58, x86_59, x86_61, x86_62, x86_65, x86_68, x86_69, x86_70, x86_71, x86_72, x86_73, x86_74, x86_75, x86_78, x86_81, x86_82, x86_83, x86_84, x86_86, x86_87, x86_88, x86_89, x86_92, x86_93, x86_94, x86_97, x86_98, x86_100, x86_103, x86_106, x86_109, aft_some, aft_void, Option.bind_some, Option.toList_some, Option.toList_none, List.cons_append, List.nil_append, if_true, if_false, ↓reduceIte, eq_self, f0_o ho, ↓f0_0 ho, ↓f0_0p ho, ↓f0_1 ho, ↓f0_1p ho, ↓f0_2 ho, ↓f0_2p ho, ↓f0_3 ho, ↓f0_3p ho, ↓f0_4 ho, ↓f0_5 ho, ↓f0_6 ho, ↓f0_7 ho, ↓f0_8 ho, ↓f0_9 ho, ↓f0_10 ho, ↓f0_11 ho, ↓f1_g ho, ↓f1_s ho, ↓f2_g ho, ↓f2_s ho, f3_o ho, ↓f3_0 ho, ↓f3_0p ho, ↓f3_1 ho, ↓f3_2 ho, ↓f3_3 ho, ↓f4_g ho, ↓f4_s ho, ↓f5_g ho, ↓f5_s ho, ↓f6_g ho, ↓f6_s ho, upA_s, u_oo, u_o0, u_0o, u_n, f41_o ho, f49_o ho, hcn, hlt, ↓aft_of (e2), nI_posn hmm, hm0, okx_nI (show c < 10 by omega) (show (10 : Nat) < 2 ^ 31 by decide), nI_clamp (show c < 2 ^ 31 by omega), cl3, gp, g6, g5, gd, gd2, ↓aft_of (e3), nI_1]
          · show U3 a = T a
            rw [hU3 a (by omega) (by omega) (by omega) (by omega), hr1 a (by omega)]; exact j1 a ha
          · rw [hE]
            have hc2 : chS (N 0 - g) s c = (hoN s.1, chV s.2.1 c mm, dropE (zeroL (N 0 - g) c s.2.2.1), wrB s.2.2.2 2 (s.2.1 0 0) (nI c) (nI mm * s.2.1 1 3)) := by
              unfold chS
              rw [← hmd, if_pos hm0]
            rw [hc2]
            obtain ⟨⟨y0, y1, y2, y00⟩, ⟨y3, y4, y5, y6⟩, ⟨yP, yn, yc, yK⟩, yB, yL, y48, yJ⟩ := hs1
            show CS o U3 P (hoN s.1) (chV s.2.1 c mm) K (dropE (zeroL (N 0 - g) c s.2.2.1)) (wrB s.2.2.2 2 (s.2.1 0 0) (nI c) (nI mm * s.2.1 1 3))
            refine ⟨⟨fun j hj => ?_, fun j hj => ?_, fun j hj => ?_, ?_⟩, ⟨?_, fun j hj => ?_, fun j hj => ?_, fun j hj => ?_⟩, ⟨yP, ?_, ?_, fun j q hq => ?_⟩, ?_, ?_, fun j hj => ?_, ?_⟩
            · rw [hU3 _ (by omega) (by omega) (by omega) (by omega)]; simp +decide only [u_n]; exact y0 j hj
            · rw [hU3 _ (by omega) (by omega) (by omega) (by omega)]; simp +decide only [u_n]; exact y1 j hj
            · rw [hU3 _ (by omega) (by omega) (by omega) (by omega)]; simp +decide only [u_n]; exact y2 j hj
            · simp +decide only [u_n]; exact y00
            · rw [hU3 _ (by omega) (by omega) (by omega) (by omega)]; simp +decide only [u_n]; exact y3
            · simp +decide only [u_n] at hj
              rw [hU3 _ (by omega) (by omega) (by omega) (by omega)]; simp +decide only [u_n]; exact y4 j hj
            · simp +decide only [u_n] at hj
              rw [f3 _ (by omega) (by omega), hU2]
              simp +decide only [upA_s]
              unfold upA
              split
              · rfl
              · have e56 : up1 U1 (o + 6) c (s.2.1 6 c + nI mm) (o + 5) j = U1 (o + 5) j := by simp only [upA_n _ _ (show o + 5 ≠ o + 6 by omega)]
                rw [e56]; exact y5 j hj
            · simp +decide only [u_n] at hj
              rw [f3 _ (by omega) (by omega), hU2]
              simp +decide only [upA_s, u_n, upA_n _ _ (show o + 6 ≠ o + 5 by omega)]
              unfold upA
              split
              · rfl
              · exact y6 j hj
            · rw [hU3 _ (by omega) (by omega) (by omega) (by omega)]; exact yn
            · rw [hU3 _ (by omega) (by omega) (by omega) (by omega)]; simp +decide only [u_n]; exact yc
            · have hj := (List.getElem?_eq_some_iff.mp hq).1
              have := kP.rg (show j < 8 by omega)
              exact (yK j q hq).same (fun x hx => hU3 _ (by omega) (by omega) (by omega) (by omega))
            · exact yB.other (hU3 _ (by omega) (by omega) (by omega) (by omega)) (hU3 _ (by omega) (by omega) (by omega) (by omega)) (hU3 _ (by omega) (by omega) (by omega) (by omega)) (hU3 _ (by omega) (by omega) (by omega) (by omega))
            · have := yL.same (U := U3) (hU3 _ (by omega) (by omega) (by omega) (by omega)) (hU3 _ (by omega) (by omega) (by omega) (by omega)) (hU3 _ (by omega) (by omega) (by omega) (by omega))
              simp +decide only [u_n]; exact this
            · rw [hU3 _ (by omega) (by omega) (by omega) (by omega)]; simp +decide only [u_n]; exact y48 j hj
            · simp +decide only [upA_s]; exact j3
        · refine ⟨(U1, .int (nI mm), v4), ?_, fun a ha => ?_, ?_⟩
          · show X 86 26 _ _ _ = _
            rw [x86_26]
            simp +decide only [x86_0, x86_1, x86_4, x86_5, x86_8, x86_9, x86_10, x86_11, x86_12, x86_13, x86_16, x86_17, x86_20, x86_23, x86_24, x86_25, x86_27, x86_28, x86_31, x86_34, x86_37, x86_38, x86_41, x86_42, x86_43, x86_46, x86_47, x86_48, x86_51, x86_52, x86_53, x86_56, x86_57, x86_58, x86_59, x86_61, x86_62, x86_65, x86_68, x86_69, x86_70, x86_71, x86_72, x86_73, x86_74, x86_75, x86_78, x86_81, x86_82, x86_83, x86_84, x86_86, x86_87, x86_88, x86_89, x86_92, x86_93, x86_94, x86_97, x86_98, x86_100, x86_103, x86_106, x86_109, aft_some, aft_void, Option.bind_some, Option.toList_some, Option.toList_none, List.cons_append, List.nil_append, if_true, if_false, ↓reduceIte, eq_self, f0_o ho, ↓f0_0 ho, ↓f0_0p ho, ↓f0_1 ho, ↓f0_1p ho, ↓f0_2 ho, ↓f0_2p ho, ↓f0_3 ho, ↓f0_3p ho, ↓f0_4 ho, ↓f0_5 ho, ↓f0_6 ho, ↓f0_7 ho, ↓f0_8 ho, ↓f0_9 ho, ↓f0_10 ho, ↓f0_11 ho, ↓f1_g ho, ↓f1_s ho, ↓f2_g ho, ↓f2_s ho, f3_o ho, ↓f3_0 ho, ↓f3_0p ho, ↓f3_1 ho, ↓f3_2 ho, ↓f3_3 ho, ↓f4_g ho, ↓f4_s ho, ↓f5_g ho, ↓f5_s ho, ↓f6_g ho, ↓f6_s ho, f41_o ho, hcn, hlt, ↓aft_of (e2), nI_posn hmm, hm0, nI_1]
          · show U1 a = T a
            rw [hr1 a (by omega)]; exact j1 a ha
          · rw [hE]
            have hc2 : chS (N 0 - g) s c = (s.1, s.2.1, dropE (zeroL (N 0 - g) c s.2.2.1), s.2.2.2) := by
              unfold chS
              rw [← hmd, if_neg hm0]
            rw [hc2]
            exact hcs1 U1 hr1 b2)
    have i2 : CSs o U P (chE (N 0 - g) (N 1) (N, V, B, R)) K := i2
    obtain ⟨n0, n1, n2, n3, n4, n5⟩ := ch_keep (l0 := N 0 - g) (s := (N, V, B, R)) (N 1)
    have hcn : U (o + 3) 0 = nI (N 1) := by rw [i2.2.1.1, n1]
    refine ⟨U, ?_, i1, i2⟩
    simp +decide only [x86_0, x86_1, x86_4, x86_5, x86_8, x86_9, x86_10, x86_11, x86_12, x86_13, x86_16, x86_17, x86_20, x86_23, x86_24, x86_25, x86_27, x86_28, x86_31, x86_34, x86_37, x86_38, x86_41, x86_42, x86_43, x86_46, x86_47, x86_48, x86_51, x86_52, x86_53, x86_56, x86_57, x86_58, x86_59, x86_61, x86_62, x86_65, x86_68, x86_69, x86_70, x86_71, x86_72, x86_73, x86_74, x86_75, x86_78, x86_81, x86_82, x86_83, x86_84, x86_86, x86_87, x86_88, x86_89, x86_92, x86_93, x86_94, x86_97, x86_98, x86_100, x86_103, x86_106, x86_109, aft_some, aft_void, Option.bind_some, Option.toList_some, Option.toList_none, List.cons_append, List.nil_append, if_true, if_false, ↓reduceIte, eq_self, f0_o ho, ↓f0_0 ho, ↓f0_0p ho, ↓f0_1 ho, ↓f0_1p ho, ↓f0_2 ho, ↓f0_2p ho, ↓f0_3 ho, ↓f0_3p ho, ↓f0_4 ho, ↓f0_5 ho, ↓f0_6 ho, ↓f0_7 ho, ↓f0_8 ho, ↓f0_9 ho, ↓f0_10 ho, ↓f0_11 ho, ↓f1_g ho, ↓f1_s ho, ↓f2_g ho, ↓f2_s ho, f41_o ho, hday, hgr, cl2, ↓aft_of (ea)]
    rw [show X 86 26 [.ref o, .int (nI (N 0) - nI g), .int 0, .long 0, .long 0] [] (H T P) = _ from e1, x86_26]
    simp +decide only [x86_0, x86_1, x86_4, x86_5, x86_8, x86_9, x86_10, x86_11, x86_12, x86_13, x86_16, x86_17, x86_20, x86_23, x86_24, x86_25, x86_27, x86_28, x86_31, x86_34, x86_37, x86_38, x86_41, x86_42, x86_43, x86_46, x86_47, x86_48, x86_51, x86_52, x86_53, x86_56, x86_57, x86_58, x86_59, x86_61, x86_62, x86_65, x86_68, x86_69, x86_70, x86_71, x86_72, x86_73, x86_74, x86_75, x86_78, x86_81, x86_82, x86_83, x86_84, x86_86, x86_87, x86_88, x86_89, x86_92, x86_93, x86_94, x86_97, x86_98, x86_100, x86_103, x86_106, x86_109, aft_some, aft_void, Option.bind_some, Option.toList_some, Option.toList_none, List.cons_append, List.nil_append, if_true, if_false, ↓reduceIte, eq_self, f0_o ho, ↓f0_0 ho, ↓f0_0p ho, ↓f0_1 ho, ↓f0_1p ho, ↓f0_2 ho, ↓f0_2p ho, ↓f0_3 ho, ↓f0_3p ho, ↓f0_4 ho, ↓f0_5 ho, ↓f0_6 ho, ↓f0_7 ho, ↓f0_8 ho, ↓f0_9 ho, ↓f0_10 ho, ↓f0_11 ho, ↓f1_g ho, ↓f1_s ho, ↓f2_g ho, ↓f2_s ho, f3_o ho, ↓f3_0 ho, ↓f3_0p ho, ↓f3_1 ho, ↓f3_2 ho, ↓f3_3 ho, ↓f4_g ho, ↓f4_s ho, ↓f5_g ho, ↓f5_s ho, ↓f6_g ho, ↓f6_s ho, hcn, nI_nlt (Nat.le_refl (N 1)) (show N 1 < 2 ^ 31 by omega)]
  · rw [if_neg ho2] at ea
    have hno : ∀ q ∈ B, ¬ q.2.1 < N 0 - g := by
      intro q hq hlt
      apply ho2
      cases B with
      | nil => cases hq
      | cons b0 B' =>
        refine ⟨by simp, ?_⟩
        have h3 := h.2.2.2.1.2.2 0 b0.1 b0.2.1 b0.2.2 rfl
        rw [h3.2.1]
        refine (hlim _ (hs b0 List.mem_cons_self).2.1).mpr ?_
        rcases List.mem_cons.mp hq with rfl | hq
        · exact hlt
        · have := (List.pairwise_cons.mp hso).1 q hq
          omega
    refine ⟨T, ?_, fun _ _ => rfl, ?_⟩
    · simp +decide only [x86_0, x86_1, x86_4, x86_5, x86_8, x86_9, x86_10, x86_11, x86_12, x86_13, x86_16, x86_17, x86_20, x86_23, x86_24, x86_25, x86_27, x86_28, x86_31, x86_34, x86_37, x86_38, x86_41, x86_42, x86_43, x86_46, x86_47, x86_48, x86_51, x86_52, x86_53, x86_56, x86_57, x86_58, x86_59, x86_61, x86_62, x86_65, x86_68, x86_69, x86_70, x86_71, x86_72, x86_73, x86_74, x86_75, x86_78, x86_81, x86_82, x86_83, x86_84, x86_86, x86_87, x86_88, x86_89, x86_92, x86_93, x86_94, x86_97, x86_98, x86_100, x86_103, x86_106, x86_109, aft_some, aft_void, Option.bind_some, Option.toList_some, Option.toList_none, List.cons_append, List.nil_append, if_true, if_false, ↓reduceIte, eq_self, f0_o ho, ↓f0_0 ho, ↓f0_0p ho, ↓f0_1 ho, ↓f0_1p ho, ↓f0_2 ho, ↓f0_2p ho, ↓f0_3 ho, ↓f0_3p ho, ↓f0_4 ho, ↓f0_5 ho, ↓f0_6 ho, ↓f0_7 ho, ↓f0_8 ho, ↓f0_9 ho, ↓f0_10 ho, ↓f0_11 ho, ↓f1_g ho, ↓f1_s ho, ↓f2_g ho, ↓f2_s ho, f41_o ho, hday, hgr, cl2, ↓aft_of (ea)]
    · rw [chE_id hno hp]; exact h
end DY
