/-! a basket comes, in the reference -/
/-- the array behind the laying of a new basket -/
abbrev lyF (f : Nat → Int32) (n : Nat) (x0 x1 x2 x3 x4 d0 d1 d2 d3 : Int32) : Nat → Int32 := upA (upA (upA (upA (upA (upA (upA (upA (upA (upA (upA (upA (upA (upA (upA (upA (upA f (694 + 17 * n + 0) x0) (694 + 17 * n + 1) x1) (694 + 17 * n + 2) x2) (694 + 17 * n + 3) x3) (694 + 17 * n + 4) x4) (694 + 17 * n + 8) d3) (694 + 17 * n + 12) 0) (694 + 17 * n + 16) 0) (694 + 17 * n + 7) d2) (694 + 17 * n + 11) 0) (694 + 17 * n + 15) 0) (694 + 17 * n + 6) d1) (694 + 17 * n + 10) 0) (694 + 17 * n + 14) 0) (694 + 17 * n + 5) d0) (694 + 17 * n + 9) 0) (694 + 17 * n + 13) 0
theorem lyF_n {f : Nat → Int32} {n a : Nat} {x0 x1 x2 x3 x4 d0 d1 d2 d3 : Int32} (h : a < 694 + 17 * n ∨ 694 + 17 * n + 17 ≤ a) : lyF f n x0 x1 x2 x3 x4 d0 d1 d2 d3 a = f a := by
  unfold lyF
  rw [upA_n _ _ (by omega), upA_n _ _ (by omega), upA_n _ _ (by omega), upA_n _ _ (by omega), upA_n _ _ (by omega), upA_n _ _ (by omega), upA_n _ _ (by omega), upA_n _ _ (by omega), upA_n _ _ (by omega), upA_n _ _ (by omega), upA_n _ _ (by omega), upA_n _ _ (by omega), upA_n _ _ (by omega), upA_n _ _ (by omega), upA_n _ _ (by omega), upA_n _ _ (by omega), upA_n _ _ (by omega)]
theorem lyF_s {f : Nat → Int32} {n : Nat} {x0 x1 x2 x3 x4 d0 d1 d2 d3 : Int32} : (lyF f n x0 x1 x2 x3 x4 d0 d1 d2 d3 (694 + 17 * n + 0) = x0 ∧ lyF f n x0 x1 x2 x3 x4 d0 d1 d2 d3 (694 + 17 * n + 1) = x1 ∧ lyF f n x0 x1 x2 x3 x4 d0 d1 d2 d3 (694 + 17 * n + 2) = x2 ∧ lyF f n x0 x1 x2 x3 x4 d0 d1 d2 d3 (694 + 17 * n + 3) = x3 ∧ lyF f n x0 x1 x2 x3 x4 d0 d1 d2 d3 (694 + 17 * n + 4) = x4) ∧ ∀ k, k < 4 → lyF f n x0 x1 x2 x3 x4 d0 d1 d2 d3 (694 + 17 * n + (5 + k)) = (match k with | 0 => d0 | 1 => d1 | 2 => d2 | _ => d3) ∧ lyF f n x0 x1 x2 x3 x4 d0 d1 d2 d3 (694 + 17 * n + (9 + k)) = 0 ∧ lyF f n x0 x1 x2 x3 x4 d0 d1 d2 d3 (694 + 17 * n + (13 + k)) = 0 := by
  unfold lyF
  refine ⟨⟨?_, ?_, ?_, ?_, ?_⟩, fun k hk => ?_⟩
  · simp +decide only [upA_s, u_oo]
  · simp +decide only [upA_s, u_oo]
  · simp +decide only [upA_s, u_oo]
  · simp +decide only [upA_s, u_oo]
  · simp +decide only [upA_s, u_oo]
  · match k, hk with
    | 0, _ => refine ⟨?_, ?_, ?_⟩ <;> simp +decide only [upA_s, u_oo, Nat.add_zero]
    | 1, _ => refine ⟨?_, ?_, ?_⟩ <;> simp +decide only [upA_s, u_oo, Nat.reduceAdd]
    | 2, _ => refine ⟨?_, ?_, ?_⟩ <;> simp +decide only [upA_s, u_oo, Nat.reduceAdd]
    | 3, _ => refine ⟨?_, ?_, ?_⟩ <;> simp +decide only [upA_s, u_oo, Nat.reduceAdd]
theorem dig_ref {m : Nat} (hm : m ≤ 9999) : nI m - nI m / 10 * 10 = digI (nI m) 3 ∧ nI m / 10 - nI m / 10 / 10 * 10 = digI (nI m) 2 ∧ nI m / 10 / 10 - nI m / 10 / 10 / 10 * 10 = digI (nI m) 1 ∧ nI m / 10 / 10 / 10 - nI m / 10 / 10 / 10 / 10 * 10 = digI (nI m) 0 := by
  have e : ∀ a b : Nat, a ≤ 9999 → 0 < b → b < 2 ^ 31 → nI a / nI b = nI (a / b) := fun a b ha h0 hb => nI_divp (by omega) hb h0
  have t : (10 : Int32) = nI 10 := rfl
  have e1 : nI m / 10 = nI (m / 10) := by rw [t]; exact e _ _ hm (by decide) (by decide)
  have e2 : nI m / 10 / 10 = nI (m / 100) := by rw [e1, t, e _ _ (by omega) (by decide) (by decide), Nat.div_div_eq_div_mul]
  have e3 : nI m / 10 / 10 / 10 = nI (m / 1000) := by rw [e2, t, e _ _ (by omega) (by decide) (by decide), Nat.div_div_eq_div_mul]
  have g1 : nI m / 1 = nI m := by rw [show (1 : Int32) = nI 1 from rfl, e _ _ hm (by decide) (by decide), Nat.div_one]
  have g100 : nI m / 100 = nI (m / 100) := e _ 100 hm (by decide) (by decide)
  have g1000 : nI m / 1000 = nI (m / 1000) := e _ 1000 hm (by decide) (by decide)
  refine ⟨?_, rfl, ?_, ?_⟩
  · show _ = nI m / 1 - nI m / 1 / 10 * 10
    rw [g1]
  · show _ = nI m / 100 - nI m / 100 / 10 * 10
    rw [e2, g100]
  · show _ = nI m / 1000 - nI m / 1000 / 10 * 10
    rw [e3, g1000]
section CM
variable {T : Nat → Nat → Int32} {P : Nat → Nat → Nat} {f : Nat → Int32} {N : Nat → Nat} {V : Nat → Nat → Int32} {K : List kT} {B : List bT} {R : Nat → Nat → Int32} {p st : Int32} {c g m : Nat}
theorem WF.nr (hw : WF N V K B) : NR (N 0) B := ⟨fun q hq => by have := hw.2.2.2.2.2.1.1 q hq; omega, hw.2.2.2.2.2.1.2.1⟩
theorem WF.all (hw : WF N V K B) : allL B ≤ 2673 := by
  have h1 := all_le (n := 27) B (fun q hq => (hw.2.2.2.2.2.1.1 q hq).2.2.2.2)
  have := hw.2.2.2.2.2.1.2.2
  have := hw.1.2.2.1
  omega
theorem r_lay17 (hw : WF N V K B) (h : sR f N V K B R) (hm : m ≤ 9999) (h8 : K.length < 8) : ∃ v6 v7, X 150 0 [.ref 366, .int (nI c), .int (nI m), .int st, .int (nI g), .long 0, .long 0, .long 0] [] (H (upA T 367 f) P) = X 150 126 [.ref 366, .int (nI c), .int (nI m), .int st, .int (nI g), .int (nI K.length), v6, v7] [] (H (upA T 367 (lyF f K.length (nI (N 2)) (nI c) st (fpI (usI (fun i => gK K i 0 2) K.length)) (nI (N 0)) (digI (nI m) 0) (digI (nI m) 1) (digI (nI m) 2) (digI (nI m) 3))) P) := by
  obtain ⟨n, hn⟩ : ∃ n, n = K.length := ⟨_, rfl⟩
  have h16 := h.1.n
  have h6 : f 6 = nI (N 2) := h.1.2.1.2.2.1
  have h4 : f 4 = nI (N 0) := h.1.d
  rw [← hn] at h16 h8
  have u4 : ∀ (g : Nat → Int32) (w : Nat) (z : Int32), upA g (694 + 17 * n + w) z 4 = g 4 := fun g w z => upA_n _ _ (by omega)
  obtain ⟨q, hq⟩ : ∃ q, q = fpI (usI (fun i => gK K i 0 2) K.length) := ⟨_, rfl⟩
  have efp : X 149 0 [.ref 366, .long 0, .long 0] [] (H (upA T 367 (upA (upA (upA f (694 + 17 * n + 0) (nI (N 2))) (694 + 17 * n + 1) (nI c)) (694 + 17 * n + 2) st)) P) = some (some (.int q), H (upA T 367 (upA (upA (upA f (694 + 17 * n + 0) (nI (N 2))) (694 + 17 * n + 1) (nI c)) (694 + 17 * n + 2) st)) P) := by
    rw [hq]
    refine r_freePin ?_ (by omega) (fun i hi => ?_) (fun i hi => (hw.2.2.2.1 i _ (gK_at hi)).2.1)
    · rw [upA_n _ _ (by omega), upA_n _ _ (by omega), upA_n _ _ (by omega), ← hn]; exact h16
    · rw [upA_n _ _ (by omega), upA_n _ _ (by omega), upA_n _ _ (by omega)]; exact (h.2.2.2.1 i hi).1.2.2.2.1
  obtain ⟨g3, g2, g1, g0⟩ := dig_ref hm
  rw [← hq, ← hn]
  refine ⟨.int (nI m / 10 / 10 / 10 / 10), .int (-1), ?_⟩
  simp +decide only [x150_0, x150_0N, x150_1, x150_4, x150_6, x150_7, x150_9, x150_9N, x150_10, x150_12, x150_13, x150_13N, x150_14, x150_17, x150_19, x150_20, x150_23, x150_23N, x150_24, x150_26, x150_27, x150_28, x150_31, x150_31N, x150_32, x150_34, x150_35, x150_36, x150_39, x150_39N, x150_40, x150_42, x150_43, x150_43N, x150_44, x150_47, x150_50, x150_50N, x150_51, x150_53, x150_54, x150_54N, x150_55, x150_58, x150_59, x150_60, x150_63, x150_64, x150_66, x150_67, x150_69, x150_71, x150_74, x150_74N, x150_75, x150_77, x150_78, x150_80, x150_81, x150_83, x150_85, x150_86, x150_89, x150_89N, x150_90, x150_92, x150_94, x150_96, x150_97, x150_98, x150_101, x150_101N, x150_102, x150_104, x150_106, x150_108, x150_109, x150_110, x150_113, x150_115, x150_117, x150_118, x150_120, x150_123, x150_127, x150_128, x150_130, x150_133, x150_133N, x150_134, x150_135, x150_135N, x150_136, x150_139, x150_141, x150_142, x150_144, x150_147, x150_147N, x150_148, x150_151, x150_153, x150_154, x150_155, x150_156, x150_157, x150_158, x150_158N, x150_159, x150_162, x150_164, x150_165, x150_166, x150_167, x150_168, x150_169, x150_169N, x150_170, x150_173, x150_175, x150_176, x150_177, x150_178, aft_some, aft_void, Option.bind_some, Option.toList_some, Option.toList_none, List.cons_append, List.nil_append, if_true, if_false, ↓reduceIte, eq_self, z366_o, ↓z366_0, ↓z366_0p, ↓z366_1, ↓z366_2, ↓z366_3, ↓z366_4, ↓z366_4p, ↓z366_5, ↓z366_6, ↓z366_6p0, ↓z366_6p1, ↓z366_7, ↓z366_8, ↓z366_8p, ↓z366_9, ↓z366_9p, ↓z366_10, ↓z366_10p0, ↓z366_10p1, ↓z366_11, ↓z366_12, ↓z366_12p, ↓sg0, ↓sg1, ↓sg2, ↓sg3, ↓sg4, ↓sg5, ↓sg6, ↓sg7, ↓sg8, ↓sg9, ↓sg10, ↓sg11, ↓sg12, ↓sg13, ↓sg14, ↓sg15, ↓sg16, ↓sg17, ↓ss0, ↓ss1, ↓ss2, ↓ss3, ↓ss4, ↓ss5, ↓ss6, ↓ss7, ↓ss8, ↓ss9, ↓ss10, ↓ss11, ↓ss12, ↓ss13, ↓ss14, ↓ss15, ↓ss16, ↓ss17, h16, h6, h4, u4, ↓aft_of (efp), Int32.reduceAdd, g0, g1, g2, g3, ↓aft_of (r_lay (i := n) (w := 0) (y := 0) rfl h8 (by decide)), ↓aft_of (r_lay (i := n) (w := 1) (y := 1) rfl h8 (by decide)), ↓aft_of (r_lay (i := n) (w := 2) (y := 2) rfl h8 (by decide)), ↓aft_of (r_lay (i := n) (w := 3) (y := 3) rfl h8 (by decide)), ↓aft_of (r_lay (i := n) (w := 4) (y := 4) rfl h8 (by decide)), ↓aft_of (r_lay (i := n) (w := 5) (y := 5) rfl h8 (by decide)), ↓aft_of (r_lay (i := n) (w := 6) (y := 6) rfl h8 (by decide)), ↓aft_of (r_lay (i := n) (w := 7) (y := 7) rfl h8 (by decide)), ↓aft_of (r_lay (i := n) (w := 8) (y := 8) rfl h8 (by decide)), ↓aft_of (r_lay (i := n) (w := 9) (y := 9) rfl h8 (by decide)), ↓aft_of (r_lay (i := n) (w := 10) (y := 10) rfl h8 (by decide)), ↓aft_of (r_lay (i := n) (w := 11) (y := 11) rfl h8 (by decide)), ↓aft_of (r_lay (i := n) (w := 12) (y := 12) rfl h8 (by decide)), ↓aft_of (r_lay (i := n) (w := 13) (y := 13) rfl h8 (by decide)), ↓aft_of (r_lay (i := n) (w := 14) (y := 14) rfl h8 (by decide)), ↓aft_of (r_lay (i := n) (w := 15) (y := 15) rfl h8 (by decide)), ↓aft_of (r_lay (i := n) (w := 16) (y := 16) rfl h8 (by decide))]
theorem r_comes (h : sR f N V K B R) (hw : WF N V K B) (hm : m ≤ 9999) (hc : c < N 1) (h8 : K.length < 8) (h99 : N 2 < 99) (hg : g ≤ outL c B) :
    ∃ f', X 150 0 [.ref 366, .int (nI c), .int (nI m), .int st, .int (nI g), .long 0, .long 0, .long 0] [] (H (upA T 367 f) P) = some (some (.int (nI (N 2))), H (upA T 367 f') P) ∧ sR f' (rcN N) (up1 V 0 1 (V 0 1 + nI g)) (rcK N V K c (nI m) st) (dropE (tkL c g B)) (wrB R 0 (V 0 0) (nI (N 2)) (nI g)) := by
  have hN1 := hw.1.2.1
  have hN4 := hw.1.2.2.2.2.2
  have hN3 := hw.1.2.2.2.2.1
  have hall := hw.all
  have hol := out_le c B
  obtain ⟨v6, v7, e1⟩ := r_lay17 (T := T) (P := P) (c := c) (st := st) (g := g) hw h hm h8
  obtain ⟨⟨a1, ⟨a2, a3, a4, a5⟩, ⟨a6, a7, a8⟩, a9, ⟨a10, a11, a12⟩, a13, a14⟩, hC, hO, hK, hL, hJ⟩ := id h
  obtain ⟨n, hn⟩ : ∃ n, n = K.length := ⟨_, rfl⟩
  obtain ⟨q, hq⟩ : ∃ q, q = fpI (usI (fun i => gK K i 0 2) K.length) := ⟨_, rfl⟩
  obtain ⟨fA, hfA⟩ : ∃ fA, fA = lyF f K.length (nI (N 2)) (nI c) st (fpI (usI (fun i => gK K i 0 2) K.length)) (nI (N 0)) (digI (nI m) 0) (digI (nI m) 1) (digI (nI m) 2) (digI (nI m) 3) := ⟨_, rfl⟩
  have nA : ∀ a, (a < 694 + 17 * K.length ∨ 694 + 17 * K.length + 17 ≤ a) → fA a = f a := fun a ha => by rw [hfA]; exact lyF_n ha
  have sA' := @lyF_s f K.length (nI (N 2)) (nI c) st (fpI (usI (fun i => gK K i 0 2) K.length)) (nI (N 0)) (digI (nI m) 0) (digI (nI m) 1) (digI (nI m) 2) (digI (nI m) 3)
  rw [← hfA] at e1 sA'
  obtain ⟨fB, e2, nB, sB7, sBr⟩ := r_comeBack (T := T) (P := P) (f := fA) (c := c) (D := N 0) (B := B) (g := g) (by omega) (by rw [nA 4 (by omega)]; exact a2) hw.1.1 hw.nr (by omega) hg (fun k hk => by rw [nA _ (by omega)]; exact hO c (by omega) k hk)
  have nB' : ∀ a, (a < 54 ∨ 694 ≤ a) → a ≠ 7 → fB a = fA a := fun a ha h7 => nB a (by omega) h7
  obtain ⟨fC, e3, nC, sC17, sCJ⟩ := r_books (T := T) (P := P) (f := fB) (n := N 4) (R := R) (e := 0) (x := nI (N 2)) (y := nI g) (by rw [nB' 17 (by decide) (by decide), nA 17 (by omega)]; exact a12) hN4 (hJ.same hN4 (fun a h1 h2 => by rw [nB' a (by omega) (by omega), nA a (by omega)]))
  have fB4 : fB 4 = V 0 0 := by rw [nB' 4 (by decide) (by decide), nA 4 (by omega), a2, a14]
  have fB6 : fB 6 = nI (N 2) := by rw [nB' 6 (by decide) (by decide), nA 6 (by omega), a4]
  have fC16 : fC 16 = nI K.length := by rw [nC 16 (by decide) (by decide), nB' 16 (by decide) (by decide), nA 16 (by omega), a11]
  have fC6 : fC 6 = nI (N 2) := by rw [nC 6 (by decide) (by decide)]; exact fB6
  have k1 : nI K.length + 1 = nI (K.length + 1) := nI_add _ 1
  have k2 : nI (N 2) + 1 = nI (N 2 + 1) := nI_add _ 1
  have k3 : nI (N 2 + 1) - 1 = nI (N 2) := nI_pred _
  have nF : ∀ a, a ≠ 16 → a ≠ 6 → upA (upA fC 16 (nI (K.length + 1))) 6 (nI (N 2 + 1)) a = fC a := fun a h1 h2 => by rw [upA_n _ _ h2, upA_n _ _ h1]
  have nAll : ∀ a, a ≠ 16 → a ≠ 6 → a ≠ 7 → a ≠ 17 → (a < 54 ∨ (694 ≤ a ∧ a < 694 + 17 * K.length) ∨ (694 + 17 * K.length + 17 ≤ a ∧ a < 870)) → upA (upA fC 16 (nI (K.length + 1))) 6 (nI (N 2 + 1)) a = f a := fun a h1 h2 h3 h4 h5 => by
    rw [nF a h1 h2, nC a h4 (by omega), nB' a (by omega) h3, nA a (by omega)]
  have nNew : ∀ a, 694 + 17 * K.length ≤ a → a < 694 + 17 * K.length + 17 → upA (upA fC 16 (nI (K.length + 1))) 6 (nI (N 2 + 1)) a = fA a := fun a h1 h2 => by
    rw [nF a (by omega) (by omega), nC a (by omega) (by omega), nB' a (by omega) (by omega)]
  refine ⟨upA (upA fC 16 (nI (K.length + 1))) 6 (nI (N 2 + 1)), ?_, ⟨fun j hj => ?_, ⟨?_, ?_, ?_, ?_⟩, ⟨?_, ?_, ?_⟩, fun j hj => ?_, ⟨?_, ?_, ?_⟩, fun d hd => ?_, ?_⟩, ?_, ?_, ?_, ?_, ?_⟩
  · rw [e1]
    simp +decide only [x150_126, x150_126N, x150_127, x150_128, x150_130, x150_133, x150_133N, x150_134, x150_135, x150_135N, x150_136, x150_139, x150_141, x150_142, x150_144, x150_147, x150_147N, x150_148, x150_151, x150_153, x150_154, x150_155, x150_156, x150_157, x150_158, x150_158N, x150_159, x150_162, x150_164, x150_165, x150_166, x150_167, x150_168, x150_169, x150_169N, x150_170, x150_173, x150_175, x150_176, x150_177, x150_178, aft_some, aft_void, Option.bind_some, Option.toList_some, Option.toList_none, List.cons_append, List.nil_append, if_true, if_false, ↓reduceIte, eq_self, z366_o, ↓z366_0, ↓z366_0p, ↓z366_1, ↓z366_2, ↓z366_3, ↓z366_4, ↓z366_4p, ↓z366_5, ↓z366_6, ↓z366_6p0, ↓z366_6p1, ↓z366_7, ↓z366_8, ↓z366_8p, ↓z366_9, ↓z366_9p, ↓z366_10, ↓z366_10p0, ↓z366_10p1, ↓z366_11, ↓z366_12, ↓z366_12p, ↓sg0, ↓sg1, ↓sg2, ↓sg3, ↓sg4, ↓sg5, ↓sg6, ↓sg7, ↓sg8, ↓sg9, ↓sg10, ↓sg11, ↓sg12, ↓sg13, ↓sg14, ↓sg15, ↓sg16, ↓sg17, ↓ss0, ↓ss1, ↓ss2, ↓ss3, ↓ss4, ↓ss5, ↓ss6, ↓ss7, ↓ss8, ↓ss9, ↓ss10, ↓ss11, ↓ss12, ↓ss13, ↓ss14, ↓ss15, ↓ss16, ↓ss17, upA_s, u_n, ↓aft_of (e2), ↓aft_of (e3), fB6, fC16, fC6, k1, k2, k3]
  · rw [nAll j (by omega) (by omega) (by omega) (by omega) (by omega), up1_n (show 1 ≠ 0 by decide)]; exact a1 j hj
  · rw [nAll 4 (by decide) (by decide) (by decide) (by decide) (by omega), a2]; simp +decide only [u_n]
  · rw [nAll 5 (by decide) (by decide) (by decide) (by decide) (by omega), a3]; simp +decide only [u_n]
  · rw [upA_s]; simp +decide only [u_n, upA_s]
  · rw [nF 7 (by decide) (by decide), nC 7 (by decide) (by decide), sB7, nA 7 (by omega), a5, up1_s, upA_s]
  · rw [nAll 8 (by decide) (by decide) (by decide) (by decide) (by omega), a6, up1_n (show 6 ≠ 0 by decide)]; simp +decide only [u_n]
  · rw [nAll 9 (by decide) (by decide) (by decide) (by decide) (by omega), a7, up1_s, upA_n _ _ (show 2 ≠ 1 by decide)]
  · rw [nAll 10 (by decide) (by decide) (by decide) (by decide) (by omega), a8]; simp +decide only [u_n]
  · rw [nAll _ (by omega) (by omega) (by omega) (by omega) (by omega), up1_n (show 48 ≠ 0 by decide)]; exact a9 j hj
  · rw [nAll 15 (by decide) (by decide) (by decide) (by decide) (by omega), a10, up1_s, upA_n _ _ (show 3 ≠ 1 by decide)]
  · rw [upA_n _ _ (show 16 ≠ 6 by decide), upA_s, List.length_append]; rfl
  · rw [nF 17 (by decide) (by decide), sC17]; simp +decide only [upA_s]
  · rw [nAll _ (by omega) (by omega) (by omega) (by omega) (by omega), up1_n (show 2 ≠ 0 by decide)]; exact a13 d hd
  · rw [up1_s, upA_n _ _ (show 0 ≠ 1 by decide), a14]; simp +decide only [u_n]
  · have e1 : rcN N 1 = N 1 := by simp +decide only [u_n]
    intro c' hc'
    rw [e1, up1_n (show 4 ≠ 0 by decide), up1_n (show 5 ≠ 0 by decide), up1_n (show 6 ≠ 0 by decide)]
    exact hC.same (fun a h1 h2 => nAll a (by omega) (by omega) (by omega) (by omega) (by omega)) c' hc'
  · intro c' hc' k hk
    rw [rg_drop, nF _ (by omega) (by omega), nC _ (by omega) (by omega)]
    by_cases e : c' = c
    · subst e; exact sBr k hk
    · rw [nB _ (by omega) (by omega), nA _ (by omega), rg_tk_ne e]; exact hO c' hc' k hk
  · intro i hi
    rw [List.length_append, List.length_singleton] at hi
    by_cases e : i < K.length
    · have : gK (rcK N V K c (nI m) st) i = gK K i := by
        simp [gK, List.getD_eq_getElem?_getD, List.getElem?_append_left e]
      rw [this]
      exact (hK i e).same (fun a h1 h2 => nAll a (by omega) (by omega) (by omega) (by omega) (by omega))
    · have e : i = K.length := by omega
      subst e
      have : gK (rcK N V K c (nI m) st) K.length = newK (nI (N 2)) (nI c) (fpI (usI (fun i => gK K i 0 2) K.length)) st (V 0 0) (nI m) := by
        simp [gK, List.getD_eq_getElem?_getD]
      rw [this]
      obtain ⟨⟨s0, s1, s2, s3, s4⟩, s5⟩ := sA'
      refine ⟨⟨?_, ?_, ?_, ?_, ?_⟩, fun k hk => ?_⟩
      · rw [nNew _ (by omega) (by omega), s0]; rfl
      · rw [nNew _ (by omega) (by omega), s1]; rfl
      · rw [nNew _ (by omega) (by omega), s2]; rfl
      · rw [nNew _ (by omega) (by omega), s3]; rfl
      · rw [nNew _ (by omega) (by omega), s4, ← a14]; rfl
      · obtain ⟨t1, t2, t3⟩ := s5 k hk
        refine ⟨?_, ?_, ?_⟩
        · rw [nNew _ (by omega) (by omega), t1]
          match k, hk with
          | 0, _ => rfl
          | 1, _ => rfl
          | 2, _ => rfl
          | 3, _ => rfl
        · rw [nNew _ (by omega) (by omega), t2]; rfl
        · rw [nNew _ (by omega) (by omega), t3]; rfl
  · have e3 : rcN N 3 = N 3 := by simp +decide only [u_n]
    rw [e3]
    intro i hi
    rw [up1_n (show 46 ≠ 0 by decide), up1_n (show 47 ≠ 0 by decide)]
    exact hL.same hN3 (fun a h1 h2 => nAll a (by omega) (by omega) (by omega) (by omega) (by omega)) i hi
  · have e4 : rcN N 4 = min (N 4 + 1) 10 := by simp +decide only [upA_s]
    rw [e4]
    rw [fB4] at sCJ
    exact sCJ.same (by omega) (fun a h1 h2 => nF a (by omega) (by omega))
end CM
