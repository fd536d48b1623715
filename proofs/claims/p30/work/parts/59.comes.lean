section
/-! a basket comes, in the reference -/
/-- the array behind the laying of a new basket -/
abbrev lyF (f : Nat → Int32) (n : Nat) (x0 x1 x2 x3 x4 d0 d1 d2 d3 : Int32) : Nat → Int32 := upA (upA (upA (upA (upA (upA (upA (upA (upA (upA (upA (upA (upA (upA (upA (upA (upA f (694 + 17 * n + 0) x0) (694 + 17 * n + 1) x1) (694 + 17 * n + 2) x2) (694 + 17 * n + 3) x3) (694 + 17 * n + 4) x4) (694 + 17 * n + 8) d3) (694 + 17 * n + 12) 0) (694 + 17 * n + 16) 0) (694 + 17 * n + 7) d2) (694 + 17 * n + 11) 0) (694 + 17 * n + 15) 0) (694 + 17 * n + 6) d1) (694 + 17 * n + 10) 0) (694 + 17 * n + 14) 0) (694 + 17 * n + 5) d0) (694 + 17 * n + 9) 0) (694 + 17 * n + 13) 0
theorem lyF_n {f : Nat → Int32} {n a : Nat} {x0 x1 x2 x3 x4 d0 d1 d2 d3 : Int32} (h : a < 694 + 17 * n ∨ 694 + 17 * n + 17 ≤ a) : lyF f n x0 x1 x2 x3 x4 d0 d1 d2 d3 a = f a := by
  unfold lyF
  rw [upA_n _ _ (by omega), upA_n _ _ (by omega), upA_n _ _ (by omega), upA_n _ _ (by omega), upA_n _ _ (by omega), upA_n _ _ (by omega), upA_n _ _ (by omega), upA_n _ _ (by omega), upA_n _ _ (by omega), upA_n _ _ (by omega), upA_n _ _ (by omega), upA_n _ _ (by omega), upA_n _ _ (by omega), upA_n _ _ (by omega), upA_n _ _ (by omega), upA_n _ _ (by omega), upA_n _ _ (by omega)]
theorem lyF_s {f : Nat → Int32} {n : Nat} {x0 x1 x2 x3 x4 d0 d1 d2 d3 : Int32} : (lyF f n x0 x1 x2 x3 x4 d0 d1 d2 d3 (694 + 17 * n + 0) = x0 ∧ lyF f n x0 x1 x2 x3 x4 d0 d1 d2 d3 (694 + 17 * n + 1) = x1 ∧ lyF f n x0 x1 x2 x3 x4 d0 d1 d2 d3 (694 + 17 * n + 2) = x2 ∧ lyF f n x0 x1 x2 x3 x4 d0 d1 d2 d3 (694 + 17 * n + 3) = x3 ∧ lyF f n x0 x1 x2 x3 x4 d0 d1 d2 d3 (694 + 17 * n + 4) = x4) ∧ ∀ k, k < 4 → lyF f n x0 x1 x2 x3 x4 d0 d1 d2 d3 (694 + 17 * n + (5 + k)) = (match k with | 0 => d0 | 1 => d1 | 2 => d2 | _ => d3) ∧ lyF f n x0 x1 x2 x3 x4 d0 d1 d2 d3 (694 + 17 * n + (9 + k)) = 0 ∧ lyF f n x0 x1 x2 x3 x4 d0 d1 d2 d3 (694 + 17 * n + (13 + k)) = 0 := by
  unfold lyF
  refine ⟨⟨?_, ?_, ?_, ?_, ?_⟩, fun k hk => ?_⟩
  · simp +decide only [upA_s, u_oo]
  · simp +decide only [upA_s, u_oo]
  · simp +decide only [upA_s, u_oo]
  · simp +decide only [upA_s, u_oo]
  · simp +decide only [upA_s, u_oo]
  · match k, hk with
    | 0, _ => refine ⟨?_, ?_, ?_⟩ <;> simp +decide only [upA_s, u_oo, Nat.add_zero]
    | 1, _ => refine ⟨?_, ?_, ?_⟩ <;> simp +decide only [upA_s, u_oo, Nat.reduceAdd]
    | 2, _ => refine ⟨?_, ?_, ?_⟩ <;> simp +decide only [upA_s, u_oo, Nat.reduceAdd]
    | 3, _ => refine ⟨?_, ?_, ?_⟩ <;> simp +decide only [upA_s, u_oo, Nat.reduceAdd]
theorem dig_ref {m : Nat} (hm : m ≤ 9999) : nI m - nI m / 10 * 10 = digI (nI m) 3 ∧ nI m / 10 - nI m / 10 / 10 * 10 = digI (nI m) 2 ∧ nI m / 10 / 10 - nI m / 10 / 10 / 10 * 10 = digI (nI m) 1 ∧ nI m / 10 / 10 / 10 - nI m / 10 / 10 / 10 / 10 * 10 = digI (nI m) 0 := by
  have e : ∀ a b : Nat, a ≤ 9999 → 0 < b → b < 2 ^ 31 → nI a / nI b = nI (a / b) := fun a b ha h0 hb => nI_divp (by omega) hb h0
  have t : (10 : Int32) = nI 10 := rfl
  have e1 : nI m / 10 = nI (m / 10) := by rw [t]; exact e _ _ hm (by decide) (by decide)
  have e2 : nI m / 10 / 10 = nI (m / 100) := by rw [e1, t, e _ _ (by omega) (by decide) (by decide), Nat.div_div_eq_div_mul]
  have e3 : nI m / 10 / 10 / 10 = nI (m / 1000) := by rw [e2, t, e _ _ (by omega) (by decide) (by decide), Nat.div_div_eq_div_mul]
  have g1 : nI m / 1 = nI m := by rw [show (1 : Int32) = nI 1 from rfl, e _ _ hm (by decide) (by decide), Nat.div_one]
  have g100 : nI m / 100 = nI (m / 100) := e _ 100 hm (by decide) (by decide)
  have g1000 : nI m / 1000 = nI (m / 1000) := e _ 1000 hm (by decide) (by decide)
  refine ⟨?_, rfl, ?_, ?_⟩
  · show _ = nI m / 1 - nI m / 1 / 10 * 10
    rw [g1]
  · show _ = nI m / 100 - nI m / 100 / 10 * 10
    rw [e2, g100]
  · show _ = nI m / 1000 - nI m / 1000 / 10 * 10
    rw [e3, g1000]
section CM
variable {T : Nat → Nat → Int32} {P : Nat → Nat → Nat} {f : Nat → Int32} {N : Nat → Nat} {V : Nat → Nat → Int32} {K : List kT} {B : List bT} {R : Nat → Nat → Int32} {p st : Int32} {c g m : Nat}
theorem WF.nr (hw : WF N V K B) : NR (N 0) B := ⟨fun q hq => by have := hw.2.2.2.2.2.1.1 q hq; omega, hw.2.2.2.2.2.1.2.1⟩
theorem WF.all (hw : WF N V K B) : allL B ≤ 2673 := by
  have h1 := all_le (n := 27) B (fun q hq => (hw.2.2.2.2.2.1.1 q hq).2.2.2.2)
  have := hw.2.2.2.2.2.1.2.2
  have := hw.1.2.2.1
  omega
theorem r_lay17 (hw : WF N V K B) (h : sR f N V K B R) (hm : m ≤ 9999) (h8 : K.length < 8) : ∃ v6 v7, X 150 0 [.ref 366, .int (nI c), .int (nI m), .int st, .int (nI g), .long 0, .long 0, .long 0] [] (H (upA T 367 f) P) = X 150 126 [.ref 366, .int (nI c), .int (nI m), .int st, .int (nI g), .int (nI K.length), v6, v7] [] (H (upA T 367 (lyF f K.length (nI (N 2)) (nI c) st (fpI (usI (fun i => gK K i 0 2) K.length)) (nI (N 0)) (digI (nI m) 0) (digI (nI m) 1) (digI (nI m) 2) (digI (nI m) 3))) P) := by
  obtain ⟨n, hn⟩ : ∃ n, n = K.length := ⟨_, rfl⟩
  have h16 := h.1.n
  have h6 : f 6 = nI (N 2) := h.1.2.1.2.2.1
  have h4 : f 4 = nI (N 0) := h.1.d
  rw [← hn] at h16 h8
  have u4 : ∀ (g : Nat → Int32) (w : Nat) (z : Int32), upA g (694 + 17 * n + w) z 4 = g 4 := fun g w z => upA_n _ _ (by omega)
  obtain ⟨q, hq⟩ : ∃ q, q = fpI (usI (fun i => gK K i 0 2) K.length) := ⟨_, rfl⟩
  have efp : X 149 0 [.ref 366, .long 0, .long 0] [] (H (upA T 367 (upA (upA (upA f (694 + 17 * n + 0) (nI (N 2))) (694 + 17 * n + 1) (nI c)) (694 + 17 * n + 2) st)) P) = some (some (.int q), H (upA T 367 (upA (upA (upA f (694 + 17 * n + 0) (nI (N 2))) (694 + 17 * n + 1) (nI c)) (694 + 17 * n + 2) st)) P) := by
    rw [hq]
    refine r_freePin ?_ (by omega) (fun i hi => ?_) (fun i hi => (hw.2.2.2.1 i _ (gK_at hi)).2.1)
    · rw [upA_n _ _ (by omega), upA_n _ _ (by omega), upA_n _ _ (by omega), ← hn]; exact h16
    · rw [upA_n _ _ (by omega), upA_n _ _ (by omega), upA_n _ _ (by omega)]; exact (h.2.2.2.1 i hi).1.2.2.2.1
  obtain ⟨g3, g2, g1, g0⟩ := dig_ref hm
  rw [← hq, ← hn]
  refine ⟨.int (nI m / 10 / 10 / 10 / 10), .int (-1), ?_⟩
  simp +decide only [x150_0, x150_1, x150_4, x150_6, x150_7, x150_9, x150_10, x150_12, x150_13, x150_14, x150_17, x150_19, x150_20, x150_23, x150_24, x150_26, x150_27, x150_28, x150_31, x150_32, x150_34, x150_35, x150_36, x150_39, x150_40, x150_42, x150_43, x150_44, x150_47, x150_50, x150_51, x150_53, x150_54, x150_55, x150_58, x150_59, x150_60, x150_63, x150_64, x150_66, x150_67, x150_69, x150_71, x150_74, x150_75, x150_77, x150_78, x150_80, x150_81, x150_83, x150_85, x150_86, x150_89, x150_90, x150_92, x150_94, x150_96, x150_97, x150_98, x150_101, x150_102, x150_104, x150_106, x150_108, x150_109, x150_110, x150_113, x150_115, x150_117, x150_118, x150_120, x150_123, x150_127, x150_128, x150_130, x150_133, x150_134, x150_135, x150_136, x150_139, x150_141, x150_142, x150_144, x150_147, x150_148, x150_151, x150_153, x150_154, x150_155, x150_156, x150_157, x150_158, x150_159, x150_162, x150_164, x150_165, x150_166, x150_167, x150_168, x150_169, x150_170, x150_173, x150_175, x150_176, x150_177, x150_178, aft_some, aft_void, Option.bind_some, Option.toList_some, Option.toList_none, List.cons_append, List.nil_append, if_true, if_false, ↓reduceIte, eq_self, z366_o, ↓z366_0, ↓z366_0p, ↓z366_1, ↓z366_2, ↓z366_3, ↓z366_4, ↓z366_4p, ↓z366_5, ↓z366_6, ↓z366_6p0, ↓z366_6p1, ↓z366_7, ↓z366_8, ↓z366_8p, ↓z366_9, ↓z366_9p, ↓z366_10, ↓z366_10p0, ↓z366_10p1, ↓z366_11, ↓z366_12, ↓z366_12p, ↓sg0, ↓sg1, ↓sg2, ↓sg3, ↓sg4, ↓sg5, ↓sg6, ↓sg7, ↓sg8, ↓sg9, ↓sg10, ↓sg11, ↓sg12, ↓sg13, ↓sg14, ↓sg15, ↓sg16, ↓sg17, ↓ss0, ↓ss1, ↓ss2, ↓ss3, ↓ss4, ↓ss5, ↓ss6, ↓ss7, ↓ss8, ↓ss9, ↓ss10, ↓ss11, ↓ss12, ↓ss13, ↓ss14, ↓ss15, ↓ss16, ↓ss17, h16, h6, h4, u4, ↓aft_of (efp), Int32.reduceAdd, g0, g1, g2, g3, ↓aft_of (r_lay (i := n) (w := 0) (y := 0) rfl h8 (by decide)), ↓aft_of (r_lay (i := n) (w := 1) (y := 1) rfl h8 (by decide)), ↓aft_of (r_lay (i := n) (w := 2) (y := 2) rfl h8 (by decide)), ↓aft_of (r_lay (i := n) (w := 3) (y := 3) rfl h8 (by decide)), ↓aft_of (r_lay (i := n) (w := 4) (y := 4) rfl h8 (by decide)), ↓aft_of (r_lay (i := n) (w := 5) (y := 5) rfl h8 (by decide)), ↓aft_of (r_lay (i := n) (w := 6) (y := 6) rfl h8 (by decide)), ↓aft_of (r_lay (i := n) (w := 7) (y := 7) rfl h8 (by decide)), ↓aft_of (r_lay (i := n) (w := 8) (y := 8) rfl h8 (by decide)), ↓aft_of (r_lay (i := n) (w := 9) (y := 9) rfl h8 (by decide)), ↓aft_of (r_lay (i := n) (w := 10) (y := 10) rfl h8 (by decide)), ↓aft_of (r_lay (i := n) (w := 11) (y := 11) rfl h8 (by decide)), ↓aft_of (r_lay (i := n) (w := 12) (y := 12) rfl h8 (by decide)), ↓aft_of (r_lay (i := n) (w := 13) (y := 13) rfl h8 (by decide)), ↓aft_of (r_lay (i := n) (w := 14) (y := 14) rfl h8 (by decide)), ↓aft_of (r_lay (i := n) (w := 15) (y := 15) rfl h8 (by decide)), ↓aft_of (r_lay (i := n) (w := 16) (y := 16) rfl h8 (by decide))]
theorem r_comes (h : sR f N V K B R) (hw : WF N V K B) (hm : m ≤ 9999) (hc : c < N 1) (h8 : K.length < 8) (h99 : N 2 < 99) (hg : g ≤ outL c B) :
    ∃ f', X 150 0 [.ref 366, .int (nI c), .int (nI m), .int st, .int (nI g), .long 0, .long 0, .long 0] [] (H (upA T 367 f) P) = some (some (.int (nI (N 2))), H (upA T 367 f') P) ∧ sR f' (rcN N) (up1 V 0 1 (V 0 1 + nI g)) (rcK N V K c (nI m) st) (dropE (tkL c g B)) (wrB R 0 (V 0 0) (nI (N 2)) (nI g)) := by
  have hN1 := hw.1.2.1
  have hN4 := hw.1.2.2.2.2.2
  have hN3 := hw.1.2.2.2.2.1
  have hall := hw.all
  have hol := out_le c B
  obtain ⟨v6, v7, e1⟩ := r_lay17 (T := T) (P := P) (c := c) (st := st) (g := g) hw h hm h8
  obtain ⟨⟨a1, ⟨a2, a3, a4, a5⟩, ⟨a6, a7, a8⟩, a9, ⟨a10, a11, a12⟩, a13, a14⟩, hC, hO, hK, hL, hJ⟩ := id h
  obtain ⟨n, hn⟩ : ∃ n, n = K.length := ⟨_, rfl⟩
  obtain ⟨q, hq⟩ : ∃ q, q = fpI (usI (fun i => gK K i 0 2) K.length) := ⟨_, rfl⟩
  obtain ⟨fA, hfA⟩ : ∃ fA, fA = lyF f K.length (nI (N 2)) (nI c) st (fpI (usI (fun i => gK K i 0 2) K.length)) (nI (N 0)) (digI (nI m) 0) (digI (nI m) 1) (digI (nI m) 2) (digI (nI m) 3) := ⟨_, rfl⟩
  have nA : ∀ a, (a < 694 + 17 * K.length ∨ 694 + 17 * K.length + 17 ≤ a) → fA a = f a := fun a ha => by rw [hfA]; exact lyF_n ha
  have sA' := @lyF_s f K.length (nI (N 2)) (nI c) st (fpI (usI (fun i => gK K i 0 2) K.length)) (nI (N 0)) (digI (nI m) 0) (digI (nI m) 1) (digI (nI m) 2) (digI (nI m) 3)
  rw [← hfA] at e1 sA'
  obtain ⟨fB, e2, nB, sB7, sBr⟩ := r_comeBack (T := T) (P := P) (f := fA) (c := c) (D := N 0) (B := B) (g := g) (by omega) (by rw [nA 4 (by omega)]; exact a2) hw.1.1 hw.nr (by omega) hg (fun k hk => by rw [nA _ (by omega)]; exact hO c (by omega) k hk)
  have nB' : ∀ a, (a < 54 ∨ 694 ≤ a) → a ≠ 7 → fB a = fA a := fun a ha h7 => nB a (by omega) h7
  obtain ⟨fC, e3, nC, sC17, sCJ⟩ := r_books (T := T) (P := P) (f := fB) (n := N 4) (R := R) (e := 0) (x := nI (N 2)) (y := nI g) (by rw [nB' 17 (by decide) (by decide), nA 17 (by omega)]; exact a12) hN4 (hJ.same hN4 (fun a h1 h2 => by rw [nB' a (by omega) (by omega), nA a (by omega)]))
  have fB4 : fB 4 = V 0 0 := by rw [nB' 4 (by decide) (by decide), nA 4 (by omega), a2, a14]
  have fB6 : fB 6 = nI (N 2) := by rw [nB' 6 (by decide) (by decide), nA 6 (by omega), a4]
  have fC16 : fC 16 = nI K.length := by rw [nC 16 (by decide) (by decide), nB' 16 (by decide) (by decide), nA 16 (by omega), a11]
  have fC6 : fC 6 = nI (N 2) := by rw [nC 6 (by decide) (by decide)]; exact fB6
  have k1 : nI K.length + 1 = nI (K.length + 1) := nI_add _ 1
  have k2 : nI (N 2) + 1 = nI (N 2 + 1) := nI_add _ 1
  have k3 : nI (N 2 + 1) - 1 = nI (N 2) := nI_pred _
  have nF : ∀ a, a ≠ 16 → a ≠ 6 → upA (upA fC 16 (nI (K.length + 1))) 6 (nI (N 2 + 1)) a = fC a := fun a h1 h2 => by rw [upA_n _ _ h2, upA_n _ _ h1]
  have nAll : ∀ a, a ≠ 16 → a ≠ 6 → a ≠ 7 → a ≠ 17 → (a < 54 ∨ (694 ≤ a ∧ a < 694 + 17 * K.length) ∨ (694 + 17 * K.length + 17 ≤ a ∧ a < 870)) → upA (upA fC 16 (nI (K.length + 1))) 6 (nI (N 2 + 1)) a = f a := fun a h1 h2 h3 h4 h5 => by
    rw [nF a h1 h2, nC a h4 (by omega), nB' a (by omega) h3, nA a (by omega)]
  have nNew : ∀ a, 694 + 17 * K.length ≤ a → a < 694 + 17 * K.length + 17 → upA (upA fC 16 (nI (K.length + 1))) 6 (nI (N 2 + 1)) a = fA a := fun a h1 h2 => by
    rw [nF a (by omega) (by omega), nC a (by omega) (by omega), nB' a (by omega) (by omega)]
  refine ⟨upA (upA fC 16 (nI (K.length + 1))) 6 (nI (N 2 + 1)), ?_, ⟨fun j hj => ?_, ⟨?_, ?_, ?_, ?_⟩, ⟨?_, ?_, ?_⟩, fun j hj => ?_, ⟨?_, ?_, ?_⟩, fun d hd => ?_, ?_⟩, ?_, ?_, ?_, ?_, ?_⟩
  · rw [e1]
    simp +decide only [x150_126, x150_127, x150_128, x150_130, x150_133, x150_134, x150_135, x150_136, x150_139, x150_141, x150_142, x150_144, x150_147, x150_148, x150_151, x150_153, x150_154, x150_155, x150_156, x150_157, x150_158, x150_159, x150_162, x150_164, x150_165, x150_166, x150_167, x150_168, x150_169, x150_170, x150_173, x150_175, x150_176, x150_177, x150_178, aft_some, aft_void, Option.bind_some, Option.toList_some, Option.toList_none, List.cons_append, List.nil_append, if_true, if_false, ↓reduceIte, eq_self, z366_o, ↓z366_0, ↓z366_0p, ↓z366_1, ↓z366_2, ↓z366_3, ↓z366_4, ↓z366_4p, ↓z366_5, ↓z366_6, ↓z366_6p0, ↓z366_6p1, ↓z366_7, ↓z366_8, ↓z366_8p, ↓z366_9, ↓z366_9p, ↓z366_10, ↓z366_10p0, ↓z366_10p1, ↓z366_11, ↓z366_12, ↓z366_12p, ↓sg0, ↓sg1, ↓sg2, ↓sg3, ↓sg4, ↓sg5, ↓sg6, ↓sg7, ↓sg8, ↓sg9, ↓sg10, ↓sg11, ↓sg12, ↓sg13, ↓sg14, ↓sg15, ↓sg16, ↓sg17, ↓ss0, ↓ss1, ↓ss2, ↓ss3, ↓ss4, ↓ss5, ↓ss6, ↓ss7, ↓ss8, ↓ss9, ↓ss10, ↓ss11, ↓ss12, ↓ss13, ↓ss14, ↓ss15, ↓ss16, ↓ss17, upA_s, u_n, ↓aft_of (e2), ↓aft_of (e3), fB6, fC16, fC6, k1, k2, k3]
  · rw [nAll j (by omega) (by omega) (by omega) (by omega) (by omega), up1_n (show 1 ≠ 0 by decide)]; exact a1 j hj
  · rw [nAll 4 (by decide) (by decide) (by decide) (by decide) (by omega), a2]; simp +decide only [u_n]
  · rw [nAll 5 (by decide) (by decide) (by decide) (by decide) (by omega), a3]; simp +decide only [u_n]
  · rw [upA_s]; simp +decide only [u_n, upA_s]
  · rw [nF 7 (by decide) (by decide), nC 7 (by decide) (by decide), sB7, nA 7 (by omega), a5, up1_s, upA_s]
  · rw [nAll 8 (by decide) (by decide) (by decide) (by decide) (by omega), a6, up1_n (show 6 ≠ 0 by decide)]; simp +decide only [u_n]
  · rw [nAll 9 (by decide) (by decide) (by decide) (by decide) (by omega), a7, up1_s, upA_n _ _ (show 2 ≠ 1 by decide)]
  · rw [nAll 10 (by decide) (by decide) (by decide) (by decide) (by omega), a8]; simp +decide only [u_n]
  · rw [nAll _ (by omega) (by omega) (by omega) (by omega) (by omega), up1_n (show 48 ≠ 0 by decide)]; exact a9 j hj
  · rw [nAll 15 (by decide) (by decide) (by decide) (by decide) (by omega), a10, up1_s, upA_n _ _ (show 3 ≠ 1 by decide)]
  · rw [upA_n _ _ (show 16 ≠ 6 by decide), upA_s, List.length_append]; rfl
  · rw [nF 17 (by decide) (by decide), sC17]; simp +decide only [upA_s]
  · rw [nAll _ (by omega) (by omega) (by omega) (by omega) (by omega), up1_n (show 2 ≠ 0 by decide)]; exact a13 d hd
  · rw [up1_s, upA_n _ _ (show 0 ≠ 1 by decide), a14]; simp +decide only [u_n]
  · have e1 : rcN N 1 = N 1 := by simp +decide only [u_n]
    intro c' hc'
    rw [e1, up1_n (show 4 ≠ 0 by decide), up1_n (show 5 ≠ 0 by decide), up1_n (show 6 ≠ 0 by decide)]
    exact hC.same (fun a h1 h2 => nAll a (by omega) (by omega) (by omega) (by omega) (by omega)) c' hc'
  · intro c' hc' k hk
    rw [rg_drop, nF _ (by omega) (by omega), nC _ (by omega) (by omega)]
    by_cases e : c' = c
    · subst e; exact sBr k hk
    · rw [nB _ (by omega) (by omega), nA _ (by omega), rg_tk_ne e]; exact hO c' hc' k hk
  · intro i hi
    rw [List.length_append, List.length_singleton] at hi
    by_cases e : i < K.length
    · have : gK (rcK N V K c (nI m) st) i = gK K i := by
        simp [gK, List.getD_eq_getElem?_getD, List.getElem?_append_left e]
      rw [this]
      exact (hK i e).same (fun a h1 h2 => nAll a (by omega) (by omega) (by omega) (by omega) (by omega))
    · have e : i = K.length := by omega
      subst e
      have : gK (rcK N V K c (nI m) st) K.length = newK (nI (N 2)) (nI c) (fpI (usI (fun i => gK K i 0 2) K.length)) st (V 0 0) (nI m) := by
        simp [gK, List.getD_eq_getElem?_getD]
      rw [this]
      obtain ⟨⟨s0, s1, s2, s3, s4⟩, s5⟩ := sA'
      refine ⟨⟨?_, ?_, ?_, ?_, ?_⟩, fun k hk => ?_⟩
      · rw [nNew _ (by omega) (by omega), s0]; rfl
      · rw [nNew _ (by omega) (by omega), s1]; rfl
      · rw [nNew _ (by omega) (by omega), s2]; rfl
      · rw [nNew _ (by omega) (by omega), s3]; rfl
      · rw [nNew _ (by omega) (by omega), s4, ← a14]; rfl
      · obtain ⟨t1, t2, t3⟩ := s5 k hk
        refine ⟨?_, ?_, ?_⟩
        · rw [nNew _ (by omega) (by omega), t1]
          match k, hk with
          | 0, _ => rfl
          | 1, _ => rfl
          | 2, _ => rfl
          | 3, _ => rfl
        · rw [nNew _ (by omega) (by omega), t2]; rfl
        · rw [nNew _ (by omega) (by omega), t3]; rfl
  · have e3 : rcN N 3 = N 3 := by simp +decide only [u_n]
    rw [e3]
    intro i hi
    rw [up1_n (show 46 ≠ 0 by decide), up1_n (show 47 ≠ 0 by decide)]
    exact hL.same hN3 (fun a h1 h2 => nAll a (by omega) (by omega) (by omega) (by omega) (by omega)) i hi
  · have e4 : rcN N 4 = min (N 4 + 1) 10 := by simp +decide only [upA_s]
    rw [e4]
    rw [fB4] at sCJ
    exact sCJ.same (by omega) (fun a h1 h2 => nF a (by omega) (by omega))
end CM
end
section
/-! hangers that are paid, in the reference -/
abbrev sS (f : Nat → Int32) (s : sT) (K : List kT) : Prop := sR f s.1 s.2.1 K s.2.2.1 s.2.2.2
/-- the age of a place of the ring -/
abbrev agN (D k : Nat) : Nat := (D + 64 - k) % 64
theorem rg_zero {D g c k : Nat} (hk : k < 64) : ∀ {B : List bT}, NR D B → rgL c k (zeroL (D - g) c B) = if g < agN D k then 0 else rgL c k B
  | [], _ => by simp only [zeroL, List.map_nil, rgL]; split <;> rfl
  | q :: B, hN => by
    have ih := rg_zero (g := g) (c := c) hk hN.tl
    have hq := hN.1 q List.mem_cons_self
    have ez : zeroL (D - g) c (q :: B) = (if q.1 = c ∧ q.2.1 < D - g then (q.1, q.2.1, 0) else q) :: zeroL (D - g) c B := rfl
    rw [ez]
    by_cases h1 : q.1 = c ∧ q.2.1 < D - g
    · rw [if_pos h1]
      simp only [rgL]
      rw [ih]
      by_cases h2 : q.1 = c ∧ q.2.1 % 64 = k
      · have ha : g < agN D k := by show g < (D + 64 - k) % 64; omega
        rw [if_pos h2, if_pos ha, if_pos ha]
      · rw [if_neg h2, if_neg h2]
        split <;> omega
    · rw [if_neg h1]
      simp only [rgL]
      rw [ih]
      by_cases h2 : q.1 = c ∧ q.2.1 % 64 = k
      · have ha : ¬ g < agN D k := by
          intro z
          have z : g < (D + 64 - k) % 64 := z
          exact h1 ⟨h2.1, by omega⟩
        rw [if_neg ha, if_neg ha]
      · rw [if_neg h2]
        split <;> omega
theorem rg_zero_n {l0 c c' k : Nat} (h : c' ≠ c) : ∀ {B : List bT}, rgL c' k (zeroL l0 c B) = rgL c' k B
  | [] => rfl
  | q :: B => by
    have ih := rg_zero_n (l0 := l0) (k := k) h (B := B)
    have ez : zeroL l0 c (q :: B) = (if q.1 = c ∧ q.2.1 < l0 then (q.1, q.2.1, 0) else q) :: zeroL l0 c B := rfl
    rw [ez]
    by_cases h1 : q.1 = c ∧ q.2.1 < l0
    · rw [if_pos h1]
      have hn : ¬ q.1 = c' := fun e => h (e.symm.trans h1.1)
      simp only [rgL, hn, false_and, if_false]
      rw [ih]
    · rw [if_neg h1]
      simp only [rgL]
      rw [ih]
theorem old_sum {D g c : Nat} : ∀ {B : List bT}, NR D B → oldL (D - g) c B = sN (fun k => if g < agN D k then rgL c k B else 0) 64
  | [], _ => by
    rw [sN_congr (h := fun _ => 0) (fun k _ => by simp only [rgL]; split <;> rfl), sN_0]
    rfl
  | q :: B, hN => by
    have ih := old_sum (g := g) (c := c) hN.tl
    have hq := hN.1 q List.mem_cons_self
    have e : sN (fun k => if g < agN D k then rgL c k (q :: B) else 0) 64 = sN (fun k => if q.2.1 % 64 = k then (if q.1 = c ∧ g < agN D (q.2.1 % 64) then q.2.2 else 0) else 0) 64 + sN (fun k => if g < agN D k then rgL c k B else 0) 64 := by
      rw [← sN_add]
      refine sN_congr (fun k _ => ?_)
      simp only [rgL]
      by_cases h2 : q.2.1 % 64 = k
      · subst h2
        by_cases h1 : q.1 = c
        · by_cases h3 : g < agN D (q.2.1 % 64)
          · simp only [h1, h3, and_self, if_true]
          · simp only [h1, h3, and_false, if_true, if_false]
        · simp only [h1, false_and, if_true, if_false, Nat.zero_add]
      · simp only [h2, and_false, if_false, Nat.zero_add]
    rw [e, sN_one, if_pos (Nat.mod_lt _ (by decide)), ← ih]
    simp only [oldL]
    congr 1
    by_cases h1 : q.1 = c
    · by_cases h2 : q.2.1 < D - g
      · have : g < agN D (q.2.1 % 64) := by show g < (D + 64 - q.2.1 % 64) % 64; omega
        rw [if_pos ⟨h1, h2⟩, if_pos ⟨h1, this⟩]
      · have : ¬ g < agN D (q.2.1 % 64) := by
          intro z
          have z : g < (D + 64 - q.2.1 % 64) % 64 := z
          omega
        rw [if_neg (fun z => h2 z.2), if_neg (fun z => this z.2)]
    · rw [if_neg (fun z => h1 z.1), if_neg (fun z => h1 z.1)]
theorem old_le (l0 c : Nat) : ∀ B : List bT, oldL l0 c B ≤ allL B
  | [] => Nat.le_refl _
  | q :: B => by
    have := old_le l0 c B
    simp only [oldL, allL]
    split <;> omega
section PY
variable {T : Nat → Nat → Int32} {P : Nat → Nat → Nat} {f : Nat → Int32} {N : Nat → Nat} {V : Nat → Nat → Int32} {K : List kT} {B : List bT} {R : Nat → Nat → Int32} {c g : Nat}
theorem r_pays (h : sR f N V K B R) (hc : c < N 1) (hN1 : N 1 ≤ 10) (hD : N 0 ≤ 10100) (h8 : K.length ≤ 8) (h20 : N 3 ≤ 20) (h10 : N 4 ≤ 10) (hN : NR (N 0) B) (hA : allL B ≤ 2673) (hg : V 1 2 = nI g) (hg60 : g ≤ 60) :
    ∃ f', X 164 0 [.ref 366, .int (nI c), .long 0, .long 0] [] (H (upA T 367 f) P) = some (none, H (upA T 367 f') P) ∧ sS f' (chS (N 0 - g) (N, V, B, R) c) K := by
  obtain ⟨⟨a1, ⟨a2, a3, a4, a5⟩, ⟨a6, a7, a8⟩, a9, ⟨a10, a11, a12⟩, a13, a14⟩, hC, hO, hK, hL, hJ⟩ := id h
  have hol := out_le c B
  obtain ⟨G, eG, i1, i2⟩ := loop_ex (fun i (G : Nat → Int32) => X 164 4 [.ref 366, .int (nI c), .int (nI (sN (fun k => if g < agN (N 0) k then rgL c k B else 0) i)), .int (nI i)] [] (H (upA T 367 G) P)) (fun i G => (∀ a, (a < 54 + 64 * c ∨ 54 + 64 * c + i ≤ a) → G a = f a) ∧ ∀ k, k < i → G (54 + 64 * c + k) = nI (if g < agN (N 0) k then 0 else rgL c k B)) 64 f ⟨fun _ _ => rfl, fun k hk => absurd hk (Nat.not_lt_zero k)⟩ (by
    intro i G hi ⟨i1, i2⟩
    have hlt : nI i < 64 := nI_lt hi (by decide)
    have ea := r_ageOf (T := T) (P := P) (f := G) (D := N 0) (k := i) (by rw [i1 4 (by omega)]; exact a2) hD hi
    have e2 : G 2 = nI g := by rw [i1 2 (by omega), a1 2 (by decide), hg]
    have hag : agN (N 0) i < 64 := Nat.mod_lt _ (by decide)
    have ec : (nI g < nI (agN (N 0) i)) = (g < agN (N 0) i) := nI_ltp (by omega) (by omega)
    have hix : 54 + 64 * nI c + nI i = nI (54 + 64 * c + i) := ixO rfl
    have hik : 54 + 64 * c + i < 912 := by omega
    have hv : G (54 + 64 * c + i) = nI (rgL c i B) := by rw [i1 _ (by omega)]; exact hO c (by omega) i hi
    by_cases q : g < agN (N 0) i
    · refine ⟨upA G (54 + 64 * c + i) 0, ?_, fun a ha => ?_, fun k hk => ?_⟩
      · show X 164 4 [.ref 366, .int (nI c), .int (nI (sN (fun k => if g < agN (N 0) k then rgL c k B else 0) i)), .int (nI i)] [] (H (upA T 367 G) P) = _
        rw [x164_4]
        simp +decide only [x164_0, x164_1, x164_2, x164_3, x164_5, x164_7, x164_10, x164_11, x164_12, x164_15, x164_16, x164_19, x164_20, x164_21, x164_24, x164_25, x164_26, x164_29, x164_31, x164_33, x164_34, x164_35, x164_36, x164_37, x164_38, x164_39, x164_40, x164_41, x164_42, x164_45, x164_47, x164_49, x164_50, x164_51, x164_52, x164_53, x164_54, x164_55, x164_56, x164_59, x164_62, x164_63, x164_66, x164_67, x164_68, x164_69, x164_70, x164_71, x164_72, x164_75, x164_76, x164_77, x164_80, x164_81, x164_82, x164_83, x164_84, x164_87, x164_88, x164_89, x164_90, x164_91, x164_92, x164_93, x164_96, x164_97, x164_98, x164_101, x164_102, x164_105, x164_107, x164_108, x164_109, x164_110, x164_111, x164_112, x164_113, x164_114, x164_115, x164_116, x164_117, x164_120, x164_121, x164_122, x164_123, x164_126, aft_some, aft_void, Option.bind_some, Option.toList_some, Option.toList_none, List.cons_append, List.nil_append, if_true, if_false, ↓reduceIte, eq_self, z366_o, ↓z366_0, ↓z366_0p, ↓z366_1, ↓z366_2, ↓z366_3, ↓z366_4, ↓z366_4p, ↓z366_5, ↓z366_6, ↓z366_6p0, ↓z366_6p1, ↓z366_7, ↓z366_8, ↓z366_8p, ↓z366_9, ↓z366_9p, ↓z366_10, ↓z366_10p0, ↓z366_10p1, ↓z366_11, ↓z366_12, ↓z366_12p, ↓sg0, ↓sg1, ↓sg2, ↓sg3, ↓sg4, ↓sg5, ↓sg6, ↓sg7, ↓sg8, ↓sg9, ↓sg10, ↓sg11, ↓sg12, ↓sg13, ↓sg14, ↓sg15, ↓sg16, ↓sg17, ↓ss0, ↓ss1, ↓ss2, ↓ss3, ↓ss4, ↓ss5, ↓ss6, ↓ss7, ↓ss8, ↓ss9, ↓ss10, ↓ss11, ↓ss12, ↓ss13, ↓ss14, ↓ss15, ↓ss16, ↓ss17, hlt, ↓aft_of (ea), e2, ec, q, hix, ↓s_g hik, ↓s_s hik, hv, nI_add, nI_1, sN]
      · rw [upA_n _ _ (by omega)]; exact i1 a (by omega)
      · by_cases e : k = i
        · rw [e, upA_s, if_pos q]; rfl
        · rw [upA_n _ _ (by omega)]; exact i2 k (by omega)
    · refine ⟨G, ?_, fun a ha => i1 a (by omega), fun k hk => ?_⟩
      · show X 164 4 [.ref 366, .int (nI c), .int (nI (sN (fun k => if g < agN (N 0) k then rgL c k B else 0) i)), .int (nI i)] [] (H (upA T 367 G) P) = _
        rw [x164_4]
        simp +decide only [x164_0, x164_1, x164_2, x164_3, x164_5, x164_7, x164_10, x164_11, x164_12, x164_15, x164_16, x164_19, x164_20, x164_21, x164_24, x164_25, x164_26, x164_29, x164_31, x164_33, x164_34, x164_35, x164_36, x164_37, x164_38, x164_39, x164_40, x164_41, x164_42, x164_45, x164_47, x164_49, x164_50, x164_51, x164_52, x164_53, x164_54, x164_55, x164_56, x164_59, x164_62, x164_63, x164_66, x164_67, x164_68, x164_69, x164_70, x164_71, x164_72, x164_75, x164_76, x164_77, x164_80, x164_81, x164_82, x164_83, x164_84, x164_87, x164_88, x164_89, x164_90, x164_91, x164_92, x164_93, x164_96, x164_97, x164_98, x164_101, x164_102, x164_105, x164_107, x164_108, x164_109, x164_110, x164_111, x164_112, x164_113, x164_114, x164_115, x164_116, x164_117, x164_120, x164_121, x164_122, x164_123, x164_126, aft_some, aft_void, Option.bind_some, Option.toList_some, Option.toList_none, List.cons_append, List.nil_append, if_true, if_false, ↓reduceIte, eq_self, z366_o, ↓z366_0, ↓z366_0p, ↓z366_1, ↓z366_2, ↓z366_3, ↓z366_4, ↓z366_4p, ↓z366_5, ↓z366_6, ↓z366_6p0, ↓z366_6p1, ↓z366_7, ↓z366_8, ↓z366_8p, ↓z366_9, ↓z366_9p, ↓z366_10, ↓z366_10p0, ↓z366_10p1, ↓z366_11, ↓z366_12, ↓z366_12p, ↓sg0, ↓sg1, ↓sg2, ↓sg3, ↓sg4, ↓sg5, ↓sg6, ↓sg7, ↓sg8, ↓sg9, ↓sg10, ↓sg11, ↓sg12, ↓sg13, ↓sg14, ↓sg15, ↓sg16, ↓sg17, ↓ss0, ↓ss1, ↓ss2, ↓ss3, ↓ss4, ↓ss5, ↓ss6, ↓ss7, ↓ss8, ↓ss9, ↓ss10, ↓ss11, ↓ss12, ↓ss13, ↓ss14, ↓ss15, ↓ss16, ↓ss17, hlt, ↓aft_of (ea), e2, ec, q, nI_1, sN, Nat.add_zero]
      · by_cases e : k = i
        · rw [e, if_neg q]; exact hv
        · exact i2 k (by omega))
  rw [← old_sum hN] at eG
  have eG : X 164 4 [.ref 366, .int (nI c), .int 0, .int 0] [] (H (upA T 367 f) P) = X 164 4 [.ref 366, .int (nI c), .int (nI (oldL (N 0 - g) c B)), .int 64] [] (H (upA T 367 G) P) := eG
  have hold := old_le (N 0 - g) c B
  have nG : ∀ a, (a < 54 ∨ 694 ≤ a) → G a = f a := fun a ha => i1 a (by omega)
  have hGO : sO G (dropE (zeroL (N 0 - g) c B)) := by
    intro c' hc' k hk
    rw [rg_drop]
    by_cases e : c' = c
    · subst e; rw [i2 k hk, rg_zero hk hN]
    · rw [i1 _ (by omega), rg_zero_n e]; exact hO c' hc' k hk
  have epos : (0 < nI (oldL (N 0 - g) c B)) = (0 < oldL (N 0 - g) c B) := nI_posn (by omega)
  by_cases q : 0 < oldL (N 0 - g) c B
  · obtain ⟨x, hx⟩ : ∃ x, x = nI (oldL (N 0 - g) c B) := ⟨_, rfl⟩
    have es : chS (N 0 - g) (N, V, B, R) c = (hoN N, chV V c (oldL (N 0 - g) c B), dropE (zeroL (N 0 - g) c B), wrB R 2 (V 0 0) (nI c) (nI (oldL (N 0 - g) c B) * V 1 3)) := if_pos q
    rw [es]
    rw [← hx] at eG epos ⊢
    have e1 := r_ofCust (T := T) (P := P) (f := G) (i := c) (w := 1) (y := 1) rfl (by omega) (by decide)
    have l1 := r_layCust (T := T) (P := P) (f := G) (i := c) (w := 1) (y := 1) (z := G (24 + 3 * c + 1) + x * V 1 3) rfl (by omega) (by decide)
    obtain ⟨G1, hG1⟩ : ∃ G1, G1 = upA G (24 + 3 * c + 1) (G (24 + 3 * c + 1) + x * V 1 3) := ⟨_, rfl⟩
    rw [← hG1] at l1
    have e2 := r_ofCust (T := T) (P := P) (f := G1) (i := c) (w := 2) (y := 2) rfl (by omega) (by decide)
    have l2 := r_layCust (T := T) (P := P) (f := G1) (i := c) (w := 2) (y := 2) (z := G1 (24 + 3 * c + 2) + x) rfl (by omega) (by decide)
    obtain ⟨G2, hG2⟩ : ∃ G2, G2 = upA G1 (24 + 3 * c + 2) (G1 (24 + 3 * c + 2) + x) := ⟨_, rfl⟩
    rw [← hG2] at l2
    obtain ⟨G3, hG3⟩ : ∃ G3, G3 = upA G2 8 (G2 8 + x) := ⟨_, rfl⟩
    have n2 : ∀ a, (a < 24 + 3 * c + 1 ∨ 24 + 3 * c + 2 < a) → G2 a = G a := fun a ha => by rw [hG2, upA_n _ _ (by omega), hG1, upA_n _ _ (by omega)]
    have n3 : ∀ a, a ≠ 8 → (a < 24 + 3 * c + 1 ∨ 24 + 3 * c + 2 < a) → G3 a = G a := fun a h8 ha => by rw [hG3, upA_n _ _ h8]; exact n2 a ha
    have p0 : G 3 = V 1 3 := by rw [nG 3 (by decide)]; exact a1 3 (by decide)
    have p3 : G3 3 = V 1 3 := by rw [n3 3 (by decide) (by omega)]; exact p0
    obtain ⟨G4, e4, n4, s17, sJ4⟩ := r_books (T := T) (P := P) (f := G3) (n := N 4) (R := R) (e := 2) (x := nI c) (y := x * V 1 3) (by rw [n3 17 (by decide) (by omega), nG 17 (by decide)]; exact a12) h10 (hJ.same h10 (fun a h1 h2 => by rw [n3 a (by omega) (by omega), nG a (by omega)]))
    have g34 : G3 4 = V 0 0 := by rw [n3 4 (by decide) (by omega), nG 4 (by decide), a2, a14]
    rw [g34] at sJ4
    have nAll : ∀ a, a ≠ 8 → a ≠ 17 → (a < 24 + 3 * c + 1 ∨ 24 + 3 * c + 2 < a) → (a < 54 ∨ (694 ≤ a ∧ a < 870)) → G4 a = f a := fun a h8 h17 h1 h2 => by
      rw [n4 a h17 (by omega), n3 a h8 h1, nG a (by omega)]
    have v5 : chV V c (oldL (N 0 - g) c B) 5 = upA (V 5) c (V 5 c + x * V 1 3) := by rw [hx]; exact upA_s _ _ _
    have v6 : chV V c (oldL (N 0 - g) c B) 6 = upA (V 6) c (V 6 c + x) := by
      rw [hx]
      show upA _ 5 _ 6 = _
      rw [upA_n _ _ (by decide), upA_s]
    have vn : ∀ r, r ≠ 5 → r ≠ 6 → chV V c (oldL (N 0 - g) c B) r = V r := fun r h5 h6 => by
      show upA _ 5 _ r = _
      rw [upA_n _ _ h5, upA_n _ _ h6]
    have hn : ∀ r, r ≠ 4 → hoN N r = N r := fun r hr => upA_n _ _ hr
    refine ⟨G4, ?_, ⟨fun j hj => ?_, ⟨?_, ?_, ?_, ?_⟩, ⟨?_, ?_, ?_⟩, fun j hj => ?_, ⟨?_, ?_, ?_⟩, fun d hd => ?_, ?_⟩, ?_, ?_, ?_, ?_, ?_⟩
    · simp +decide only [x164_0, x164_1, x164_2, x164_3, x164_5, x164_7, x164_10, x164_11, x164_12, x164_15, x164_16, x164_19, x164_20, x164_21, x164_24, x164_25, x164_26, x164_29, x164_31, x164_33, x164_34, x164_35, x164_36, x164_37, x164_38, x164_39, x164_40, x164_41, x164_42, x164_45, x164_47, x164_49, x164_50, x164_51, x164_52, x164_53, x164_54, x164_55, x164_56, x164_59, x164_62, x164_63, x164_66, x164_67, x164_68, x164_69, x164_70, x164_71, x164_72, x164_75, x164_76, x164_77, x164_80, x164_81, x164_82, x164_83, x164_84, x164_87, x164_88, x164_89, x164_90, x164_91, x164_92, x164_93, x164_96, x164_97, x164_98, x164_101, x164_102, x164_105, x164_107, x164_108, x164_109, x164_110, x164_111, x164_112, x164_113, x164_114, x164_115, x164_116, x164_117, x164_120, x164_121, x164_122, x164_123, x164_126, aft_some, aft_void, Option.bind_some, Option.toList_some, Option.toList_none, List.cons_append, List.nil_append, if_true, if_false, ↓reduceIte, eq_self]
      rw [eG, x164_4]
      simp +decide only [x164_0, x164_1, x164_2, x164_3, x164_5, x164_7, x164_10, x164_11, x164_12, x164_15, x164_16, x164_19, x164_20, x164_21, x164_24, x164_25, x164_26, x164_29, x164_31, x164_33, x164_34, x164_35, x164_36, x164_37, x164_38, x164_39, x164_40, x164_41, x164_42, x164_45, x164_47, x164_49, x164_50, x164_51, x164_52, x164_53, x164_54, x164_55, x164_56, x164_59, x164_62, x164_63, x164_66, x164_67, x164_68, x164_69, x164_70, x164_71, x164_72, x164_75, x164_76, x164_77, x164_80, x164_81, x164_82, x164_83, x164_84, x164_87, x164_88, x164_89, x164_90, x164_91, x164_92, x164_93, x164_96, x164_97, x164_98, x164_101, x164_102, x164_105, x164_107, x164_108, x164_109, x164_110, x164_111, x164_112, x164_113, x164_114, x164_115, x164_116, x164_117, x164_120, x164_121, x164_122, x164_123, x164_126, aft_some, aft_void, Option.bind_some, Option.toList_some, Option.toList_none, List.cons_append, List.nil_append, if_true, if_false, ↓reduceIte, eq_self, z366_o, ↓z366_0, ↓z366_0p, ↓z366_1, ↓z366_2, ↓z366_3, ↓z366_4, ↓z366_4p, ↓z366_5, ↓z366_6, ↓z366_6p0, ↓z366_6p1, ↓z366_7, ↓z366_8, ↓z366_8p, ↓z366_9, ↓z366_9p, ↓z366_10, ↓z366_10p0, ↓z366_10p1, ↓z366_11, ↓z366_12, ↓z366_12p, ↓sg0, ↓sg1, ↓sg2, ↓sg3, ↓sg4, ↓sg5, ↓sg6, ↓sg7, ↓sg8, ↓sg9, ↓sg10, ↓sg11, ↓sg12, ↓sg13, ↓sg14, ↓sg15, ↓sg16, ↓sg17, ↓ss0, ↓ss1, ↓ss2, ↓ss3, ↓ss4, ↓ss5, ↓ss6, ↓ss7, ↓ss8, ↓ss9, ↓ss10, ↓ss11, ↓ss12, ↓ss13, ↓ss14, ↓ss15, ↓ss16, ↓ss17, epos, q, ↓aft_of (e1), p0, ↓aft_of (l1), ↓aft_of (e2), ↓aft_of (l2), ← hG3, p3, ↓aft_of (e4)]
    · show G4 j = chV V c (oldL (N 0 - g) c B) 1 j
      rw [nAll j (by omega) (by omega) (by omega) (by omega), vn 1 (by decide) (by decide)]; exact a1 j hj
    · show G4 4 = nI (hoN N 0)
      rw [nAll 4 (by decide) (by decide) (by omega) (by decide), hn 0 (by decide)]; exact a2
    · show G4 5 = nI (hoN N 1)
      rw [nAll 5 (by decide) (by decide) (by omega) (by decide), hn 1 (by decide)]; exact a3
    · show G4 6 = nI (hoN N 2)
      rw [nAll 6 (by decide) (by decide) (by omega) (by decide), hn 2 (by decide)]; exact a4
    · show G4 7 = chV V c (oldL (N 0 - g) c B) 0 1
      rw [nAll 7 (by decide) (by decide) (by omega) (by decide), vn 0 (by decide) (by decide)]; exact a5
    · show G4 8 = smI (chV V c (oldL (N 0 - g) c B) 6) (hoN N 1)
      rw [n4 8 (by decide) (by decide), hG3, upA_s, n2 8 (by omega), nG 8 (by decide), a6, v6, hn 1 (by decide), smI_set hc]
      grind
    · show G4 9 = chV V c (oldL (N 0 - g) c B) 0 2
      rw [nAll 9 (by decide) (by decide) (by omega) (by decide), vn 0 (by decide) (by decide)]; exact a7
    · show G4 10 = nI (hoN N 3)
      rw [nAll 10 (by decide) (by decide) (by omega) (by decide), hn 3 (by decide)]; exact a8
    · show G4 (11 + j) = chV V c (oldL (N 0 - g) c B) 48 j
      rw [nAll _ (by omega) (by omega) (by omega) (by omega), vn 48 (by decide) (by decide)]; exact a9 j hj
    · show G4 15 = chV V c (oldL (N 0 - g) c B) 0 3
      rw [nAll 15 (by decide) (by decide) (by omega) (by decide), vn 0 (by decide) (by decide)]; exact a10
    · rw [nAll 16 (by decide) (by decide) (by omega) (by decide)]; exact a11
    · show G4 17 = nI (hoN N 4)
      rw [s17, show hoN N 4 = min (N 4 + 1) 10 from upA_s _ _ _]
    · show G4 (18 + d) = chV V c (oldL (N 0 - g) c B) 2 d
      rw [nAll _ (by omega) (by omega) (by omega) (by omega), vn 2 (by decide) (by decide)]; exact a13 d hd
    · show chV V c (oldL (N 0 - g) c B) 0 0 = nI (hoN N 0)
      rw [vn 0 (by decide) (by decide), hn 0 (by decide)]; exact a14
    · intro c' hc'
      show (c' < hoN N 1 → G4 _ = chV V c (oldL (N 0 - g) c B) 4 c') ∧ G4 _ = (if c' < hoN N 1 then chV V c (oldL (N 0 - g) c B) 5 c' else 0) ∧ G4 _ = (if c' < hoN N 1 then chV V c (oldL (N 0 - g) c B) 6 c' else 0)
      rw [hn 1 (by decide), vn 4 (by decide) (by decide), v5, v6]
      obtain ⟨q1, q2, q3⟩ := hC c' hc'
      have k4 : ∀ a, 24 ≤ a → a < 54 → G4 a = G2 a := fun a h1 h2 => by rw [n4 a (by omega) (by omega), hG3, upA_n _ _ (by omega)]
      by_cases e : c' = c
      · subst e
        refine ⟨fun _ => ?_, ?_, ?_⟩
        · rw [nAll _ (by omega) (by omega) (by omega) (by omega)]; exact q1 hc
        · rw [if_pos hc, upA_s, k4 _ (by omega) (by omega), hG2, upA_n _ _ (by omega), hG1, upA_s, nG _ (by omega), q2, if_pos hc]
        · rw [if_pos hc, upA_s, k4 _ (by omega) (by omega), hG2, upA_s, hG1, upA_n _ _ (by omega), nG _ (by omega), q3, if_pos hc]
      · refine ⟨fun hl => ?_, ?_, ?_⟩
        · rw [nAll _ (by omega) (by omega) (by omega) (by omega)]; exact q1 hl
        · rw [upA_n _ _ e, nAll _ (by omega) (by omega) (by omega) (by omega)]; exact q2
        · rw [upA_n _ _ e, nAll _ (by omega) (by omega) (by omega) (by omega)]; exact q3
    · exact hGO.same (fun a h1 h2 => by rw [n4 a (by omega) (by omega), n3 a (by omega) (by omega)])
    · exact hK.same h8 (fun a h1 h2 => nAll a (by omega) (by omega) (by omega) (by omega))
    · show sL G4 (hoN N 3) (chV V c (oldL (N 0 - g) c B))
      rw [hn 3 (by decide)]
      intro i hi
      rw [vn 46 (by decide) (by decide), vn 47 (by decide) (by decide)]
      exact hL.same h20 (fun a h1 h2 => nAll a (by omega) (by omega) (by omega) (by omega)) i hi
    · show sJ G4 (hoN N 4) _
      rw [show hoN N 4 = min (N 4 + 1) 10 from upA_s _ _ _]
      exact sJ4
  · have es : chS (N 0 - g) (N, V, B, R) c = (N, V, dropE (zeroL (N 0 - g) c B), R) := if_neg q
    rw [es]
    refine ⟨G, ?_, ?_⟩
    · simp +decide only [x164_0, x164_1, x164_2, x164_3, x164_5, x164_7, x164_10, x164_11, x164_12, x164_15, x164_16, x164_19, x164_20, x164_21, x164_24, x164_25, x164_26, x164_29, x164_31, x164_33, x164_34, x164_35, x164_36, x164_37, x164_38, x164_39, x164_40, x164_41, x164_42, x164_45, x164_47, x164_49, x164_50, x164_51, x164_52, x164_53, x164_54, x164_55, x164_56, x164_59, x164_62, x164_63, x164_66, x164_67, x164_68, x164_69, x164_70, x164_71, x164_72, x164_75, x164_76, x164_77, x164_80, x164_81, x164_82, x164_83, x164_84, x164_87, x164_88, x164_89, x164_90, x164_91, x164_92, x164_93, x164_96, x164_97, x164_98, x164_101, x164_102, x164_105, x164_107, x164_108, x164_109, x164_110, x164_111, x164_112, x164_113, x164_114, x164_115, x164_116, x164_117, x164_120, x164_121, x164_122, x164_123, x164_126, aft_some, aft_void, Option.bind_some, Option.toList_some, Option.toList_none, List.cons_append, List.nil_append, if_true, if_false, ↓reduceIte, eq_self]
      rw [eG, x164_4]
      simp +decide only [x164_0, x164_1, x164_2, x164_3, x164_5, x164_7, x164_10, x164_11, x164_12, x164_15, x164_16, x164_19, x164_20, x164_21, x164_24, x164_25, x164_26, x164_29, x164_31, x164_33, x164_34, x164_35, x164_36, x164_37, x164_38, x164_39, x164_40, x164_41, x164_42, x164_45, x164_47, x164_49, x164_50, x164_51, x164_52, x164_53, x164_54, x164_55, x164_56, x164_59, x164_62, x164_63, x164_66, x164_67, x164_68, x164_69, x164_70, x164_71, x164_72, x164_75, x164_76, x164_77, x164_80, x164_81, x164_82, x164_83, x164_84, x164_87, x164_88, x164_89, x164_90, x164_91, x164_92, x164_93, x164_96, x164_97, x164_98, x164_101, x164_102, x164_105, x164_107, x164_108, x164_109, x164_110, x164_111, x164_112, x164_113, x164_114, x164_115, x164_116, x164_117, x164_120, x164_121, x164_122, x164_123, x164_126, aft_some, aft_void, Option.bind_some, Option.toList_some, Option.toList_none, List.cons_append, List.nil_append, if_true, if_false, ↓reduceIte, eq_self, epos, q]
    · exact ⟨h.1.same (fun a ha => nG a (by omega)), hC.same (fun a h1 h2 => nG a (by omega)), hGO, hK.same h8 (fun a h1 h2 => nG a (by omega)), hL.same h20 (fun a h1 h2 => nG a (by omega)), hJ.same h10 (fun a h1 h2 => nG a (by omega))⟩
end PY
end
section
/-! a basket leaves, in the reference -/
theorem gK_app_l {A L : List kT} {i : Nat} (h : i < A.length) : gK (A ++ L) i = gK A i := by
  simp [gK, List.getD_eq_getElem?_getD, List.getElem?_append_left h]
theorem gK_app_r {A L : List kT} {i : Nat} (h : A.length ≤ i) : gK (A ++ L) i = gK L (i - A.length) := by
  simp [gK, List.getD_eq_getElem?_getD, List.getElem?_append_right h]
theorem gK_app_m {A L : List kT} {b : kT} : gK (A ++ b :: L) A.length = b := by
  rw [gK_app_r (Nat.le_refl _), Nat.sub_self]; rfl
theorem rgL_app (c k : Nat) : ∀ (A B : List bT), rgL c k (A ++ B) = rgL c k A + rgL c k B
  | [], B => by simp [rgL]
  | q :: A, B => by simp only [List.cons_append, rgL, rgL_app c k A B]; omega
section LE
variable {T : Nat → Nat → Int32} {P : Nat → Nat → Nat} {f : Nat → Int32} {N : Nat → Nat} {V : Nat → Nat → Int32} {A L : List kT} {b : kT} {B : List bT} {R : Nat → Nat → Int32} {c x : Nat}
theorem r_leaves (h : sR f N V (A ++ b :: L) B R) (h8 : (A ++ b :: L).length ≤ 8) (ec : b 0 1 = nI c) (hc : c < N 1) (hN1 : N 1 ≤ 10) (hD : N 0 ≤ 10100) (h20 : N 3 ≤ 20) (h10 : N 4 ≤ 10) (hrd : ∀ k, k < 4 → b 2 k = b 1 k) (ex : nhI (b 2) = nI x) (hx : x ≤ 27) :
    ∃ f', X 165 0 [.ref 366, .int (nI A.length), .long 0, .long 0] [] (H (upA T 367 f) P) = some (none, H (upA T 367 f') P) ∧ sS f' (hoS (N, V, B, R) b) (A ++ L) := by
  obtain ⟨⟨a1, ⟨a2, a3, a4, a5⟩, ⟨a6, a7, a8⟩, a9, ⟨a10, a11, a12⟩, a13, a14⟩, hC, hO, hK, hL, hJ⟩ := id h
  have hlen : (A ++ b :: L).length = A.length + L.length + 1 := by rw [List.length_append, List.length_cons]; omega
  rw [hlen] at h8 a11
  obtain ⟨i, hi⟩ : ∃ i, i = A.length := ⟨_, rfl⟩
  have hb : bR f i b := by
    have := hK A.length (by rw [hlen]; omega)
    rw [gK_app_m] at this
    rw [hi]; exact this
  rw [← hi] at h8 a11 ⊢
  have i8 : i < 8 := by omega
  have e1 := r_of (T := T) (P := P) (f := f) (i := i) (w := 1) (y := 1) rfl i8 (by decide)
  rw [hb.1.2.1, ec] at e1
  have e2 := r_ofCust (T := T) (P := P) (f := f) (i := c) (w := 1) (y := 1) rfl (by omega) (by decide)
  have e3 := r_priceOf (T := T) (P := P) hb i8
  have l1 := r_layCust (T := T) (P := P) (f := f) (i := c) (w := 1) (y := 1) (z := f (24 + 3 * c + 1) + prK b) rfl (by omega) (by decide)
  obtain ⟨G1, hG1⟩ : ∃ G1, G1 = upA f (24 + 3 * c + 1) (f (24 + 3 * c + 1) + prK b) := ⟨_, rfl⟩
  rw [← hG1] at l1
  have n1 : ∀ a, a ≠ 24 + 3 * c + 1 → G1 a = f a := fun a ha => by rw [hG1, upA_n _ _ ha]
  have hb1 : bR G1 i b := hb.same (fun a q1 q2 => n1 a (by omega))
  have o5 := r_of (T := T) (P := P) (f := G1) (i := i) (w := 5) (y := 5) rfl i8 (by decide)
  have o6 := r_of (T := T) (P := P) (f := G1) (i := i) (w := 6) (y := 6) rfl i8 (by decide)
  have o7 := r_of (T := T) (P := P) (f := G1) (i := i) (w := 7) (y := 7) rfl i8 (by decide)
  rw [(hb1.2 0 (by decide)).1] at o5
  rw [(hb1.2 1 (by decide)).1] at o6
  rw [(hb1.2 2 (by decide)).1] at o7
  have k64 : nI (N 0) - nI (N 0) / 64 * 64 = nI (N 0 % 64) := nI_modp (b := 64) (by omega) (by decide) (by decide)
  obtain ⟨r, hr⟩ : ∃ r, r = N 0 % 64 := ⟨_, rfl⟩
  have hr64 : r < 64 := by omega
  rw [← hr] at k64
  have hix : 54 + 64 * nI c + nI r = nI (54 + 64 * c + r) := ixO rfl
  have hik : 54 + 64 * c + r < 912 := by omega
  have hG14 : G1 4 = nI (N 0) := by rw [n1 4 (by omega)]; exact a2
  have hv : G1 (54 + 64 * c + r) = nI (rgL c r B) := by rw [n1 _ (by omega)]; exact hO c (by omega) r hr64
  have hnh : b 1 0 + b 1 1 + b 1 2 = nI x := by
    rw [← ex]
    unfold nhI
    rw [hrd 0 (by decide), hrd 1 (by decide), hrd 2 (by decide), Int32.zero_add]
  obtain ⟨G2, hG2⟩ : ∃ G2, G2 = upA G1 (54 + 64 * c + r) (nI (rgL c r B + x)) := ⟨_, rfl⟩
  have n2 : ∀ a, a ≠ 24 + 3 * c + 1 → a ≠ 54 + 64 * c + r → G2 a = f a := fun a q1 q2 => by rw [hG2, upA_n _ _ q2]; exact n1 a q1
  have hb2 : bR G2 i b := hb.same (fun a q1 q2 => n2 a (by omega) (by omega))
  have o0 := r_of (T := T) (P := P) (f := G2) (i := i) (w := 0) (y := 0) rfl i8 (by decide)
  rw [hb2.1.1] at o0
  have e5 := r_priceOf (T := T) (P := P) hb2 i8
  obtain ⟨G3, e6, n3, s17, sJ3⟩ := r_books (T := T) (P := P) (f := G2) (n := N 4) (R := R) (e := 1) (x := b 0 0) (y := prK b) (by rw [n2 17 (by omega) (by omega)]; exact a12) h10 (hJ.same h10 (fun a h1 h2 => n2 a (by omega) (by omega)))
  have g24 : G2 4 = V 0 0 := by rw [n2 4 (by omega) (by omega), a2, a14]
  rw [g24] at sJ3
  obtain ⟨m, hm⟩ : ∃ m, m = i + L.length := ⟨_, rfl⟩
  have g316 : G3 16 = nI (m + 1) := by rw [n3 16 (by decide) (by decide), n2 16 (by omega) (by omega), a11, ← hm]
  have km : nI (m + 1) - 1 = nI m := nI_pred m
  obtain ⟨G4, hG4⟩ : ∃ G4, G4 = upA G3 16 (nI m) := ⟨_, rfl⟩
  have n4 : ∀ a, a ≠ 24 + 3 * c + 1 → a ≠ 54 + 64 * c + r → a ≠ 16 → a ≠ 17 → (a < 870 ∨ 910 ≤ a) → G4 a = f a := fun a q1 q2 q3 q4 q5 => by
    rw [hG4, upA_n _ _ q3, n3 a q4 q5, n2 a q1 q2]
  have g416 : G4 16 = nI m := by rw [hG4]; exact upA_s _ _ _
  have k17 : 17 * nI i = nI (17 * i) := by rw [show (17 : Int32) = nI 17 from rfl, nI_mul]
  have k17m : 17 * nI m = nI (17 * m) := by rw [show (17 : Int32) = nI 17 from rfl, nI_mul]
  obtain ⟨G5, eG5, j1, j2⟩ := loop_ex (fun q (G : Nat → Int32) => X 165 104 [.ref 366, .int (nI i), .int (nI c), .int (nI (17 * i + q))] [] (H (upA T 367 G) P)) (fun q G => (∀ a, (a < 694 + 17 * i ∨ 694 + 17 * i + q ≤ a) → G a = G4 a) ∧ ∀ z, z < q → G (694 + 17 * i + z) = G4 (694 + 17 * i + z + 17)) (17 * L.length) G4 ⟨fun _ _ => rfl, fun z hz => absurd hz (Nat.not_lt_zero z)⟩ (by
    intro q G hq ⟨j1, j2⟩
    refine ⟨upA G (694 + 17 * i + q) (G4 (694 + 17 * i + q + 17)), ?_, fun a ha => ?_, fun z hz => ?_⟩
    · have hlt : nI (17 * i + q) < nI (17 * m) := nI_lt (by omega) (by omega)
      have q1 : G 16 = nI m := by rw [j1 16 (by omega)]; exact g416
      have q2 : 694 + nI (17 * i + q) = nI (694 + 17 * i + q) := by rw [show (694 : Int32) = nI 694 from rfl, nI_add, Nat.add_assoc]
      have q3 : nI (694 + 17 * i + q) + 17 = nI (694 + 17 * i + q + 17) := nI_add _ 17
      have q4 : G (694 + 17 * i + q + 17) = G4 (694 + 17 * i + q + 17) := j1 _ (by omega)
      have q5 : nI (17 * i + q) + 1 = nI (17 * i + (q + 1)) := nI_add _ 1
      show X 165 104 [.ref 366, .int (nI i), .int (nI c), .int (nI (17 * i + q))] [] (H (upA T 367 G) P) = _
      rw [x165_104]
      simp +decide only [x165_0, x165_1, x165_2, x165_3, x165_6, x165_7, x165_8, x165_9, x165_10, x165_11, x165_12, x165_13, x165_16, x165_17, x165_18, x165_21, x165_22, x165_25, x165_26, x165_29, x165_31, x165_33, x165_34, x165_35, x165_36, x165_37, x165_40, x165_41, x165_42, x165_44, x165_45, x165_46, x165_47, x165_48, x165_49, x165_50, x165_51, x165_54, x165_55, x165_56, x165_58, x165_61, x165_62, x165_63, x165_64, x165_66, x165_69, x165_70, x165_71, x165_72, x165_73, x165_74, x165_75, x165_76, x165_77, x165_80, x165_81, x165_82, x165_85, x165_88, x165_89, x165_92, x165_94, x165_95, x165_96, x165_97, x165_98, x165_99, x165_101, x165_102, x165_103, x165_105, x165_107, x165_108, x165_111, x165_113, x165_114, x165_115, x165_118, x165_119, x165_122, x165_125, x165_126, x165_127, x165_128, x165_131, x165_134, x165_135, x165_136, x165_138, x165_139, x165_140, x165_141, x165_144, x165_147, x165_148, x165_150, x165_152, x165_155, x165_156, x165_157, x165_160, x165_162, x165_163, x165_164, x165_165, x165_168, x165_171, x165_174, aft_some, aft_void, Option.bind_some, Option.toList_some, Option.toList_none, List.cons_append, List.nil_append, if_true, if_false, ↓reduceIte, eq_self, z366_o, ↓z366_0, ↓z366_0p, ↓z366_1, ↓z366_2, ↓z366_3, ↓z366_4, ↓z366_4p, ↓z366_5, ↓z366_6, ↓z366_6p0, ↓z366_6p1, ↓z366_7, ↓z366_8, ↓z366_8p, ↓z366_9, ↓z366_9p, ↓z366_10, ↓z366_10p0, ↓z366_10p1, ↓z366_11, ↓z366_12, ↓z366_12p, ↓sg0, ↓sg1, ↓sg2, ↓sg3, ↓sg4, ↓sg5, ↓sg6, ↓sg7, ↓sg8, ↓sg9, ↓sg10, ↓sg11, ↓sg12, ↓sg13, ↓sg14, ↓sg15, ↓sg16, ↓sg17, ↓ss0, ↓ss1, ↓ss2, ↓ss3, ↓ss4, ↓ss5, ↓ss6, ↓ss7, ↓ss8, ↓ss9, ↓ss10, ↓ss11, ↓ss12, ↓ss13, ↓ss14, ↓ss15, ↓ss16, ↓ss17, q1, k17m, hlt, q2, q3, ↓s_g (show 694 + 17 * i + q + 17 < 912 by omega), ↓s_s (show 694 + 17 * i + q < 912 by omega), q4, q5]
    · rw [upA_n _ _ (by omega)]; exact j1 a (by omega)
    · by_cases e : z = q
      · rw [e, upA_s]
      · rw [upA_n _ _ (by omega)]; exact j2 z (by omega))
  have eG5 : X 165 104 [.ref 366, .int (nI i), .int (nI c), .int (nI (17 * i))] [] (H (upA T 367 G4) P) = X 165 104 [.ref 366, .int (nI i), .int (nI c), .int (nI (17 * m))] [] (H (upA T 367 G5) P) := by
    rw [show 17 * m = 17 * i + 17 * L.length by omega]; exact eG5
  have g516 : G5 16 = nI m := by rw [j1 16 (by omega)]; exact g416
  obtain ⟨G6, eG6, j3⟩ := loop_ex (fun q (G : Nat → Int32) => X 165 149 [.ref 366, .int (nI i), .int (nI c), .int (nI q)] [] (H (upA T 367 G) P)) (fun q G => ∀ a, (a < 694 + 17 * m ∨ 694 + 17 * m + 17 ≤ a) → G a = G5 a) 17 G5 (fun _ _ => rfl) (by
    intro q G hq j3
    refine ⟨upA G (694 + 17 * m + q) 0, ?_, fun a ha => ?_⟩
    · have hlt : nI q < 17 := nI_lt hq (by decide)
      have q1 : G 16 = nI m := by rw [j3 16 (by omega)]; exact g516
      have ly := r_lay (T := T) (P := P) (f := G) (i := m) (w := q) (y := nI q) (z := 0) rfl (by omega) hq
      show X 165 149 [.ref 366, .int (nI i), .int (nI c), .int (nI q)] [] (H (upA T 367 G) P) = _
      rw [x165_149]
      simp +decide only [x165_0, x165_1, x165_2, x165_3, x165_6, x165_7, x165_8, x165_9, x165_10, x165_11, x165_12, x165_13, x165_16, x165_17, x165_18, x165_21, x165_22, x165_25, x165_26, x165_29, x165_31, x165_33, x165_34, x165_35, x165_36, x165_37, x165_40, x165_41, x165_42, x165_44, x165_45, x165_46, x165_47, x165_48, x165_49, x165_50, x165_51, x165_54, x165_55, x165_56, x165_58, x165_61, x165_62, x165_63, x165_64, x165_66, x165_69, x165_70, x165_71, x165_72, x165_73, x165_74, x165_75, x165_76, x165_77, x165_80, x165_81, x165_82, x165_85, x165_88, x165_89, x165_92, x165_94, x165_95, x165_96, x165_97, x165_98, x165_99, x165_101, x165_102, x165_103, x165_105, x165_107, x165_108, x165_111, x165_113, x165_114, x165_115, x165_118, x165_119, x165_122, x165_125, x165_126, x165_127, x165_128, x165_131, x165_134, x165_135, x165_136, x165_138, x165_139, x165_140, x165_141, x165_144, x165_147, x165_148, x165_150, x165_152, x165_155, x165_156, x165_157, x165_160, x165_162, x165_163, x165_164, x165_165, x165_168, x165_171, x165_174, aft_some, aft_void, Option.bind_some, Option.toList_some, Option.toList_none, List.cons_append, List.nil_append, if_true, if_false, ↓reduceIte, eq_self, z366_o, ↓z366_0, ↓z366_0p, ↓z366_1, ↓z366_2, ↓z366_3, ↓z366_4, ↓z366_4p, ↓z366_5, ↓z366_6, ↓z366_6p0, ↓z366_6p1, ↓z366_7, ↓z366_8, ↓z366_8p, ↓z366_9, ↓z366_9p, ↓z366_10, ↓z366_10p0, ↓z366_10p1, ↓z366_11, ↓z366_12, ↓z366_12p, ↓sg0, ↓sg1, ↓sg2, ↓sg3, ↓sg4, ↓sg5, ↓sg6, ↓sg7, ↓sg8, ↓sg9, ↓sg10, ↓sg11, ↓sg12, ↓sg13, ↓sg14, ↓sg15, ↓sg16, ↓sg17, ↓ss0, ↓ss1, ↓ss2, ↓ss3, ↓ss4, ↓ss5, ↓ss6, ↓ss7, ↓ss8, ↓ss9, ↓ss10, ↓ss11, ↓ss12, ↓ss13, ↓ss14, ↓ss15, ↓ss16, ↓ss17, q1, hlt, ↓aft_of (ly), nI_1]
    · rw [upA_n _ _ (by omega)]; exact j3 a ha)
  have eG6 : X 165 149 [.ref 366, .int (nI i), .int (nI c), .int 0] [] (H (upA T 367 G5) P) = X 165 149 [.ref 366, .int (nI i), .int (nI c), .int 17] [] (H (upA T 367 G6) P) := eG6
  have nLo : ∀ a, a < 694 → G6 a = G4 a := fun a ha => by rw [j3 a (by omega), j1 a (by omega)]
  have nHi : ∀ a, 830 ≤ a → G6 a = G4 a := fun a ha => by rw [j3 a (by omega), j1 a (by omega)]
  have nAll : ∀ a, a ≠ 24 + 3 * c + 1 → a ≠ 54 + 64 * c + r → a ≠ 16 → a ≠ 17 → (a < 694 ∨ (830 ≤ a ∧ a < 870)) → G6 a = f a := fun a q1 q2 q3 q4 q5 => by
    rcases q5 with q5 | q5
    · rw [nLo a q5, n4 a q1 q2 q3 q4 (by omega)]
    · rw [nHi a q5.1, n4 a q1 q2 q3 q4 (by omega)]
  have hcu : cuK b = c := by unfold cuK; rw [ec, nI_clamp (by omega)]
  have hnx : (nhI (b 2)).toNatClampNeg = x := by rw [ex, nI_clamp (by omega)]
  have v5 : hoV V b 5 = upA (V 5) c (V 5 c + prK b) := by
    show up1 V 5 (cuK b) _ 5 = _
    rw [up1_s, hcu]
  have vn : ∀ r, r ≠ 5 → hoV V b r = V r := fun r h5 => up1_n h5
  have hn : ∀ r, r ≠ 4 → hoN N r = N r := fun r hr => upA_n _ _ hr
  have hho : ∀ c' k, rgL c' k (hoB N B b) = rgL c' k B + if c = c' ∧ r = k then x else 0 := by
    intro c' k
    show rgL c' k (if 0 < (nhI (b 2)).toNatClampNeg then B ++ [(cuK b, N 0, (nhI (b 2)).toNatClampNeg)] else B) = _
    rw [hnx, hcu]
    by_cases z : 0 < x
    · rw [if_pos z, rgL_app]
      simp only [rgL, hr, Nat.add_zero]
    · rw [if_neg z]
      have : x = 0 := by omega
      subst this
      split <;> rfl
  refine ⟨G6, ?_, ⟨fun j hj => ?_, ⟨?_, ?_, ?_, ?_⟩, ⟨?_, ?_, ?_⟩, fun j hj => ?_, ⟨?_, ?_, ?_⟩, fun d hd => ?_, ?_⟩, ?_, ?_, ?_, ?_, ?_⟩
  · simp +decide only [x165_0, x165_1, x165_2, x165_3, x165_6, x165_7, x165_8, x165_9, x165_10, x165_11, x165_12, x165_13, x165_16, x165_17, x165_18, x165_21, x165_22, x165_25, x165_26, x165_29, x165_31, x165_33, x165_34, x165_35, x165_36, x165_37, x165_40, x165_41, x165_42, x165_44, x165_45, x165_46, x165_47, x165_48, x165_49, x165_50, x165_51, x165_54, x165_55, x165_56, x165_58, x165_61, x165_62, x165_63, x165_64, x165_66, x165_69, x165_70, x165_71, x165_72, x165_73, x165_74, x165_75, x165_76, x165_77, x165_80, x165_81, x165_82, x165_85, x165_88, x165_89, x165_92, x165_94, x165_95, x165_96, x165_97, x165_98, x165_99, x165_101, x165_102, x165_103, x165_105, x165_107, x165_108, x165_111, x165_113, x165_114, x165_115, x165_118, x165_119, x165_122, x165_125, x165_126, x165_127, x165_128, x165_131, x165_134, x165_135, x165_136, x165_138, x165_139, x165_140, x165_141, x165_144, x165_147, x165_148, x165_150, x165_152, x165_155, x165_156, x165_157, x165_160, x165_162, x165_163, x165_164, x165_165, x165_168, x165_171, x165_174, aft_some, aft_void, Option.bind_some, Option.toList_some, Option.toList_none, List.cons_append, List.nil_append, if_true, if_false, ↓reduceIte, eq_self, z366_o, ↓z366_0, ↓z366_0p, ↓z366_1, ↓z366_2, ↓z366_3, ↓z366_4, ↓z366_4p, ↓z366_5, ↓z366_6, ↓z366_6p0, ↓z366_6p1, ↓z366_7, ↓z366_8, ↓z366_8p, ↓z366_9, ↓z366_9p, ↓z366_10, ↓z366_10p0, ↓z366_10p1, ↓z366_11, ↓z366_12, ↓z366_12p, ↓sg0, ↓sg1, ↓sg2, ↓sg3, ↓sg4, ↓sg5, ↓sg6, ↓sg7, ↓sg8, ↓sg9, ↓sg10, ↓sg11, ↓sg12, ↓sg13, ↓sg14, ↓sg15, ↓sg16, ↓sg17, ↓ss0, ↓ss1, ↓ss2, ↓ss3, ↓ss4, ↓ss5, ↓ss6, ↓ss7, ↓ss8, ↓ss9, ↓ss10, ↓ss11, ↓ss12, ↓ss13, ↓ss14, ↓ss15, ↓ss16, ↓ss17, ↓aft_of (e1), ↓aft_of (e2), ↓aft_of (e3), ↓aft_of (l1), hG14, k64, hix, ↓s_g hik, ↓s_s hik, hv, ↓aft_of (o5), ↓aft_of (o6), ↓aft_of (o7), hnh, nI_add, ← hG2, ↓aft_of (o0), ↓aft_of (e5), ↓aft_of (e6), g316, km, ← hG4, k17]
    rw [eG5, x165_104]
    simp +decide only [x165_0, x165_1, x165_2, x165_3, x165_6, x165_7, x165_8, x165_9, x165_10, x165_11, x165_12, x165_13, x165_16, x165_17, x165_18, x165_21, x165_22, x165_25, x165_26, x165_29, x165_31, x165_33, x165_34, x165_35, x165_36, x165_37, x165_40, x165_41, x165_42, x165_44, x165_45, x165_46, x165_47, x165_48, x165_49, x165_50, x165_51, x165_54, x165_55, x165_56, x165_58, x165_61, x165_62, x165_63, x165_64, x165_66, x165_69, x165_70, x165_71, x165_72, x165_73, x165_74, x165_75, x165_76, x165_77, x165_80, x165_81, x165_82, x165_85, x165_88, x165_89, x165_92, x165_94, x165_95, x165_96, x165_97, x165_98, x165_99, x165_101, x165_102, x165_103, x165_105, x165_107, x165_108, x165_111, x165_113, x165_114, x165_115, x165_118, x165_119, x165_122, x165_125, x165_126, x165_127, x165_128, x165_131, x165_134, x165_135, x165_136, x165_138, x165_139, x165_140, x165_141, x165_144, x165_147, x165_148, x165_150, x165_152, x165_155, x165_156, x165_157, x165_160, x165_162, x165_163, x165_164, x165_165, x165_168, x165_171, x165_174, aft_some, aft_void, Option.bind_some, Option.toList_some, Option.toList_none, List.cons_append, List.nil_append, if_true, if_false, ↓reduceIte, eq_self, z366_o, ↓z366_0, ↓z366_0p, ↓z366_1, ↓z366_2, ↓z366_3, ↓z366_4, ↓z366_4p, ↓z366_5, ↓z366_6, ↓z366_6p0, ↓z366_6p1, ↓z366_7, ↓z366_8, ↓z366_8p, ↓z366_9, ↓z366_9p, ↓z366_10, ↓z366_10p0, ↓z366_10p1, ↓z366_11, ↓z366_12, ↓z366_12p, ↓sg0, ↓sg1, ↓sg2, ↓sg3, ↓sg4, ↓sg5, ↓sg6, ↓sg7, ↓sg8, ↓sg9, ↓sg10, ↓sg11, ↓sg12, ↓sg13, ↓sg14, ↓sg15, ↓sg16, ↓sg17, ↓ss0, ↓ss1, ↓ss2, ↓ss3, ↓ss4, ↓ss5, ↓ss6, ↓ss7, ↓ss8, ↓ss9, ↓ss10, ↓ss11, ↓ss12, ↓ss13, ↓ss14, ↓ss15, ↓ss16, ↓ss17, g516, k17m, nI_nlt (Nat.le_refl (17 * m)) (show 17 * m < 2 ^ 31 by omega)]
    rw [eG6, x165_149]
    simp +decide only [x165_0, x165_1, x165_2, x165_3, x165_6, x165_7, x165_8, x165_9, x165_10, x165_11, x165_12, x165_13, x165_16, x165_17, x165_18, x165_21, x165_22, x165_25, x165_26, x165_29, x165_31, x165_33, x165_34, x165_35, x165_36, x165_37, x165_40, x165_41, x165_42, x165_44, x165_45, x165_46, x165_47, x165_48, x165_49, x165_50, x165_51, x165_54, x165_55, x165_56, x165_58, x165_61, x165_62, x165_63, x165_64, x165_66, x165_69, x165_70, x165_71, x165_72, x165_73, x165_74, x165_75, x165_76, x165_77, x165_80, x165_81, x165_82, x165_85, x165_88, x165_89, x165_92, x165_94, x165_95, x165_96, x165_97, x165_98, x165_99, x165_101, x165_102, x165_103, x165_105, x165_107, x165_108, x165_111, x165_113, x165_114, x165_115, x165_118, x165_119, x165_122, x165_125, x165_126, x165_127, x165_128, x165_131, x165_134, x165_135, x165_136, x165_138, x165_139, x165_140, x165_141, x165_144, x165_147, x165_148, x165_150, x165_152, x165_155, x165_156, x165_157, x165_160, x165_162, x165_163, x165_164, x165_165, x165_168, x165_171, x165_174, aft_some, aft_void, Option.bind_some, Option.toList_some, Option.toList_none, List.cons_append, List.nil_append, if_true, if_false, ↓reduceIte, eq_self]
  · show G6 j = hoV V b 1 j
    rw [nAll j (by omega) (by omega) (by omega) (by omega) (by omega), vn 1 (by decide)]; exact a1 j hj
  · show G6 4 = nI (hoN N 0)
    rw [nAll 4 (by omega) (by omega) (by decide) (by decide) (by decide), hn 0 (by decide)]; exact a2
  · show G6 5 = nI (hoN N 1)
    rw [nAll 5 (by omega) (by omega) (by decide) (by decide) (by decide), hn 1 (by decide)]; exact a3
  · show G6 6 = nI (hoN N 2)
    rw [nAll 6 (by omega) (by omega) (by decide) (by decide) (by decide), hn 2 (by decide)]; exact a4
  · show G6 7 = hoV V b 0 1
    rw [nAll 7 (by omega) (by omega) (by decide) (by decide) (by decide), vn 0 (by decide)]; exact a5
  · show G6 8 = smI (hoV V b 6) (hoN N 1)
    rw [nAll 8 (by omega) (by omega) (by decide) (by decide) (by decide), vn 6 (by decide), hn 1 (by decide)]; exact a6
  · show G6 9 = hoV V b 0 2
    rw [nAll 9 (by omega) (by omega) (by decide) (by decide) (by decide), vn 0 (by decide)]; exact a7
  · show G6 10 = nI (hoN N 3)
    rw [nAll 10 (by omega) (by omega) (by decide) (by decide) (by decide), hn 3 (by decide)]; exact a8
  · show G6 (11 + j) = hoV V b 48 j
    rw [nAll _ (by omega) (by omega) (by omega) (by omega) (by omega), vn 48 (by decide)]; exact a9 j hj
  · show G6 15 = hoV V b 0 3
    rw [nAll 15 (by omega) (by omega) (by decide) (by decide) (by decide), vn 0 (by decide)]; exact a10
  · rw [nLo 16 (by decide), g416, List.length_append, hm, hi]
  · show G6 17 = nI (hoN N 4)
    rw [nLo 17 (by decide), hG4, upA_n _ _ (by decide), s17, show hoN N 4 = min (N 4 + 1) 10 from upA_s _ _ _]
  · show G6 (18 + d) = hoV V b 2 d
    rw [nAll _ (by omega) (by omega) (by omega) (by omega) (by omega), vn 2 (by decide)]; exact a13 d hd
  · show hoV V b 0 0 = nI (hoN N 0)
    rw [vn 0 (by decide), hn 0 (by decide)]; exact a14
  · intro c' hc'
    show (c' < hoN N 1 → G6 _ = hoV V b 4 c') ∧ G6 _ = (if c' < hoN N 1 then hoV V b 5 c' else 0) ∧ G6 _ = (if c' < hoN N 1 then hoV V b 6 c' else 0)
    rw [hn 1 (by decide), vn 4 (by decide), v5, vn 6 (by decide)]
    obtain ⟨q1, q2, q3⟩ := hC c' hc'
    refine ⟨fun hl => ?_, ?_, ?_⟩
    · rw [nAll _ (by omega) (by omega) (by omega) (by omega) (by omega)]; exact q1 hl
    · by_cases e : c' = c
      · subst e
        rw [if_pos hc, upA_s, nLo _ (by omega), hG4, upA_n _ _ (by omega), n3 _ (by omega) (by omega), hG2, upA_n _ _ (by omega), hG1, upA_s, q2, if_pos hc]
      · rw [upA_n _ _ e, nAll _ (by omega) (by omega) (by omega) (by omega) (by omega)]; exact q2
    · rw [nAll _ (by omega) (by omega) (by omega) (by omega) (by omega)]; exact q3
  · intro c' hc' k hk
    show G6 _ = nI (rgL c' k (hoB N B b))
    rw [hho]
    by_cases e : c = c' ∧ r = k
    · obtain ⟨rfl, rfl⟩ := e
      rw [if_pos ⟨rfl, rfl⟩, nLo _ (by omega), hG4, upA_n _ _ (by omega), n3 _ (by omega) (by omega), hG2, upA_s]
    · rw [if_neg e, Nat.add_zero, nAll _ (by omega) (by omega) (by omega) (by omega) (by omega)]
      exact hO c' hc' k hk
  · intro j hj
    rw [List.length_append] at hj
    by_cases e : j < A.length
    · rw [gK_app_l e]
      have hj1 := hK j (by rw [hlen]; omega)
      rw [gK_app_l e] at hj1
      exact hj1.same (fun a h1 h2 => by rw [j3 a (by omega), j1 a (by omega), n4 a (by omega) (by omega) (by omega) (by omega) (by omega)])
    · rw [gK_app_r (by omega)]
      have hj1 := hK (j + 1) (by rw [hlen]; omega)
      rw [gK_app_r (by omega), show j + 1 - A.length = (j - A.length) + 1 by omega] at hj1
      have hg : gK (b :: L) (j - A.length + 1) = gK L (j - A.length) := rfl
      rw [hg] at hj1
      have hsh : ∀ w, w < 17 → G6 (694 + 17 * j + w) = f (694 + 17 * (j + 1) + w) := fun w hw => by
        rw [j3 _ (by omega)]
        have := j2 (17 * (j - i) + w) (by omega)
        rw [show 694 + 17 * i + (17 * (j - i) + w) = 694 + 17 * j + w by omega] at this
        rw [this, n4 _ (by omega) (by omega) (by omega) (by omega) (by omega)]
        congr 1; omega
      obtain ⟨⟨b1, b2, b3, b4, b5⟩, b6⟩ := hj1
      refine ⟨⟨(hsh 0 (by decide)).trans b1, (hsh 1 (by decide)).trans b2, (hsh 2 (by decide)).trans b3, (hsh 3 (by decide)).trans b4, (hsh 4 (by decide)).trans b5⟩, fun k hk => ?_⟩
      obtain ⟨t1, t2, t3⟩ := b6 k hk
      exact ⟨(hsh (5 + k) (by omega)).trans t1, (hsh (9 + k) (by omega)).trans t2, (hsh (13 + k) (by omega)).trans t3⟩
  · show sL G6 (hoN N 3) (hoV V b)
    rw [hn 3 (by decide)]
    intro j hj
    rw [vn 46 (by decide), vn 47 (by decide)]
    exact hL.same h20 (fun a h1 h2 => nAll a (by omega) (by omega) (by omega) (by omega) (by omega)) j hj
  · show sJ G6 (hoN N 4) _
    rw [show hoN N 4 = min (N 4 + 1) 10 from upA_s _ _ _]
    exact sJ3.same (by omega) (fun a h1 h2 => by rw [nHi a (by omega), hG4, upA_n _ _ (by omega)])
end LE
end
section
/-! a day goes by, in the reference -/
theorem chV_n {V : Nat → Nat → Int32} {c m r : Nat} (h5 : r ≠ 5) (h6 : r ≠ 6) : chV V c m r = V r := by
  show upA _ 5 _ r = _
  rw [upA_n _ _ h5, upA_n _ _ h6]
theorem hoV_n {V : Nat → Nat → Int32} {b : kT} {r : Nat} (h5 : r ≠ 5) : hoV V b r = V r := up1_n h5
/-- what holds of the numbers while the day is told -/
def CI (D n1 : Nat) (v1 v2 v4 : Nat → Int32) (s : sT) : Prop := s.1 0 = D ∧ s.1 1 = n1 ∧ s.1 3 ≤ 20 ∧ s.1 4 ≤ 10 ∧ s.2.1 1 = v1 ∧ s.2.1 2 = v2 ∧ s.2.1 4 = v4
theorem NR.drop {D : Nat} {B : List bT} (h : NR D B) : NR D (dropE B) := ⟨fun q hq => h.1 q (List.mem_filter.mp hq).1, h.2.sublist List.filter_sublist⟩
theorem NR.zero {D l0 c : Nat} {B : List bT} (h : NR D B) : NR D (zeroL l0 c B) := by
  have key : ∀ q : bT, (if q.1 = c ∧ q.2.1 < l0 then (q.1, q.2.1, 0) else q).2.1 = q.2.1 := fun q => by split <;> rfl
  refine ⟨fun q hq => ?_, ?_⟩
  · obtain ⟨p, hp, rfl⟩ := List.mem_map.mp hq
    rw [key]; exact h.1 p hp
  · unfold zeroL
    rw [List.pairwise_map]
    exact h.2.imp (fun {a b} hab => by rw [key, key]; exact hab)
theorem all_drop : ∀ B : List bT, allL (dropE B) ≤ allL B
  | [] => Nat.le_refl _
  | q :: B => by
    have ih := all_drop B
    unfold dropE at ih ⊢
    rw [List.filter_cons]
    split
    · simp only [allL]; omega
    · simp only [allL]; omega
theorem all_zero (l0 c : Nat) : ∀ B : List bT, allL (zeroL l0 c B) ≤ allL B
  | [] => Nat.le_refl _
  | q :: B => by
    have ih := all_zero l0 c B
    have ez : zeroL l0 c (q :: B) = (if q.1 = c ∧ q.2.1 < l0 then (q.1, q.2.1, 0) else q) :: zeroL l0 c B := rfl
    rw [ez]
    simp only [allL]
    split
    · simp only []; omega
    · omega
theorem chS_B (l0 : Nat) (s : sT) (c : Nat) : (chS l0 s c).2.2.1 = dropE (zeroL l0 c s.2.2.1) := by
  unfold chS
  split <;> rfl
theorem CI.ch {D n1 l0 c : Nat} {v1 v2 v4 : Nat → Int32} {s : sT} (h : CI D n1 v1 v2 v4 s) : CI D n1 v1 v2 v4 (chS l0 s c) := by
  obtain ⟨h0, h1, h3, h4, g1, g2, g4⟩ := h
  unfold chS
  split
  · refine ⟨?_, ?_, ?_, ?_, ?_, ?_, ?_⟩
    · show upA s.1 4 (min (s.1 4 + 1) 10) 0 = _
      rw [upA_n _ _ (by decide)]; exact h0
    · show upA s.1 4 (min (s.1 4 + 1) 10) 1 = _
      rw [upA_n _ _ (by decide)]; exact h1
    · show hoN s.1 3 ≤ 20
      rw [show hoN s.1 3 = s.1 3 from upA_n _ _ (by decide)]; exact h3
    · show hoN s.1 4 ≤ 10
      rw [show hoN s.1 4 = min (s.1 4 + 1) 10 from upA_s _ _ _]; omega
    · show chV s.2.1 c (oldL l0 c s.2.2.1) 1 = v1
      rw [chV_n (by decide) (by decide)]; exact g1
    · show chV s.2.1 c (oldL l0 c s.2.2.1) 2 = v2
      rw [chV_n (by decide) (by decide)]; exact g2
    · show chV s.2.1 c (oldL l0 c s.2.2.1) 4 = v4
      rw [chV_n (by decide) (by decide)]; exact g4
  · exact ⟨h0, h1, h3, h4, g1, g2, g4⟩
theorem CI.ho {D n1 : Nat} {v1 v2 v4 : Nat → Int32} {s : sT} {b : kT} (h : CI D n1 v1 v2 v4 s) : CI D n1 v1 v2 v4 (hoS s b) := by
  obtain ⟨h0, h1, h3, h4, g1, g2, g4⟩ := h
  refine ⟨?_, ?_, ?_, ?_, ?_, ?_, ?_⟩
  · show upA s.1 4 (min (s.1 4 + 1) 10) 0 = _
    rw [upA_n _ _ (by decide)]; exact h0
  · show upA s.1 4 (min (s.1 4 + 1) 10) 1 = _
    rw [upA_n _ _ (by decide)]; exact h1
  · show hoN s.1 3 ≤ 20
    rw [show hoN s.1 3 = s.1 3 from upA_n _ _ (by decide)]; exact h3
  · show hoN s.1 4 ≤ 10
    rw [show hoN s.1 4 = min (s.1 4 + 1) 10 from upA_s _ _ _]; omega
  · show hoV s.2.1 b 1 = v1
    rw [hoV_n (by decide)]; exact g1
  · show hoV s.2.1 b 2 = v2
    rw [hoV_n (by decide)]; exact g2
  · show hoV s.2.1 b 4 = v4
    rw [hoV_n (by decide)]; exact g4
section GB
variable {T : Nat → Nat → Int32} {P : Nat → Nat → Nat} {f : Nat → Int32} {N : Nat → Nat} {V : Nat → Nat → Int32} {K : List kT} {B : List bT} {R : Nat → Nat → Int32}
/-- what a basket that may leave must be -/
def LK (n1 : Nat) (v4 : Nat → Int32) (b : kT) : Prop := (∃ c d, c < n1 ∧ b 0 1 = nI c ∧ d < 5 ∧ v4 c = nI d) ∧ (∀ k, k < 4 → ∃ x y z, x ≤ 9 ∧ y + z ≤ x ∧ b 1 k = nI x ∧ b 2 k = nI y ∧ b 3 k = nI z)
theorem LK.ready {n1 : Nat} {v4 : Nat → Int32} {b : kT} (h : LK n1 v4 b) (hr : rdK b = 1) : (∀ k, k < 4 → b 2 k = b 1 k) ∧ ∃ x, x ≤ 27 ∧ nhI (b 2) = nI x := by
  have e := rd_E h.2
  rw [hr] at e
  unfold rdE at e
  have key : b 2 0 = b 1 0 ∧ b 2 1 = b 1 1 ∧ b 2 2 = b 1 2 ∧ b 2 3 = b 1 3 := by
    by_cases c0 : b 2 0 = b 1 0
    · rw [if_pos c0] at e
      by_cases c1 : b 2 1 = b 1 1
      · rw [if_pos c1] at e
        by_cases c2 : b 2 2 = b 1 2
        · rw [if_pos c2] at e
          by_cases c3 : b 2 3 = b 1 3
          · exact ⟨c0, c1, c2, c3⟩
          · rw [if_neg c3] at e; exact absurd e (by decide)
        · rw [if_neg c2] at e; exact absurd e (by decide)
      · rw [if_neg c1] at e; exact absurd e (by decide)
    · rw [if_neg c0] at e; exact absurd e (by decide)
  refine ⟨fun k hk => ?_, ?_⟩
  · match k, hk with
    | 0, _ => exact key.1
    | 1, _ => exact key.2.1
    | 2, _ => exact key.2.2.1
    | 3, _ => exact key.2.2.2
  · obtain ⟨x0, y0, z0, p0, q0, -, r0, -⟩ := h.2 0 (by decide)
    obtain ⟨x1, y1, z1, p1, q1, -, r1, -⟩ := h.2 1 (by decide)
    obtain ⟨x2, y2, z2, p2, q2, -, r2, -⟩ := h.2 2 (by decide)
    refine ⟨y0 + y1 + y2, by omega, ?_⟩
    unfold nhI
    rw [r0, r1, r2, Int32.zero_add, nI_add, nI_add]
theorem r_vanLoop {D n1 : Nat} {v1 v2 v4 : Nat → Int32} (hD : D ≤ 10100) (hn1 : n1 ≤ 10) (gp : kT → Prop) (hgp : ∀ b, gp b ↔ (rdK b = 1 ∧ ¬ vsI (v2 (v4 (cuK b)).toNatClampNeg) D = 0)) : ∀ (L A : List kT) (s : sT) (f : Nat → Int32) (n : Nat) (w3 w4 : Value), (∀ b ∈ L, LK n1 v4 b) → (A ++ L).length ≤ 8 → CI D n1 v1 v2 v4 s → sS f s (A ++ L) →
    ∃ f', X 166 37 [.ref 366, .int (nI n), .int (nI A.length), w3, w4] [] (H (upA T 367 f) P) = some (some (.int (nI (n + (L.length - (lvK gp L).length)))), H (upA T 367 f') P) ∧ sS f' (lvE gp s L) (A ++ lvK gp L)
  | [], A, s, f, n, w3, w4, hL, h8, hC, hS => by
    refine ⟨f, ?_, hS⟩
    have h16 := hS.1.n
    rw [List.append_nil] at h16 h8
    rw [x166_37]
    simp +decide only [x166_0, x166_1, x166_4, x166_5, x166_6, x166_7, x166_8, x166_9, x166_10, x166_11, x166_13, x166_14, x166_17, x166_18, x166_19, x166_22, x166_23, x166_24, x166_27, x166_30, x166_33, x166_34, x166_35, x166_36, x166_38, x166_39, x166_42, x166_44, x166_45, x166_48, x166_49, x166_52, x166_54, x166_55, x166_56, x166_57, x166_58, x166_61, x166_62, x166_65, x166_66, x166_67, x166_68, x166_71, x166_72, x166_73, x166_75, x166_76, x166_77, x166_78, x166_79, x166_80, x166_83, x166_84, x166_87, x166_88, x166_89, x166_90, x166_93, x166_94, x166_95, x166_98, x166_101, x166_102, x166_105, x166_106, x166_108, x166_110, x166_113, x166_114, x166_115, x166_118, x166_119, x166_121, x166_124, x166_125, x166_128, x166_129, x166_130, x166_131, x166_132, x166_134, x166_137, x166_138, x166_141, x166_142, x166_143, x166_144, x166_147, x166_148, aft_some, aft_void, Option.bind_some, Option.toList_some, Option.toList_none, List.cons_append, List.nil_append, if_true, if_false, ↓reduceIte, eq_self, z366_o, ↓z366_0, ↓z366_0p, ↓z366_1, ↓z366_2, ↓z366_3, ↓z366_4, ↓z366_4p, ↓z366_5, ↓z366_6, ↓z366_6p0, ↓z366_6p1, ↓z366_7, ↓z366_8, ↓z366_8p, ↓z366_9, ↓z366_9p, ↓z366_10, ↓z366_10p0, ↓z366_10p1, ↓z366_11, ↓z366_12, ↓z366_12p, ↓sg0, ↓sg1, ↓sg2, ↓sg3, ↓sg4, ↓sg5, ↓sg6, ↓sg7, ↓sg8, ↓sg9, ↓sg10, ↓sg11, ↓sg12, ↓sg13, ↓sg14, ↓sg15, ↓sg16, ↓sg17, ↓ss0, ↓ss1, ↓ss2, ↓ss3, ↓ss4, ↓ss5, ↓ss6, ↓ss7, ↓ss8, ↓ss9, ↓ss10, ↓ss11, ↓ss12, ↓ss13, ↓ss14, ↓ss15, ↓ss16, ↓ss17, h16, nI_nlt (Nat.le_refl A.length) (show A.length < 2 ^ 31 by omega), List.length_nil, Nat.zero_sub, Nat.add_zero]
  | b :: L, A, s, f, n, w3, w4, hL, h8, hC, hS => by
    have hLb := hL b List.mem_cons_self
    have hL' := fun x hx => hL x (List.mem_cons_of_mem _ hx)
    obtain ⟨⟨c, d, hc, ec, hd, ed⟩, h4⟩ := id hLb
    obtain ⟨q0, q1, q3, q4, g1, g2, g4⟩ := id hC
    have hlen : (A ++ b :: L).length = A.length + L.length + 1 := by rw [List.length_append, List.length_cons]; omega
    have h16 := hS.1.n
    rw [hlen] at h16
    rw [hlen] at h8
    have hlt : nI A.length < nI (A.length + L.length + 1) := nI_lt (by omega) (by omega)
    have hb : bR f A.length b := by
      have := hS.2.2.2.1 A.length (by rw [hlen]; omega)
      rwa [gK_app_m] at this
    have i8 : A.length < 8 := by omega
    have e1 := r_of (T := T) (P := P) (f := f) (i := A.length) (w := 1) (y := 1) rfl i8 (by decide)
    rw [hb.1.2.1, ec] at e1
    have e2 := r_ofCust (T := T) (P := P) (f := f) (i := c) (w := 0) (y := 0) rfl (by omega) (by decide)
    rw [(hS.2.1 c (by omega)).1 (by rw [q1]; exact hc), g4, ed] at e2
    have e18 : 18 + nI d = nI (18 + d) := nI_add 18 d
    have ev : f (18 + d) = v2 d := by rw [hS.1.2.2.2.2.2.1 d hd, g2]
    have f4 : f 4 = nI D := by rw [hS.1.d, q0]
    have k7 : nI D - nI D / 7 * 7 = nI (D % 7) := nI_modp (b := 7) (by omega) (by decide) (by decide)
    have hv : v2 d >>> (nI (D % 7) &&& 31) &&& 1 = vsI (v2 d) D := rfl
    have h01 := vs_01 (v2 d) D
    have er := r_isReady (T := T) (P := P) hb i8
    rw [rd_E h4] at er
    have hcu : cuK b = c := by unfold cuK; rw [ec, nI_clamp (by omega)]
    have hgb := hgp b
    rw [hcu, ed, nI_clamp (by omega)] at hgb
    have k1 : nI n + 1 = nI (n + 1) := nI_add _ 1
    have ki : nI A.length + 1 = nI (A.length + 1) := nI_add _ 1
    by_cases hg : gp b
    · have hr := hgb.mp hg
      obtain ⟨hrd, x, hx, ex⟩ := hLb.ready hr.1
      obtain ⟨G, el, hS1⟩ := r_leaves (T := T) (P := P) hS (by rw [hlen]; omega) ec (by rw [q1]; exact hc) (by rw [q1]; exact hn1) (by rw [q0]; exact hD) q3 q4 hrd ex hx
      obtain ⟨f', ef, hS2⟩ := r_vanLoop hD hn1 gp hgp L A (hoS s b) G (n + 1) (.int 1) (.int 1) hL' (by rw [List.length_append]; omega) hC.ho hS1
      have hE : lvE gp s (b :: L) = lvE gp (hoS s b) L := by
        show lvE gp (@ite _ (gp b) (Classical.propDecidable _) (hoS s b) s) L = _
        rw [if_pos hg]
      have hK : lvK gp (b :: L) = lvK gp L := by
        show @ite _ (gp b) (Classical.propDecidable _) _ _ = _
        rw [if_pos hg]
      have hle := lvK_le gp L
      rw [hE, hK]
      refine ⟨f', ?_, hS2⟩
      rw [show n + ((b :: L).length - (lvK gp L).length) = n + 1 + (L.length - (lvK gp L).length) by rw [List.length_cons]; omega, ← ef, x166_37]
      have hv1 : (vsI (v2 d) D = 1) = True := by rw [h01]; exact eq_true hr.2
      rw [hr.1] at er
      simp +decide only [x166_0, x166_1, x166_4, x166_5, x166_6, x166_7, x166_8, x166_9, x166_10, x166_11, x166_13, x166_14, x166_17, x166_18, x166_19, x166_22, x166_23, x166_24, x166_27, x166_30, x166_33, x166_34, x166_35, x166_36, x166_38, x166_39, x166_42, x166_44, x166_45, x166_48, x166_49, x166_52, x166_54, x166_55, x166_56, x166_57, x166_58, x166_61, x166_62, x166_65, x166_66, x166_67, x166_68, x166_71, x166_72, x166_73, x166_75, x166_76, x166_77, x166_78, x166_79, x166_80, x166_83, x166_84, x166_87, x166_88, x166_89, x166_90, x166_93, x166_94, x166_95, x166_98, x166_101, x166_102, x166_105, x166_106, x166_108, x166_110, x166_113, x166_114, x166_115, x166_118, x166_119, x166_121, x166_124, x166_125, x166_128, x166_129, x166_130, x166_131, x166_132, x166_134, x166_137, x166_138, x166_141, x166_142, x166_143, x166_144, x166_147, x166_148, aft_some, aft_void, Option.bind_some, Option.toList_some, Option.toList_none, List.cons_append, List.nil_append, if_true, if_false, ↓reduceIte, eq_self, z366_o, ↓z366_0, ↓z366_0p, ↓z366_1, ↓z366_2, ↓z366_3, ↓z366_4, ↓z366_4p, ↓z366_5, ↓z366_6, ↓z366_6p0, ↓z366_6p1, ↓z366_7, ↓z366_8, ↓z366_8p, ↓z366_9, ↓z366_9p, ↓z366_10, ↓z366_10p0, ↓z366_10p1, ↓z366_11, ↓z366_12, ↓z366_12p, ↓sg0, ↓sg1, ↓sg2, ↓sg3, ↓sg4, ↓sg5, ↓sg6, ↓sg7, ↓sg8, ↓sg9, ↓sg10, ↓sg11, ↓sg12, ↓sg13, ↓sg14, ↓sg15, ↓sg16, ↓sg17, ↓ss0, ↓ss1, ↓ss2, ↓ss3, ↓ss4, ↓ss5, ↓ss6, ↓ss7, ↓ss8, ↓ss9, ↓ss10, ↓ss11, ↓ss12, ↓ss13, ↓ss14, ↓ss15, ↓ss16, ↓ss17, h16, hlt, ↓aft_of (e1), ↓aft_of (e2), e18, ↓s_g (show 18 + d < 912 by omega), ev, f4, k7, hv, hv1, ↓aft_of (er), ↓aft_of (el), k1, Int32.add_zero]
    · have hE : lvE gp s (b :: L) = lvE gp s L := by
        show lvE gp (@ite _ (gp b) (Classical.propDecidable _) (hoS s b) s) L = _
        rw [if_neg hg]
      have hK : lvK gp (b :: L) = b :: lvK gp L := by
        show @ite _ (gp b) (Classical.propDecidable _) _ _ = _
        rw [if_neg hg]
      have hS' : sS f s ((A ++ [b]) ++ L) := by rw [List.append_assoc]; exact hS
      have hl1 : (A ++ [b]).length = A.length + 1 := by rw [List.length_append]; rfl
      have hle := lvK_le gp L
      by_cases hv0 : vsI (v2 d) D = 0
      · obtain ⟨f', ef, hS2⟩ := r_vanLoop hD hn1 gp hgp L (A ++ [b]) s f n (.int 0) (.int 0) hL' (by rw [List.length_append, hl1]; omega) hC hS'
        rw [hE, hK]
        refine ⟨f', ?_, by rw [List.append_assoc] at hS2; exact hS2⟩
        rw [show n + ((b :: L).length - (b :: lvK gp L).length) = n + (L.length - (lvK gp L).length) by simp only [List.length_cons]; omega, ← ef, hl1, x166_37]
        have hv1 : (vsI (v2 d) D = 1) = False := by rw [h01]; exact eq_false (fun z => z hv0)
        simp +decide only [x166_0, x166_1, x166_4, x166_5, x166_6, x166_7, x166_8, x166_9, x166_10, x166_11, x166_13, x166_14, x166_17, x166_18, x166_19, x166_22, x166_23, x166_24, x166_27, x166_30, x166_33, x166_34, x166_35, x166_36, x166_38, x166_39, x166_42, x166_44, x166_45, x166_48, x166_49, x166_52, x166_54, x166_55, x166_56, x166_57, x166_58, x166_61, x166_62, x166_65, x166_66, x166_67, x166_68, x166_71, x166_72, x166_73, x166_75, x166_76, x166_77, x166_78, x166_79, x166_80, x166_83, x166_84, x166_87, x166_88, x166_89, x166_90, x166_93, x166_94, x166_95, x166_98, x166_101, x166_102, x166_105, x166_106, x166_108, x166_110, x166_113, x166_114, x166_115, x166_118, x166_119, x166_121, x166_124, x166_125, x166_128, x166_129, x166_130, x166_131, x166_132, x166_134, x166_137, x166_138, x166_141, x166_142, x166_143, x166_144, x166_147, x166_148, aft_some, aft_void, Option.bind_some, Option.toList_some, Option.toList_none, List.cons_append, List.nil_append, if_true, if_false, ↓reduceIte, eq_self, z366_o, ↓z366_0, ↓z366_0p, ↓z366_1, ↓z366_2, ↓z366_3, ↓z366_4, ↓z366_4p, ↓z366_5, ↓z366_6, ↓z366_6p0, ↓z366_6p1, ↓z366_7, ↓z366_8, ↓z366_8p, ↓z366_9, ↓z366_9p, ↓z366_10, ↓z366_10p0, ↓z366_10p1, ↓z366_11, ↓z366_12, ↓z366_12p, ↓sg0, ↓sg1, ↓sg2, ↓sg3, ↓sg4, ↓sg5, ↓sg6, ↓sg7, ↓sg8, ↓sg9, ↓sg10, ↓sg11, ↓sg12, ↓sg13, ↓sg14, ↓sg15, ↓sg16, ↓sg17, ↓ss0, ↓ss1, ↓ss2, ↓ss3, ↓ss4, ↓ss5, ↓ss6, ↓ss7, ↓ss8, ↓ss9, ↓ss10, ↓ss11, ↓ss12, ↓ss13, ↓ss14, ↓ss15, ↓ss16, ↓ss17, h16, hlt, ↓aft_of (e1), ↓aft_of (e2), e18, ↓s_g (show 18 + d < 912 by omega), ev, f4, k7, hv, hv1, ki, Int32.add_zero]
      · have hr0 : rdK b = 0 := by
          have h01r : rdK b = 0 ∨ rdK b = 1 := by
            unfold rdK
            repeat' split
            all_goals simp
          rcases h01r with z | z
          · exact z
          · exact absurd (hgb.mpr ⟨z, hv0⟩) hg
        obtain ⟨f', ef, hS2⟩ := r_vanLoop hD hn1 gp hgp L (A ++ [b]) s f n (.int 1) (.int 0) hL' (by rw [List.length_append, hl1]; omega) hC hS'
        rw [hE, hK]
        refine ⟨f', ?_, by rw [List.append_assoc] at hS2; exact hS2⟩
        rw [show n + ((b :: L).length - (b :: lvK gp L).length) = n + (L.length - (lvK gp L).length) by simp only [List.length_cons]; omega, ← ef, hl1, x166_37]
        have hv1 : (vsI (v2 d) D = 1) = True := by rw [h01]; exact eq_true hv0
        rw [hr0] at er
        simp +decide only [x166_0, x166_1, x166_4, x166_5, x166_6, x166_7, x166_8, x166_9, x166_10, x166_11, x166_13, x166_14, x166_17, x166_18, x166_19, x166_22, x166_23, x166_24, x166_27, x166_30, x166_33, x166_34, x166_35, x166_36, x166_38, x166_39, x166_42, x166_44, x166_45, x166_48, x166_49, x166_52, x166_54, x166_55, x166_56, x166_57, x166_58, x166_61, x166_62, x166_65, x166_66, x166_67, x166_68, x166_71, x166_72, x166_73, x166_75, x166_76, x166_77, x166_78, x166_79, x166_80, x166_83, x166_84, x166_87, x166_88, x166_89, x166_90, x166_93, x166_94, x166_95, x166_98, x166_101, x166_102, x166_105, x166_106, x166_108, x166_110, x166_113, x166_114, x166_115, x166_118, x166_119, x166_121, x166_124, x166_125, x166_128, x166_129, x166_130, x166_131, x166_132, x166_134, x166_137, x166_138, x166_141, x166_142, x166_143, x166_144, x166_147, x166_148, aft_some, aft_void, Option.bind_some, Option.toList_some, Option.toList_none, List.cons_append, List.nil_append, if_true, if_false, ↓reduceIte, eq_self, z366_o, ↓z366_0, ↓z366_0p, ↓z366_1, ↓z366_2, ↓z366_3, ↓z366_4, ↓z366_4p, ↓z366_5, ↓z366_6, ↓z366_6p0, ↓z366_6p1, ↓z366_7, ↓z366_8, ↓z366_8p, ↓z366_9, ↓z366_9p, ↓z366_10, ↓z366_10p0, ↓z366_10p1, ↓z366_11, ↓z366_12, ↓z366_12p, ↓sg0, ↓sg1, ↓sg2, ↓sg3, ↓sg4, ↓sg5, ↓sg6, ↓sg7, ↓sg8, ↓sg9, ↓sg10, ↓sg11, ↓sg12, ↓sg13, ↓sg14, ↓sg15, ↓sg16, ↓sg17, ↓ss0, ↓ss1, ↓ss2, ↓ss3, ↓ss4, ↓ss5, ↓ss6, ↓ss7, ↓ss8, ↓ss9, ↓ss10, ↓ss11, ↓ss12, ↓ss13, ↓ss14, ↓ss15, ↓ss16, ↓ss17, h16, hlt, ↓aft_of (e1), ↓aft_of (e2), e18, ↓s_g (show 18 + d < 912 by omega), ev, f4, k7, hv, hv1, ↓aft_of (er), ki, Int32.add_zero]
theorem chE_ci {D n1 l0 : Nat} {v1 v2 v4 : Nat → Int32} {s : sT} (h : CI D n1 v1 v2 v4 s) : ∀ n, CI D n1 v1 v2 v4 (chE l0 n s)
  | 0 => h
  | n + 1 => (chE_ci h n).ch
theorem chE_nr {D l0 : Nat} {s : sT} (h : NR D s.2.2.1) (hA : allL s.2.2.1 ≤ 2673) : ∀ n, NR D (chE l0 n s).2.2.1 ∧ allL (chE l0 n s).2.2.1 ≤ 2673
  | 0 => ⟨h, hA⟩
  | n + 1 => by
    obtain ⟨h1, h2⟩ := chE_nr (l0 := l0) h hA n
    show NR D (chS l0 (chE l0 n s) n).2.2.1 ∧ allL (chS l0 (chE l0 n s) n).2.2.1 ≤ 2673
    rw [chS_B]
    refine ⟨h1.zero.drop, ?_⟩
    have := all_drop (zeroL l0 n (chE l0 n s).2.2.1)
    have := all_zero l0 n (chE l0 n s).2.2.1
    omega
theorem r_goesBy (h : sR f N V K B R) (hw : WF N V K B) (hd : N 0 < 10100) : ∃ f', X 166 0 [.ref 366, .long 0, .long 0, .long 0, .long 0] [] (H (upA T 367 f) P) = some (some (.int (nI (K.length - (dyK (N, V, B, R) K).length))), H (upA T 367 f') P) ∧ sS f' (dyS (N, V, B, R) K) (dyK (N, V, B, R) K) := by
  obtain ⟨⟨w0, w1, -, w8, w20, w10⟩, w2, ⟨-, ⟨g, g1, g2, eg⟩, -⟩, w4, -⟩ := id hw
  obtain ⟨⟨a1, ⟨a2, a3, a4, a5⟩, ⟨a6, a7, a8⟩, a9, ⟨a10, a11, a12⟩, a13, a14⟩, hC, hO, hK, hL, hJ⟩ := id h
  have hG : dyG V = g := by unfold dyG; rw [eg, nI_clamp (by omega)]
  have k1 : nI (N 0) + 1 = nI (N 0 + 1) := nI_add _ 1
  obtain ⟨s0, hs0⟩ : ∃ s0, s0 = dy0 (N, V, B, R) := ⟨_, rfl⟩
  have hCI : CI (N 0 + 1) (N 1) (V 1) (V 2) (V 4) s0 := by
    rw [hs0]
    refine ⟨?_, ?_, ?_, ?_, ?_, ?_, ?_⟩
    · show upA N 0 (N 0 + 1) 0 = _; rw [upA_s]
    · show upA N 0 (N 0 + 1) 1 = _; rw [upA_n _ _ (by decide)]
    rotate_left 2
    · show up1 V 0 0 (nI (N 0 + 1)) 1 = _; rw [up1_n (by decide)]
    · show up1 V 0 0 (nI (N 0 + 1)) 2 = _; rw [up1_n (by decide)]
    · show up1 V 0 0 (nI (N 0 + 1)) 4 = _; rw [up1_n (by decide)]
    · show upA N 0 (N 0 + 1) 3 ≤ 20; rw [upA_n _ _ (by decide)]; exact w20
    · show upA N 0 (N 0 + 1) 4 ≤ 10; rw [upA_n _ _ (by decide)]; exact w10
  have hNR : NR (N 0 + 1) s0.2.2.1 := by
    rw [hs0]
    exact ⟨fun q hq => by have := hw.2.2.2.2.2.1.1 q hq; omega, hw.2.2.2.2.2.1.2.1⟩
  have hA : allL s0.2.2.1 ≤ 2673 := by rw [hs0]; exact hw.all
  have hS0 : sS (upA f 4 (nI (N 0 + 1))) s0 K := by
    rw [hs0]
    have hn : ∀ r, r ≠ 0 → upA N 0 (N 0 + 1) r = N r := fun r hr => upA_n _ _ hr
    have vn : ∀ r, r ≠ 0 → up1 V 0 0 (nI (N 0 + 1)) r = V r := fun r hr => up1_n hr
    have fn : ∀ a, a ≠ 4 → upA f 4 (nI (N 0 + 1)) a = f a := fun a ha => upA_n _ _ ha
    have v0 : ∀ k, k ≠ 0 → up1 V 0 0 (nI (N 0 + 1)) 0 k = V 0 k := fun k hk => by rw [up1_s, upA_n _ _ hk]
    refine ⟨⟨fun j hj => ?_, ⟨?_, ?_, ?_, ?_⟩, ⟨?_, ?_, ?_⟩, fun j hj => ?_, ⟨?_, ?_, ?_⟩, fun d hd => ?_, ?_⟩, ?_, ?_, ?_, ?_, ?_⟩
    · show upA f 4 (nI (N 0 + 1)) j = up1 V 0 0 (nI (N 0 + 1)) 1 j
      rw [fn j (by omega), vn 1 (by decide)]; exact a1 j hj
    · show upA f 4 (nI (N 0 + 1)) 4 = nI (upA N 0 (N 0 + 1) 0)
      rw [upA_s, upA_s]
    · show upA f 4 (nI (N 0 + 1)) 5 = nI (upA N 0 (N 0 + 1) 1)
      rw [fn 5 (by decide), hn 1 (by decide)]; exact a3
    · show upA f 4 (nI (N 0 + 1)) 6 = nI (upA N 0 (N 0 + 1) 2)
      rw [fn 6 (by decide), hn 2 (by decide)]; exact a4
    · show upA f 4 (nI (N 0 + 1)) 7 = up1 V 0 0 (nI (N 0 + 1)) 0 1
      rw [fn 7 (by decide), v0 1 (by decide)]; exact a5
    · show upA f 4 (nI (N 0 + 1)) 8 = smI (up1 V 0 0 (nI (N 0 + 1)) 6) (upA N 0 (N 0 + 1) 1)
      rw [fn 8 (by decide), vn 6 (by decide), hn 1 (by decide)]; exact a6
    · show upA f 4 (nI (N 0 + 1)) 9 = up1 V 0 0 (nI (N 0 + 1)) 0 2
      rw [fn 9 (by decide), v0 2 (by decide)]; exact a7
    · show upA f 4 (nI (N 0 + 1)) 10 = nI (upA N 0 (N 0 + 1) 3)
      rw [fn 10 (by decide), hn 3 (by decide)]; exact a8
    · show upA f 4 (nI (N 0 + 1)) (11 + j) = up1 V 0 0 (nI (N 0 + 1)) 48 j
      rw [fn _ (by omega), vn 48 (by decide)]; exact a9 j hj
    · show upA f 4 (nI (N 0 + 1)) 15 = up1 V 0 0 (nI (N 0 + 1)) 0 3
      rw [fn 15 (by decide), v0 3 (by decide)]; exact a10
    · rw [fn 16 (by decide)]; exact a11
    · show upA f 4 (nI (N 0 + 1)) 17 = nI (upA N 0 (N 0 + 1) 4)
      rw [fn 17 (by decide), hn 4 (by decide)]; exact a12
    · show upA f 4 (nI (N 0 + 1)) (18 + d) = up1 V 0 0 (nI (N 0 + 1)) 2 d
      rw [fn _ (by omega), vn 2 (by decide)]; exact a13 d hd
    · show up1 V 0 0 (nI (N 0 + 1)) 0 0 = nI (upA N 0 (N 0 + 1) 0)
      rw [up1_s, upA_s, upA_s]
    · intro c hc
      show (c < upA N 0 (N 0 + 1) 1 → upA f 4 (nI (N 0 + 1)) _ = up1 V 0 0 (nI (N 0 + 1)) 4 c) ∧ upA f 4 (nI (N 0 + 1)) _ = (if c < upA N 0 (N 0 + 1) 1 then up1 V 0 0 (nI (N 0 + 1)) 5 c else 0) ∧ upA f 4 (nI (N 0 + 1)) _ = (if c < upA N 0 (N 0 + 1) 1 then up1 V 0 0 (nI (N 0 + 1)) 6 c else 0)
      rw [hn 1 (by decide), vn 4 (by decide), vn 5 (by decide), vn 6 (by decide)]
      exact hC.same (fun a h1 h2 => fn a (by omega)) c hc
    · exact hO.same (fun a h1 h2 => fn a (by omega))
    · exact hK.same w8 (fun a h1 h2 => fn a (by omega))
    · show sL _ (upA N 0 (N 0 + 1) 3) (up1 V 0 0 (nI (N 0 + 1)))
      rw [hn 3 (by decide)]
      intro i hi
      rw [vn 46 (by decide), vn 47 (by decide)]
      exact hL.same w20 (fun a h1 h2 => fn a (by omega)) i hi
    · show sJ _ (upA N 0 (N 0 + 1) 4) R
      rw [hn 4 (by decide)]
      exact hJ.same w10 (fun a h1 h2 => fn a (by omega))
  obtain ⟨G, eG, hSG⟩ := loop_ex (fun i (G : Nat → Int32) => X 166 12 [.ref 366, .int (nI i), .long 0, .long 0, .long 0] [] (H (upA T 367 G) P)) (fun i G => sS G (chE (N 0 + 1 - g) i s0) K) (N 1) (upA f 4 (nI (N 0 + 1))) hS0 (by
    intro i G hi hSi
    obtain ⟨q0, q1, q3, q4, r1, r2, r4⟩ := chE_ci (l0 := N 0 + 1 - g) hCI i
    obtain ⟨p1, p2⟩ := chE_nr (l0 := N 0 + 1 - g) hNR hA i
    obtain ⟨G', e, hS'⟩ := r_pays (T := T) (P := P) (c := i) (g := g) hSi (by rw [q1]; exact hi) (by rw [q1]; exact w1) (by rw [q0]; omega) w8 q3 q4 (by rw [q0]; exact p1) p2 (by rw [r1]; exact eg) g2
    refine ⟨G', ?_, ?_⟩
    · have hlt : nI i < nI (N 1) := nI_lt hi (by omega)
      have h5 : G 5 = nI (N 1) := by rw [hSi.1.2.1.2.1, q1]
      show X 166 12 [.ref 366, .int (nI i), .long 0, .long 0, .long 0] [] (H (upA T 367 G) P) = _
      rw [x166_12]
      simp +decide only [x166_0, x166_1, x166_4, x166_5, x166_6, x166_7, x166_8, x166_9, x166_10, x166_11, x166_13, x166_14, x166_17, x166_18, x166_19, x166_22, x166_23, x166_24, x166_27, x166_30, x166_33, x166_34, x166_35, x166_36, x166_38, x166_39, x166_42, x166_44, x166_45, x166_48, x166_49, x166_52, x166_54, x166_55, x166_56, x166_57, x166_58, x166_61, x166_62, x166_65, x166_66, x166_67, x166_68, x166_71, x166_72, x166_73, x166_75, x166_76, x166_77, x166_78, x166_79, x166_80, x166_83, x166_84, x166_87, x166_88, x166_89, x166_90, x166_93, x166_94, x166_95, x166_98, x166_101, x166_102, x166_105, x166_106, x166_108, x166_110, x166_113, x166_114, x166_115, x166_118, x166_119, x166_121, x166_124, x166_125, x166_128, x166_129, x166_130, x166_131, x166_132, x166_134, x166_137, x166_138, x166_141, x166_142, x166_143, x166_144, x166_147, x166_148, aft_some, aft_void, Option.bind_some, Option.toList_some, Option.toList_none, List.cons_append, List.nil_append, if_true, if_false, ↓reduceIte, eq_self, z366_o, ↓z366_0, ↓z366_0p, ↓z366_1, ↓z366_2, ↓z366_3, ↓z366_4, ↓z366_4p, ↓z366_5, ↓z366_6, ↓z366_6p0, ↓z366_6p1, ↓z366_7, ↓z366_8, ↓z366_8p, ↓z366_9, ↓z366_9p, ↓z366_10, ↓z366_10p0, ↓z366_10p1, ↓z366_11, ↓z366_12, ↓z366_12p, ↓sg0, ↓sg1, ↓sg2, ↓sg3, ↓sg4, ↓sg5, ↓sg6, ↓sg7, ↓sg8, ↓sg9, ↓sg10, ↓sg11, ↓sg12, ↓sg13, ↓sg14, ↓sg15, ↓sg16, ↓sg17, ↓ss0, ↓ss1, ↓ss2, ↓ss3, ↓ss4, ↓ss5, ↓ss6, ↓ss7, ↓ss8, ↓ss9, ↓ss10, ↓ss11, ↓ss12, ↓ss13, ↓ss14, ↓ss15, ↓ss16, ↓ss17, hlt, h5, ↓aft_of (e), nI_1]
    · rw [q0] at hS'; exact hS')
  have eG : X 166 12 [.ref 366, .int 0, .long 0, .long 0, .long 0] [] (H (upA T 367 (upA f 4 (nI (N 0 + 1)))) P) = X 166 12 [.ref 366, .int (nI (N 1)), .long 0, .long 0, .long 0] [] (H (upA T 367 G) P) := eG
  have hCE := chE_ci (l0 := N 0 + 1 - g) hCI (N 1)
  obtain ⟨q0, q1, q3, q4, r1, r2, r4⟩ := id hCE
  have hd1 : dy1 (N, V, B, R) = chE (N 0 + 1 - g) (N 1) s0 := by
    show chE (N 0 + 1 - dyG V) (N 1) (dy0 (N, V, B, R)) = _
    rw [hG, hs0]
  have hLK : ∀ b ∈ K, LK (N 1) (V 4) b := by
    intro b hb
    obtain ⟨i, hi⟩ := List.getElem?_of_mem hb
    obtain ⟨⟨c, hc, ec⟩, -, -, -, h4⟩ := w4 i b hi
    obtain ⟨d, hd5, ed⟩ := w2 c hc
    exact ⟨⟨c, d, hc, ec, hd5, ed⟩, h4⟩
  obtain ⟨f', ef, hSf⟩ := r_vanLoop (T := T) (P := P) (D := N 0 + 1) (n1 := N 1) (v1 := V 1) (v2 := V 2) (v4 := V 4) (by omega) w1 (goK (dy1 (N, V, B, R)).1 (dy1 (N, V, B, R)).2.1) (fun b => by
    unfold goK
    rw [hd1, q0, r2, r4]) K [] (chE (N 0 + 1 - g) (N 1) s0) G 0 (.long 0) (.long 0) hLK (by rw [List.nil_append]; exact w8) hCE hSG
  refine ⟨f', ?_, ?_⟩
  · have h5 : G 5 = nI (N 1) := by rw [hSG.1.2.1.2.1, q1]
    have ef : X 166 37 [.ref 366, .int 0, .int 0, .long 0, .long 0] [] (H (upA T 367 G) P) = some (some (.int (nI (0 + (K.length - (dyK (N, V, B, R) K).length)))), H (upA T 367 f') P) := ef
    rw [Nat.zero_add] at ef
    simp +decide only [x166_0, x166_1, x166_4, x166_5, x166_6, x166_7, x166_8, x166_9, x166_10, x166_11, x166_13, x166_14, x166_17, x166_18, x166_19, x166_22, x166_23, x166_24, x166_27, x166_30, x166_33, x166_34, x166_35, x166_36, x166_38, x166_39, x166_42, x166_44, x166_45, x166_48, x166_49, x166_52, x166_54, x166_55, x166_56, x166_57, x166_58, x166_61, x166_62, x166_65, x166_66, x166_67, x166_68, x166_71, x166_72, x166_73, x166_75, x166_76, x166_77, x166_78, x166_79, x166_80, x166_83, x166_84, x166_87, x166_88, x166_89, x166_90, x166_93, x166_94, x166_95, x166_98, x166_101, x166_102, x166_105, x166_106, x166_108, x166_110, x166_113, x166_114, x166_115, x166_118, x166_119, x166_121, x166_124, x166_125, x166_128, x166_129, x166_130, x166_131, x166_132, x166_134, x166_137, x166_138, x166_141, x166_142, x166_143, x166_144, x166_147, x166_148, aft_some, aft_void, Option.bind_some, Option.toList_some, Option.toList_none, List.cons_append, List.nil_append, if_true, if_false, ↓reduceIte, eq_self, z366_o, ↓z366_0, ↓z366_0p, ↓z366_1, ↓z366_2, ↓z366_3, ↓z366_4, ↓z366_4p, ↓z366_5, ↓z366_6, ↓z366_6p0, ↓z366_6p1, ↓z366_7, ↓z366_8, ↓z366_8p, ↓z366_9, ↓z366_9p, ↓z366_10, ↓z366_10p0, ↓z366_10p1, ↓z366_11, ↓z366_12, ↓z366_12p, ↓sg0, ↓sg1, ↓sg2, ↓sg3, ↓sg4, ↓sg5, ↓sg6, ↓sg7, ↓sg8, ↓sg9, ↓sg10, ↓sg11, ↓sg12, ↓sg13, ↓sg14, ↓sg15, ↓sg16, ↓sg17, ↓ss0, ↓ss1, ↓ss2, ↓ss3, ↓ss4, ↓ss5, ↓ss6, ↓ss7, ↓ss8, ↓ss9, ↓ss10, ↓ss11, ↓ss12, ↓ss13, ↓ss14, ↓ss15, ↓ss16, ↓ss17, a2, k1]
    rw [eG, x166_12]
    simp +decide only [x166_0, x166_1, x166_4, x166_5, x166_6, x166_7, x166_8, x166_9, x166_10, x166_11, x166_13, x166_14, x166_17, x166_18, x166_19, x166_22, x166_23, x166_24, x166_27, x166_30, x166_33, x166_34, x166_35, x166_36, x166_38, x166_39, x166_42, x166_44, x166_45, x166_48, x166_49, x166_52, x166_54, x166_55, x166_56, x166_57, x166_58, x166_61, x166_62, x166_65, x166_66, x166_67, x166_68, x166_71, x166_72, x166_73, x166_75, x166_76, x166_77, x166_78, x166_79, x166_80, x166_83, x166_84, x166_87, x166_88, x166_89, x166_90, x166_93, x166_94, x166_95, x166_98, x166_101, x166_102, x166_105, x166_106, x166_108, x166_110, x166_113, x166_114, x166_115, x166_118, x166_119, x166_121, x166_124, x166_125, x166_128, x166_129, x166_130, x166_131, x166_132, x166_134, x166_137, x166_138, x166_141, x166_142, x166_143, x166_144, x166_147, x166_148, aft_some, aft_void, Option.bind_some, Option.toList_some, Option.toList_none, List.cons_append, List.nil_append, if_true, if_false, ↓reduceIte, eq_self, z366_o, ↓z366_0, ↓z366_0p, ↓z366_1, ↓z366_2, ↓z366_3, ↓z366_4, ↓z366_4p, ↓z366_5, ↓z366_6, ↓z366_6p0, ↓z366_6p1, ↓z366_7, ↓z366_8, ↓z366_8p, ↓z366_9, ↓z366_9p, ↓z366_10, ↓z366_10p0, ↓z366_10p1, ↓z366_11, ↓z366_12, ↓z366_12p, ↓sg0, ↓sg1, ↓sg2, ↓sg3, ↓sg4, ↓sg5, ↓sg6, ↓sg7, ↓sg8, ↓sg9, ↓sg10, ↓sg11, ↓sg12, ↓sg13, ↓sg14, ↓sg15, ↓sg16, ↓sg17, ↓ss0, ↓ss1, ↓ss2, ↓ss3, ↓ss4, ↓ss5, ↓ss6, ↓ss7, ↓ss8, ↓ss9, ↓ss10, ↓ss11, ↓ss12, ↓ss13, ↓ss14, ↓ss15, ↓ss16, ↓ss17, h5, nI_nlt (Nat.le_refl (N 1)) (show N 1 < 2 ^ 31 by omega)]
    exact ef
  · show sS f' (lvE (goK (dy1 (N, V, B, R)).1 (dy1 (N, V, B, R)).2.1) (dy1 (N, V, B, R)) K) (lvK (goK (dy1 (N, V, B, R)).1 (dy1 (N, V, B, R)).2.1) K)
    rw [hd1] at hSf ⊢
    exact hSf
end GB
end
section
/-! the reference's calls: what they answer, and the state behind them -/
/-- the reference stands for s: its state is in the array f -/
def CF (T : Nat → Nat → Int32) (f : Nat → Int32) (s : gT) : Prop := (T 366 0 = 0 ∧ kR T s.2.1 ∧ hR T s.2.2.1 ∧ xR T s.2.2.2) ∧ sU f s.1
/-- what always holds of what is kept -/
def WG (s : gT) : Prop := WFu s.1 ∧ (∀ v ∈ s.2.2.1, WFu v) ∧ ∀ v, s.2.1 = some v → WFu v
/-- the call j at A answers a.1 and leaves a.2 -/
def RQ (T : Nat → Nat → Int32) (P : Nat → Nat → Nat) (f : Nat → Int32) (j : Nat) (A : List Value) (a : Int32 × gT) : Prop := ∃ T' f', X j 0 A [] (H (upA T 367 f) P) = some (some (.int a.1), H (upA T' 367 f') P) ∧ (∀ a, a < 366 → T' a = T a) ∧ CF T' f' a.2
section QA
variable {T : Nat → Nat → Int32} {P : Nat → Nat → Nat} {f : Nat → Int32} {s : gT} {x y z w : Int32}
theorem thr (h : T 366 0 = 0) : up1 (upA T 367 f) 366 0 0 = upA T 367 f := by
  have e : upA (upA T 367 f 366) 0 0 = upA T 367 f 366 := by
    rw [upA_n _ _ (show 366 ≠ 367 by decide)]
    have := upA_self (T 366) 0
    rwa [h] at this
  show upA (upA T 367 f) 366 (upA (upA T 367 f 366) 0 0) = _
  rw [e]
  exact upA_self _ _
theorem kR.same {U : Nat → Nat → Int32} {k : Option uT} (h : kR T k) (hw : ∀ v, k = some v → WFu v) (h6 : U 366 6 = T 366 6) (h370 : ∀ j, j < 912 → U 370 j = T 370 j) : kR U k := by
  cases k with
  | none => exact h6.trans h
  | some v => exact ⟨h6.trans h.1, sU.same h.2 (hw v rfl) h370⟩
theorem hR.same {U : Nat → Nat → Int32} {L : List uT} (h : hR T L) (h4 : U 366 4 = T 366 4) (h369 : U 369 = T 369) : hR U L := by
  refine ⟨h4.trans h.1, h.2.1, fun g u hg => ?_⟩
  have := h.2.2 g u hg
  rw [← h369] at this
  exact this
theorem xR.same {U : Nat → Nat → Int32} {t : Nat × (Nat → Int32)} (h : xR T t) (h8 : U 366 8 = T 366 8) (h371 : U 371 = T 371) : xR U t := ⟨h8.trans h.1, h.2.1, fun i hi => by rw [h371]; exact h.2.2 i hi⟩
/-- the state goes into the history -/
theorem CF.push (h : CF T f s) (hw : WG s) : ∃ U, X 131 0 [.ref 366, .long 0] [] (H (upA T 367 f) P) = some (none, H (upA U 367 f) P) ∧ (∀ a, a ≠ 366 → a ≠ 369 → U a = T a) ∧ (∀ k, k ≠ 4 → U 366 k = T 366 k) ∧ CF U f (s.1, s.2.1, psL s, s.2.2.2) := by
  obtain ⟨⟨h0, hk, hh, hx⟩, hs⟩ := h
  have hh' : hR (upA T 367 f) s.2.2.1 := hh.same (congrFun (upA_n _ _ (by decide)) 4) (upA_n _ _ (by decide))
  have hs' : sU ((upA T 367 f) 367) s.1 := by rw [upA_s]; exact hs
  obtain ⟨U, e, f1, f2, r⟩ := hh'.push (P := P) hw.2.1 hs' hw.1
  have hU : U 367 = f := by rw [f1 367 (by decide) (by decide), upA_s]
  have hUU : upA U 367 f = U := by rw [← hU]; exact upA_self _ _
  have g1 : ∀ a, a ≠ 366 → a ≠ 367 → a ≠ 369 → U a = T a := fun a q1 q2 q3 => (f1 a q1 q3).trans (upA_n _ _ q2)
  have g2 : ∀ k, k ≠ 4 → U 366 k = T 366 k := fun k hk => (f2 k hk).trans (congrFun (upA_n _ _ (by decide)) k)
  refine ⟨upA U 367 (T 367), ?_, fun a q1 q2 => ?_, ?_, ⟨?_, ?_, ?_, ?_⟩, hs⟩
  · rw [upA_upA, hUU]; exact e
  · by_cases q : a = 367
    · subst q; exact upA_s _ _ _
    · rw [upA_n _ _ q]; exact g1 a q1 q q2
  · intro k hk; rw [upA_n _ _ (by decide)]; exact g2 k hk
  · rw [upA_n _ _ (by decide), g2 0 (by decide)]; exact h0
  · exact hk.same hw.2.2 (by rw [upA_n _ _ (by decide)]; exact g2 6 (by decide)) (fun j _ => by rw [upA_n _ _ (by decide), g1 370 (by decide) (by decide) (by decide)])
  · exact r.same (by rw [upA_n _ _ (by decide)]) (upA_n _ _ (by decide))
  · exact hx.same (by rw [upA_n _ _ (by decide)]; exact g2 8 (by decide)) (by rw [upA_n _ _ (by decide)]; exact g1 371 (by decide) (by decide) (by decide))
/-- only the state changes -/
theorem CF.now {f' : Nat → Int32} {u : uT} (h : CF T f s) (hu : sU f' u) : CF T f' (u, s.2) := ⟨h.1, hu⟩
theorem q_cust (h : CF T f s) (hw : WG s) (d : Int32) : RQ T P f 146 [.ref 366, .int d] (gCust d s) := by
  have t0 := thr (f := f) h.1.1
  unfold gCust
  by_cases c1 : inI d 0 4 = 0
  · rw [if_pos c1]
    exact ⟨T, f, by simp +decide only [x146_0, x146_1, x146_2, x146_5, x146_6, x146_7, x146_8, x146_11, x146_14, x146_15, x146_16, x146_17, x146_20, x146_21, x146_22, x146_24, x146_27, x146_29, x146_30, x146_31, x146_34, x146_35, x146_36, x146_39, x146_40, x146_41, x146_42, x146_43, x146_46, x146_47, x146_50, x146_51, x146_52, x146_53, x146_54, x146_55, x146_56, x146_57, x146_60, x146_61, x146_62, x146_63, x146_64, aft_some, aft_void, Option.bind_some, Option.toList_some, Option.toList_none, List.cons_append, List.nil_append, if_true, if_false, ↓reduceIte, eq_self, z366_o, ↓z366_0, ↓z366_0p, ↓z366_1, ↓z366_2, ↓z366_3, ↓z366_4, ↓z366_4p, ↓z366_5, ↓z366_6, ↓z366_6p0, ↓z366_6p1, ↓z366_7, ↓z366_8, ↓z366_8p, ↓z366_9, ↓z366_9p, ↓z366_10, ↓z366_10p0, ↓z366_10p1, ↓z366_11, ↓z366_12, ↓z366_12p, ↓sg0, ↓sg1, ↓sg2, ↓sg3, ↓sg4, ↓sg5, ↓sg6, ↓sg7, ↓sg8, ↓sg9, ↓sg10, ↓sg11, ↓sg12, ↓sg13, ↓sg14, ↓sg15, ↓sg16, ↓sg17, ↓ss0, ↓ss1, ↓ss2, ↓ss3, ↓ss4, ↓ss5, ↓ss6, ↓ss7, ↓ss8, ↓ss9, ↓ss10, ↓ss11, ↓ss12, ↓ss13, ↓ss14, ↓ss15, ↓ss16, ↓ss17, t0, ↓aft_of (r_in), c1], fun _ _ => rfl, h⟩
  rw [if_neg c1]
  have hN1 := hw.1.1.1.2.1
  have h5 : f 5 = nI (s.1.1.1 1) := h.2.1.2.1.2.1
  have e10 : (nI (s.1.1.1 1) = 10) = (s.1.1.1 1 = 10) := by rw [show (10 : Int32) = nI 10 from rfl, nI_inj (by omega) (by decide)]
  by_cases c2 : s.1.1.1 1 < 10
  · rw [if_pos c2]
    have c10 : (s.1.1.1 1 = 10) = False := eq_false (by omega)
    obtain ⟨U, e, fr, -, hU⟩ := h.push (P := P) hw
    obtain ⟨n, hn⟩ : ∃ n, n = s.1.1.1 1 := ⟨_, rfl⟩
    have l1 := r_layCust (T := U) (P := P) (f := f) (i := n) (w := 0) (y := 0) (z := d) rfl (by omega) (by decide)
    have k1 : nI n + 1 = nI (n + 1) := nI_add _ 1
    have k2 : nI (n + 1) - 1 = nI n := nI_pred n
    have r5 : upA f (24 + 3 * n + 0) d 5 = nI n := by rw [upA_n _ _ (by omega), h5, hn]
    rw [← hn] at h5 e10 c10 ⊢
    refine ⟨U, upA (upA f (24 + 3 * n + 0) d) 5 (nI (n + 1)), ?_, fun a ha => fr a (by omega) (by omega), hU.now ?_⟩
    · simp +decide only [x146_0, x146_1, x146_2, x146_5, x146_6, x146_7, x146_8, x146_11, x146_14, x146_15, x146_16, x146_17, x146_20, x146_21, x146_22, x146_24, x146_27, x146_29, x146_30, x146_31, x146_34, x146_35, x146_36, x146_39, x146_40, x146_41, x146_42, x146_43, x146_46, x146_47, x146_50, x146_51, x146_52, x146_53, x146_54, x146_55, x146_56, x146_57, x146_60, x146_61, x146_62, x146_63, x146_64, aft_some, aft_void, Option.bind_some, Option.toList_some, Option.toList_none, List.cons_append, List.nil_append, if_true, if_false, ↓reduceIte, eq_self, z366_o, ↓z366_0, ↓z366_0p, ↓z366_1, ↓z366_2, ↓z366_3, ↓z366_4, ↓z366_4p, ↓z366_5, ↓z366_6, ↓z366_6p0, ↓z366_6p1, ↓z366_7, ↓z366_8, ↓z366_8p, ↓z366_9, ↓z366_9p, ↓z366_10, ↓z366_10p0, ↓z366_10p1, ↓z366_11, ↓z366_12, ↓z366_12p, ↓sg0, ↓sg1, ↓sg2, ↓sg3, ↓sg4, ↓sg5, ↓sg6, ↓sg7, ↓sg8, ↓sg9, ↓sg10, ↓sg11, ↓sg12, ↓sg13, ↓sg14, ↓sg15, ↓sg16, ↓sg17, ↓ss0, ↓ss1, ↓ss2, ↓ss3, ↓ss4, ↓ss5, ↓ss6, ↓ss7, ↓ss8, ↓ss9, ↓ss10, ↓ss11, ↓ss12, ↓ss13, ↓ss14, ↓ss15, ↓ss16, ↓ss17, upA_s, u_n, t0, ↓aft_of (r_in), c1, h5, e10, c10, ↓aft_of (e), ↓aft_of (l1), r5, k1, k2]
    · obtain ⟨⟨⟨N, V, B, R⟩, K⟩, sr⟩ := s
      have hn : n = N 1 := hn
      obtain ⟨⟨a1, ⟨a2, a3, a4, a5⟩, ⟨a6, a7, a8⟩, a9, ⟨a10, a11, a12⟩, a13, a14⟩, hC, hO, hK, hL, hJ⟩ := h.2
      have w8 : K.length ≤ 8 := hw.1.1.1.2.2.2.1
      have w20 : N 3 ≤ 20 := hw.1.1.1.2.2.2.2.1
      have w10 : N 4 ≤ 10 := hw.1.1.1.2.2.2.2.2
      have nf : ∀ a, a ≠ 5 → a ≠ 24 + 3 * n → upA (upA f (24 + 3 * n + 0) d) 5 (nI (n + 1)) a = f a := fun a q1 q2 => by rw [upA_n _ _ q1, upA_n _ _ (by omega)]
      have n1 : cuN N 1 = N 1 + 1 := upA_s _ _ _
      have nn : ∀ j, j ≠ 1 → cuN N j = N j := fun j hj => upA_n _ _ hj
      have v4 : cuV N V d 4 = upA (V 4) (N 1) d := by simp +decide only [upA_s, u_n]
      have v5 : cuV N V d 5 = upA (V 5) (N 1) 0 := by simp +decide only [upA_s, u_n]
      have v6 : cuV N V d 6 = upA (V 6) (N 1) 0 := by simp +decide only [upA_s, u_n]
      have vn : ∀ r, r ≠ 4 → r ≠ 5 → r ≠ 6 → cuV N V d r = V r := fun r q4 q5 q6 => by simp only [upA_n _ _ q4, upA_n _ _ q5, upA_n _ _ q6]
      show sR _ (cuN N) (cuV N V d) K B R
      refine ⟨⟨fun j hj => ?_, ⟨?_, ?_, ?_, ?_⟩, ⟨?_, ?_, ?_⟩, fun j hj => ?_, ⟨?_, ?_, ?_⟩, fun d' hd => ?_, ?_⟩, ?_, ?_, ?_, ?_, ?_⟩
      · rw [nf j (by omega) (by omega), vn 1 (by decide) (by decide) (by decide)]; exact a1 j hj
      · rw [nf 4 (by decide) (by omega), nn 0 (by decide)]; exact a2
      · rw [upA_s, n1, hn]
      · rw [nf 6 (by decide) (by omega), nn 2 (by decide)]; exact a4
      · rw [nf 7 (by decide) (by omega), vn 0 (by decide) (by decide) (by decide)]; exact a5
      · rw [nf 8 (by decide) (by omega), n1, v6]
        simp only [smI, upA_s]
        rw [smI_congr (g := V 6) (fun i hi => upA_n _ _ (by omega)), Int32.add_zero]; exact a6
      · rw [nf 9 (by decide) (by omega), vn 0 (by decide) (by decide) (by decide)]; exact a7
      · rw [nf 10 (by decide) (by omega), nn 3 (by decide)]; exact a8
      · rw [nf _ (by omega) (by omega), vn 48 (by decide) (by decide) (by decide)]; exact a9 j hj
      · rw [nf 15 (by decide) (by omega), vn 0 (by decide) (by decide) (by decide)]; exact a10
      · rw [nf 16 (by decide) (by omega)]; exact a11
      · rw [nf 17 (by decide) (by omega), nn 4 (by decide)]; exact a12
      · rw [nf _ (by omega) (by omega), vn 2 (by decide) (by decide) (by decide)]; exact a13 d' hd
      · rw [vn 0 (by decide) (by decide) (by decide), nn 0 (by decide)]; exact a14
      · intro c hc
        rw [n1, v4, v5, v6]
        obtain ⟨q1, q2, q3⟩ := hC c hc
        by_cases e : c = N 1
        · refine ⟨fun _ => ?_, ?_, ?_⟩
          · rw [e, upA_s, upA_n _ _ (by omega), ← hn, upA_s]
          · rw [if_pos (by omega), e, upA_s, ← e, nf _ (by omega) (by omega), q2, if_neg (by omega)]
          · rw [if_pos (by omega), e, upA_s, ← e, nf _ (by omega) (by omega), q3, if_neg (by omega)]
        · refine ⟨fun hl => ?_, ?_, ?_⟩
          · rw [upA_n _ _ e, nf _ (by omega) (by omega)]; exact q1 (by omega)
          · rw [upA_n _ _ e, nf _ (by omega) (by omega), q2]
            by_cases hl : c < N 1
            · rw [if_pos hl, if_pos (by omega)]
            · rw [if_neg hl, if_neg (by omega)]
          · rw [upA_n _ _ e, nf _ (by omega) (by omega), q3]
            by_cases hl : c < N 1
            · rw [if_pos hl, if_pos (by omega)]
            · rw [if_neg hl, if_neg (by omega)]
      · exact hO.same (fun a h1 h2 => nf a (by omega) (by omega))
      · exact hK.same w8 (fun a h1 h2 => nf a (by omega) (by omega))
      · rw [nn 3 (by decide)]
        intro i hi
        rw [vn 46 (by decide) (by decide) (by decide), vn 47 (by decide) (by decide) (by decide)]
        exact hL.same w20 (fun a h1 h2 => nf a (by omega) (by omega)) i hi
      · rw [nn 4 (by decide)]
        exact hJ.same w10 (fun a h1 h2 => nf a (by omega) (by omega))
  · rw [if_neg c2]
    have c10 : (s.1.1.1 1 = 10) = True := eq_true (by omega)
    exact ⟨T, f, by simp +decide only [x146_0, x146_1, x146_2, x146_5, x146_6, x146_7, x146_8, x146_11, x146_14, x146_15, x146_16, x146_17, x146_20, x146_21, x146_22, x146_24, x146_27, x146_29, x146_30, x146_31, x146_34, x146_35, x146_36, x146_39, x146_40, x146_41, x146_42, x146_43, x146_46, x146_47, x146_50, x146_51, x146_52, x146_53, x146_54, x146_55, x146_56, x146_57, x146_60, x146_61, x146_62, x146_63, x146_64, aft_some, aft_void, Option.bind_some, Option.toList_some, Option.toList_none, List.cons_append, List.nil_append, if_true, if_false, ↓reduceIte, eq_self, z366_o, ↓z366_0, ↓z366_0p, ↓z366_1, ↓z366_2, ↓z366_3, ↓z366_4, ↓z366_4p, ↓z366_5, ↓z366_6, ↓z366_6p0, ↓z366_6p1, ↓z366_7, ↓z366_8, ↓z366_8p, ↓z366_9, ↓z366_9p, ↓z366_10, ↓z366_10p0, ↓z366_10p1, ↓z366_11, ↓z366_12, ↓z366_12p, ↓sg0, ↓sg1, ↓sg2, ↓sg3, ↓sg4, ↓sg5, ↓sg6, ↓sg7, ↓sg8, ↓sg9, ↓sg10, ↓sg11, ↓sg12, ↓sg13, ↓sg14, ↓sg15, ↓sg16, ↓sg17, ↓ss0, ↓ss1, ↓ss2, ↓ss3, ↓ss4, ↓ss5, ↓ss6, ↓ss7, ↓ss8, ↓ss9, ↓ss10, ↓ss11, ↓ss12, ↓ss13, ↓ss14, ↓ss15, ↓ss16, ↓ss17, t0, ↓aft_of (r_in), c1, h5, e10, c10], fun _ _ => rfl, h⟩
/-- rows of numbers change -/
theorem sR.rows {g : Nat → Int32} {N : Nat → Nat} {V W : Nat → Nat → Int32} {K : List kT} {B : List bT} {R : Nat → Nat → Int32} (h : sR f N V K B R) (h8 : K.length ≤ 8) (h20 : N 3 ≤ 20) (h10 : N 4 ≤ 10)
    (e1 : ∀ k, k < 4 → g k = W 1 k) (e4 : g 4 = f 4 ∧ g 5 = f 5 ∧ g 6 = f 6 ∧ g 10 = f 10 ∧ g 16 = f 16 ∧ g 17 = f 17) (e7 : g 7 = W 0 1) (e8 : g 8 = f 8) (e9 : g 9 = W 0 2) (e15 : g 15 = W 0 3) (e11 : ∀ k, k < 4 → g (11 + k) = f (11 + k)) (e18 : ∀ d, d < 5 → g (18 + d) = W 2 d) (e0 : W 0 0 = V 0 0)
    (eC : ∀ c, c < 10 → g (24 + 3 * c + 0) = f (24 + 3 * c + 0) ∧ g (24 + 3 * c + 1) = (if c < N 1 then W 5 c else 0) ∧ g (24 + 3 * c + 2) = f (24 + 3 * c + 2)) (hi : ∀ a, 54 ≤ a → g a = f a) (w48 : W 48 = V 48) (w4 : W 4 = V 4) (w6 : W 6 = V 6) (w46 : W 46 = V 46) (w47 : W 47 = V 47) : sR g N W K B R := by
  obtain ⟨⟨a1, ⟨a2, a3, a4, a5⟩, ⟨a6, a7, a8⟩, a9, ⟨a10, a11, a12⟩, a13, a14⟩, hC, hO, hK, hL, hJ⟩ := h
  refine ⟨⟨e1, ⟨e4.1.trans a2, e4.2.1.trans a3, e4.2.2.1.trans a4, e7⟩, ⟨by rw [e8, w6]; exact a6, e9, e4.2.2.2.1.trans a8⟩, fun j hj => by rw [e11 j hj, w48]; exact a9 j hj, ⟨e15, e4.2.2.2.2.1.trans a11, e4.2.2.2.2.2.trans a12⟩, e18, e0.trans a14⟩, fun c hc => ?_, hO.same (fun a h1 h2 => hi a h1), hK.same h8 (fun a h1 h2 => hi a (by omega)), ?_, hJ.same h10 (fun a h1 h2 => hi a (by omega))⟩
  · obtain ⟨q1, q2, q3⟩ := hC c hc
    obtain ⟨p1, p2, p3⟩ := eC c hc
    exact ⟨fun hl => by rw [p1, w4]; exact q1 hl, p2, by rw [p3, w6]; exact q3⟩
  · intro i hi'
    rw [w46, w47]
    exact hL.same h20 (fun a h1 h2 => hi a (by omega)) i hi'
theorem q_vis (h : CF T f s) (hw : WG s) (d x : Int32) : RQ T P f 147 [.ref 366, .int d, .int x, .long 0] (gVis d x s) := by
  have t0 := thr (f := f) h.1.1
  unfold gVis
  by_cases c1 : inI d 0 4 = 0
  · rw [if_pos c1]
    exact ⟨T, f, by simp +decide only [x147_0, x147_1, x147_2, x147_5, x147_6, x147_7, x147_8, x147_11, x147_14, x147_15, x147_16, x147_17, x147_18, x147_20, x147_23, x147_26, x147_28, x147_29, x147_30, x147_33, x147_35, x147_36, x147_37, x147_38, x147_39, x147_40, x147_41, x147_44, x147_46, x147_47, x147_48, x147_51, x147_52, x147_55, x147_57, x147_58, x147_59, x147_60, x147_61, x147_62, aft_some, aft_void, Option.bind_some, Option.toList_some, Option.toList_none, List.cons_append, List.nil_append, if_true, if_false, ↓reduceIte, eq_self, z366_o, ↓z366_0, ↓z366_0p, ↓z366_1, ↓z366_2, ↓z366_3, ↓z366_4, ↓z366_4p, ↓z366_5, ↓z366_6, ↓z366_6p0, ↓z366_6p1, ↓z366_7, ↓z366_8, ↓z366_8p, ↓z366_9, ↓z366_9p, ↓z366_10, ↓z366_10p0, ↓z366_10p1, ↓z366_11, ↓z366_12, ↓z366_12p, ↓sg0, ↓sg1, ↓sg2, ↓sg3, ↓sg4, ↓sg5, ↓sg6, ↓sg7, ↓sg8, ↓sg9, ↓sg10, ↓sg11, ↓sg12, ↓sg13, ↓sg14, ↓sg15, ↓sg16, ↓sg17, ↓ss0, ↓ss1, ↓ss2, ↓ss3, ↓ss4, ↓ss5, ↓ss6, ↓ss7, ↓ss8, ↓ss9, ↓ss10, ↓ss11, ↓ss12, ↓ss13, ↓ss14, ↓ss15, ↓ss16, ↓ss17, t0, ↓aft_of (r_in), c1], fun _ _ => rfl, h⟩
  rw [if_neg c1]
  by_cases c2 : inI x 0 127 = 0
  · rw [if_pos c2]
    exact ⟨T, f, by simp +decide only [x147_0, x147_1, x147_2, x147_5, x147_6, x147_7, x147_8, x147_11, x147_14, x147_15, x147_16, x147_17, x147_18, x147_20, x147_23, x147_26, x147_28, x147_29, x147_30, x147_33, x147_35, x147_36, x147_37, x147_38, x147_39, x147_40, x147_41, x147_44, x147_46, x147_47, x147_48, x147_51, x147_52, x147_55, x147_57, x147_58, x147_59, x147_60, x147_61, x147_62, aft_some, aft_void, Option.bind_some, Option.toList_some, Option.toList_none, List.cons_append, List.nil_append, if_true, if_false, ↓reduceIte, eq_self, z366_o, ↓z366_0, ↓z366_0p, ↓z366_1, ↓z366_2, ↓z366_3, ↓z366_4, ↓z366_4p, ↓z366_5, ↓z366_6, ↓z366_6p0, ↓z366_6p1, ↓z366_7, ↓z366_8, ↓z366_8p, ↓z366_9, ↓z366_9p, ↓z366_10, ↓z366_10p0, ↓z366_10p1, ↓z366_11, ↓z366_12, ↓z366_12p, ↓sg0, ↓sg1, ↓sg2, ↓sg3, ↓sg4, ↓sg5, ↓sg6, ↓sg7, ↓sg8, ↓sg9, ↓sg10, ↓sg11, ↓sg12, ↓sg13, ↓sg14, ↓sg15, ↓sg16, ↓sg17, ↓ss0, ↓ss1, ↓ss2, ↓ss3, ↓ss4, ↓ss5, ↓ss6, ↓ss7, ↓ss8, ↓ss9, ↓ss10, ↓ss11, ↓ss12, ↓ss13, ↓ss14, ↓ss15, ↓ss16, ↓ss17, t0, ↓aft_of (r_in), c1, c2], fun _ _ => rfl, h⟩
  rw [if_neg c2]
  obtain ⟨k, hk, rfl⟩ := inI_ex (n := 4) (by decide) c1
  rw [nI_clamp (by omega)]
  have e18 : 18 + nI k = nI (18 + k) := nI_add 18 k
  have hv : f (18 + k) = s.1.1.2.1 2 k := h.2.1.2.2.2.2.2.1 k (by omega)
  by_cases c3 : s.1.1.2.1 2 k = x
  · rw [if_pos c3]
    exact ⟨T, f, by simp +decide only [x147_0, x147_1, x147_2, x147_5, x147_6, x147_7, x147_8, x147_11, x147_14, x147_15, x147_16, x147_17, x147_18, x147_20, x147_23, x147_26, x147_28, x147_29, x147_30, x147_33, x147_35, x147_36, x147_37, x147_38, x147_39, x147_40, x147_41, x147_44, x147_46, x147_47, x147_48, x147_51, x147_52, x147_55, x147_57, x147_58, x147_59, x147_60, x147_61, x147_62, aft_some, aft_void, Option.bind_some, Option.toList_some, Option.toList_none, List.cons_append, List.nil_append, if_true, if_false, ↓reduceIte, eq_self, z366_o, ↓z366_0, ↓z366_0p, ↓z366_1, ↓z366_2, ↓z366_3, ↓z366_4, ↓z366_4p, ↓z366_5, ↓z366_6, ↓z366_6p0, ↓z366_6p1, ↓z366_7, ↓z366_8, ↓z366_8p, ↓z366_9, ↓z366_9p, ↓z366_10, ↓z366_10p0, ↓z366_10p1, ↓z366_11, ↓z366_12, ↓z366_12p, ↓sg0, ↓sg1, ↓sg2, ↓sg3, ↓sg4, ↓sg5, ↓sg6, ↓sg7, ↓sg8, ↓sg9, ↓sg10, ↓sg11, ↓sg12, ↓sg13, ↓sg14, ↓sg15, ↓sg16, ↓sg17, ↓ss0, ↓ss1, ↓ss2, ↓ss3, ↓ss4, ↓ss5, ↓ss6, ↓ss7, ↓ss8, ↓ss9, ↓ss10, ↓ss11, ↓ss12, ↓ss13, ↓ss14, ↓ss15, ↓ss16, ↓ss17, t0, ↓aft_of (r_in), c1, c2, e18, ↓s_g (show 18 + k < 912 by omega), hv, c3], fun _ _ => rfl, h⟩
  rw [if_neg c3]
  obtain ⟨U, e, fr, -, hU⟩ := h.push (P := P) hw
  refine ⟨U, upA f (18 + k) x, by simp +decide only [x147_0, x147_1, x147_2, x147_5, x147_6, x147_7, x147_8, x147_11, x147_14, x147_15, x147_16, x147_17, x147_18, x147_20, x147_23, x147_26, x147_28, x147_29, x147_30, x147_33, x147_35, x147_36, x147_37, x147_38, x147_39, x147_40, x147_41, x147_44, x147_46, x147_47, x147_48, x147_51, x147_52, x147_55, x147_57, x147_58, x147_59, x147_60, x147_61, x147_62, aft_some, aft_void, Option.bind_some, Option.toList_some, Option.toList_none, List.cons_append, List.nil_append, if_true, if_false, ↓reduceIte, eq_self, z366_o, ↓z366_0, ↓z366_0p, ↓z366_1, ↓z366_2, ↓z366_3, ↓z366_4, ↓z366_4p, ↓z366_5, ↓z366_6, ↓z366_6p0, ↓z366_6p1, ↓z366_7, ↓z366_8, ↓z366_8p, ↓z366_9, ↓z366_9p, ↓z366_10, ↓z366_10p0, ↓z366_10p1, ↓z366_11, ↓z366_12, ↓z366_12p, ↓sg0, ↓sg1, ↓sg2, ↓sg3, ↓sg4, ↓sg5, ↓sg6, ↓sg7, ↓sg8, ↓sg9, ↓sg10, ↓sg11, ↓sg12, ↓sg13, ↓sg14, ↓sg15, ↓sg16, ↓sg17, ↓ss0, ↓ss1, ↓ss2, ↓ss3, ↓ss4, ↓ss5, ↓ss6, ↓ss7, ↓ss8, ↓ss9, ↓ss10, ↓ss11, ↓ss12, ↓ss13, ↓ss14, ↓ss15, ↓ss16, ↓ss17, t0, ↓aft_of (r_in), c1, c2, e18, ↓s_g (show 18 + k < 912 by omega), ↓s_s (show 18 + k < 912 by omega), hv, c3, ↓aft_of (e)], fun a ha => fr a (by omega) (by omega), hU.now ?_⟩
  have hs := h.2
  have n : ∀ a, a ≠ 18 + k → upA f (18 + k) x a = f a := fun a ha => upA_n _ _ ha
  have vn : ∀ r, r ≠ 2 → up1 s.1.1.2.1 2 k x r = s.1.1.2.1 r := fun r hr => up1_n hr
  obtain ⟨⟨a1, ⟨a2, a3, a4, a5⟩, ⟨a6, a7, a8⟩, a9, ⟨a10, a11, a12⟩, a13, a14⟩, hC, hO, hK, hL, hJ⟩ := id hs
  refine sR.rows (W := up1 s.1.1.2.1 2 k x) hs hw.1.1.1.2.2.2.1 hw.1.1.1.2.2.2.2.1 hw.1.1.1.2.2.2.2.2 (fun j hj => ?_) ⟨n 4 (by omega), n 5 (by omega), n 6 (by omega), n 10 (by omega), n 16 (by omega), n 17 (by omega)⟩ ?_ (n 8 (by omega)) ?_ ?_ (fun j hj => n _ (by omega)) (fun d hd => ?_) ?_ (fun c hc => ⟨n _ (by omega), ?_, n _ (by omega)⟩) (fun a ha => n a (by omega)) (vn 48 (by decide)) (vn 4 (by decide)) (vn 6 (by decide)) (vn 46 (by decide)) (vn 47 (by decide))
  · rw [n j (by omega), vn 1 (by decide)]; exact a1 j hj
  · rw [n 7 (by omega), vn 0 (by decide)]; exact a5
  · rw [n 9 (by omega), vn 0 (by decide)]; exact a7
  · rw [n 15 (by omega), vn 0 (by decide)]; exact a10
  · rw [up1_s]
    by_cases e : d = k
    · rw [e, upA_s, upA_s]
    · rw [n _ (by omega), upA_n _ _ e]; exact a13 d hd
  · rw [vn 0 (by decide)]
  · rw [n _ (by omega), vn 5 (by decide)]; exact (hC c hc).2.1
theorem q_buy (h : CF T f s) (hw : WG s) (m : Int32) : RQ T P f 168 [.ref 366, .int m] (gBuy m s) := by
  have t0 := thr (f := f) h.1.1
  unfold gBuy
  by_cases c1 : inI m 1 99 = 0
  · rw [if_pos c1]
    exact ⟨T, f, by simp +decide only [x168_0, x168_1, x168_2, x168_5, x168_6, x168_7, x168_9, x168_12, x168_15, x168_17, x168_18, x168_20, x168_21, x168_24, x168_26, x168_27, x168_28, x168_29, x168_32, x168_34, x168_35, x168_36, x168_37, x168_38, x168_41, x168_44, x168_46, x168_47, x168_48, x168_51, x168_52, x168_55, x168_57, x168_58, x168_59, x168_60, x168_61, x168_62, x168_63, x168_66, x168_68, x168_69, x168_70, x168_71, x168_72, x168_73, x168_74, x168_77, x168_79, x168_80, aft_some, aft_void, Option.bind_some, Option.toList_some, Option.toList_none, List.cons_append, List.nil_append, if_true, if_false, ↓reduceIte, eq_self, z366_o, ↓z366_0, ↓z366_0p, ↓z366_1, ↓z366_2, ↓z366_3, ↓z366_4, ↓z366_4p, ↓z366_5, ↓z366_6, ↓z366_6p0, ↓z366_6p1, ↓z366_7, ↓z366_8, ↓z366_8p, ↓z366_9, ↓z366_9p, ↓z366_10, ↓z366_10p0, ↓z366_10p1, ↓z366_11, ↓z366_12, ↓z366_12p, ↓sg0, ↓sg1, ↓sg2, ↓sg3, ↓sg4, ↓sg5, ↓sg6, ↓sg7, ↓sg8, ↓sg9, ↓sg10, ↓sg11, ↓sg12, ↓sg13, ↓sg14, ↓sg15, ↓sg16, ↓sg17, ↓ss0, ↓ss1, ↓ss2, ↓ss3, ↓ss4, ↓ss5, ↓ss6, ↓ss7, ↓ss8, ↓ss9, ↓ss10, ↓ss11, ↓ss12, ↓ss13, ↓ss14, ↓ss15, ↓ss16, ↓ss17, t0, ↓aft_of (r_in), c1], fun _ _ => rfl, h⟩
  rw [if_neg c1]
  have hs := h.2
  obtain ⟨⟨a1, ⟨a2, a3, a4, a5⟩, ⟨a6, a7, a8⟩, a9, ⟨a10, a11, a12⟩, a13, a14⟩, hC, hO, hK, hL, hJ⟩ := id hs
  have hsv : 60 + f 9 - f 8 = svI s.1 := by
    rw [a7, a6]
    unfold svI
    exact hw.1.1.2.2.2.2.2.2.2.symm
  by_cases c2 : 999 < svI s.1 + m
  · rw [if_pos c2]
    exact ⟨T, f, by simp +decide only [x168_0, x168_1, x168_2, x168_5, x168_6, x168_7, x168_9, x168_12, x168_15, x168_17, x168_18, x168_20, x168_21, x168_24, x168_26, x168_27, x168_28, x168_29, x168_32, x168_34, x168_35, x168_36, x168_37, x168_38, x168_41, x168_44, x168_46, x168_47, x168_48, x168_51, x168_52, x168_55, x168_57, x168_58, x168_59, x168_60, x168_61, x168_62, x168_63, x168_66, x168_68, x168_69, x168_70, x168_71, x168_72, x168_73, x168_74, x168_77, x168_79, x168_80, aft_some, aft_void, Option.bind_some, Option.toList_some, Option.toList_none, List.cons_append, List.nil_append, if_true, if_false, ↓reduceIte, eq_self, z366_o, ↓z366_0, ↓z366_0p, ↓z366_1, ↓z366_2, ↓z366_3, ↓z366_4, ↓z366_4p, ↓z366_5, ↓z366_6, ↓z366_6p0, ↓z366_6p1, ↓z366_7, ↓z366_8, ↓z366_8p, ↓z366_9, ↓z366_9p, ↓z366_10, ↓z366_10p0, ↓z366_10p1, ↓z366_11, ↓z366_12, ↓z366_12p, ↓sg0, ↓sg1, ↓sg2, ↓sg3, ↓sg4, ↓sg5, ↓sg6, ↓sg7, ↓sg8, ↓sg9, ↓sg10, ↓sg11, ↓sg12, ↓sg13, ↓sg14, ↓sg15, ↓sg16, ↓sg17, ↓ss0, ↓ss1, ↓ss2, ↓ss3, ↓ss4, ↓ss5, ↓ss6, ↓ss7, ↓ss8, ↓ss9, ↓ss10, ↓ss11, ↓ss12, ↓ss13, ↓ss14, ↓ss15, ↓ss16, ↓ss17, t0, ↓aft_of (r_in), c1, hsv, c2], fun _ _ => rfl, h⟩
  rw [if_neg c2]
  obtain ⟨U, e, fr, -, hU⟩ := h.push (P := P) hw
  have r9 : upA f 9 (f 9 + m) 7 = f 7 := upA_n _ _ (by decide)
  have hs9 : f 9 = s.1.1.2.1 0 2 := a7
  have hs7 : f 7 = s.1.1.2.1 0 1 := a5
  refine ⟨U, upA (upA f 9 (s.1.1.2.1 0 2 + m)) 7 (s.1.1.2.1 0 1 + m), ?_, fun a ha => fr a (by omega) (by omega), hU.now ?_⟩
  · simp +decide only [x168_0, x168_1, x168_2, x168_5, x168_6, x168_7, x168_9, x168_12, x168_15, x168_17, x168_18, x168_20, x168_21, x168_24, x168_26, x168_27, x168_28, x168_29, x168_32, x168_34, x168_35, x168_36, x168_37, x168_38, x168_41, x168_44, x168_46, x168_47, x168_48, x168_51, x168_52, x168_55, x168_57, x168_58, x168_59, x168_60, x168_61, x168_62, x168_63, x168_66, x168_68, x168_69, x168_70, x168_71, x168_72, x168_73, x168_74, x168_77, x168_79, x168_80, aft_some, aft_void, Option.bind_some, Option.toList_some, Option.toList_none, List.cons_append, List.nil_append, if_true, if_false, ↓reduceIte, eq_self, z366_o, ↓z366_0, ↓z366_0p, ↓z366_1, ↓z366_2, ↓z366_3, ↓z366_4, ↓z366_4p, ↓z366_5, ↓z366_6, ↓z366_6p0, ↓z366_6p1, ↓z366_7, ↓z366_8, ↓z366_8p, ↓z366_9, ↓z366_9p, ↓z366_10, ↓z366_10p0, ↓z366_10p1, ↓z366_11, ↓z366_12, ↓z366_12p, ↓sg0, ↓sg1, ↓sg2, ↓sg3, ↓sg4, ↓sg5, ↓sg6, ↓sg7, ↓sg8, ↓sg9, ↓sg10, ↓sg11, ↓sg12, ↓sg13, ↓sg14, ↓sg15, ↓sg16, ↓sg17, ↓ss0, ↓ss1, ↓ss2, ↓ss3, ↓ss4, ↓ss5, ↓ss6, ↓ss7, ↓ss8, ↓ss9, ↓ss10, ↓ss11, ↓ss12, ↓ss13, ↓ss14, ↓ss15, ↓ss16, ↓ss17, t0, ↓aft_of (r_in), c1, hsv, c2, ↓aft_of (e), r9]
    rw [hs9, hs7, upA_s]
  have n : ∀ a, a ≠ 7 → a ≠ 9 → upA (upA f 9 (s.1.1.2.1 0 2 + m)) 7 (s.1.1.2.1 0 1 + m) a = f a := fun a h7 h9 => by rw [upA_n _ _ h7, upA_n _ _ h9]
  have vn : ∀ r, r ≠ 0 → up1 (up1 s.1.1.2.1 0 1 (s.1.1.2.1 0 1 + m)) 0 2 (s.1.1.2.1 0 2 + m) r = s.1.1.2.1 r := fun r hr => by rw [up1_n hr, up1_n hr]
  have v0 : up1 (up1 s.1.1.2.1 0 1 (s.1.1.2.1 0 1 + m)) 0 2 (s.1.1.2.1 0 2 + m) 0 = upA (upA (s.1.1.2.1 0) 1 (s.1.1.2.1 0 1 + m)) 2 (s.1.1.2.1 0 2 + m) := by rw [up1_s, up1_s]
  refine sR.rows (W := up1 (up1 s.1.1.2.1 0 1 (s.1.1.2.1 0 1 + m)) 0 2 (s.1.1.2.1 0 2 + m)) hs hw.1.1.1.2.2.2.1 hw.1.1.1.2.2.2.2.1 hw.1.1.1.2.2.2.2.2 (fun j hj => ?_) ⟨n 4 (by omega) (by omega), n 5 (by omega) (by omega), n 6 (by omega) (by omega), n 10 (by omega) (by omega), n 16 (by omega) (by omega), n 17 (by omega) (by omega)⟩ ?_ (n 8 (by omega) (by omega)) ?_ ?_ (fun j hj => n _ (by omega) (by omega)) (fun d hd => ?_) ?_ (fun c hc => ⟨n _ (by omega) (by omega), ?_, n _ (by omega) (by omega)⟩) (fun a ha => n a (by omega) (by omega)) (vn 48 (by decide)) (vn 4 (by decide)) (vn 6 (by decide)) (vn 46 (by decide)) (vn 47 (by decide))
  · rw [n j (by omega) (by omega), vn 1 (by decide)]; exact a1 j hj
  · rw [upA_s, v0, upA_n _ _ (by decide), upA_s]
  · rw [upA_n _ _ (by decide), upA_s, v0, upA_s]
  · rw [n 15 (by omega) (by omega), v0, upA_n _ _ (by decide), upA_n _ _ (by decide)]; exact a10
  · rw [n _ (by omega) (by omega), vn 2 (by decide)]; exact a13 d hd
  · rw [v0, upA_n _ _ (by decide), upA_n _ _ (by decide)]
  · rw [n _ (by omega) (by omega), vn 5 (by decide)]; exact (hC c hc).2.1
theorem q_pay (h : CF T f s) (hw : WG s) (c : Int32) : RQ T P f 169 [.ref 366, .int c, .long 0] (gPay c s) := by
  have t0 := thr (f := f) h.1.1
  have hs := h.2
  obtain ⟨⟨a1, ⟨a2, a3, a4, a5⟩, ⟨a6, a7, a8⟩, a9, ⟨a10, a11, a12⟩, a13, a14⟩, hC, hO, hK, hL, hJ⟩ := id hs
  have hN1 := hw.1.1.1.2.1
  have ec := r_isCust (T := T) (P := P) (f := f) (x := c)
  rw [a3, cust_in hN1] at ec
  unfold gPay
  by_cases ch : hsI (s.1.1.1 1) c
  · rw [if_pos ch]
    rw [if_neg ch.1, if_pos ch.2] at ec
    obtain ⟨k, hk, rfl⟩ := nI_ex ch.1 (by omega) ch.2
    rw [nI_clamp (by omega)]
    have e1 := r_ofCust (T := T) (P := P) (f := f) (i := k) (w := 1) (y := 1) rfl (by omega) (by decide)
    rw [(hC k (by omega)).2.1, if_pos hk] at e1
    by_cases c3 : s.1.1.2.1 5 k = 0
    · rw [if_pos c3]
      exact ⟨T, f, by simp +decide only [x169_0, x169_1, x169_2, x169_5, x169_6, x169_7, x169_10, x169_13, x169_14, x169_15, x169_16, x169_17, x169_18, x169_21, x169_22, x169_23, x169_26, x169_28, x169_29, x169_30, x169_33, x169_34, x169_35, x169_36, x169_37, x169_40, x169_41, x169_44, x169_46, x169_47, x169_48, x169_49, x169_50, x169_51, x169_52, aft_some, aft_void, Option.bind_some, Option.toList_some, Option.toList_none, List.cons_append, List.nil_append, if_true, if_false, ↓reduceIte, eq_self, z366_o, ↓z366_0, ↓z366_0p, ↓z366_1, ↓z366_2, ↓z366_3, ↓z366_4, ↓z366_4p, ↓z366_5, ↓z366_6, ↓z366_6p0, ↓z366_6p1, ↓z366_7, ↓z366_8, ↓z366_8p, ↓z366_9, ↓z366_9p, ↓z366_10, ↓z366_10p0, ↓z366_10p1, ↓z366_11, ↓z366_12, ↓z366_12p, ↓sg0, ↓sg1, ↓sg2, ↓sg3, ↓sg4, ↓sg5, ↓sg6, ↓sg7, ↓sg8, ↓sg9, ↓sg10, ↓sg11, ↓sg12, ↓sg13, ↓sg14, ↓sg15, ↓sg16, ↓sg17, ↓ss0, ↓ss1, ↓ss2, ↓ss3, ↓ss4, ↓ss5, ↓ss6, ↓ss7, ↓ss8, ↓ss9, ↓ss10, ↓ss11, ↓ss12, ↓ss13, ↓ss14, ↓ss15, ↓ss16, ↓ss17, t0, ↓aft_of (ec), ↓aft_of (e1), c3], fun _ _ => rfl, h⟩
    rw [if_neg c3]
    obtain ⟨U, e, fr, -, hU⟩ := h.push (P := P) hw
    have l1 := r_layCust (T := U) (P := P) (f := f) (i := k) (w := 1) (y := 1) (z := 0) rfl (by omega) (by decide)
    have r15 : upA f (24 + 3 * k + 1) 0 15 = s.1.1.2.1 0 3 := by rw [upA_n _ _ (by omega)]; exact a10
    refine ⟨U, upA (upA f (24 + 3 * k + 1) 0) 15 (s.1.1.2.1 0 3 + s.1.1.2.1 5 k), by simp +decide only [x169_0, x169_1, x169_2, x169_5, x169_6, x169_7, x169_10, x169_13, x169_14, x169_15, x169_16, x169_17, x169_18, x169_21, x169_22, x169_23, x169_26, x169_28, x169_29, x169_30, x169_33, x169_34, x169_35, x169_36, x169_37, x169_40, x169_41, x169_44, x169_46, x169_47, x169_48, x169_49, x169_50, x169_51, x169_52, aft_some, aft_void, Option.bind_some, Option.toList_some, Option.toList_none, List.cons_append, List.nil_append, if_true, if_false, ↓reduceIte, eq_self, z366_o, ↓z366_0, ↓z366_0p, ↓z366_1, ↓z366_2, ↓z366_3, ↓z366_4, ↓z366_4p, ↓z366_5, ↓z366_6, ↓z366_6p0, ↓z366_6p1, ↓z366_7, ↓z366_8, ↓z366_8p, ↓z366_9, ↓z366_9p, ↓z366_10, ↓z366_10p0, ↓z366_10p1, ↓z366_11, ↓z366_12, ↓z366_12p, ↓sg0, ↓sg1, ↓sg2, ↓sg3, ↓sg4, ↓sg5, ↓sg6, ↓sg7, ↓sg8, ↓sg9, ↓sg10, ↓sg11, ↓sg12, ↓sg13, ↓sg14, ↓sg15, ↓sg16, ↓sg17, ↓ss0, ↓ss1, ↓ss2, ↓ss3, ↓ss4, ↓ss5, ↓ss6, ↓ss7, ↓ss8, ↓ss9, ↓ss10, ↓ss11, ↓ss12, ↓ss13, ↓ss14, ↓ss15, ↓ss16, ↓ss17, t0, ↓aft_of (ec), ↓aft_of (e1), c3, ↓aft_of (e), ↓aft_of (l1), r15], fun a ha => fr a (by omega) (by omega), hU.now ?_⟩
    have n : ∀ a, a ≠ 15 → a ≠ 24 + 3 * k + 1 → upA (upA f (24 + 3 * k + 1) 0) 15 (s.1.1.2.1 0 3 + s.1.1.2.1 5 k) a = f a := fun a h7 h9 => by rw [upA_n _ _ h7, upA_n _ _ h9]
    have vn : ∀ r, r ≠ 0 → r ≠ 5 → up1 (up1 s.1.1.2.1 5 k 0) 0 3 (s.1.1.2.1 0 3 + s.1.1.2.1 5 k) r = s.1.1.2.1 r := fun r hr h5 => by rw [up1_n hr, up1_n h5]
    have v0 : up1 (up1 s.1.1.2.1 5 k 0) 0 3 (s.1.1.2.1 0 3 + s.1.1.2.1 5 k) 0 = upA (s.1.1.2.1 0) 3 (s.1.1.2.1 0 3 + s.1.1.2.1 5 k) := by rw [up1_s, up1_n (by decide)]
    have v5 : up1 (up1 s.1.1.2.1 5 k 0) 0 3 (s.1.1.2.1 0 3 + s.1.1.2.1 5 k) 5 = upA (s.1.1.2.1 5) k 0 := by rw [up1_n (by decide), up1_s]
    refine sR.rows (W := up1 (up1 s.1.1.2.1 5 k 0) 0 3 (s.1.1.2.1 0 3 + s.1.1.2.1 5 k)) hs hw.1.1.1.2.2.2.1 hw.1.1.1.2.2.2.2.1 hw.1.1.1.2.2.2.2.2 (fun j hj => ?_) ⟨n 4 (by omega) (by omega), n 5 (by omega) (by omega), n 6 (by omega) (by omega), n 10 (by omega) (by omega), n 16 (by omega) (by omega), n 17 (by omega) (by omega)⟩ ?_ (n 8 (by omega) (by omega)) ?_ ?_ (fun j hj => n _ (by omega) (by omega)) (fun d hd => ?_) ?_ (fun c hc => ⟨n _ (by omega) (by omega), ?_, n _ (by omega) (by omega)⟩) (fun a ha => n a (by omega) (by omega)) (vn 48 (by decide) (by decide)) (vn 4 (by decide) (by decide)) (vn 6 (by decide) (by decide)) (vn 46 (by decide) (by decide)) (vn 47 (by decide) (by decide))
    · rw [n j (by omega) (by omega), vn 1 (by decide) (by decide)]; exact a1 j hj
    · rw [n 7 (by omega) (by omega), v0, upA_n _ _ (by decide)]; exact a5
    · rw [n 9 (by omega) (by omega), v0, upA_n _ _ (by decide)]; exact a7
    · rw [upA_s, v0, upA_s]
    · rw [n _ (by omega) (by omega), vn 2 (by decide) (by decide)]; exact a13 d hd
    · rw [v0, upA_n _ _ (by decide)]
    · rw [v5]
      by_cases e : c = k
      · subst e
        rw [upA_n _ _ (by omega), upA_s, if_pos hk, upA_s]
      · rw [n _ (by omega) (by omega), upA_n _ _ e]; exact (hC c hc).2.1
  · rw [if_neg ch]
    have e0 : (if c < 0 then (0 : Int32) else if c < nI (s.1.1.1 1) then 1 else 0) = 0 := by
      by_cases q : c < 0
      · rw [if_pos q]
      · rw [if_neg q, if_neg (fun z => ch ⟨q, z⟩)]
    rw [e0] at ec
    exact ⟨T, f, by simp +decide only [x169_0, x169_1, x169_2, x169_5, x169_6, x169_7, x169_10, x169_13, x169_14, x169_15, x169_16, x169_17, x169_18, x169_21, x169_22, x169_23, x169_26, x169_28, x169_29, x169_30, x169_33, x169_34, x169_35, x169_36, x169_37, x169_40, x169_41, x169_44, x169_46, x169_47, x169_48, x169_49, x169_50, x169_51, x169_52, aft_some, aft_void, Option.bind_some, Option.toList_some, Option.toList_none, List.cons_append, List.nil_append, if_true, if_false, ↓reduceIte, eq_self, z366_o, ↓z366_0, ↓z366_0p, ↓z366_1, ↓z366_2, ↓z366_3, ↓z366_4, ↓z366_4p, ↓z366_5, ↓z366_6, ↓z366_6p0, ↓z366_6p1, ↓z366_7, ↓z366_8, ↓z366_8p, ↓z366_9, ↓z366_9p, ↓z366_10, ↓z366_10p0, ↓z366_10p1, ↓z366_11, ↓z366_12, ↓z366_12p, ↓sg0, ↓sg1, ↓sg2, ↓sg3, ↓sg4, ↓sg5, ↓sg6, ↓sg7, ↓sg8, ↓sg9, ↓sg10, ↓sg11, ↓sg12, ↓sg13, ↓sg14, ↓sg15, ↓sg16, ↓sg17, ↓ss0, ↓ss1, ↓ss2, ↓ss3, ↓ss4, ↓ss5, ↓ss6, ↓ss7, ↓ss8, ↓ss9, ↓ss10, ↓ss11, ↓ss12, ↓ss13, ↓ss14, ↓ss15, ↓ss16, ↓ss17, t0, ↓aft_of (ec)], fun _ _ => rfl, h⟩
end QA
end
section
/-! the reference's set, letters, undo, keep, restore, basket, iron, pass -/
section QB
variable {T : Nat → Nat → Int32} {P : Nat → Nat → Nat} {f : Nat → Int32} {s : gT} {x y z w : Int32}
theorem RQ.of {j : Nat} {A : List Value} {a : Int32 × gT} {U : Nat → Nat → Int32} (e : X j 0 A [] (H (upA T 367 f) P) = some (some (.int a.1), H U P)) (fr : ∀ a, a < 366 → U a = T a) (hc : CF U (U 367) a.2) : RQ T P f j A a := ⟨U, U 367, by rw [upA_self]; exact e, fr, hc⟩
theorem r_mostOf {h0 : List hC} : X 170 0 [.int w] [] h0 = some (some (.int (hiI w)), h0) := by
  unfold hiI
  by_cases c0 : w = 0
  · simp +decide only [x170_0, x170_1, x170_4, x170_5, x170_8, x170_9, x170_10, x170_13, x170_15, x170_18, x170_19, x170_20, x170_23, x170_25, x170_28, x170_30, aft_some, aft_void, Option.bind_some, Option.toList_some, Option.toList_none, List.cons_append, List.nil_append, if_true, if_false, ↓reduceIte, eq_self, c0]
  by_cases c1 : w = 1
  · simp +decide only [x170_0, x170_1, x170_4, x170_5, x170_8, x170_9, x170_10, x170_13, x170_15, x170_18, x170_19, x170_20, x170_23, x170_25, x170_28, x170_30, aft_some, aft_void, Option.bind_some, Option.toList_some, Option.toList_none, List.cons_append, List.nil_append, if_true, if_false, ↓reduceIte, eq_self, c0, c1]
  by_cases c2 : w = 2
  · simp +decide only [x170_0, x170_1, x170_4, x170_5, x170_8, x170_9, x170_10, x170_13, x170_15, x170_18, x170_19, x170_20, x170_23, x170_25, x170_28, x170_30, aft_some, aft_void, Option.bind_some, Option.toList_some, Option.toList_none, List.cons_append, List.nil_append, if_true, if_false, ↓reduceIte, eq_self, c0, c1, c2]
  simp +decide only [x170_0, x170_1, x170_4, x170_5, x170_8, x170_9, x170_10, x170_13, x170_15, x170_18, x170_19, x170_20, x170_23, x170_25, x170_28, x170_30, aft_some, aft_void, Option.bind_some, Option.toList_some, Option.toList_none, List.cons_append, List.nil_append, if_true, if_false, ↓reduceIte, eq_self, c0, c1, c2]
theorem q_set (h : CF T f s) (hw : WG s) (w v : Int32) : RQ T P f 171 [.ref 366, .int w, .int v, .long 0] (gSet w v s) := by
  have t0 := thr (f := f) h.1.1
  have hs := h.2
  obtain ⟨⟨a1, ⟨a2, a3, a4, a5⟩, ⟨a6, a7, a8⟩, a9, ⟨a10, a11, a12⟩, a13, a14⟩, hC, hO, hK, hL, hJ⟩ := id hs
  unfold gSet
  by_cases c1 : inI w 0 3 = 0
  · rw [if_pos c1]
    exact ⟨T, f, by simp +decide only [x171_0, x171_1, x171_2, x171_5, x171_6, x171_7, x171_8, x171_11, x171_14, x171_15, x171_16, x171_17, x171_20, x171_21, x171_24, x171_25, x171_26, x171_29, x171_32, x171_35, x171_37, x171_38, x171_39, x171_42, x171_43, x171_44, x171_45, x171_46, x171_47, x171_50, x171_52, x171_53, x171_54, x171_57, x171_58, x171_61, x171_62, x171_63, x171_64, x171_65, aft_some, aft_void, Option.bind_some, Option.toList_some, Option.toList_none, List.cons_append, List.nil_append, if_true, if_false, ↓reduceIte, eq_self, z366_o, ↓z366_0, ↓z366_0p, ↓z366_1, ↓z366_2, ↓z366_3, ↓z366_4, ↓z366_4p, ↓z366_5, ↓z366_6, ↓z366_6p0, ↓z366_6p1, ↓z366_7, ↓z366_8, ↓z366_8p, ↓z366_9, ↓z366_9p, ↓z366_10, ↓z366_10p0, ↓z366_10p1, ↓z366_11, ↓z366_12, ↓z366_12p, ↓sg0, ↓sg1, ↓sg2, ↓sg3, ↓sg4, ↓sg5, ↓sg6, ↓sg7, ↓sg8, ↓sg9, ↓sg10, ↓sg11, ↓sg12, ↓sg13, ↓sg14, ↓sg15, ↓sg16, ↓sg17, ↓ss0, ↓ss1, ↓ss2, ↓ss3, ↓ss4, ↓ss5, ↓ss6, ↓ss7, ↓ss8, ↓ss9, ↓ss10, ↓ss11, ↓ss12, ↓ss13, ↓ss14, ↓ss15, ↓ss16, ↓ss17, t0, ↓aft_of (r_in), c1], fun _ _ => rfl, h⟩
  rw [if_neg c1]
  by_cases c2 : inI v (loI w) (hiI w) = 0
  · rw [if_pos c2]
    refine ⟨T, f, ?_, fun _ _ => rfl, h⟩
    by_cases c : w = 2
    · subst c
      rw [show loI 2 = 1 from rfl] at c2
      simp +decide only [x171_0, x171_1, x171_2, x171_5, x171_6, x171_7, x171_8, x171_11, x171_14, x171_15, x171_16, x171_17, x171_20, x171_21, x171_24, x171_25, x171_26, x171_29, x171_32, x171_35, x171_37, x171_38, x171_39, x171_42, x171_43, x171_44, x171_45, x171_46, x171_47, x171_50, x171_52, x171_53, x171_54, x171_57, x171_58, x171_61, x171_62, x171_63, x171_64, x171_65, aft_some, aft_void, Option.bind_some, Option.toList_some, Option.toList_none, List.cons_append, List.nil_append, if_true, if_false, ↓reduceIte, eq_self, z366_o, ↓z366_0, ↓z366_0p, ↓z366_1, ↓z366_2, ↓z366_3, ↓z366_4, ↓z366_4p, ↓z366_5, ↓z366_6, ↓z366_6p0, ↓z366_6p1, ↓z366_7, ↓z366_8, ↓z366_8p, ↓z366_9, ↓z366_9p, ↓z366_10, ↓z366_10p0, ↓z366_10p1, ↓z366_11, ↓z366_12, ↓z366_12p, ↓sg0, ↓sg1, ↓sg2, ↓sg3, ↓sg4, ↓sg5, ↓sg6, ↓sg7, ↓sg8, ↓sg9, ↓sg10, ↓sg11, ↓sg12, ↓sg13, ↓sg14, ↓sg15, ↓sg16, ↓sg17, ↓ss0, ↓ss1, ↓ss2, ↓ss3, ↓ss4, ↓ss5, ↓ss6, ↓ss7, ↓ss8, ↓ss9, ↓ss10, ↓ss11, ↓ss12, ↓ss13, ↓ss14, ↓ss15, ↓ss16, ↓ss17, t0, ↓aft_of (r_in), ↓aft_of (r_mostOf), c1, c2]
    · rw [show loI w = 0 from if_neg c] at c2
      simp +decide only [x171_0, x171_1, x171_2, x171_5, x171_6, x171_7, x171_8, x171_11, x171_14, x171_15, x171_16, x171_17, x171_20, x171_21, x171_24, x171_25, x171_26, x171_29, x171_32, x171_35, x171_37, x171_38, x171_39, x171_42, x171_43, x171_44, x171_45, x171_46, x171_47, x171_50, x171_52, x171_53, x171_54, x171_57, x171_58, x171_61, x171_62, x171_63, x171_64, x171_65, aft_some, aft_void, Option.bind_some, Option.toList_some, Option.toList_none, List.cons_append, List.nil_append, if_true, if_false, ↓reduceIte, eq_self, z366_o, ↓z366_0, ↓z366_0p, ↓z366_1, ↓z366_2, ↓z366_3, ↓z366_4, ↓z366_4p, ↓z366_5, ↓z366_6, ↓z366_6p0, ↓z366_6p1, ↓z366_7, ↓z366_8, ↓z366_8p, ↓z366_9, ↓z366_9p, ↓z366_10, ↓z366_10p0, ↓z366_10p1, ↓z366_11, ↓z366_12, ↓z366_12p, ↓sg0, ↓sg1, ↓sg2, ↓sg3, ↓sg4, ↓sg5, ↓sg6, ↓sg7, ↓sg8, ↓sg9, ↓sg10, ↓sg11, ↓sg12, ↓sg13, ↓sg14, ↓sg15, ↓sg16, ↓sg17, ↓ss0, ↓ss1, ↓ss2, ↓ss3, ↓ss4, ↓ss5, ↓ss6, ↓ss7, ↓ss8, ↓ss9, ↓ss10, ↓ss11, ↓ss12, ↓ss13, ↓ss14, ↓ss15, ↓ss16, ↓ss17, t0, ↓aft_of (r_in), ↓aft_of (r_mostOf), c1, c, c2]
  rw [if_neg c2]
  obtain ⟨k, hk, rfl⟩ := inI_ex (n := 3) (by decide) c1
  have cl := nI_clamp (show k < 2 ^ 31 by omega)
  rw [cl]
  have hv : f k = s.1.1.2.1 1 k := a1 k (by omega)
  have bd : X 171 0 [.ref 366, .int (nI k), .int v, .long 0] [] (H (upA T 367 f) P) = X 171 38 [.ref 366, .int (nI k), .int v, .long 0] [] (H (upA T 367 f) P) := by
    by_cases c : nI k = 2
    · have c2 := c2
      rw [show loI (nI k) = 1 from if_pos c] at c2
      rw [c] at c1 c2 ⊢
      simp +decide only [x171_0, x171_1, x171_2, x171_5, x171_6, x171_7, x171_8, x171_11, x171_14, x171_15, x171_16, x171_17, x171_20, x171_21, x171_24, x171_25, x171_26, x171_29, x171_32, x171_35, x171_37, x171_39, x171_42, x171_43, x171_44, x171_45, x171_46, x171_47, x171_50, x171_52, x171_53, x171_54, x171_57, x171_58, x171_61, x171_62, x171_63, x171_64, x171_65, aft_some, aft_void, Option.bind_some, Option.toList_some, Option.toList_none, List.cons_append, List.nil_append, if_true, if_false, ↓reduceIte, eq_self, z366_o, ↓z366_0, ↓z366_0p, ↓z366_1, ↓z366_2, ↓z366_3, ↓z366_4, ↓z366_4p, ↓z366_5, ↓z366_6, ↓z366_6p0, ↓z366_6p1, ↓z366_7, ↓z366_8, ↓z366_8p, ↓z366_9, ↓z366_9p, ↓z366_10, ↓z366_10p0, ↓z366_10p1, ↓z366_11, ↓z366_12, ↓z366_12p, ↓sg0, ↓sg1, ↓sg2, ↓sg3, ↓sg4, ↓sg5, ↓sg6, ↓sg7, ↓sg8, ↓sg9, ↓sg10, ↓sg11, ↓sg12, ↓sg13, ↓sg14, ↓sg15, ↓sg16, ↓sg17, ↓ss0, ↓ss1, ↓ss2, ↓ss3, ↓ss4, ↓ss5, ↓ss6, ↓ss7, ↓ss8, ↓ss9, ↓ss10, ↓ss11, ↓ss12, ↓ss13, ↓ss14, ↓ss15, ↓ss16, ↓ss17, t0, ↓aft_of (r_in), ↓aft_of (r_mostOf), c1, c2]
    · have c2 := c2
      rw [show loI (nI k) = 0 from if_neg c] at c2
      simp +decide only [x171_0, x171_1, x171_2, x171_5, x171_6, x171_7, x171_8, x171_11, x171_14, x171_15, x171_16, x171_17, x171_20, x171_21, x171_24, x171_25, x171_26, x171_29, x171_32, x171_35, x171_37, x171_39, x171_42, x171_43, x171_44, x171_45, x171_46, x171_47, x171_50, x171_52, x171_53, x171_54, x171_57, x171_58, x171_61, x171_62, x171_63, x171_64, x171_65, aft_some, aft_void, Option.bind_some, Option.toList_some, Option.toList_none, List.cons_append, List.nil_append, if_true, if_false, ↓reduceIte, eq_self, z366_o, ↓z366_0, ↓z366_0p, ↓z366_1, ↓z366_2, ↓z366_3, ↓z366_4, ↓z366_4p, ↓z366_5, ↓z366_6, ↓z366_6p0, ↓z366_6p1, ↓z366_7, ↓z366_8, ↓z366_8p, ↓z366_9, ↓z366_9p, ↓z366_10, ↓z366_10p0, ↓z366_10p1, ↓z366_11, ↓z366_12, ↓z366_12p, ↓sg0, ↓sg1, ↓sg2, ↓sg3, ↓sg4, ↓sg5, ↓sg6, ↓sg7, ↓sg8, ↓sg9, ↓sg10, ↓sg11, ↓sg12, ↓sg13, ↓sg14, ↓sg15, ↓sg16, ↓sg17, ↓ss0, ↓ss1, ↓ss2, ↓ss3, ↓ss4, ↓ss5, ↓ss6, ↓ss7, ↓ss8, ↓ss9, ↓ss10, ↓ss11, ↓ss12, ↓ss13, ↓ss14, ↓ss15, ↓ss16, ↓ss17, t0, ↓aft_of (r_in), ↓aft_of (r_mostOf), c1, c, c2]
  by_cases c3 : s.1.1.2.1 1 k = v
  · rw [if_pos c3]
    refine ⟨T, f, ?_, fun _ _ => rfl, h⟩
    rw [bd]
    simp +decide only [x171_0, x171_1, x171_2, x171_5, x171_6, x171_7, x171_8, x171_11, x171_14, x171_15, x171_16, x171_17, x171_20, x171_21, x171_24, x171_25, x171_26, x171_29, x171_32, x171_35, x171_37, x171_38, x171_39, x171_42, x171_43, x171_44, x171_45, x171_46, x171_47, x171_50, x171_52, x171_53, x171_54, x171_57, x171_58, x171_61, x171_62, x171_63, x171_64, x171_65, aft_some, aft_void, Option.bind_some, Option.toList_some, Option.toList_none, List.cons_append, List.nil_append, if_true, if_false, ↓reduceIte, eq_self, z366_o, ↓z366_0, ↓z366_0p, ↓z366_1, ↓z366_2, ↓z366_3, ↓z366_4, ↓z366_4p, ↓z366_5, ↓z366_6, ↓z366_6p0, ↓z366_6p1, ↓z366_7, ↓z366_8, ↓z366_8p, ↓z366_9, ↓z366_9p, ↓z366_10, ↓z366_10p0, ↓z366_10p1, ↓z366_11, ↓z366_12, ↓z366_12p, ↓sg0, ↓sg1, ↓sg2, ↓sg3, ↓sg4, ↓sg5, ↓sg6, ↓sg7, ↓sg8, ↓sg9, ↓sg10, ↓sg11, ↓sg12, ↓sg13, ↓sg14, ↓sg15, ↓sg16, ↓sg17, ↓ss0, ↓ss1, ↓ss2, ↓ss3, ↓ss4, ↓ss5, ↓ss6, ↓ss7, ↓ss8, ↓ss9, ↓ss10, ↓ss11, ↓ss12, ↓ss13, ↓ss14, ↓ss15, ↓ss16, ↓ss17, ↓s_g (show k < 912 by omega), hv, c3]
  rw [if_neg c3]
  obtain ⟨U, e, fr, -, hU⟩ := h.push (P := P) hw
  refine ⟨U, upA f k v, ?_, fun a ha => fr a (by omega) (by omega), hU.now ?_⟩
  · rw [bd]
    simp +decide only [x171_0, x171_1, x171_2, x171_5, x171_6, x171_7, x171_8, x171_11, x171_14, x171_15, x171_16, x171_17, x171_20, x171_21, x171_24, x171_25, x171_26, x171_29, x171_32, x171_35, x171_37, x171_38, x171_39, x171_42, x171_43, x171_44, x171_45, x171_46, x171_47, x171_50, x171_52, x171_53, x171_54, x171_57, x171_58, x171_61, x171_62, x171_63, x171_64, x171_65, aft_some, aft_void, Option.bind_some, Option.toList_some, Option.toList_none, List.cons_append, List.nil_append, if_true, if_false, ↓reduceIte, eq_self, z366_o, ↓z366_0, ↓z366_0p, ↓z366_1, ↓z366_2, ↓z366_3, ↓z366_4, ↓z366_4p, ↓z366_5, ↓z366_6, ↓z366_6p0, ↓z366_6p1, ↓z366_7, ↓z366_8, ↓z366_8p, ↓z366_9, ↓z366_9p, ↓z366_10, ↓z366_10p0, ↓z366_10p1, ↓z366_11, ↓z366_12, ↓z366_12p, ↓sg0, ↓sg1, ↓sg2, ↓sg3, ↓sg4, ↓sg5, ↓sg6, ↓sg7, ↓sg8, ↓sg9, ↓sg10, ↓sg11, ↓sg12, ↓sg13, ↓sg14, ↓sg15, ↓sg16, ↓sg17, ↓ss0, ↓ss1, ↓ss2, ↓ss3, ↓ss4, ↓ss5, ↓ss6, ↓ss7, ↓ss8, ↓ss9, ↓ss10, ↓ss11, ↓ss12, ↓ss13, ↓ss14, ↓ss15, ↓ss16, ↓ss17, ↓s_g (show k < 912 by omega), ↓s_s (show k < 912 by omega), hv, c3, ↓aft_of (e)]
  have n : ∀ a, a ≠ k → upA f k v a = f a := fun a ha => upA_n _ _ ha
  have vn : ∀ r, r ≠ 1 → up1 s.1.1.2.1 1 k v r = s.1.1.2.1 r := fun r hr => up1_n hr
  refine sR.rows (W := up1 s.1.1.2.1 1 k v) hs hw.1.1.1.2.2.2.1 hw.1.1.1.2.2.2.2.1 hw.1.1.1.2.2.2.2.2 (fun j hj => ?_) ⟨n 4 (by omega), n 5 (by omega), n 6 (by omega), n 10 (by omega), n 16 (by omega), n 17 (by omega)⟩ ?_ (n 8 (by omega)) ?_ ?_ (fun j hj => n _ (by omega)) (fun d hd => ?_) ?_ (fun c hc => ⟨n _ (by omega), ?_, n _ (by omega)⟩) (fun a ha => n a (by omega)) (vn 48 (by decide)) (vn 4 (by decide)) (vn 6 (by decide)) (vn 46 (by decide)) (vn 47 (by decide))
  · rw [up1_s]
    by_cases e : j = k
    · rw [e, upA_s, upA_s]
    · rw [n _ e, upA_n _ _ e]; exact a1 j hj
  · rw [n 7 (by omega), vn 0 (by decide)]; exact a5
  · rw [n 9 (by omega), vn 0 (by decide)]; exact a7
  · rw [n 15 (by omega), vn 0 (by decide)]; exact a10
  · rw [n _ (by omega), vn 2 (by decide)]; exact a13 d hd
  · rw [vn 0 (by decide)]
  · rw [n _ (by omega), vn 5 (by decide)]; exact (hC c hc).2.1
theorem q_type (h : CF T f s) (c : Int32) : RQ T P f 172 [.ref 366, .int c] (gType c s) := by
  have t0 := thr (f := f) h.1.1
  obtain ⟨⟨h0, hk, hh, x8, x60, xt⟩, hs⟩ := id h
  obtain ⟨u, k, L, n, t⟩ := s
  have x8 : T 366 8 = nI n := x8
  have x60 : n ≤ 60 := x60
  have xt : ∀ i, i < n → T 371 i = t i := xt
  have e60 : (nI n = 60) = (n = 60) := by rw [show (60 : Int32) = nI 60 from rfl, nI_inj (by omega) (by decide)]
  have x8' : upA T 367 f 366 8 = nI n := by rw [upA_n _ _ (by decide)]; exact x8
  by_cases c1 : n < 60
  · have e : gType c (u, k, L, n, t) = (nI (n + 1), u, k, L, n + 1, upA t n c) := if_pos c1
    rw [e]
    have c60 : (n = 60) = False := eq_false (by omega)
    have k1 : nI n + 1 = nI (n + 1) := nI_add _ 1
    have y8 : up1 (upA T 367 f) 371 n c 366 8 = nI n := by rw [up1_n (by decide)]; exact x8'
    refine RQ.of (U := up1 (up1 (upA T 367 f) 371 n c) 366 8 (nI (n + 1))) ?_ (fun a ha => ?_) ⟨⟨?_, ?_, ?_, ?_, ?_, fun i hi => ?_⟩, ?_⟩
    · simp +decide only [x172_0, x172_1, x172_2, x172_5, x172_6, x172_9, x172_11, x172_14, x172_16, x172_17, x172_18, x172_21, x172_22, x172_25, x172_26, x172_27, x172_28, x172_29, x172_32, x172_33, x172_34, x172_37, x172_38, x172_41, aft_some, aft_void, Option.bind_some, Option.toList_some, Option.toList_none, List.cons_append, List.nil_append, if_true, if_false, ↓reduceIte, eq_self, z366_o, ↓z366_0, ↓z366_0p, ↓z366_1, ↓z366_2, ↓z366_3, ↓z366_4, ↓z366_4p, ↓z366_5, ↓z366_6, ↓z366_6p0, ↓z366_6p1, ↓z366_7, ↓z366_8, ↓z366_8p, ↓z366_9, ↓z366_9p, ↓z366_10, ↓z366_10p0, ↓z366_10p1, ↓z366_11, ↓z366_12, ↓z366_12p, ↓sg0, ↓sg1, ↓sg2, ↓sg3, ↓sg4, ↓sg5, ↓sg6, ↓sg7, ↓sg8, ↓sg9, ↓sg10, ↓sg11, ↓sg12, ↓sg13, ↓sg14, ↓sg15, ↓sg16, ↓sg17, ↓ss0, ↓ss1, ↓ss2, ↓ss3, ↓ss4, ↓ss5, ↓ss6, ↓ss7, ↓ss8, ↓ss9, ↓ss10, ↓ss11, ↓ss12, ↓ss13, ↓ss14, ↓ss15, ↓ss16, ↓ss17, t0, upA_s, u_n, x8', e60, c60, ↓a371_s c1, y8, k1]
    · rw [up1_n (by omega), up1_n (by omega), upA_n _ _ (by omega)]
    · rw [up1_s, upA_n _ _ (by decide), up1_n (by decide), upA_n _ _ (by decide)]; exact h0
    · have g6 : up1 (up1 (upA T 367 f) 371 n c) 366 8 (nI (n + 1)) 366 6 = T 366 6 := by rw [up1_s, upA_n _ _ (by decide), up1_n (by decide), upA_n _ _ (by decide)]
      have g370 : up1 (up1 (upA T 367 f) 371 n c) 366 8 (nI (n + 1)) 370 = T 370 := by rw [up1_n (by decide), up1_n (by decide), upA_n _ _ (by decide)]
      cases k with
      | none => exact g6.trans hk
      | some v => exact ⟨g6.trans hk.1, by rw [g370]; exact hk.2⟩
    · exact hR.same hh (by rw [up1_s, upA_n _ _ (by decide), up1_n (by decide), upA_n _ _ (by decide)]) (by rw [up1_n (by decide), up1_n (by decide), upA_n _ _ (by decide)])
    · rw [up1_s, upA_s]
    · show n + 1 ≤ 60
      omega
    · have hi : i < n + 1 := hi
      rw [up1_n (by decide), up1_s, upA_n _ _ (show 371 ≠ 367 by decide)]
      show upA (T 371) n c i = upA t n c i
      by_cases e : i = n
      · rw [e, upA_s, upA_s]
      · rw [upA_n _ _ e, upA_n _ _ e]; exact xt i (by omega)
    · rw [up1_n (by decide), up1_n (by decide), upA_s]; exact hs
  · have e : gType c (u, k, L, n, t) = (-3, u, k, L, n, t) := if_neg c1
    rw [e]
    have c60 : (n = 60) = True := eq_true (by omega)
    exact ⟨T, f, by simp +decide only [x172_0, x172_1, x172_2, x172_5, x172_6, x172_9, x172_11, x172_14, x172_16, x172_17, x172_18, x172_21, x172_22, x172_25, x172_26, x172_27, x172_28, x172_29, x172_32, x172_33, x172_34, x172_37, x172_38, x172_41, aft_some, aft_void, Option.bind_some, Option.toList_some, Option.toList_none, List.cons_append, List.nil_append, if_true, if_false, ↓reduceIte, eq_self, z366_o, ↓z366_0, ↓z366_0p, ↓z366_1, ↓z366_2, ↓z366_3, ↓z366_4, ↓z366_4p, ↓z366_5, ↓z366_6, ↓z366_6p0, ↓z366_6p1, ↓z366_7, ↓z366_8, ↓z366_8p, ↓z366_9, ↓z366_9p, ↓z366_10, ↓z366_10p0, ↓z366_10p1, ↓z366_11, ↓z366_12, ↓z366_12p, ↓sg0, ↓sg1, ↓sg2, ↓sg3, ↓sg4, ↓sg5, ↓sg6, ↓sg7, ↓sg8, ↓sg9, ↓sg10, ↓sg11, ↓sg12, ↓sg13, ↓sg14, ↓sg15, ↓sg16, ↓sg17, ↓ss0, ↓ss1, ↓ss2, ↓ss3, ↓ss4, ↓ss5, ↓ss6, ↓ss7, ↓ss8, ↓ss9, ↓ss10, ↓ss11, ↓ss12, ↓ss13, ↓ss14, ↓ss15, ↓ss16, ↓ss17, t0, x8', e60, c60], fun _ _ => rfl, h⟩
theorem q_clear (h : CF T f s) : RQ T P f 173 [.ref 366, .long 0] (gClear s) := by
  have t0 := thr (f := f) h.1.1
  obtain ⟨⟨h0, hk, hh, x8, x60, xt⟩, hs⟩ := id h
  have x8' : upA T 367 f 366 8 = nI s.2.2.2.1 := by rw [upA_n _ _ (by decide)]; exact x8
  refine RQ.of (U := up1 (upA T 367 f) 366 8 0) ?_ (fun a ha => ?_) ⟨⟨?_, ?_, ?_, ?_, ?_, fun i hi => absurd hi (Nat.not_lt_zero i)⟩, ?_⟩
  · unfold gClear
    simp +decide only [x173_0, x173_1, x173_2, x173_5, x173_6, x173_9, x173_10, x173_11, x173_12, x173_15, x173_16, aft_some, aft_void, Option.bind_some, Option.toList_some, Option.toList_none, List.cons_append, List.nil_append, if_true, if_false, ↓reduceIte, eq_self, z366_o, ↓z366_0, ↓z366_0p, ↓z366_1, ↓z366_2, ↓z366_3, ↓z366_4, ↓z366_4p, ↓z366_5, ↓z366_6, ↓z366_6p0, ↓z366_6p1, ↓z366_7, ↓z366_8, ↓z366_8p, ↓z366_9, ↓z366_9p, ↓z366_10, ↓z366_10p0, ↓z366_10p1, ↓z366_11, ↓z366_12, ↓z366_12p, ↓sg0, ↓sg1, ↓sg2, ↓sg3, ↓sg4, ↓sg5, ↓sg6, ↓sg7, ↓sg8, ↓sg9, ↓sg10, ↓sg11, ↓sg12, ↓sg13, ↓sg14, ↓sg15, ↓sg16, ↓sg17, ↓ss0, ↓ss1, ↓ss2, ↓ss3, ↓ss4, ↓ss5, ↓ss6, ↓ss7, ↓ss8, ↓ss9, ↓ss10, ↓ss11, ↓ss12, ↓ss13, ↓ss14, ↓ss15, ↓ss16, ↓ss17, t0, x8']
  · rw [up1_n (by omega), upA_n _ _ (by omega)]
  · rw [up1_s, upA_n _ _ (by decide), upA_n _ _ (by decide)]; exact h0
  · have g6 : up1 (upA T 367 f) 366 8 0 366 6 = T 366 6 := by rw [up1_s, upA_n _ _ (by decide), upA_n _ _ (by decide)]
    have g370 : up1 (upA T 367 f) 366 8 0 370 = T 370 := by rw [up1_n (by decide), upA_n _ _ (by decide)]
    show kR _ s.2.1
    cases hq : s.2.1 with
    | none => rw [hq] at hk; exact g6.trans hk
    | some v => rw [hq] at hk; exact ⟨g6.trans hk.1, by rw [g370]; exact hk.2⟩
  · exact hR.same hh (by rw [up1_s, upA_n _ _ (by decide), upA_n _ _ (by decide)]) (by rw [up1_n (by decide), upA_n _ _ (by decide)])
  · rw [up1_s, upA_s]; rfl
  · exact Nat.zero_le _
  · rw [up1_n (by decide), upA_s]; exact hs
theorem q_undo (h : CF T f s) (hw : WG s) : RQ T P f 184 [.ref 366, .long 0] (gUndo s) := by
  have t0 := thr (f := f) h.1.1
  obtain ⟨⟨h0, hk, hh, hx⟩, hs⟩ := id h
  obtain ⟨u, k, L, t⟩ := s
  cases L with
  | nil =>
    have h4 : upA T 367 f 366 4 = 0 := by rw [upA_n _ _ (by decide)]; exact hh.1
    exact ⟨T, f, by
      unfold gUndo
      simp +decide only [x184_0, x184_1, x184_2, x184_5, x184_6, x184_9, x184_12, x184_14, x184_15, x184_16, x184_17, x184_20, x184_21, x184_22, x184_25, x184_26, x184_27, x184_28, x184_31, x184_34, x184_35, x184_38, x184_39, x184_40, x184_43, x184_46, x184_47, x184_50, x184_51, x184_52, x184_53, x184_54, x184_55, x184_58, x184_61, x184_62, x184_65, aft_some, aft_void, Option.bind_some, Option.toList_some, Option.toList_none, List.cons_append, List.nil_append, if_true, if_false, ↓reduceIte, eq_self, z366_o, ↓z366_0, ↓z366_0p, ↓z366_1, ↓z366_2, ↓z366_3, ↓z366_4, ↓z366_4p, ↓z366_5, ↓z366_6, ↓z366_6p0, ↓z366_6p1, ↓z366_7, ↓z366_8, ↓z366_8p, ↓z366_9, ↓z366_9p, ↓z366_10, ↓z366_10p0, ↓z366_10p1, ↓z366_11, ↓z366_12, ↓z366_12p, ↓sg0, ↓sg1, ↓sg2, ↓sg3, ↓sg4, ↓sg5, ↓sg6, ↓sg7, ↓sg8, ↓sg9, ↓sg10, ↓sg11, ↓sg12, ↓sg13, ↓sg14, ↓sg15, ↓sg16, ↓sg17, ↓ss0, ↓ss1, ↓ss2, ↓ss3, ↓ss4, ↓ss5, ↓ss6, ↓ss7, ↓ss8, ↓ss9, ↓ss10, ↓ss11, ↓ss12, ↓ss13, ↓ss14, ↓ss15, ↓ss16, ↓ss17, t0, h4], fun _ _ => rfl, h⟩
  | cons v L =>
    have h4 : upA T 367 f 366 4 = nI (L.length + 1) := by rw [upA_n _ _ (by decide)]; exact hh.1
    have hl : L.length + 1 ≤ 4 := hh.2.1
    have hne : (nI (L.length + 1) = 0) = False := by
      rw [show (0 : Int32) = nI 0 from rfl, nI_inj (by omega) (by decide)]; exact eq_false (by omega)
    have kp : nI (L.length + 1) - 1 = nI L.length := nI_pred _
    have g4 : up1 (upA T 367 f) 366 4 (nI L.length) 366 4 = nI L.length := by rw [up1_s, upA_s]
    obtain ⟨U, e, f1, g1, -⟩ := cp_undo (T := up1 (upA T 367 f) 366 4 (nI L.length)) (P := P) g4 (by omega)
    have e : X 184 27 [.ref 366, .int 0] [] (H (up1 (upA T 367 f) 366 4 (nI L.length)) P) = X 184 27 [.ref 366, .int 912] [] (H U P) := e
    have u4 : U 366 4 = nI L.length := by rw [f1 366 (by decide)]; exact g4
    have n366 : ∀ j, j ≠ 4 → U 366 j = T 366 j := fun j hj => by rw [f1 366 (by decide), up1_s, upA_n _ _ hj, upA_n _ _ (by decide)]
    have n1 : ∀ a, a ≠ 366 → a ≠ 367 → U a = T a := fun a q1 q2 => by rw [f1 a q2, up1_n q1, upA_n _ _ q2]
    refine RQ.of (U := U) ?_ (fun a ha => n1 a (by omega) (by omega)) ⟨⟨?_, ?_, ⟨?_, ?_, fun g w hg => ?_⟩, ?_⟩, ?_⟩
    · unfold gUndo
      simp +decide only [x184_0, x184_1, x184_2, x184_5, x184_6, x184_9, x184_12, x184_14, x184_15, x184_16, x184_17, x184_20, x184_21, x184_22, x184_25, x184_26, x184_28, x184_31, x184_34, x184_35, x184_38, x184_39, x184_40, x184_43, x184_46, x184_47, x184_50, x184_51, x184_52, x184_53, x184_54, x184_55, x184_58, x184_61, x184_62, x184_65, aft_some, aft_void, Option.bind_some, Option.toList_some, Option.toList_none, List.cons_append, List.nil_append, if_true, if_false, ↓reduceIte, eq_self, z366_o, ↓z366_0, ↓z366_0p, ↓z366_1, ↓z366_2, ↓z366_3, ↓z366_4, ↓z366_4p, ↓z366_5, ↓z366_6, ↓z366_6p0, ↓z366_6p1, ↓z366_7, ↓z366_8, ↓z366_8p, ↓z366_9, ↓z366_9p, ↓z366_10, ↓z366_10p0, ↓z366_10p1, ↓z366_11, ↓z366_12, ↓z366_12p, ↓sg0, ↓sg1, ↓sg2, ↓sg3, ↓sg4, ↓sg5, ↓sg6, ↓sg7, ↓sg8, ↓sg9, ↓sg10, ↓sg11, ↓sg12, ↓sg13, ↓sg14, ↓sg15, ↓sg16, ↓sg17, ↓ss0, ↓ss1, ↓ss2, ↓ss3, ↓ss4, ↓ss5, ↓ss6, ↓ss7, ↓ss8, ↓ss9, ↓ss10, ↓ss11, ↓ss12, ↓ss13, ↓ss14, ↓ss15, ↓ss16, ↓ss17, t0, h4, hne, kp]
      rw [e, x184_27]
      simp +decide only [x184_0, x184_1, x184_2, x184_5, x184_6, x184_9, x184_12, x184_14, x184_15, x184_16, x184_17, x184_20, x184_21, x184_22, x184_25, x184_26, x184_28, x184_31, x184_34, x184_35, x184_38, x184_39, x184_40, x184_43, x184_46, x184_47, x184_50, x184_51, x184_52, x184_53, x184_54, x184_55, x184_58, x184_61, x184_62, x184_65, aft_some, aft_void, Option.bind_some, Option.toList_some, Option.toList_none, List.cons_append, List.nil_append, if_true, if_false, ↓reduceIte, eq_self, z366_o, ↓z366_0, ↓z366_0p, ↓z366_1, ↓z366_2, ↓z366_3, ↓z366_4, ↓z366_4p, ↓z366_5, ↓z366_6, ↓z366_6p0, ↓z366_6p1, ↓z366_7, ↓z366_8, ↓z366_8p, ↓z366_9, ↓z366_9p, ↓z366_10, ↓z366_10p0, ↓z366_10p1, ↓z366_11, ↓z366_12, ↓z366_12p, ↓sg0, ↓sg1, ↓sg2, ↓sg3, ↓sg4, ↓sg5, ↓sg6, ↓sg7, ↓sg8, ↓sg9, ↓sg10, ↓sg11, ↓sg12, ↓sg13, ↓sg14, ↓sg15, ↓sg16, ↓sg17, ↓ss0, ↓ss1, ↓ss2, ↓ss3, ↓ss4, ↓ss5, ↓ss6, ↓ss7, ↓ss8, ↓ss9, ↓ss10, ↓ss11, ↓ss12, ↓ss13, ↓ss14, ↓ss15, ↓ss16, ↓ss17, u4]
    · rw [n366 0 (by decide)]; exact h0
    · exact kR.same hk hw.2.2 (n366 6 (by decide)) (fun j _ => by rw [n1 370 (by decide) (by decide)])
    · exact u4
    · show L.length ≤ 4; omega
    · have := hh.2.2 (g + 1) w (by rw [List.getElem?_cons_succ]; exact hg)
      rw [n1 369 (by decide) (by decide)]
      have e2 : (v :: L).length - 1 - (g + 1) = L.length - 1 - g := by rw [List.length_cons]; omega
      rw [e2] at this
      exact this
    · exact hx.same (n366 8 (by decide)) (n1 371 (by decide) (by decide))
    · have h1 := hh.2.2 0 v rfl
      refine sU.same h1 (hw.2.1 v List.mem_cons_self) (fun j hj => ?_)
      rw [g1 j hj, up1_n (by decide), upA_n _ _ (by decide)]
      show _ = T 369 (912 * ((v :: L).length - 1 - 0) + j)
      congr 2
theorem q_keep (h : CF T f s) (hw : WG s) : RQ T P f 185 [.ref 366, .long 0] (gKeep s) := by
  have t0 := thr (f := f) h.1.1
  obtain ⟨⟨h0, hk, hh, hx⟩, hs⟩ := id h
  obtain ⟨U, e, f1, g1, -⟩ := cp_keep (T := upA T 367 f) (P := P)
  have e : X 185 7 [.ref 366, .int 0] [] (H (upA T 367 f) P) = X 185 7 [.ref 366, .int 912] [] (H U P) := e
  have hU : U 367 = f := by rw [f1 367 (by decide), upA_s]
  have n1 : ∀ a, a ≠ 370 → a ≠ 367 → U a = T a := fun a q1 q2 => by rw [f1 a q1, upA_n _ _ q2]
  obtain ⟨W, hW⟩ : ∃ W, W = up1 U 366 6 1 := ⟨_, rfl⟩
  have hW7 : W 367 = f := by rw [hW, up1_n (by decide)]; exact hU
  have hWf : upA W 367 f = W := by rw [← hW7]; exact upA_self _ _
  have n366 : ∀ j, j ≠ 6 → W 366 j = T 366 j := fun j hj => by rw [hW, up1_s, upA_n _ _ hj, n1 366 (by decide) (by decide)]
  have nW : ∀ a, a ≠ 366 → a ≠ 370 → a ≠ 367 → W a = T a := fun a q1 q2 q3 => by rw [hW, up1_n q1]; exact n1 a q2 q3
  have h4 : f 4 = nI (s.1.1.1 0) := hs.1.d
  refine RQ.of (U := W) ?_ (fun a ha => nW a (by omega) (by omega) (by omega)) ⟨⟨?_, ⟨?_, ?_⟩, ?_, ?_⟩, ?_⟩
  · unfold gKeep
    simp +decide only [x185_0, x185_1, x185_2, x185_5, x185_6, x185_8, x185_11, x185_14, x185_15, x185_18, x185_19, x185_20, x185_23, x185_24, x185_25, x185_26, x185_29, x185_32, x185_33, x185_34, x185_37, x185_38, x185_41, x185_42, x185_43, aft_some, aft_void, Option.bind_some, Option.toList_some, Option.toList_none, List.cons_append, List.nil_append, if_true, if_false, ↓reduceIte, eq_self, z366_o, ↓z366_0, ↓z366_0p, ↓z366_1, ↓z366_2, ↓z366_3, ↓z366_4, ↓z366_4p, ↓z366_5, ↓z366_6, ↓z366_6p0, ↓z366_6p1, ↓z366_7, ↓z366_8, ↓z366_8p, ↓z366_9, ↓z366_9p, ↓z366_10, ↓z366_10p0, ↓z366_10p1, ↓z366_11, ↓z366_12, ↓z366_12p, ↓sg0, ↓sg1, ↓sg2, ↓sg3, ↓sg4, ↓sg5, ↓sg6, ↓sg7, ↓sg8, ↓sg9, ↓sg10, ↓sg11, ↓sg12, ↓sg13, ↓sg14, ↓sg15, ↓sg16, ↓sg17, ↓ss0, ↓ss1, ↓ss2, ↓ss3, ↓ss4, ↓ss5, ↓ss6, ↓ss7, ↓ss8, ↓ss9, ↓ss10, ↓ss11, ↓ss12, ↓ss13, ↓ss14, ↓ss15, ↓ss16, ↓ss17, t0]
    rw [e, x185_7]
    simp +decide only [x185_0, x185_1, x185_2, x185_5, x185_6, x185_8, x185_11, x185_14, x185_15, x185_18, x185_19, x185_20, x185_23, x185_24, x185_25, x185_26, x185_29, x185_32, x185_33, x185_34, x185_37, x185_38, x185_41, x185_42, x185_43, aft_some, aft_void, Option.bind_some, Option.toList_some, Option.toList_none, List.cons_append, List.nil_append, if_true, if_false, ↓reduceIte, eq_self, z366_o, ↓z366_0, ↓z366_0p, ↓z366_1, ↓z366_2, ↓z366_3, ↓z366_4, ↓z366_4p, ↓z366_5, ↓z366_6, ↓z366_6p0, ↓z366_6p1, ↓z366_7, ↓z366_8, ↓z366_8p, ↓z366_9, ↓z366_9p, ↓z366_10, ↓z366_10p0, ↓z366_10p1, ↓z366_11, ↓z366_12, ↓z366_12p, ↓sg0, ↓sg1, ↓sg2, ↓sg3, ↓sg4, ↓sg5, ↓sg6, ↓sg7, ↓sg8, ↓sg9, ↓sg10, ↓sg11, ↓sg12, ↓sg13, ↓sg14, ↓sg15, ↓sg16, ↓sg17, ↓ss0, ↓ss1, ↓ss2, ↓ss3, ↓ss4, ↓ss5, ↓ss6, ↓ss7, ↓ss8, ↓ss9, ↓ss10, ↓ss11, ↓ss12, ↓ss13, ↓ss14, ↓ss15, ↓ss16, ↓ss17]
    rw [← hW, ← hWf]
    simp +decide only [x185_0, x185_1, x185_2, x185_5, x185_6, x185_8, x185_11, x185_14, x185_15, x185_18, x185_19, x185_20, x185_23, x185_24, x185_25, x185_26, x185_29, x185_32, x185_33, x185_34, x185_37, x185_38, x185_41, x185_42, x185_43, aft_some, aft_void, Option.bind_some, Option.toList_some, Option.toList_none, List.cons_append, List.nil_append, if_true, if_false, ↓reduceIte, eq_self, z366_o, ↓z366_0, ↓z366_0p, ↓z366_1, ↓z366_2, ↓z366_3, ↓z366_4, ↓z366_4p, ↓z366_5, ↓z366_6, ↓z366_6p0, ↓z366_6p1, ↓z366_7, ↓z366_8, ↓z366_8p, ↓z366_9, ↓z366_9p, ↓z366_10, ↓z366_10p0, ↓z366_10p1, ↓z366_11, ↓z366_12, ↓z366_12p, ↓sg0, ↓sg1, ↓sg2, ↓sg3, ↓sg4, ↓sg5, ↓sg6, ↓sg7, ↓sg8, ↓sg9, ↓sg10, ↓sg11, ↓sg12, ↓sg13, ↓sg14, ↓sg15, ↓sg16, ↓sg17, ↓ss0, ↓ss1, ↓ss2, ↓ss3, ↓ss4, ↓ss5, ↓ss6, ↓ss7, ↓ss8, ↓ss9, ↓ss10, ↓ss11, ↓ss12, ↓ss13, ↓ss14, ↓ss15, ↓ss16, ↓ss17, h4]
  · rw [n366 0 (by decide)]; exact h0
  · rw [hW, up1_s, upA_s]
  · refine sU.same hs hw.1 (fun j hj => ?_)
    rw [hW, up1_n (by decide), g1 j hj, upA_s]
  · exact hh.same (n366 4 (by decide)) (nW 369 (by decide) (by decide) (by decide))
  · exact hx.same (n366 8 (by decide)) (nW 371 (by decide) (by decide) (by decide))
  · rw [hW7]; exact hs
theorem q_rest (h : CF T f s) (hw : WG s) : RQ T P f 186 [.ref 366, .long 0] (gRest s) := by
  have t0 := thr (f := f) h.1.1
  obtain ⟨⟨h0, hk, hh, hx⟩, hs⟩ := id h
  obtain ⟨u, k, L, t⟩ := s
  cases k with
  | none =>
    have h6 : upA T 367 f 366 6 = 0 := by rw [upA_n _ _ (by decide)]; exact hk
    exact ⟨T, f, by
      unfold gRest
      simp +decide only [x186_0, x186_1, x186_2, x186_5, x186_6, x186_9, x186_12, x186_14, x186_15, x186_16, x186_19, x186_20, x186_21, x186_22, x186_25, x186_28, x186_29, x186_32, x186_33, x186_34, x186_37, x186_38, x186_39, x186_40, x186_43, x186_46, x186_47, x186_50, x186_51, x186_52, aft_some, aft_void, Option.bind_some, Option.toList_some, Option.toList_none, List.cons_append, List.nil_append, if_true, if_false, ↓reduceIte, eq_self, z366_o, ↓z366_0, ↓z366_0p, ↓z366_1, ↓z366_2, ↓z366_3, ↓z366_4, ↓z366_4p, ↓z366_5, ↓z366_6, ↓z366_6p0, ↓z366_6p1, ↓z366_7, ↓z366_8, ↓z366_8p, ↓z366_9, ↓z366_9p, ↓z366_10, ↓z366_10p0, ↓z366_10p1, ↓z366_11, ↓z366_12, ↓z366_12p, ↓sg0, ↓sg1, ↓sg2, ↓sg3, ↓sg4, ↓sg5, ↓sg6, ↓sg7, ↓sg8, ↓sg9, ↓sg10, ↓sg11, ↓sg12, ↓sg13, ↓sg14, ↓sg15, ↓sg16, ↓sg17, ↓ss0, ↓ss1, ↓ss2, ↓ss3, ↓ss4, ↓ss5, ↓ss6, ↓ss7, ↓ss8, ↓ss9, ↓ss10, ↓ss11, ↓ss12, ↓ss13, ↓ss14, ↓ss15, ↓ss16, ↓ss17, t0, h6], fun _ _ => rfl, h⟩
  | some v =>
    have h6 : upA T 367 f 366 6 = 1 := by rw [upA_n _ _ (by decide)]; exact hk.1
    obtain ⟨U, e, fr, -, hU⟩ := h.push (P := P) hw
    obtain ⟨⟨p0, pk, ph, px⟩, -⟩ := hU
    obtain ⟨W, e2, f2, g2, -⟩ := cp_rest (T := upA U 367 f) (P := P)
    have e2 : X 186 21 [.ref 366, .int 0] [] (H (upA U 367 f) P) = X 186 21 [.ref 366, .int 912] [] (H W P) := e2
    have nW : ∀ a, a ≠ 367 → W a = U a := fun a q => by rw [f2 a q, upA_n _ _ q]
    have hs' : sU (W 367) v := sU.same pk.2 (hw.2.2 v rfl) (fun j hj => by rw [g2 j hj, upA_n _ _ (by decide)])
    have hWf : upA W 367 (W 367) = W := upA_self _ _
    have h4 : W 367 4 = nI (v.1.1 0) := hs'.1.d
    refine RQ.of (U := W) ?_ (fun a ha => by rw [nW a (by omega)]; exact fr a (by omega) (by omega)) ⟨⟨?_, ⟨?_, ?_⟩, ?_, ?_⟩, hs'⟩
    · unfold gRest
      simp +decide only [x186_0, x186_1, x186_2, x186_5, x186_6, x186_9, x186_12, x186_14, x186_15, x186_16, x186_19, x186_20, x186_22, x186_25, x186_28, x186_29, x186_32, x186_33, x186_34, x186_37, x186_38, x186_39, x186_40, x186_43, x186_46, x186_47, x186_50, x186_51, x186_52, aft_some, aft_void, Option.bind_some, Option.toList_some, Option.toList_none, List.cons_append, List.nil_append, if_true, if_false, ↓reduceIte, eq_self, z366_o, ↓z366_0, ↓z366_0p, ↓z366_1, ↓z366_2, ↓z366_3, ↓z366_4, ↓z366_4p, ↓z366_5, ↓z366_6, ↓z366_6p0, ↓z366_6p1, ↓z366_7, ↓z366_8, ↓z366_8p, ↓z366_9, ↓z366_9p, ↓z366_10, ↓z366_10p0, ↓z366_10p1, ↓z366_11, ↓z366_12, ↓z366_12p, ↓sg0, ↓sg1, ↓sg2, ↓sg3, ↓sg4, ↓sg5, ↓sg6, ↓sg7, ↓sg8, ↓sg9, ↓sg10, ↓sg11, ↓sg12, ↓sg13, ↓sg14, ↓sg15, ↓sg16, ↓sg17, ↓ss0, ↓ss1, ↓ss2, ↓ss3, ↓ss4, ↓ss5, ↓ss6, ↓ss7, ↓ss8, ↓ss9, ↓ss10, ↓ss11, ↓ss12, ↓ss13, ↓ss14, ↓ss15, ↓ss16, ↓ss17, t0, h6, ↓aft_of (e)]
      rw [e2, x186_21]
      simp +decide only [x186_0, x186_1, x186_2, x186_5, x186_6, x186_9, x186_12, x186_14, x186_15, x186_16, x186_19, x186_20, x186_22, x186_25, x186_28, x186_29, x186_32, x186_33, x186_34, x186_37, x186_38, x186_39, x186_40, x186_43, x186_46, x186_47, x186_50, x186_51, x186_52, aft_some, aft_void, Option.bind_some, Option.toList_some, Option.toList_none, List.cons_append, List.nil_append, if_true, if_false, ↓reduceIte, eq_self, z366_o, ↓z366_0, ↓z366_0p, ↓z366_1, ↓z366_2, ↓z366_3, ↓z366_4, ↓z366_4p, ↓z366_5, ↓z366_6, ↓z366_6p0, ↓z366_6p1, ↓z366_7, ↓z366_8, ↓z366_8p, ↓z366_9, ↓z366_9p, ↓z366_10, ↓z366_10p0, ↓z366_10p1, ↓z366_11, ↓z366_12, ↓z366_12p, ↓sg0, ↓sg1, ↓sg2, ↓sg3, ↓sg4, ↓sg5, ↓sg6, ↓sg7, ↓sg8, ↓sg9, ↓sg10, ↓sg11, ↓sg12, ↓sg13, ↓sg14, ↓sg15, ↓sg16, ↓sg17, ↓ss0, ↓ss1, ↓ss2, ↓ss3, ↓ss4, ↓ss5, ↓ss6, ↓ss7, ↓ss8, ↓ss9, ↓ss10, ↓ss11, ↓ss12, ↓ss13, ↓ss14, ↓ss15, ↓ss16, ↓ss17]
      rw [← hWf]
      simp +decide only [x186_0, x186_1, x186_2, x186_5, x186_6, x186_9, x186_12, x186_14, x186_15, x186_16, x186_19, x186_20, x186_22, x186_25, x186_28, x186_29, x186_32, x186_33, x186_34, x186_37, x186_38, x186_39, x186_40, x186_43, x186_46, x186_47, x186_50, x186_51, x186_52, aft_some, aft_void, Option.bind_some, Option.toList_some, Option.toList_none, List.cons_append, List.nil_append, if_true, if_false, ↓reduceIte, eq_self, z366_o, ↓z366_0, ↓z366_0p, ↓z366_1, ↓z366_2, ↓z366_3, ↓z366_4, ↓z366_4p, ↓z366_5, ↓z366_6, ↓z366_6p0, ↓z366_6p1, ↓z366_7, ↓z366_8, ↓z366_8p, ↓z366_9, ↓z366_9p, ↓z366_10, ↓z366_10p0, ↓z366_10p1, ↓z366_11, ↓z366_12, ↓z366_12p, ↓sg0, ↓sg1, ↓sg2, ↓sg3, ↓sg4, ↓sg5, ↓sg6, ↓sg7, ↓sg8, ↓sg9, ↓sg10, ↓sg11, ↓sg12, ↓sg13, ↓sg14, ↓sg15, ↓sg16, ↓sg17, ↓ss0, ↓ss1, ↓ss2, ↓ss3, ↓ss4, ↓ss5, ↓ss6, ↓ss7, ↓ss8, ↓ss9, ↓ss10, ↓ss11, ↓ss12, ↓ss13, ↓ss14, ↓ss15, ↓ss16, ↓ss17, h4]
    · rw [nW 366 (by decide)]; exact p0
    · rw [nW 366 (by decide)]; exact pk.1
    · rw [nW 370 (by decide)]; exact pk.2
    · exact ph.same (by rw [nW 366 (by decide)]) (nW 369 (by decide))
    · exact px.same (by rw [nW 366 (by decide)]) (nW 371 (by decide))
theorem q_bask (h : CF T f s) (hw : WG s) (c p st g : Int32) : RQ T P f 151 [.ref 366, .int c, .int p, .int st, .int g, .long 0] (gBask c p st g s) := by
  have t0 := thr (f := f) h.1.1
  have er := r_refuses (T := T) (P := P) (x := c) (y := p) (z := st) (w := g) h.2 hw.1.1
  unfold gBask
  by_cases c1 : rfU s.1 c p st g < 0
  · rw [if_pos c1]
    have hne : (rfI (s.1.1.1 1) s.1.1.2.2.1 s.1.2.length (s.1.1.1 2) c p st g = 0) = False := eq_false (fun e => by
      have c1 : rfI (s.1.1.1 1) s.1.1.2.2.1 s.1.2.length (s.1.1.1 2) c p st g < 0 := c1
      rw [e] at c1
      exact absurd c1 (by decide))
    exact ⟨T, f, by simp +decide only [x151_0, x151_1, x151_2, x151_5, x151_6, x151_7, x151_8, x151_9, x151_11, x151_14, x151_16, x151_18, x151_21, x151_23, x151_24, x151_25, x151_28, x151_29, x151_30, x151_31, x151_32, x151_34, x151_37, aft_some, aft_void, Option.bind_some, Option.toList_some, Option.toList_none, List.cons_append, List.nil_append, if_true, if_false, ↓reduceIte, eq_self, z366_o, ↓z366_0, ↓z366_0p, ↓z366_1, ↓z366_2, ↓z366_3, ↓z366_4, ↓z366_4p, ↓z366_5, ↓z366_6, ↓z366_6p0, ↓z366_6p1, ↓z366_7, ↓z366_8, ↓z366_8p, ↓z366_9, ↓z366_9p, ↓z366_10, ↓z366_10p0, ↓z366_10p1, ↓z366_11, ↓z366_12, ↓z366_12p, ↓sg0, ↓sg1, ↓sg2, ↓sg3, ↓sg4, ↓sg5, ↓sg6, ↓sg7, ↓sg8, ↓sg9, ↓sg10, ↓sg11, ↓sg12, ↓sg13, ↓sg14, ↓sg15, ↓sg16, ↓sg17, ↓ss0, ↓ss1, ↓ss2, ↓ss3, ↓ss4, ↓ss5, ↓ss6, ↓ss7, ↓ss8, ↓ss9, ↓ss10, ↓ss11, ↓ss12, ↓ss13, ↓ss14, ↓ss15, ↓ss16, ↓ss17, t0, ↓aft_of (er), hne], fun _ _ => rfl, h⟩
  rw [if_neg c1]
  obtain ⟨e0, k, m, y, z, hk, rfl, hm, rfl, hy, rfl, hz, hzo, rfl, h8, h99⟩ := rf_ok hw.1 c1
  have e0 : rfI (s.1.1.1 1) s.1.1.2.2.1 s.1.2.length (s.1.1.1 2) (nI k) (nI m) (nI y) (nI z) = 0 := e0
  rw [e0] at er
  obtain ⟨U, e, fr, -, hU⟩ := h.push (P := P) hw
  have hN1 := hw.1.1.1.2.1
  obtain ⟨f', ec, hs'⟩ := r_comes (T := U) (P := P) (st := nI y) h.2 hw.1.1 hm hk h8 h99 hzo
  rw [nI_clamp (show k < 2 ^ 31 by omega), nI_clamp (show z < 2 ^ 31 by omega)]
  exact ⟨U, f', by simp +decide only [x151_0, x151_1, x151_2, x151_5, x151_6, x151_7, x151_8, x151_9, x151_11, x151_14, x151_16, x151_18, x151_21, x151_23, x151_24, x151_25, x151_28, x151_29, x151_30, x151_31, x151_32, x151_34, x151_37, aft_some, aft_void, Option.bind_some, Option.toList_some, Option.toList_none, List.cons_append, List.nil_append, if_true, if_false, ↓reduceIte, eq_self, z366_o, ↓z366_0, ↓z366_0p, ↓z366_1, ↓z366_2, ↓z366_3, ↓z366_4, ↓z366_4p, ↓z366_5, ↓z366_6, ↓z366_6p0, ↓z366_6p1, ↓z366_7, ↓z366_8, ↓z366_8p, ↓z366_9, ↓z366_9p, ↓z366_10, ↓z366_10p0, ↓z366_10p1, ↓z366_11, ↓z366_12, ↓z366_12p, ↓sg0, ↓sg1, ↓sg2, ↓sg3, ↓sg4, ↓sg5, ↓sg6, ↓sg7, ↓sg8, ↓sg9, ↓sg10, ↓sg11, ↓sg12, ↓sg13, ↓sg14, ↓sg15, ↓sg16, ↓sg17, ↓ss0, ↓ss1, ↓ss2, ↓ss3, ↓ss4, ↓ss5, ↓ss6, ↓ss7, ↓ss8, ↓ss9, ↓ss10, ↓ss11, ↓ss12, ↓ss13, ↓ss14, ↓ss15, ↓ss16, ↓ss17, t0, ↓aft_of (er), ↓aft_of (e), ↓aft_of (ec)], fun a ha => fr a (by omega) (by omega), hU.now hs'⟩
theorem q_iron (h : CF T f s) (hw : WG s) (m : Int32) : RQ T P f 163 [.ref 366, .int m] (gIron m s) := by
  have t0 := thr (f := f) h.1.1
  unfold gIron
  by_cases c1 : inI m 1 600 = 0
  · rw [if_pos c1]
    exact ⟨T, f, by simp +decide only [x163_0, x163_1, x163_2, x163_5, x163_6, x163_7, x163_10, x163_13, x163_16, x163_18, x163_19, x163_20, x163_23, x163_24, x163_25, x163_28, aft_some, aft_void, Option.bind_some, Option.toList_some, Option.toList_none, List.cons_append, List.nil_append, if_true, if_false, ↓reduceIte, eq_self, z366_o, ↓z366_0, ↓z366_0p, ↓z366_1, ↓z366_2, ↓z366_3, ↓z366_4, ↓z366_4p, ↓z366_5, ↓z366_6, ↓z366_6p0, ↓z366_6p1, ↓z366_7, ↓z366_8, ↓z366_8p, ↓z366_9, ↓z366_9p, ↓z366_10, ↓z366_10p0, ↓z366_10p1, ↓z366_11, ↓z366_12, ↓z366_12p, ↓sg0, ↓sg1, ↓sg2, ↓sg3, ↓sg4, ↓sg5, ↓sg6, ↓sg7, ↓sg8, ↓sg9, ↓sg10, ↓sg11, ↓sg12, ↓sg13, ↓sg14, ↓sg15, ↓sg16, ↓sg17, ↓ss0, ↓ss1, ↓ss2, ↓ss3, ↓ss4, ↓ss5, ↓ss6, ↓ss7, ↓ss8, ↓ss9, ↓ss10, ↓ss11, ↓ss12, ↓ss13, ↓ss14, ↓ss15, ↓ss16, ↓ss17, t0, ↓aft_of (r_in), c1], fun _ _ => rfl, h⟩
  rw [if_neg c1]
  obtain ⟨U, e, fr, -, hU⟩ := h.push (P := P) hw
  obtain ⟨f', ei, hs', -⟩ := r_irons (T := U) (P := P) (m := m) h.2 hw.1.1
  exact ⟨U, f', by simp +decide only [x163_0, x163_1, x163_2, x163_5, x163_6, x163_7, x163_10, x163_13, x163_16, x163_18, x163_19, x163_20, x163_23, x163_24, x163_25, x163_28, aft_some, aft_void, Option.bind_some, Option.toList_some, Option.toList_none, List.cons_append, List.nil_append, if_true, if_false, ↓reduceIte, eq_self, z366_o, ↓z366_0, ↓z366_0p, ↓z366_1, ↓z366_2, ↓z366_3, ↓z366_4, ↓z366_4p, ↓z366_5, ↓z366_6, ↓z366_6p0, ↓z366_6p1, ↓z366_7, ↓z366_8, ↓z366_8p, ↓z366_9, ↓z366_9p, ↓z366_10, ↓z366_10p0, ↓z366_10p1, ↓z366_11, ↓z366_12, ↓z366_12p, ↓sg0, ↓sg1, ↓sg2, ↓sg3, ↓sg4, ↓sg5, ↓sg6, ↓sg7, ↓sg8, ↓sg9, ↓sg10, ↓sg11, ↓sg12, ↓sg13, ↓sg14, ↓sg15, ↓sg16, ↓sg17, ↓ss0, ↓ss1, ↓ss2, ↓ss3, ↓ss4, ↓ss5, ↓ss6, ↓ss7, ↓ss8, ↓ss9, ↓ss10, ↓ss11, ↓ss12, ↓ss13, ↓ss14, ↓ss15, ↓ss16, ↓ss17, t0, ↓aft_of (r_in), c1, ↓aft_of (e), ↓aft_of (ei)], fun a ha => fr a (by omega) (by omega), hU.now hs'⟩
theorem q_pass (h : CF T f s) (hw : WG s) (d : Int32) : RQ T P f 167 [.ref 366, .int d, .long 0, .long 0] (gPass d s) := by
  have t0 := thr (f := f) h.1.1
  have h4 : f 4 = nI (s.1.1.1 0) := h.2.1.d
  unfold gPass
  by_cases c1 : inI d 1 99 = 0
  · rw [if_pos c1]
    exact ⟨T, f, by simp +decide only [x167_0, x167_1, x167_2, x167_5, x167_6, x167_7, x167_9, x167_12, x167_15, x167_17, x167_18, x167_19, x167_22, x167_23, x167_24, x167_25, x167_26, x167_29, x167_32, x167_34, x167_35, x167_36, x167_39, x167_40, x167_41, x167_42, x167_43, x167_44, x167_45, x167_48, x167_49, x167_50, x167_53, x167_54, x167_55, x167_58, x167_61, x167_62, aft_some, aft_void, Option.bind_some, Option.toList_some, Option.toList_none, List.cons_append, List.nil_append, if_true, if_false, ↓reduceIte, eq_self, z366_o, ↓z366_0, ↓z366_0p, ↓z366_1, ↓z366_2, ↓z366_3, ↓z366_4, ↓z366_4p, ↓z366_5, ↓z366_6, ↓z366_6p0, ↓z366_6p1, ↓z366_7, ↓z366_8, ↓z366_8p, ↓z366_9, ↓z366_9p, ↓z366_10, ↓z366_10p0, ↓z366_10p1, ↓z366_11, ↓z366_12, ↓z366_12p, ↓sg0, ↓sg1, ↓sg2, ↓sg3, ↓sg4, ↓sg5, ↓sg6, ↓sg7, ↓sg8, ↓sg9, ↓sg10, ↓sg11, ↓sg12, ↓sg13, ↓sg14, ↓sg15, ↓sg16, ↓sg17, ↓ss0, ↓ss1, ↓ss2, ↓ss3, ↓ss4, ↓ss5, ↓ss6, ↓ss7, ↓ss8, ↓ss9, ↓ss10, ↓ss11, ↓ss12, ↓ss13, ↓ss14, ↓ss15, ↓ss16, ↓ss17, t0, ↓aft_of (r_in), c1], fun _ _ => rfl, h⟩
  rw [if_neg c1]
  by_cases c2 : 9999 < nI (s.1.1.1 0) + d
  · rw [if_pos c2]
    exact ⟨T, f, by simp +decide only [x167_0, x167_1, x167_2, x167_5, x167_6, x167_7, x167_9, x167_12, x167_15, x167_17, x167_18, x167_19, x167_22, x167_23, x167_24, x167_25, x167_26, x167_29, x167_32, x167_34, x167_35, x167_36, x167_39, x167_40, x167_41, x167_42, x167_43, x167_44, x167_45, x167_48, x167_49, x167_50, x167_53, x167_54, x167_55, x167_58, x167_61, x167_62, aft_some, aft_void, Option.bind_some, Option.toList_some, Option.toList_none, List.cons_append, List.nil_append, if_true, if_false, ↓reduceIte, eq_self, z366_o, ↓z366_0, ↓z366_0p, ↓z366_1, ↓z366_2, ↓z366_3, ↓z366_4, ↓z366_4p, ↓z366_5, ↓z366_6, ↓z366_6p0, ↓z366_6p1, ↓z366_7, ↓z366_8, ↓z366_8p, ↓z366_9, ↓z366_9p, ↓z366_10, ↓z366_10p0, ↓z366_10p1, ↓z366_11, ↓z366_12, ↓z366_12p, ↓sg0, ↓sg1, ↓sg2, ↓sg3, ↓sg4, ↓sg5, ↓sg6, ↓sg7, ↓sg8, ↓sg9, ↓sg10, ↓sg11, ↓sg12, ↓sg13, ↓sg14, ↓sg15, ↓sg16, ↓sg17, ↓ss0, ↓ss1, ↓ss2, ↓ss3, ↓ss4, ↓ss5, ↓ss6, ↓ss7, ↓ss8, ↓ss9, ↓ss10, ↓ss11, ↓ss12, ↓ss13, ↓ss14, ↓ss15, ↓ss16, ↓ss17, t0, ↓aft_of (r_in), c1, h4, c2], fun _ _ => rfl, h⟩
  rw [if_neg c2]
  obtain ⟨n, hn1, hn, rfl⟩ := inI_ex2 (m := 1) (n := 99) (by decide) (by decide) c1
  have h99 : s.1.1.1 0 + n ≤ 9999 := by
    have := hw.1.2
    rw [nI_add, show (9999 : Int32) = nI 9999 from rfl, nI_ltp (by decide) (by omega)] at c2
    omega
  rw [nI_clamp (show n < 2 ^ 31 by omega)]
  obtain ⟨U, e, fr, -, hU⟩ := h.push (P := P) hw
  obtain ⟨G, e2, i3, i4, i5⟩ := loop_ex (fun i (G : Nat → Int32) => X 167 43 [.ref 366, .int (nI n), .int (psT i s.1), .int (nI i)] [] (H (upA U 367 G) P))
    (fun i G => sU G (psU i s.1) ∧ WF (psU i s.1).1.1 (psU i s.1).1.2.1 (psU i s.1).2 (psU i s.1).1.2.2.1 ∧ (psU i s.1).1.1 0 = s.1.1.1 0 + i) n f ⟨h.2, hw.1.1, rfl⟩ (by
      intro i G hi ⟨j3, j4, j5⟩
      obtain ⟨G', e3, c3⟩ := r_goesBy (T := U) (P := P) j3 j4 (by omega)
      have e3 : X 166 0 [.ref 366, .long 0, .long 0, .long 0, .long 0] [] (H (upA U 367 G) P) = some (some (.int (nI ((psU i s.1).2.length - (dyU (psU i s.1)).2.length))), H (upA U 367 G') P) := e3
      refine ⟨G', ?_, c3, WF_day j4 (show (psU i s.1).1.1 0 < 10100 by omega), ?_⟩
      · show X 167 43 [.ref 366, .int (nI n), .int (psT i s.1), .int (nI i)] [] (H (upA U 367 G) P) = _
        rw [x167_43]
        simp +decide only [x167_0, x167_1, x167_2, x167_5, x167_6, x167_7, x167_9, x167_12, x167_15, x167_17, x167_18, x167_19, x167_22, x167_23, x167_24, x167_25, x167_26, x167_29, x167_32, x167_34, x167_35, x167_36, x167_39, x167_40, x167_41, x167_42, x167_44, x167_45, x167_48, x167_49, x167_50, x167_53, x167_54, x167_55, x167_58, x167_61, x167_62, aft_some, aft_void, Option.bind_some, Option.toList_some, Option.toList_none, List.cons_append, List.nil_append, if_true, if_false, ↓reduceIte, eq_self, z366_o, ↓z366_0, ↓z366_0p, ↓z366_1, ↓z366_2, ↓z366_3, ↓z366_4, ↓z366_4p, ↓z366_5, ↓z366_6, ↓z366_6p0, ↓z366_6p1, ↓z366_7, ↓z366_8, ↓z366_8p, ↓z366_9, ↓z366_9p, ↓z366_10, ↓z366_10p0, ↓z366_10p1, ↓z366_11, ↓z366_12, ↓z366_12p, ↓sg0, ↓sg1, ↓sg2, ↓sg3, ↓sg4, ↓sg5, ↓sg6, ↓sg7, ↓sg8, ↓sg9, ↓sg10, ↓sg11, ↓sg12, ↓sg13, ↓sg14, ↓sg15, ↓sg16, ↓sg17, ↓ss0, ↓ss1, ↓ss2, ↓ss3, ↓ss4, ↓ss5, ↓ss6, ↓ss7, ↓ss8, ↓ss9, ↓ss10, ↓ss11, ↓ss12, ↓ss13, ↓ss14, ↓ss15, ↓ss16, ↓ss17, nI_lt hi (show n < 2 ^ 31 by omega), ↓aft_of (e3), nI_1, psT]
      · show (dyU (psU i s.1)).1.1 0 = _
        rw [dy_day, j5]; omega)
  have e2 : X 167 43 [.ref 366, .int (nI n), .int 0, .int 0] [] (H (upA U 367 f) P) = X 167 43 [.ref 366, .int (nI n), .int (psT n s.1), .int (nI n)] [] (H (upA U 367 G) P) := e2
  refine ⟨U, G, ?_, fun a ha => fr a (by omega) (by omega), hU.now i3⟩
  simp +decide only [x167_0, x167_1, x167_2, x167_5, x167_6, x167_7, x167_9, x167_12, x167_15, x167_17, x167_18, x167_19, x167_22, x167_23, x167_24, x167_25, x167_26, x167_29, x167_32, x167_34, x167_35, x167_36, x167_39, x167_40, x167_41, x167_42, x167_44, x167_45, x167_48, x167_49, x167_50, x167_53, x167_54, x167_55, x167_58, x167_61, x167_62, aft_some, aft_void, Option.bind_some, Option.toList_some, Option.toList_none, List.cons_append, List.nil_append, if_true, if_false, ↓reduceIte, eq_self, z366_o, ↓z366_0, ↓z366_0p, ↓z366_1, ↓z366_2, ↓z366_3, ↓z366_4, ↓z366_4p, ↓z366_5, ↓z366_6, ↓z366_6p0, ↓z366_6p1, ↓z366_7, ↓z366_8, ↓z366_8p, ↓z366_9, ↓z366_9p, ↓z366_10, ↓z366_10p0, ↓z366_10p1, ↓z366_11, ↓z366_12, ↓z366_12p, ↓sg0, ↓sg1, ↓sg2, ↓sg3, ↓sg4, ↓sg5, ↓sg6, ↓sg7, ↓sg8, ↓sg9, ↓sg10, ↓sg11, ↓sg12, ↓sg13, ↓sg14, ↓sg15, ↓sg16, ↓sg17, ↓ss0, ↓ss1, ↓ss2, ↓ss3, ↓ss4, ↓ss5, ↓ss6, ↓ss7, ↓ss8, ↓ss9, ↓ss10, ↓ss11, ↓ss12, ↓ss13, ↓ss14, ↓ss15, ↓ss16, ↓ss17, t0, ↓aft_of (r_in), c1, h4, c2, ↓aft_of (e)]
  rw [e2, x167_43]
  simp +decide only [x167_0, x167_1, x167_2, x167_5, x167_6, x167_7, x167_9, x167_12, x167_15, x167_17, x167_18, x167_19, x167_22, x167_23, x167_24, x167_25, x167_26, x167_29, x167_32, x167_34, x167_35, x167_36, x167_39, x167_40, x167_41, x167_42, x167_44, x167_45, x167_48, x167_49, x167_50, x167_53, x167_54, x167_55, x167_58, x167_61, x167_62, aft_some, aft_void, Option.bind_some, Option.toList_some, Option.toList_none, List.cons_append, List.nil_append, if_true, if_false, ↓reduceIte, eq_self, nI_nlt (Nat.le_refl n) (show n < 2 ^ 31 by omega)]
end QB
end
section
/-! the reference's lose and find -/
section QC
variable {T : Nat → Nat → Int32} {P : Nat → Nat → Nat} {f g : Nat → Int32} {s : gT} {x y z w : Int32} {N M : Nat → Nat} {V W : Nat → Nat → Int32} {K : List kT} {B : List bT} {R R' : Nat → Nat → Int32} {i k : Nat}
theorem r_degree {b : kT} (hb : bR f i b) (hi : i < 8) (hk : k < 4) : X 153 0 [.ref 366, .int (nI i), .int (nI k)] [] (H (upA T 367 f) P) = some (some (.int (dgI (b 0 3) k)), H (upA T 367 f) P) := by
  have e2 := r_of (T := T) (P := P) (f := f) (i := i) (w := 2) (y := 2) rfl hi (by decide)
  rw [hb.1.2.2.1] at e2
  match k, hk with
  | 0, _ => simp +decide only [x153_0, x153_1, x153_2, x153_5, x153_6, x153_7, x153_8, x153_11, x153_14, x153_15, aft_some, aft_void, Option.bind_some, Option.toList_some, Option.toList_none, List.cons_append, List.nil_append, if_true, if_false, ↓reduceIte, eq_self, z366_o, ↓z366_0, ↓z366_0p, ↓z366_1, ↓z366_2, ↓z366_3, ↓z366_4, ↓z366_4p, ↓z366_5, ↓z366_6, ↓z366_6p0, ↓z366_6p1, ↓z366_7, ↓z366_8, ↓z366_8p, ↓z366_9, ↓z366_9p, ↓z366_10, ↓z366_10p0, ↓z366_10p1, ↓z366_11, ↓z366_12, ↓z366_12p, ↓sg0, ↓sg1, ↓sg2, ↓sg3, ↓sg4, ↓sg5, ↓sg6, ↓sg7, ↓sg8, ↓sg9, ↓sg10, ↓sg11, ↓sg12, ↓sg13, ↓sg14, ↓sg15, ↓sg16, ↓sg17, ↓ss0, ↓ss1, ↓ss2, ↓ss3, ↓ss4, ↓ss5, ↓ss6, ↓ss7, ↓ss8, ↓ss9, ↓ss10, ↓ss11, ↓ss12, ↓ss13, ↓ss14, ↓ss15, ↓ss16, ↓ss17, nl0, ↓aft_of (e2), dgI]
  | 1, _ => simp +decide only [x153_0, x153_1, x153_2, x153_5, x153_6, x153_7, x153_8, x153_11, x153_14, x153_15, aft_some, aft_void, Option.bind_some, Option.toList_some, Option.toList_none, List.cons_append, List.nil_append, if_true, if_false, ↓reduceIte, eq_self, z366_o, ↓z366_0, ↓z366_0p, ↓z366_1, ↓z366_2, ↓z366_3, ↓z366_4, ↓z366_4p, ↓z366_5, ↓z366_6, ↓z366_6p0, ↓z366_6p1, ↓z366_7, ↓z366_8, ↓z366_8p, ↓z366_9, ↓z366_9p, ↓z366_10, ↓z366_10p0, ↓z366_10p1, ↓z366_11, ↓z366_12, ↓z366_12p, ↓sg0, ↓sg1, ↓sg2, ↓sg3, ↓sg4, ↓sg5, ↓sg6, ↓sg7, ↓sg8, ↓sg9, ↓sg10, ↓sg11, ↓sg12, ↓sg13, ↓sg14, ↓sg15, ↓sg16, ↓sg17, ↓ss0, ↓ss1, ↓ss2, ↓ss3, ↓ss4, ↓ss5, ↓ss6, ↓ss7, ↓ss8, ↓ss9, ↓ss10, ↓ss11, ↓ss12, ↓ss13, ↓ss14, ↓ss15, ↓ss16, ↓ss17, nl1, ↓aft_of (e2), dgI]
  | 2, _ => simp +decide only [x153_0, x153_1, x153_2, x153_5, x153_6, x153_7, x153_8, x153_11, x153_14, x153_15, aft_some, aft_void, Option.bind_some, Option.toList_some, Option.toList_none, List.cons_append, List.nil_append, if_true, if_false, ↓reduceIte, eq_self, z366_o, ↓z366_0, ↓z366_0p, ↓z366_1, ↓z366_2, ↓z366_3, ↓z366_4, ↓z366_4p, ↓z366_5, ↓z366_6, ↓z366_6p0, ↓z366_6p1, ↓z366_7, ↓z366_8, ↓z366_8p, ↓z366_9, ↓z366_9p, ↓z366_10, ↓z366_10p0, ↓z366_10p1, ↓z366_11, ↓z366_12, ↓z366_12p, ↓sg0, ↓sg1, ↓sg2, ↓sg3, ↓sg4, ↓sg5, ↓sg6, ↓sg7, ↓sg8, ↓sg9, ↓sg10, ↓sg11, ↓sg12, ↓sg13, ↓sg14, ↓sg15, ↓sg16, ↓sg17, ↓ss0, ↓ss1, ↓ss2, ↓ss3, ↓ss4, ↓ss5, ↓ss6, ↓ss7, ↓ss8, ↓ss9, ↓ss10, ↓ss11, ↓ss12, ↓ss13, ↓ss14, ↓ss15, ↓ss16, ↓ss17, nl2, dgI]
  | 3, _ => simp +decide only [x153_0, x153_1, x153_2, x153_5, x153_6, x153_7, x153_8, x153_11, x153_14, x153_15, aft_some, aft_void, Option.bind_some, Option.toList_some, Option.toList_none, List.cons_append, List.nil_append, if_true, if_false, ↓reduceIte, eq_self, z366_o, ↓z366_0, ↓z366_0p, ↓z366_1, ↓z366_2, ↓z366_3, ↓z366_4, ↓z366_4p, ↓z366_5, ↓z366_6, ↓z366_6p0, ↓z366_6p1, ↓z366_7, ↓z366_8, ↓z366_8p, ↓z366_9, ↓z366_9p, ↓z366_10, ↓z366_10p0, ↓z366_10p1, ↓z366_11, ↓z366_12, ↓z366_12p, ↓sg0, ↓sg1, ↓sg2, ↓sg3, ↓sg4, ↓sg5, ↓sg6, ↓sg7, ↓sg8, ↓sg9, ↓sg10, ↓sg11, ↓sg12, ↓sg13, ↓sg14, ↓sg15, ↓sg16, ↓sg17, ↓ss0, ↓ss1, ↓ss2, ↓ss3, ↓ss4, ↓ss5, ↓ss6, ↓ss7, ↓ss8, ↓ss9, ↓ss10, ↓ss11, ↓ss12, ↓ss13, ↓ss14, ↓ss15, ↓ss16, ↓ss17, nl3, dgI]
theorem ixL {p : Nat} : 830 + 2 * nI p = nI (830 + 2 * p) := by
  rw [show (830 : Int32) = nI 830 from rfl, show (2 : Int32) = nI 2 from rfl, nI_mul, nI_add]
theorem r_canBelong (h : sR f N V K B R) (hw : WF N V K B) {p : Nat} (hp : p < N 3) (hi : i < K.length) (hk : k < 4) (ek : V 46 p = nI k) : X 155 0 [.ref 366, .int (nI p), .int (nI i), .long 0] [] (H (upA T 367 f) P) = some (some (.int (msK k (V 47 p) (gK K i))), H (upA T 367 f) P) := by
  have h8 := hw.1.2.2.2.1
  have h20 := hw.1.2.2.2.2.1
  have hb := h.2.2.2.1 i hi
  obtain ⟨q1, q2⟩ := h.2.2.2.2.1 p hp
  rw [ek] at q1
  have e13 := r_of (T := T) (P := P) (f := f) (i := i) (w := 13 + k) (y := 13 + nI k) (nI_add 13 k) (by omega) (by omega)
  rw [(hb.2 k hk).2.2] at e13
  have ed := r_degree (T := T) (P := P) hb (show i < 8 by omega) hk
  have k1 : nI (830 + 2 * p) + 1 = nI (830 + 2 * p + 1) := nI_add _ 1
  unfold msK
  by_cases c1 : 0 < gK K i 3 k
  · by_cases c2 : dgI (gK K i 0 3) k = V 47 p
    · rw [c2] at ed
      simp +decide only [x155_0, x155_1, x155_4, x155_7, x155_8, x155_9, x155_10, x155_11, x155_12, x155_13, x155_14, x155_15, x155_17, x155_18, x155_19, x155_22, x155_25, x155_26, x155_27, x155_28, x155_31, x155_32, x155_35, x155_38, x155_39, x155_40, x155_41, x155_42, x155_43, x155_44, x155_45, x155_48, x155_49, x155_52, x155_53, aft_some, aft_void, Option.bind_some, Option.toList_some, Option.toList_none, List.cons_append, List.nil_append, if_true, if_false, ↓reduceIte, eq_self, z366_o, ↓z366_0, ↓z366_0p, ↓z366_1, ↓z366_2, ↓z366_3, ↓z366_4, ↓z366_4p, ↓z366_5, ↓z366_6, ↓z366_6p0, ↓z366_6p1, ↓z366_7, ↓z366_8, ↓z366_8p, ↓z366_9, ↓z366_9p, ↓z366_10, ↓z366_10p0, ↓z366_10p1, ↓z366_11, ↓z366_12, ↓z366_12p, ↓sg0, ↓sg1, ↓sg2, ↓sg3, ↓sg4, ↓sg5, ↓sg6, ↓sg7, ↓sg8, ↓sg9, ↓sg10, ↓sg11, ↓sg12, ↓sg13, ↓sg14, ↓sg15, ↓sg16, ↓sg17, ↓ss0, ↓ss1, ↓ss2, ↓ss3, ↓ss4, ↓ss5, ↓ss6, ↓ss7, ↓ss8, ↓ss9, ↓ss10, ↓ss11, ↓ss12, ↓ss13, ↓ss14, ↓ss15, ↓ss16, ↓ss17, ixL, k1, ↓s_g (show 830 + 2 * p < 912 by omega), ↓s_g (show 830 + 2 * p + 1 < 912 by omega), q1, q2, ↓aft_of (e13), ↓aft_of (ed), c1, c2, and_self]
    · simp +decide only [x155_0, x155_1, x155_4, x155_7, x155_8, x155_9, x155_10, x155_11, x155_12, x155_13, x155_14, x155_15, x155_17, x155_18, x155_19, x155_22, x155_25, x155_26, x155_27, x155_28, x155_31, x155_32, x155_35, x155_38, x155_39, x155_40, x155_41, x155_42, x155_43, x155_44, x155_45, x155_48, x155_49, x155_52, x155_53, aft_some, aft_void, Option.bind_some, Option.toList_some, Option.toList_none, List.cons_append, List.nil_append, if_true, if_false, ↓reduceIte, eq_self, z366_o, ↓z366_0, ↓z366_0p, ↓z366_1, ↓z366_2, ↓z366_3, ↓z366_4, ↓z366_4p, ↓z366_5, ↓z366_6, ↓z366_6p0, ↓z366_6p1, ↓z366_7, ↓z366_8, ↓z366_8p, ↓z366_9, ↓z366_9p, ↓z366_10, ↓z366_10p0, ↓z366_10p1, ↓z366_11, ↓z366_12, ↓z366_12p, ↓sg0, ↓sg1, ↓sg2, ↓sg3, ↓sg4, ↓sg5, ↓sg6, ↓sg7, ↓sg8, ↓sg9, ↓sg10, ↓sg11, ↓sg12, ↓sg13, ↓sg14, ↓sg15, ↓sg16, ↓sg17, ↓ss0, ↓ss1, ↓ss2, ↓ss3, ↓ss4, ↓ss5, ↓ss6, ↓ss7, ↓ss8, ↓ss9, ↓ss10, ↓ss11, ↓ss12, ↓ss13, ↓ss14, ↓ss15, ↓ss16, ↓ss17, ixL, k1, ↓s_g (show 830 + 2 * p < 912 by omega), ↓s_g (show 830 + 2 * p + 1 < 912 by omega), q1, q2, ↓aft_of (e13), ↓aft_of (ed), c1, c2, and_false]
  · simp +decide only [x155_0, x155_1, x155_4, x155_7, x155_8, x155_9, x155_10, x155_11, x155_12, x155_13, x155_14, x155_15, x155_17, x155_18, x155_19, x155_22, x155_25, x155_26, x155_27, x155_28, x155_31, x155_32, x155_35, x155_38, x155_39, x155_40, x155_41, x155_42, x155_43, x155_44, x155_45, x155_48, x155_49, x155_52, x155_53, aft_some, aft_void, Option.bind_some, Option.toList_some, Option.toList_none, List.cons_append, List.nil_append, if_true, if_false, ↓reduceIte, eq_self, z366_o, ↓z366_0, ↓z366_0p, ↓z366_1, ↓z366_2, ↓z366_3, ↓z366_4, ↓z366_4p, ↓z366_5, ↓z366_6, ↓z366_6p0, ↓z366_6p1, ↓z366_7, ↓z366_8, ↓z366_8p, ↓z366_9, ↓z366_9p, ↓z366_10, ↓z366_10p0, ↓z366_10p1, ↓z366_11, ↓z366_12, ↓z366_12p, ↓sg0, ↓sg1, ↓sg2, ↓sg3, ↓sg4, ↓sg5, ↓sg6, ↓sg7, ↓sg8, ↓sg9, ↓sg10, ↓sg11, ↓sg12, ↓sg13, ↓sg14, ↓sg15, ↓sg16, ↓sg17, ↓ss0, ↓ss1, ↓ss2, ↓ss3, ↓ss4, ↓ss5, ↓ss6, ↓ss7, ↓ss8, ↓ss9, ↓ss10, ↓ss11, ↓ss12, ↓ss13, ↓ss14, ↓ss15, ↓ss16, ↓ss17, ixL, k1, ↓s_g (show 830 + 2 * p < 912 by omega), ↓s_g (show 830 + 2 * p + 1 < 912 by omega), q1, q2, ↓aft_of (e13), ↓aft_of (ed), c1, false_and]
theorem r_isLost : X 156 0 [.ref 366, .int x] [] (H (upA T 367 f) P) = some (some (.int (inI x 0 (f 10 - 1))), H (upA T 367 f) P) := by
  have h01 : (inI x 0 (f 10 - 1) = 0 ∨ inI x 0 (f 10 - 1) = 1) = True := by
    apply eq_true
    unfold inI
    repeat' split
    all_goals simp
  simp +decide only [x156_0, x156_1, x156_2, x156_3, x156_6, x156_8, x156_9, x156_10, x156_11, x156_14, aft_some, aft_void, Option.bind_some, Option.toList_some, Option.toList_none, List.cons_append, List.nil_append, if_true, if_false, ↓reduceIte, eq_self, z366_o, ↓z366_0, ↓z366_0p, ↓z366_1, ↓z366_2, ↓z366_3, ↓z366_4, ↓z366_4p, ↓z366_5, ↓z366_6, ↓z366_6p0, ↓z366_6p1, ↓z366_7, ↓z366_8, ↓z366_8p, ↓z366_9, ↓z366_9p, ↓z366_10, ↓z366_10p0, ↓z366_10p1, ↓z366_11, ↓z366_12, ↓z366_12p, ↓sg0, ↓sg1, ↓sg2, ↓sg3, ↓sg4, ↓sg5, ↓sg6, ↓sg7, ↓sg8, ↓sg9, ↓sg10, ↓sg11, ↓sg12, ↓sg13, ↓sg14, ↓sg15, ↓sg16, ↓sg17, ↓ss0, ↓ss1, ↓ss2, ↓ss3, ↓ss4, ↓ss5, ↓ss6, ↓ss7, ↓ss8, ↓ss9, ↓ss10, ↓ss11, ↓ss12, ↓ss13, ↓ss14, ↓ss15, ↓ss16, ↓ss17, ↓aft_of (r_in), h01]
/-- a basket misses one more, or one less; the lost and the book are told anew -/
theorem sR.miss (h : sR f N V K B R) (h8 : K.length ≤ 8) (hi : i < K.length) (hk : k < 4) {v : Int32}
    (hg : ∀ a, a ≠ 10 → a ≠ 17 → a ≠ 694 + 17 * i + (13 + k) → a < 830 → g a = f a) (g10 : g 10 = nI (M 3)) (g17 : g 17 = nI (M 4)) (gv : g (694 + 17 * i + (13 + k)) = v) (gL : sL g (M 3) W) (gJ : sJ g (M 4) R')
    (hM : ∀ r, r ≠ 3 → r ≠ 4 → M r = N r) (hW : ∀ r, r ≠ 46 → r ≠ 47 → W r = V r) : sR g M W (K.set i (up1 (gK K i) 3 k v)) B R' := by
  obtain ⟨⟨a1, ⟨a2, a3, a4, a5⟩, ⟨a6, a7, a8⟩, a9, ⟨a10, a11, a12⟩, a13, a14⟩, hC, hO, hK, hL, hJ⟩ := h
  refine ⟨⟨fun j hj => ?_, ⟨?_, ?_, ?_, ?_⟩, ⟨?_, ?_, g10⟩, fun j hj => ?_, ⟨?_, ?_, g17⟩, fun d hd => ?_, ?_⟩, ?_, ?_, ?_, gL, gJ⟩
  · rw [hg j (by omega) (by omega) (by omega) (by omega), hW 1 (by decide) (by decide)]; exact a1 j hj
  · rw [hg 4 (by omega) (by omega) (by omega) (by omega), hM 0 (by decide) (by decide)]; exact a2
  · rw [hg 5 (by omega) (by omega) (by omega) (by omega), hM 1 (by decide) (by decide)]; exact a3
  · rw [hg 6 (by omega) (by omega) (by omega) (by omega), hM 2 (by decide) (by decide)]; exact a4
  · rw [hg 7 (by omega) (by omega) (by omega) (by omega), hW 0 (by decide) (by decide)]; exact a5
  · rw [hg 8 (by omega) (by omega) (by omega) (by omega), hM 1 (by decide) (by decide), hW 6 (by decide) (by decide)]; exact a6
  · rw [hg 9 (by omega) (by omega) (by omega) (by omega), hW 0 (by decide) (by decide)]; exact a7
  · rw [hg _ (by omega) (by omega) (by omega) (by omega), hW 48 (by decide) (by decide)]; exact a9 j hj
  · rw [hg 15 (by omega) (by omega) (by omega) (by omega), hW 0 (by decide) (by decide)]; exact a10
  · rw [hg 16 (by omega) (by omega) (by omega) (by omega), List.length_set]; exact a11
  · rw [hg _ (by omega) (by omega) (by omega) (by omega), hW 2 (by decide) (by decide)]; exact a13 d hd
  · rw [hW 0 (by decide) (by decide), hM 0 (by decide) (by decide)]; exact a14
  · intro c hc
    rw [hM 1 (by decide) (by decide), hW 4 (by decide) (by decide), hW 5 (by decide) (by decide), hW 6 (by decide) (by decide)]
    exact hC.same (fun a h1 h2 => hg a (by omega) (by omega) (by omega) (by omega)) c hc
  · exact hO.same (fun a h1 h2 => hg a (by omega) (by omega) (by omega) (by omega))
  · intro j hj
    rw [List.length_set] at hj
    by_cases e : j = i
    · subst e
      rw [gK_set_s hi]
      obtain ⟨⟨b1, b2, b3, b4, b5⟩, b6⟩ := hK j hj
      have n3 : ∀ r, r ≠ 3 → up1 (gK K j) 3 k v r = gK K j r := fun r hr => up1_n hr
      have hg' : ∀ q, q < 17 → q ≠ 13 + k → g (694 + 17 * j + q) = f (694 + 17 * j + q) := fun q hq hn => hg _ (by omega) (by omega) (by omega) (by omega)
      refine ⟨⟨?_, ?_, ?_, ?_, ?_⟩, fun q hq => ⟨?_, ?_, ?_⟩⟩
      · rw [hg' 0 (by decide) (by omega), n3 0 (by decide)]; exact b1
      · rw [hg' 1 (by decide) (by omega), n3 0 (by decide)]; exact b2
      · rw [hg' 2 (by decide) (by omega), n3 0 (by decide)]; exact b3
      · rw [hg' 3 (by decide) (by omega), n3 0 (by decide)]; exact b4
      · rw [hg' 4 (by decide) (by omega), n3 0 (by decide)]; exact b5
      · rw [hg' _ (by omega) (by omega), n3 1 (by decide)]; exact (b6 q hq).1
      · rw [hg' _ (by omega) (by omega), n3 2 (by decide)]; exact (b6 q hq).2.1
      · rw [up1_s]
        by_cases e : q = k
        · subst e; rw [upA_s]; exact gv
        · rw [hg' _ (by omega) (by omega), upA_n _ _ e]; exact (b6 q hq).2.2
    · rw [gK_set_n e]
      exact (hK j hj).same (fun a h1 h2 => hg a (by omega) (by omega) (by omega) (by omega))
/-- what the reference's lose answers -/
noncomputable def rLose (x k : Int32) (s : gT) : Int32 := match wnK x s.1.2 with
  | none => -1
  | some i => if inI k 0 3 = 0 then -1 else if opK (gK s.1.2 i) k.toNatClampNeg = 0 then -5 else if s.1.1.1 3 < 20 then nI (s.1.1.1 3 + 1) else -3
theorem q_lose (h : CF T f s) (hw : WG s) (x k : Int32) : RQ T P f 154 [.ref 366, .int x, .int k, .long 0] (rLose x k s, (gLose x k s).2) := by
  have t0 := thr (f := f) h.1.1
  have hs := h.2
  have e1 := r_placeOf (T := T) (P := P) (x := x) hs hw.1.1
  have h8 : s.1.2.length ≤ 8 := hw.1.1.1.2.2.2.1
  have h20 : s.1.1.1 3 ≤ 20 := hw.1.1.1.2.2.2.2.1
  have h10 : s.1.1.1 4 ≤ 10 := hw.1.1.1.2.2.2.2.2
  unfold plI at e1
  unfold rLose gLose
  cases hq : wnK x s.1.2 with
  | none =>
    rw [hq] at e1
    simp only at e1 ⊢
    exact ⟨T, f, by simp +decide only [x154_0, x154_1, x154_2, x154_5, x154_6, x154_7, x154_10, x154_11, x154_12, x154_14, x154_17, x154_18, x154_19, x154_20, x154_23, x154_26, x154_27, x154_28, x154_29, x154_30, x154_31, x154_34, x154_37, x154_39, x154_40, x154_41, x154_44, x154_46, x154_47, x154_49, x154_52, x154_54, x154_55, x154_56, x154_59, x154_60, x154_61, x154_63, x154_64, x154_65, x154_66, x154_67, x154_69, x154_70, x154_71, x154_74, x154_75, x154_76, x154_79, x154_80, x154_83, x154_86, x154_87, x154_88, x154_91, x154_93, x154_94, x154_95, x154_96, x154_97, x154_98, x154_99, x154_102, x154_105, x154_106, x154_107, x154_110, x154_112, x154_113, x154_114, x154_115, x154_116, x154_117, x154_118, x154_119, x154_120, x154_123, x154_124, x154_125, x154_128, x154_130, x154_131, x154_132, x154_133, x154_134, x154_135, x154_136, x154_137, x154_138, x154_139, x154_142, x154_143, x154_146, x154_148, x154_149, aft_some, aft_void, Option.bind_some, Option.toList_some, Option.toList_none, List.cons_append, List.nil_append, if_true, if_false, ↓reduceIte, eq_self, z366_o, ↓z366_0, ↓z366_0p, ↓z366_1, ↓z366_2, ↓z366_3, ↓z366_4, ↓z366_4p, ↓z366_5, ↓z366_6, ↓z366_6p0, ↓z366_6p1, ↓z366_7, ↓z366_8, ↓z366_8p, ↓z366_9, ↓z366_9p, ↓z366_10, ↓z366_10p0, ↓z366_10p1, ↓z366_11, ↓z366_12, ↓z366_12p, ↓sg0, ↓sg1, ↓sg2, ↓sg3, ↓sg4, ↓sg5, ↓sg6, ↓sg7, ↓sg8, ↓sg9, ↓sg10, ↓sg11, ↓sg12, ↓sg13, ↓sg14, ↓sg15, ↓sg16, ↓sg17, ↓ss0, ↓ss1, ↓ss2, ↓ss3, ↓ss4, ↓ss5, ↓ss6, ↓ss7, ↓ss8, ↓ss9, ↓ss10, ↓ss11, ↓ss12, ↓ss13, ↓ss14, ↓ss15, ↓ss16, ↓ss17, t0, ↓aft_of (e1)], fun _ _ => rfl, h⟩
  | some i =>
    rw [hq] at e1
    simp only at e1 ⊢
    obtain ⟨-, hi, -⟩ := fst_some hq
    rw [Nat.zero_add] at hi
    have ni5 : (nI i = -5) = False := nI_ne5 (by omega)
    by_cases c1 : inI k 0 3 = 0
    · rw [if_pos c1, if_pos c1]
      exact ⟨T, f, by simp +decide only [x154_0, x154_1, x154_2, x154_5, x154_6, x154_7, x154_10, x154_11, x154_12, x154_14, x154_17, x154_18, x154_19, x154_20, x154_23, x154_26, x154_27, x154_28, x154_29, x154_30, x154_31, x154_34, x154_37, x154_39, x154_40, x154_41, x154_44, x154_46, x154_47, x154_49, x154_52, x154_54, x154_55, x154_56, x154_59, x154_60, x154_61, x154_63, x154_64, x154_65, x154_66, x154_67, x154_69, x154_70, x154_71, x154_74, x154_75, x154_76, x154_79, x154_80, x154_83, x154_86, x154_87, x154_88, x154_91, x154_93, x154_94, x154_95, x154_96, x154_97, x154_98, x154_99, x154_102, x154_105, x154_106, x154_107, x154_110, x154_112, x154_113, x154_114, x154_115, x154_116, x154_117, x154_118, x154_119, x154_120, x154_123, x154_124, x154_125, x154_128, x154_130, x154_131, x154_132, x154_133, x154_134, x154_135, x154_136, x154_137, x154_138, x154_139, x154_142, x154_143, x154_146, x154_148, x154_149, aft_some, aft_void, Option.bind_some, Option.toList_some, Option.toList_none, List.cons_append, List.nil_append, if_true, if_false, ↓reduceIte, eq_self, z366_o, ↓z366_0, ↓z366_0p, ↓z366_1, ↓z366_2, ↓z366_3, ↓z366_4, ↓z366_4p, ↓z366_5, ↓z366_6, ↓z366_6p0, ↓z366_6p1, ↓z366_7, ↓z366_8, ↓z366_8p, ↓z366_9, ↓z366_9p, ↓z366_10, ↓z366_10p0, ↓z366_10p1, ↓z366_11, ↓z366_12, ↓z366_12p, ↓sg0, ↓sg1, ↓sg2, ↓sg3, ↓sg4, ↓sg5, ↓sg6, ↓sg7, ↓sg8, ↓sg9, ↓sg10, ↓sg11, ↓sg12, ↓sg13, ↓sg14, ↓sg15, ↓sg16, ↓sg17, ↓ss0, ↓ss1, ↓ss2, ↓ss3, ↓ss4, ↓ss5, ↓ss6, ↓ss7, ↓ss8, ↓ss9, ↓ss10, ↓ss11, ↓ss12, ↓ss13, ↓ss14, ↓ss15, ↓ss16, ↓ss17, t0, ↓aft_of (e1), ni5, ↓aft_of (r_in), c1], fun _ _ => rfl, h⟩
    rw [if_neg c1, if_neg c1]
    obtain ⟨kk, hkk, rfl⟩ := inI_ex (n := 3) (by decide) c1
    have hk4 : kk < 4 := by omega
    rw [nI_clamp (by omega)]
    have hb := hs.2.2.2.1 i hi
    have el := r_left (T := T) (P := P) hb (show i < 8 by omega) hk4
    obtain ⟨q, hq9, eq⟩ := op_nI ((hw.1.1.2.2.2.1 i _ (gK_at hi)).2.2.2.2 kk hk4)
    have f10 : f 10 = nI (s.1.1.1 3) := hs.1.2.2.1.2.2
    have e20 : (nI (s.1.1.1 3) = 20) = (s.1.1.1 3 = 20) := by rw [show (20 : Int32) = nI 20 from rfl, nI_inj (by omega) (by decide)]
    by_cases c2 : opK (gK s.1.2 i) kk = 0
    · rw [if_pos c2]
      have c2' : ¬ 0 < opK (gK s.1.2 i) kk := by rw [c2]; decide
      rw [if_neg c2', show (if s.1.1.1 3 < 20 then ((-5 : Int32), s) else (-3, s)).2 = s by split <;> rfl]
      rw [c2] at el
      exact ⟨T, f, by simp +decide only [x154_0, x154_1, x154_2, x154_5, x154_6, x154_7, x154_10, x154_11, x154_12, x154_14, x154_17, x154_18, x154_19, x154_20, x154_23, x154_26, x154_27, x154_28, x154_29, x154_30, x154_31, x154_34, x154_37, x154_39, x154_40, x154_41, x154_44, x154_46, x154_47, x154_49, x154_52, x154_54, x154_55, x154_56, x154_59, x154_60, x154_61, x154_63, x154_64, x154_65, x154_66, x154_67, x154_69, x154_70, x154_71, x154_74, x154_75, x154_76, x154_79, x154_80, x154_83, x154_86, x154_87, x154_88, x154_91, x154_93, x154_94, x154_95, x154_96, x154_97, x154_98, x154_99, x154_102, x154_105, x154_106, x154_107, x154_110, x154_112, x154_113, x154_114, x154_115, x154_116, x154_117, x154_118, x154_119, x154_120, x154_123, x154_124, x154_125, x154_128, x154_130, x154_131, x154_132, x154_133, x154_134, x154_135, x154_136, x154_137, x154_138, x154_139, x154_142, x154_143, x154_146, x154_148, x154_149, aft_some, aft_void, Option.bind_some, Option.toList_some, Option.toList_none, List.cons_append, List.nil_append, if_true, if_false, ↓reduceIte, eq_self, z366_o, ↓z366_0, ↓z366_0p, ↓z366_1, ↓z366_2, ↓z366_3, ↓z366_4, ↓z366_4p, ↓z366_5, ↓z366_6, ↓z366_6p0, ↓z366_6p1, ↓z366_7, ↓z366_8, ↓z366_8p, ↓z366_9, ↓z366_9p, ↓z366_10, ↓z366_10p0, ↓z366_10p1, ↓z366_11, ↓z366_12, ↓z366_12p, ↓sg0, ↓sg1, ↓sg2, ↓sg3, ↓sg4, ↓sg5, ↓sg6, ↓sg7, ↓sg8, ↓sg9, ↓sg10, ↓sg11, ↓sg12, ↓sg13, ↓sg14, ↓sg15, ↓sg16, ↓sg17, ↓ss0, ↓ss1, ↓ss2, ↓ss3, ↓ss4, ↓ss5, ↓ss6, ↓ss7, ↓ss8, ↓ss9, ↓ss10, ↓ss11, ↓ss12, ↓ss13, ↓ss14, ↓ss15, ↓ss16, ↓ss17, t0, ↓aft_of (e1), ni5, ↓aft_of (r_in), c1, ↓aft_of (el)], fun _ _ => rfl, h⟩
    rw [if_neg c2]
    have c2' : 0 < opK (gK s.1.2 i) kk := by
      rw [eq, nI_posn (by omega)]
      rw [eq, show (0 : Int32) = nI 0 from rfl, nI_inj (by omega) (by decide)] at c2
      omega
    rw [if_pos c2']
    by_cases c3 : s.1.1.1 3 < 20
    · rw [if_pos c3, if_pos c3]
      have c20 : (s.1.1.1 3 = 20) = False := eq_false (by omega)
      obtain ⟨U, e, fr, -, hU⟩ := h.push (P := P) hw
      obtain ⟨n, hn⟩ : ∃ n, n = s.1.1.1 3 := ⟨_, rfl⟩
      rw [← hn] at f10 e20 c20 h20 c3
      have o13 := r_of (T := U) (P := P) (f := f) (i := i) (w := 13 + kk) (y := 13 + nI kk) (nI_add 13 kk) (by omega) (by omega)
      rw [(hb.2 kk hk4).2.2] at o13
      have l13 := r_lay (T := U) (P := P) (f := f) (i := i) (w := 13 + kk) (y := 13 + nI kk) (z := gK s.1.2 i 3 kk + 1) (nI_add 13 kk) (by omega) (by omega)
      obtain ⟨G1, hG1⟩ : ∃ G1, G1 = upA f (694 + 17 * i + (13 + kk)) (gK s.1.2 i 3 kk + 1) := ⟨_, rfl⟩
      rw [← hG1] at l13
      have g110 : G1 10 = nI n := by rw [hG1, upA_n _ _ (by omega)]; exact f10
      obtain ⟨G2, hG2⟩ : ∃ G2, G2 = upA G1 (830 + 2 * n) (nI kk) := ⟨_, rfl⟩
      have n2 : ∀ a, a ≠ 694 + 17 * i + (13 + kk) → a ≠ 830 + 2 * n → G2 a = f a := fun a q1 q2 => by rw [hG2, upA_n _ _ q2, hG1, upA_n _ _ q1]
      have g210 : G2 10 = nI n := by rw [n2 10 (by omega) (by omega)]; exact f10
      have o2 := r_of (T := U) (P := P) (f := G2) (i := i) (w := 2) (y := 2) rfl (show i < 8 by omega) (by decide)
      rw [n2 _ (by omega) (by omega), hb.1.2.2.1] at o2
      have ed : X 153 0 [.ref 366, .int (nI i), .int (nI kk)] [] (H (upA U 367 G2) P) = some (some (.int (dgI (gK s.1.2 i 0 3) kk)), H (upA U 367 G2) P) := by
        match kk, hk4 with
        | 0, _ => simp +decide only [x153_0, x153_1, x153_2, x153_5, x153_6, x153_7, x153_8, x153_11, x153_14, x153_15, aft_some, aft_void, Option.bind_some, Option.toList_some, Option.toList_none, List.cons_append, List.nil_append, if_true, if_false, ↓reduceIte, eq_self, z366_o, ↓z366_0, ↓z366_0p, ↓z366_1, ↓z366_2, ↓z366_3, ↓z366_4, ↓z366_4p, ↓z366_5, ↓z366_6, ↓z366_6p0, ↓z366_6p1, ↓z366_7, ↓z366_8, ↓z366_8p, ↓z366_9, ↓z366_9p, ↓z366_10, ↓z366_10p0, ↓z366_10p1, ↓z366_11, ↓z366_12, ↓z366_12p, ↓sg0, ↓sg1, ↓sg2, ↓sg3, ↓sg4, ↓sg5, ↓sg6, ↓sg7, ↓sg8, ↓sg9, ↓sg10, ↓sg11, ↓sg12, ↓sg13, ↓sg14, ↓sg15, ↓sg16, ↓sg17, ↓ss0, ↓ss1, ↓ss2, ↓ss3, ↓ss4, ↓ss5, ↓ss6, ↓ss7, ↓ss8, ↓ss9, ↓ss10, ↓ss11, ↓ss12, ↓ss13, ↓ss14, ↓ss15, ↓ss16, ↓ss17, nl0, ↓aft_of (o2), dgI]
        | 1, _ => simp +decide only [x153_0, x153_1, x153_2, x153_5, x153_6, x153_7, x153_8, x153_11, x153_14, x153_15, aft_some, aft_void, Option.bind_some, Option.toList_some, Option.toList_none, List.cons_append, List.nil_append, if_true, if_false, ↓reduceIte, eq_self, z366_o, ↓z366_0, ↓z366_0p, ↓z366_1, ↓z366_2, ↓z366_3, ↓z366_4, ↓z366_4p, ↓z366_5, ↓z366_6, ↓z366_6p0, ↓z366_6p1, ↓z366_7, ↓z366_8, ↓z366_8p, ↓z366_9, ↓z366_9p, ↓z366_10, ↓z366_10p0, ↓z366_10p1, ↓z366_11, ↓z366_12, ↓z366_12p, ↓sg0, ↓sg1, ↓sg2, ↓sg3, ↓sg4, ↓sg5, ↓sg6, ↓sg7, ↓sg8, ↓sg9, ↓sg10, ↓sg11, ↓sg12, ↓sg13, ↓sg14, ↓sg15, ↓sg16, ↓sg17, ↓ss0, ↓ss1, ↓ss2, ↓ss3, ↓ss4, ↓ss5, ↓ss6, ↓ss7, ↓ss8, ↓ss9, ↓ss10, ↓ss11, ↓ss12, ↓ss13, ↓ss14, ↓ss15, ↓ss16, ↓ss17, nl1, ↓aft_of (o2), dgI]
        | 2, _ => simp +decide only [x153_0, x153_1, x153_2, x153_5, x153_6, x153_7, x153_8, x153_11, x153_14, x153_15, aft_some, aft_void, Option.bind_some, Option.toList_some, Option.toList_none, List.cons_append, List.nil_append, if_true, if_false, ↓reduceIte, eq_self, z366_o, ↓z366_0, ↓z366_0p, ↓z366_1, ↓z366_2, ↓z366_3, ↓z366_4, ↓z366_4p, ↓z366_5, ↓z366_6, ↓z366_6p0, ↓z366_6p1, ↓z366_7, ↓z366_8, ↓z366_8p, ↓z366_9, ↓z366_9p, ↓z366_10, ↓z366_10p0, ↓z366_10p1, ↓z366_11, ↓z366_12, ↓z366_12p, ↓sg0, ↓sg1, ↓sg2, ↓sg3, ↓sg4, ↓sg5, ↓sg6, ↓sg7, ↓sg8, ↓sg9, ↓sg10, ↓sg11, ↓sg12, ↓sg13, ↓sg14, ↓sg15, ↓sg16, ↓sg17, ↓ss0, ↓ss1, ↓ss2, ↓ss3, ↓ss4, ↓ss5, ↓ss6, ↓ss7, ↓ss8, ↓ss9, ↓ss10, ↓ss11, ↓ss12, ↓ss13, ↓ss14, ↓ss15, ↓ss16, ↓ss17, nl2, dgI]
        | 3, _ => simp +decide only [x153_0, x153_1, x153_2, x153_5, x153_6, x153_7, x153_8, x153_11, x153_14, x153_15, aft_some, aft_void, Option.bind_some, Option.toList_some, Option.toList_none, List.cons_append, List.nil_append, if_true, if_false, ↓reduceIte, eq_self, z366_o, ↓z366_0, ↓z366_0p, ↓z366_1, ↓z366_2, ↓z366_3, ↓z366_4, ↓z366_4p, ↓z366_5, ↓z366_6, ↓z366_6p0, ↓z366_6p1, ↓z366_7, ↓z366_8, ↓z366_8p, ↓z366_9, ↓z366_9p, ↓z366_10, ↓z366_10p0, ↓z366_10p1, ↓z366_11, ↓z366_12, ↓z366_12p, ↓sg0, ↓sg1, ↓sg2, ↓sg3, ↓sg4, ↓sg5, ↓sg6, ↓sg7, ↓sg8, ↓sg9, ↓sg10, ↓sg11, ↓sg12, ↓sg13, ↓sg14, ↓sg15, ↓sg16, ↓sg17, ↓ss0, ↓ss1, ↓ss2, ↓ss3, ↓ss4, ↓ss5, ↓ss6, ↓ss7, ↓ss8, ↓ss9, ↓ss10, ↓ss11, ↓ss12, ↓ss13, ↓ss14, ↓ss15, ↓ss16, ↓ss17, nl3, dgI]
      obtain ⟨G3, hG3⟩ : ∃ G3, G3 = upA G2 (830 + 2 * n + 1) (dgI (gK s.1.2 i 0 3) kk) := ⟨_, rfl⟩
      have g310 : G3 10 = nI n := by rw [hG3, upA_n _ _ (by omega)]; exact g210
      have k1 : nI n + 1 = nI (n + 1) := nI_add _ 1
      have k2 : nI (830 + 2 * n) + 1 = nI (830 + 2 * n + 1) := nI_add _ 1
      obtain ⟨G4, hG4⟩ : ∃ G4, G4 = upA G3 10 (nI (n + 1)) := ⟨_, rfl⟩
      have n4 : ∀ a, a ≠ 10 → a ≠ 694 + 17 * i + (13 + kk) → a ≠ 830 + 2 * n → a ≠ 830 + 2 * n + 1 → G4 a = f a := fun a q1 q2 q3 q4 => by rw [hG4, upA_n _ _ q1, hG3, upA_n _ _ q4]; exact n2 a q2 q3
      obtain ⟨G5, e6, n5, s17, sJ5⟩ := r_books (T := U) (P := P) (f := G4) (n := s.1.1.1 4) (R := s.1.1.2.2.2) (e := 3) (x := x) (y := nI kk) (by rw [n4 17 (by omega) (by omega) (by omega) (by omega)]; exact hs.1.2.2.2.2.1.2.2) h10 (hs.2.2.2.2.2.same h10 (fun a h1 h2 => n4 a (by omega) (by omega) (by omega) (by omega)))
      have g44 : G4 4 = s.1.1.2.1 0 0 := by rw [n4 4 (by omega) (by omega) (by omega) (by omega), hs.1.d, hs.1.2.2.2.2.2.2]
      rw [g44] at sJ5
      have g510 : G5 10 = nI (n + 1) := by rw [n5 10 (by decide) (by decide), hG4, upA_s]
      rw [← hn]
      refine ⟨U, G5, ?_, fun a ha => fr a (by omega) (by omega), hU.now ?_⟩
      · simp +decide only [x154_0, x154_1, x154_2, x154_5, x154_6, x154_7, x154_10, x154_11, x154_12, x154_14, x154_17, x154_18, x154_19, x154_20, x154_23, x154_26, x154_27, x154_28, x154_29, x154_30, x154_31, x154_34, x154_37, x154_39, x154_40, x154_41, x154_44, x154_46, x154_47, x154_49, x154_52, x154_54, x154_55, x154_56, x154_59, x154_60, x154_61, x154_63, x154_64, x154_65, x154_66, x154_67, x154_69, x154_70, x154_71, x154_74, x154_75, x154_76, x154_79, x154_80, x154_83, x154_86, x154_87, x154_88, x154_91, x154_93, x154_94, x154_95, x154_96, x154_97, x154_98, x154_99, x154_102, x154_105, x154_106, x154_107, x154_110, x154_112, x154_113, x154_114, x154_115, x154_116, x154_117, x154_118, x154_119, x154_120, x154_123, x154_124, x154_125, x154_128, x154_130, x154_131, x154_132, x154_133, x154_134, x154_135, x154_136, x154_137, x154_138, x154_139, x154_142, x154_143, x154_146, x154_148, x154_149, aft_some, aft_void, Option.bind_some, Option.toList_some, Option.toList_none, List.cons_append, List.nil_append, if_true, if_false, ↓reduceIte, eq_self, z366_o, ↓z366_0, ↓z366_0p, ↓z366_1, ↓z366_2, ↓z366_3, ↓z366_4, ↓z366_4p, ↓z366_5, ↓z366_6, ↓z366_6p0, ↓z366_6p1, ↓z366_7, ↓z366_8, ↓z366_8p, ↓z366_9, ↓z366_9p, ↓z366_10, ↓z366_10p0, ↓z366_10p1, ↓z366_11, ↓z366_12, ↓z366_12p, ↓sg0, ↓sg1, ↓sg2, ↓sg3, ↓sg4, ↓sg5, ↓sg6, ↓sg7, ↓sg8, ↓sg9, ↓sg10, ↓sg11, ↓sg12, ↓sg13, ↓sg14, ↓sg15, ↓sg16, ↓sg17, ↓ss0, ↓ss1, ↓ss2, ↓ss3, ↓ss4, ↓ss5, ↓ss6, ↓ss7, ↓ss8, ↓ss9, ↓ss10, ↓ss11, ↓ss12, ↓ss13, ↓ss14, ↓ss15, ↓ss16, ↓ss17, t0, ↓aft_of (e1), ni5, ↓aft_of (r_in), c1, ↓aft_of (el), c2, f10, e20, c20, ↓aft_of (e), ↓aft_of (o13), ↓aft_of (l13), g110, ixL, ↓s_s (show 830 + 2 * n < 912 by omega), ↓s_s (show 830 + 2 * n + 1 < 912 by omega), ← hG2, g210, k2, ↓aft_of (ed), ← hG3, g310, k1, ← hG4, ↓aft_of (e6), g510]
      · refine sR.miss (M := (loU s.1 i kk x).1.1) (W := (loU s.1 i kk x).1.2.1) hs h8 hi hk4 (fun a q1 q2 q3 q4 => ?_) ?_ ?_ ?_ ?_ ?_ (fun r h3 h4 => ?_) (fun r h6 h7 => ?_)
        · rw [n5 a q2 (by omega), n4 a q1 q3 (by omega) (by omega)]
        · show G5 10 = nI (upA (upA s.1.1.1 3 (s.1.1.1 3 + 1)) 4 (min (s.1.1.1 4 + 1) 10) 3)
          rw [upA_n _ _ (by decide), upA_s, g510, hn]
        · show G5 17 = nI (upA (upA s.1.1.1 3 (s.1.1.1 3 + 1)) 4 (min (s.1.1.1 4 + 1) 10) 4)
          rw [upA_s, s17]
        · rw [n5 _ (by omega) (by omega), hG4, upA_n _ _ (by omega), hG3, upA_n _ _ (by omega), hG2, upA_n _ _ (by omega), hG1, upA_s]
        · show sL G5 (upA (upA s.1.1.1 3 (s.1.1.1 3 + 1)) 4 (min (s.1.1.1 4 + 1) 10) 3) _
          rw [upA_n _ _ (by decide), upA_s, ← hn]
          intro j hj
          show G5 (830 + 2 * j) = upA (upA s.1.1.2.1 46 (fun j => if j < s.1.1.1 3 then s.1.1.2.1 46 j else nI kk)) 47 (fun j => if j < s.1.1.1 3 then s.1.1.2.1 47 j else dgI (gK s.1.2 i 0 3) kk) 46 j ∧ G5 (830 + 2 * j + 1) = upA (upA s.1.1.2.1 46 (fun j => if j < s.1.1.1 3 then s.1.1.2.1 46 j else nI kk)) 47 (fun j => if j < s.1.1.1 3 then s.1.1.2.1 47 j else dgI (gK s.1.2 i 0 3) kk) 47 j
          rw [upA_n _ _ (show 46 ≠ 47 by decide), upA_s, upA_s, ← hn]
          by_cases e : j < n
          · rw [if_pos e, if_pos e]
            obtain ⟨t1, t2⟩ := hs.2.2.2.2.1 j (by rw [← hn]; exact e)
            rw [n5 _ (by omega) (by omega), n4 _ (by omega) (by omega) (by omega) (by omega), n5 _ (by omega) (by omega), n4 _ (by omega) (by omega) (by omega) (by omega)]
            exact ⟨t1, t2⟩
          · have e : j = n := by omega
            subst e
            rw [if_neg (Nat.lt_irrefl _), if_neg (Nat.lt_irrefl _)]
            refine ⟨?_, ?_⟩
            · rw [n5 _ (by omega) (by omega), hG4, upA_n _ _ (by omega), hG3, upA_n _ _ (by omega), hG2, upA_s]
            · rw [n5 _ (by omega) (by omega), hG4, upA_n _ _ (by omega), hG3, upA_s]
        · show sJ G5 (upA (upA s.1.1.1 3 (s.1.1.1 3 + 1)) 4 (min (s.1.1.1 4 + 1) 10) 4) _
          rw [upA_s]; exact sJ5
        · show upA (upA s.1.1.1 3 (s.1.1.1 3 + 1)) 4 (min (s.1.1.1 4 + 1) 10) r = _
          rw [upA_n _ _ h4, upA_n _ _ h3]
        · show upA (upA s.1.1.2.1 46 (fun j => if j < s.1.1.1 3 then s.1.1.2.1 46 j else nI kk)) 47 (fun j => if j < s.1.1.1 3 then s.1.1.2.1 47 j else dgI (gK s.1.2 i 0 3) kk) r = _
          rw [upA_n _ _ h7, upA_n _ _ h6]
    · rw [if_neg c3, if_neg c3]
      have c20 : (s.1.1.1 3 = 20) = True := eq_true (by omega)
      exact ⟨T, f, by simp +decide only [x154_0, x154_1, x154_2, x154_5, x154_6, x154_7, x154_10, x154_11, x154_12, x154_14, x154_17, x154_18, x154_19, x154_20, x154_23, x154_26, x154_27, x154_28, x154_29, x154_30, x154_31, x154_34, x154_37, x154_39, x154_40, x154_41, x154_44, x154_46, x154_47, x154_49, x154_52, x154_54, x154_55, x154_56, x154_59, x154_60, x154_61, x154_63, x154_64, x154_65, x154_66, x154_67, x154_69, x154_70, x154_71, x154_74, x154_75, x154_76, x154_79, x154_80, x154_83, x154_86, x154_87, x154_88, x154_91, x154_93, x154_94, x154_95, x154_96, x154_97, x154_98, x154_99, x154_102, x154_105, x154_106, x154_107, x154_110, x154_112, x154_113, x154_114, x154_115, x154_116, x154_117, x154_118, x154_119, x154_120, x154_123, x154_124, x154_125, x154_128, x154_130, x154_131, x154_132, x154_133, x154_134, x154_135, x154_136, x154_137, x154_138, x154_139, x154_142, x154_143, x154_146, x154_148, x154_149, aft_some, aft_void, Option.bind_some, Option.toList_some, Option.toList_none, List.cons_append, List.nil_append, if_true, if_false, ↓reduceIte, eq_self, z366_o, ↓z366_0, ↓z366_0p, ↓z366_1, ↓z366_2, ↓z366_3, ↓z366_4, ↓z366_4p, ↓z366_5, ↓z366_6, ↓z366_6p0, ↓z366_6p1, ↓z366_7, ↓z366_8, ↓z366_8p, ↓z366_9, ↓z366_9p, ↓z366_10, ↓z366_10p0, ↓z366_10p1, ↓z366_11, ↓z366_12, ↓z366_12p, ↓sg0, ↓sg1, ↓sg2, ↓sg3, ↓sg4, ↓sg5, ↓sg6, ↓sg7, ↓sg8, ↓sg9, ↓sg10, ↓sg11, ↓sg12, ↓sg13, ↓sg14, ↓sg15, ↓sg16, ↓sg17, ↓ss0, ↓ss1, ↓ss2, ↓ss3, ↓ss4, ↓ss5, ↓ss6, ↓ss7, ↓ss8, ↓ss9, ↓ss10, ↓ss11, ↓ss12, ↓ss13, ↓ss14, ↓ss15, ↓ss16, ↓ss17, t0, ↓aft_of (e1), ni5, ↓aft_of (r_in), c1, ↓aft_of (el), c2, f10, e20, c20], fun _ _ => rfl, h⟩
theorem q_find (h : CF T f s) (hw : WG s) (p x : Int32) : RQ T P f 157 [.ref 366, .int p, .int x, .long 0, .long 0, .long 0] (gFind p x s) := by
  have t0 := thr (f := f) h.1.1
  have hs := h.2
  have e1 := r_placeOf (T := T) (P := P) (x := x) hs hw.1.1
  have h8 : s.1.2.length ≤ 8 := hw.1.1.1.2.2.2.1
  have h20 : s.1.1.1 3 ≤ 20 := hw.1.1.1.2.2.2.2.1
  have h10 : s.1.1.1 4 ≤ 10 := hw.1.1.1.2.2.2.2.2
  have f10 : f 10 = nI (s.1.1.1 3) := hs.1.2.2.1.2.2
  have ei := r_isLost (T := T) (P := P) (f := f) (x := p)
  rw [f10, in_lt (show s.1.1.1 3 < 2 ^ 31 by omega)] at ei
  unfold plI at e1
  unfold gFind
  cases hq : wnK x s.1.2 with
  | none =>
    rw [hq] at e1
    simp only at e1 ⊢
    refine ⟨T, f, ?_, fun _ _ => rfl, h⟩
    by_cases q1 : p < 0
    · rw [if_pos q1] at ei
      simp +decide only [x157_0, x157_1, x157_2, x157_5, x157_6, x157_7, x157_10, x157_11, x157_12, x157_13, x157_16, x157_19, x157_20, x157_22, x157_25, x157_26, x157_27, x157_28, x157_29, x157_30, x157_33, x157_36, x157_38, x157_39, x157_40, x157_43, x157_44, x157_47, x157_50, x157_51, x157_52, x157_53, x157_54, x157_55, x157_57, x157_58, x157_59, x157_61, x157_63, x157_64, x157_65, x157_66, x157_68, x157_70, x157_71, x157_74, x157_75, x157_76, x157_79, x157_80, x157_83, x157_85, x157_86, x157_87, x157_88, x157_89, x157_90, x157_91, x157_92, x157_93, x157_95, x157_97, x157_98, x157_99, x157_102, x157_104, x157_105, x157_106, x157_109, x157_110, x157_113, x157_116, x157_118, x157_119, x157_120, x157_123, x157_126, x157_128, x157_129, x157_130, x157_131, x157_132, x157_133, x157_136, x157_139, x157_140, x157_143, x157_146, x157_147, x157_148, x157_151, x157_153, x157_154, x157_155, x157_156, x157_157, x157_158, x157_159, x157_162, x157_165, x157_166, x157_167, x157_170, x157_172, x157_173, x157_174, x157_175, x157_176, x157_177, x157_178, x157_179, x157_180, x157_181, x157_182, x157_184, x157_187, x157_188, x157_191, x157_193, x157_194, aft_some, aft_void, Option.bind_some, Option.toList_some, Option.toList_none, List.cons_append, List.nil_append, if_true, if_false, ↓reduceIte, eq_self, z366_o, ↓z366_0, ↓z366_0p, ↓z366_1, ↓z366_2, ↓z366_3, ↓z366_4, ↓z366_4p, ↓z366_5, ↓z366_6, ↓z366_6p0, ↓z366_6p1, ↓z366_7, ↓z366_8, ↓z366_8p, ↓z366_9, ↓z366_9p, ↓z366_10, ↓z366_10p0, ↓z366_10p1, ↓z366_11, ↓z366_12, ↓z366_12p, ↓sg0, ↓sg1, ↓sg2, ↓sg3, ↓sg4, ↓sg5, ↓sg6, ↓sg7, ↓sg8, ↓sg9, ↓sg10, ↓sg11, ↓sg12, ↓sg13, ↓sg14, ↓sg15, ↓sg16, ↓sg17, ↓ss0, ↓ss1, ↓ss2, ↓ss3, ↓ss4, ↓ss5, ↓ss6, ↓ss7, ↓ss8, ↓ss9, ↓ss10, ↓ss11, ↓ss12, ↓ss13, ↓ss14, ↓ss15, ↓ss16, ↓ss17, t0, ↓aft_of (e1), ↓aft_of (ei)]
    · by_cases q2 : p < nI (s.1.1.1 3)
      · rw [if_neg q1, if_pos q2] at ei
        simp +decide only [x157_0, x157_1, x157_2, x157_5, x157_6, x157_7, x157_10, x157_11, x157_12, x157_13, x157_16, x157_19, x157_20, x157_22, x157_25, x157_26, x157_27, x157_28, x157_29, x157_30, x157_33, x157_36, x157_38, x157_39, x157_40, x157_43, x157_44, x157_47, x157_50, x157_51, x157_52, x157_53, x157_54, x157_55, x157_57, x157_58, x157_59, x157_61, x157_63, x157_64, x157_65, x157_66, x157_68, x157_70, x157_71, x157_74, x157_75, x157_76, x157_79, x157_80, x157_83, x157_85, x157_86, x157_87, x157_88, x157_89, x157_90, x157_91, x157_92, x157_93, x157_95, x157_97, x157_98, x157_99, x157_102, x157_104, x157_105, x157_106, x157_109, x157_110, x157_113, x157_116, x157_118, x157_119, x157_120, x157_123, x157_126, x157_128, x157_129, x157_130, x157_131, x157_132, x157_133, x157_136, x157_139, x157_140, x157_143, x157_146, x157_147, x157_148, x157_151, x157_153, x157_154, x157_155, x157_156, x157_157, x157_158, x157_159, x157_162, x157_165, x157_166, x157_167, x157_170, x157_172, x157_173, x157_174, x157_175, x157_176, x157_177, x157_178, x157_179, x157_180, x157_181, x157_182, x157_184, x157_187, x157_188, x157_191, x157_193, x157_194, aft_some, aft_void, Option.bind_some, Option.toList_some, Option.toList_none, List.cons_append, List.nil_append, if_true, if_false, ↓reduceIte, eq_self, z366_o, ↓z366_0, ↓z366_0p, ↓z366_1, ↓z366_2, ↓z366_3, ↓z366_4, ↓z366_4p, ↓z366_5, ↓z366_6, ↓z366_6p0, ↓z366_6p1, ↓z366_7, ↓z366_8, ↓z366_8p, ↓z366_9, ↓z366_9p, ↓z366_10, ↓z366_10p0, ↓z366_10p1, ↓z366_11, ↓z366_12, ↓z366_12p, ↓sg0, ↓sg1, ↓sg2, ↓sg3, ↓sg4, ↓sg5, ↓sg6, ↓sg7, ↓sg8, ↓sg9, ↓sg10, ↓sg11, ↓sg12, ↓sg13, ↓sg14, ↓sg15, ↓sg16, ↓sg17, ↓ss0, ↓ss1, ↓ss2, ↓ss3, ↓ss4, ↓ss5, ↓ss6, ↓ss7, ↓ss8, ↓ss9, ↓ss10, ↓ss11, ↓ss12, ↓ss13, ↓ss14, ↓ss15, ↓ss16, ↓ss17, t0, ↓aft_of (e1), ↓aft_of (ei)]
      · rw [if_neg q1, if_neg q2] at ei
        simp +decide only [x157_0, x157_1, x157_2, x157_5, x157_6, x157_7, x157_10, x157_11, x157_12, x157_13, x157_16, x157_19, x157_20, x157_22, x157_25, x157_26, x157_27, x157_28, x157_29, x157_30, x157_33, x157_36, x157_38, x157_39, x157_40, x157_43, x157_44, x157_47, x157_50, x157_51, x157_52, x157_53, x157_54, x157_55, x157_57, x157_58, x157_59, x157_61, x157_63, x157_64, x157_65, x157_66, x157_68, x157_70, x157_71, x157_74, x157_75, x157_76, x157_79, x157_80, x157_83, x157_85, x157_86, x157_87, x157_88, x157_89, x157_90, x157_91, x157_92, x157_93, x157_95, x157_97, x157_98, x157_99, x157_102, x157_104, x157_105, x157_106, x157_109, x157_110, x157_113, x157_116, x157_118, x157_119, x157_120, x157_123, x157_126, x157_128, x157_129, x157_130, x157_131, x157_132, x157_133, x157_136, x157_139, x157_140, x157_143, x157_146, x157_147, x157_148, x157_151, x157_153, x157_154, x157_155, x157_156, x157_157, x157_158, x157_159, x157_162, x157_165, x157_166, x157_167, x157_170, x157_172, x157_173, x157_174, x157_175, x157_176, x157_177, x157_178, x157_179, x157_180, x157_181, x157_182, x157_184, x157_187, x157_188, x157_191, x157_193, x157_194, aft_some, aft_void, Option.bind_some, Option.toList_some, Option.toList_none, List.cons_append, List.nil_append, if_true, if_false, ↓reduceIte, eq_self, z366_o, ↓z366_0, ↓z366_0p, ↓z366_1, ↓z366_2, ↓z366_3, ↓z366_4, ↓z366_4p, ↓z366_5, ↓z366_6, ↓z366_6p0, ↓z366_6p1, ↓z366_7, ↓z366_8, ↓z366_8p, ↓z366_9, ↓z366_9p, ↓z366_10, ↓z366_10p0, ↓z366_10p1, ↓z366_11, ↓z366_12, ↓z366_12p, ↓sg0, ↓sg1, ↓sg2, ↓sg3, ↓sg4, ↓sg5, ↓sg6, ↓sg7, ↓sg8, ↓sg9, ↓sg10, ↓sg11, ↓sg12, ↓sg13, ↓sg14, ↓sg15, ↓sg16, ↓sg17, ↓ss0, ↓ss1, ↓ss2, ↓ss3, ↓ss4, ↓ss5, ↓ss6, ↓ss7, ↓ss8, ↓ss9, ↓ss10, ↓ss11, ↓ss12, ↓ss13, ↓ss14, ↓ss15, ↓ss16, ↓ss17, t0, ↓aft_of (e1), ↓aft_of (ei)]
  | some i =>
    rw [hq] at e1
    simp only at e1 ⊢
    obtain ⟨-, hi, -⟩ := fst_some hq
    rw [Nat.zero_add] at hi
    have ni5 : (nI i = -5) = False := nI_ne5 (by omega)
    by_cases ch : hsI (s.1.1.1 3) p
    · rw [if_pos ch]
      rw [if_neg ch.1, if_pos ch.2] at ei
      obtain ⟨m, hm, rfl⟩ := nI_ex ch.1 (by omega) ch.2
      rw [nI_clamp (by omega)]
      obtain ⟨kk, hk4, ek⟩ := hw.1.1.2.2.2.2.2.2.1 m hm
      rw [ek, nI_clamp (by omega)]
      have hb := hs.2.2.2.1 i hi
      have ec := r_canBelong (T := T) (P := P) hs hw.1.1 hm hi hk4 ek
      unfold msK at ec
      by_cases c2 : 0 < gK s.1.2 i 3 kk ∧ dgI (gK s.1.2 i 0 3) kk = s.1.1.2.1 47 m
      · rw [if_pos c2]
        rw [if_pos c2] at ec
        obtain ⟨U, e, fr, -, hU⟩ := h.push (P := P) hw
        obtain ⟨n, hn⟩ : ∃ n, n + 1 = s.1.1.1 3 := ⟨s.1.1.1 3 - 1, by omega⟩
        rw [← hn] at f10 h20
        have hf := (hs.2.2.2.2.1 m hm).1
        rw [ek] at hf
        have o13 := r_of (T := U) (P := P) (f := f) (i := i) (w := 13 + kk) (y := 13 + nI kk) (nI_add 13 kk) (by omega) (by omega)
        rw [(hb.2 kk hk4).2.2] at o13
        have l13 := r_lay (T := U) (P := P) (f := f) (i := i) (w := 13 + kk) (y := 13 + nI kk) (z := gK s.1.2 i 3 kk - 1) (nI_add 13 kk) (by omega) (by omega)
        obtain ⟨G1, hG1⟩ : ∃ G1, G1 = upA f (694 + 17 * i + (13 + kk)) (gK s.1.2 i 3 kk - 1) := ⟨_, rfl⟩
        rw [← hG1] at l13
        have g110 : G1 10 = nI (n + 1) := by rw [hG1, upA_n _ _ (by omega)]; exact f10
        obtain ⟨G2, hG2⟩ : ∃ G2, G2 = upA G1 10 (nI n) := ⟨_, rfl⟩
        have n2 : ∀ a, a ≠ 694 + 17 * i + (13 + kk) → a ≠ 10 → G2 a = f a := fun a q1 q2 => by rw [hG2, upA_n _ _ q2, hG1, upA_n _ _ q1]
        have g210 : G2 10 = nI n := by rw [hG2, upA_s]
        have k1 : nI (n + 1) - 1 = nI n := nI_pred n
        have k8 : ∀ j : Nat, 830 + nI (2 * j) = nI (830 + 2 * j) := fun j => nI_add 830 _
        have k2m : ∀ j : Nat, 2 * nI j = nI (2 * j) := fun j => by rw [show (2 : Int32) = nI 2 from rfl, nI_mul]
        obtain ⟨G3, eG3, j1, j2⟩ := loop_ex (fun q (G : Nat → Int32) => X 157 95 [.ref 366, .int (nI m), .int x, .int (nI i), .int (nI kk), .int (nI (2 * m + q))] [] (H (upA U 367 G) P)) (fun q G => (∀ a, (a < 830 + 2 * m ∨ 830 + 2 * m + q ≤ a) → G a = G2 a) ∧ ∀ z, z < q → G (830 + 2 * m + z) = G2 (830 + 2 * m + z + 2)) (2 * (n - m)) G2 ⟨fun _ _ => rfl, fun z hz => absurd hz (Nat.not_lt_zero z)⟩ (by
          intro q G hq ⟨j1, j2⟩
          refine ⟨upA G (830 + 2 * m + q) (G2 (830 + 2 * m + q + 2)), ?_, fun a ha => ?_, fun z hz => ?_⟩
          · have hlt : nI (2 * m + q) < nI (2 * n) := nI_lt (by omega) (by omega)
            have q1 : G 10 = nI n := by rw [j1 10 (by omega)]; exact g210
            have q2 : 830 + nI (2 * m + q) = nI (830 + 2 * m + q) := by rw [show (830 : Int32) = nI 830 from rfl, nI_add, Nat.add_assoc]
            have q3 : nI (830 + 2 * m + q) + 2 = nI (830 + 2 * m + q + 2) := nI_add _ 2
            have q4 : G (830 + 2 * m + q + 2) = G2 (830 + 2 * m + q + 2) := j1 _ (by omega)
            have q5 : nI (2 * m + q) + 1 = nI (2 * m + (q + 1)) := nI_add _ 1
            show X 157 95 [.ref 366, .int (nI m), .int x, .int (nI i), .int (nI kk), .int (nI (2 * m + q))] [] (H (upA U 367 G) P) = _
            rw [x157_95]
            simp +decide only [x157_0, x157_1, x157_2, x157_5, x157_6, x157_7, x157_10, x157_11, x157_12, x157_13, x157_16, x157_19, x157_20, x157_22, x157_25, x157_26, x157_27, x157_28, x157_29, x157_30, x157_33, x157_36, x157_38, x157_39, x157_40, x157_43, x157_44, x157_47, x157_50, x157_51, x157_52, x157_53, x157_54, x157_55, x157_57, x157_58, x157_59, x157_61, x157_63, x157_64, x157_65, x157_66, x157_68, x157_70, x157_71, x157_74, x157_75, x157_76, x157_79, x157_80, x157_83, x157_85, x157_86, x157_87, x157_88, x157_89, x157_90, x157_91, x157_92, x157_93, x157_97, x157_98, x157_99, x157_102, x157_104, x157_105, x157_106, x157_109, x157_110, x157_113, x157_116, x157_118, x157_119, x157_120, x157_123, x157_126, x157_128, x157_129, x157_130, x157_131, x157_132, x157_133, x157_136, x157_139, x157_140, x157_143, x157_146, x157_147, x157_148, x157_151, x157_153, x157_154, x157_155, x157_156, x157_157, x157_158, x157_159, x157_162, x157_165, x157_166, x157_167, x157_170, x157_172, x157_173, x157_174, x157_175, x157_176, x157_177, x157_178, x157_179, x157_180, x157_181, x157_182, x157_184, x157_187, x157_188, x157_191, x157_193, x157_194, aft_some, aft_void, Option.bind_some, Option.toList_some, Option.toList_none, List.cons_append, List.nil_append, if_true, if_false, ↓reduceIte, eq_self, z366_o, ↓z366_0, ↓z366_0p, ↓z366_1, ↓z366_2, ↓z366_3, ↓z366_4, ↓z366_4p, ↓z366_5, ↓z366_6, ↓z366_6p0, ↓z366_6p1, ↓z366_7, ↓z366_8, ↓z366_8p, ↓z366_9, ↓z366_9p, ↓z366_10, ↓z366_10p0, ↓z366_10p1, ↓z366_11, ↓z366_12, ↓z366_12p, ↓sg0, ↓sg1, ↓sg2, ↓sg3, ↓sg4, ↓sg5, ↓sg6, ↓sg7, ↓sg8, ↓sg9, ↓sg10, ↓sg11, ↓sg12, ↓sg13, ↓sg14, ↓sg15, ↓sg16, ↓sg17, ↓ss0, ↓ss1, ↓ss2, ↓ss3, ↓ss4, ↓ss5, ↓ss6, ↓ss7, ↓ss8, ↓ss9, ↓ss10, ↓ss11, ↓ss12, ↓ss13, ↓ss14, ↓ss15, ↓ss16, ↓ss17, q1, k2m, hlt, q2, q3, ↓s_g (show 830 + 2 * m + q + 2 < 912 by omega), ↓s_s (show 830 + 2 * m + q < 912 by omega), q4, q5]
          · rw [upA_n _ _ (by omega)]; exact j1 a (by omega)
          · by_cases e : z = q
            · rw [e, upA_s]
            · rw [upA_n _ _ (by omega)]; exact j2 z (by omega))
        have eG3 : X 157 95 [.ref 366, .int (nI m), .int x, .int (nI i), .int (nI kk), .int (nI (2 * m))] [] (H (upA U 367 G2) P) = X 157 95 [.ref 366, .int (nI m), .int x, .int (nI i), .int (nI kk), .int (nI (2 * n))] [] (H (upA U 367 G3) P) := by
          rw [show 2 * n = 2 * m + 2 * (n - m) by omega]; exact eG3
        have g310 : G3 10 = nI n := by rw [j1 10 (by omega)]; exact g210
        obtain ⟨G4, hG4⟩ : ∃ G4, G4 = upA G3 (830 + 2 * n) 0 := ⟨_, rfl⟩
        have g410 : G4 10 = nI n := by rw [hG4, upA_n _ _ (by omega)]; exact g310
        obtain ⟨G5, hG5⟩ : ∃ G5, G5 = upA G4 (830 + 2 * n + 1) 0 := ⟨_, rfl⟩
        have kx : nI (830 + 2 * n) + 1 = nI (830 + 2 * n + 1) := nI_add _ 1
        have n5 : ∀ a, (a < 830 ∨ 870 ≤ a) → G5 a = G2 a := fun a ha => by rw [hG5, upA_n _ _ (by omega), hG4, upA_n _ _ (by omega), j1 a (by omega)]
        obtain ⟨G6, e6, n6, s17, sJ6⟩ := r_books (T := U) (P := P) (f := G5) (n := s.1.1.1 4) (R := s.1.1.2.2.2) (e := 4) (x := x) (y := nI kk) (by rw [n5 17 (by decide), n2 17 (by omega) (by decide)]; exact hs.1.2.2.2.2.1.2.2) h10 (hs.2.2.2.2.2.same h10 (fun a h1 h2 => by rw [n5 a (by omega), n2 a (by omega) (by omega)]))
        have g54 : G5 4 = s.1.1.2.1 0 0 := by rw [n5 4 (by decide), n2 4 (by omega) (by decide), hs.1.d, hs.1.2.2.2.2.2.2]
        rw [g54] at sJ6
        have g610 : G6 10 = nI n := by rw [n6 10 (by decide) (by decide), n5 10 (by decide)]; exact g210
        have hn1 : s.1.1.1 3 - 1 = n := by omega
        rw [hn1]
        refine ⟨U, G6, ?_, fun a ha => fr a (by omega) (by omega), hU.now ?_⟩
        · simp +decide only [x157_0, x157_1, x157_2, x157_5, x157_6, x157_7, x157_10, x157_11, x157_12, x157_13, x157_16, x157_19, x157_20, x157_22, x157_25, x157_26, x157_27, x157_28, x157_29, x157_30, x157_33, x157_36, x157_38, x157_39, x157_40, x157_43, x157_44, x157_47, x157_50, x157_51, x157_52, x157_53, x157_54, x157_55, x157_57, x157_58, x157_59, x157_61, x157_63, x157_64, x157_65, x157_66, x157_68, x157_70, x157_71, x157_74, x157_75, x157_76, x157_79, x157_80, x157_83, x157_85, x157_86, x157_87, x157_88, x157_89, x157_90, x157_91, x157_92, x157_93, x157_97, x157_98, x157_99, x157_102, x157_104, x157_105, x157_106, x157_109, x157_110, x157_113, x157_116, x157_118, x157_119, x157_120, x157_123, x157_126, x157_128, x157_129, x157_130, x157_131, x157_132, x157_133, x157_136, x157_139, x157_140, x157_143, x157_146, x157_147, x157_148, x157_151, x157_153, x157_154, x157_155, x157_156, x157_157, x157_158, x157_159, x157_162, x157_165, x157_166, x157_167, x157_170, x157_172, x157_173, x157_174, x157_175, x157_176, x157_177, x157_178, x157_179, x157_180, x157_181, x157_182, x157_184, x157_187, x157_188, x157_191, x157_193, x157_194, aft_some, aft_void, Option.bind_some, Option.toList_some, Option.toList_none, List.cons_append, List.nil_append, if_true, if_false, ↓reduceIte, eq_self, z366_o, ↓z366_0, ↓z366_0p, ↓z366_1, ↓z366_2, ↓z366_3, ↓z366_4, ↓z366_4p, ↓z366_5, ↓z366_6, ↓z366_6p0, ↓z366_6p1, ↓z366_7, ↓z366_8, ↓z366_8p, ↓z366_9, ↓z366_9p, ↓z366_10, ↓z366_10p0, ↓z366_10p1, ↓z366_11, ↓z366_12, ↓z366_12p, ↓sg0, ↓sg1, ↓sg2, ↓sg3, ↓sg4, ↓sg5, ↓sg6, ↓sg7, ↓sg8, ↓sg9, ↓sg10, ↓sg11, ↓sg12, ↓sg13, ↓sg14, ↓sg15, ↓sg16, ↓sg17, ↓ss0, ↓ss1, ↓ss2, ↓ss3, ↓ss4, ↓ss5, ↓ss6, ↓ss7, ↓ss8, ↓ss9, ↓ss10, ↓ss11, ↓ss12, ↓ss13, ↓ss14, ↓ss15, ↓ss16, ↓ss17, t0, ↓aft_of (e1), ↓aft_of (ei), ni5, ↓aft_of (ec), ↓aft_of (e), k8, ↓s_g (show 830 + 2 * m < 912 by omega), hf, ↓aft_of (o13), ↓aft_of (l13), g110, k1, ← hG2, k2m]
          rw [eG3, x157_95]
          simp +decide only [x157_0, x157_1, x157_2, x157_5, x157_6, x157_7, x157_10, x157_11, x157_12, x157_13, x157_16, x157_19, x157_20, x157_22, x157_25, x157_26, x157_27, x157_28, x157_29, x157_30, x157_33, x157_36, x157_38, x157_39, x157_40, x157_43, x157_44, x157_47, x157_50, x157_51, x157_52, x157_53, x157_54, x157_55, x157_57, x157_58, x157_59, x157_61, x157_63, x157_64, x157_65, x157_66, x157_68, x157_70, x157_71, x157_74, x157_75, x157_76, x157_79, x157_80, x157_83, x157_85, x157_86, x157_87, x157_88, x157_89, x157_90, x157_91, x157_92, x157_93, x157_97, x157_98, x157_99, x157_102, x157_104, x157_105, x157_106, x157_109, x157_110, x157_113, x157_116, x157_118, x157_119, x157_120, x157_123, x157_126, x157_128, x157_129, x157_130, x157_131, x157_132, x157_133, x157_136, x157_139, x157_140, x157_143, x157_146, x157_147, x157_148, x157_151, x157_153, x157_154, x157_155, x157_156, x157_157, x157_158, x157_159, x157_162, x157_165, x157_166, x157_167, x157_170, x157_172, x157_173, x157_174, x157_175, x157_176, x157_177, x157_178, x157_179, x157_180, x157_181, x157_182, x157_184, x157_187, x157_188, x157_191, x157_193, x157_194, aft_some, aft_void, Option.bind_some, Option.toList_some, Option.toList_none, List.cons_append, List.nil_append, if_true, if_false, ↓reduceIte, eq_self, z366_o, ↓z366_0, ↓z366_0p, ↓z366_1, ↓z366_2, ↓z366_3, ↓z366_4, ↓z366_4p, ↓z366_5, ↓z366_6, ↓z366_6p0, ↓z366_6p1, ↓z366_7, ↓z366_8, ↓z366_8p, ↓z366_9, ↓z366_9p, ↓z366_10, ↓z366_10p0, ↓z366_10p1, ↓z366_11, ↓z366_12, ↓z366_12p, ↓sg0, ↓sg1, ↓sg2, ↓sg3, ↓sg4, ↓sg5, ↓sg6, ↓sg7, ↓sg8, ↓sg9, ↓sg10, ↓sg11, ↓sg12, ↓sg13, ↓sg14, ↓sg15, ↓sg16, ↓sg17, ↓ss0, ↓ss1, ↓ss2, ↓ss3, ↓ss4, ↓ss5, ↓ss6, ↓ss7, ↓ss8, ↓ss9, ↓ss10, ↓ss11, ↓ss12, ↓ss13, ↓ss14, ↓ss15, ↓ss16, ↓ss17, g310, k2m, nI_nlt (Nat.le_refl (2 * n)) (show 2 * n < 2 ^ 31 by omega), k8, ↓s_s (show 830 + 2 * n < 912 by omega), ← hG4, g410, kx, ↓s_s (show 830 + 2 * n + 1 < 912 by omega), ← hG5, ↓aft_of (e6), g610]
        · refine sR.miss (M := (fiU s.1 i m kk x).1.1) (W := (fiU s.1 i m kk x).1.2.1) hs h8 hi hk4 (fun a q1 q2 q3 q4 => ?_) ?_ ?_ ?_ ?_ ?_ (fun r h3 h4 => ?_) (fun r h6 h7 => ?_)
          · rw [n6 a q2 (by omega), n5 a (by omega), n2 a q3 q1]
          · show G6 10 = nI (upA (upA s.1.1.1 3 (s.1.1.1 3 - 1)) 4 (min (s.1.1.1 4 + 1) 10) 3)
            rw [upA_n _ _ (by decide), upA_s, g610, hn1]
          · show G6 17 = nI (upA (upA s.1.1.1 3 (s.1.1.1 3 - 1)) 4 (min (s.1.1.1 4 + 1) 10) 4)
            rw [upA_s, s17]
          · rw [n6 _ (by omega) (by omega), n5 _ (by omega), hG2, upA_n _ _ (by omega), hG1, upA_s]
          · show sL G6 (upA (upA s.1.1.1 3 (s.1.1.1 3 - 1)) 4 (min (s.1.1.1 4 + 1) 10) 3) _
            rw [upA_n _ _ (by decide), upA_s, hn1]
            intro j hj
            show G6 (830 + 2 * j) = upA (upA s.1.1.2.1 46 (fun j => if j < m then s.1.1.2.1 46 j else s.1.1.2.1 46 (j + 1))) 47 (fun j => if j < m then s.1.1.2.1 47 j else s.1.1.2.1 47 (j + 1)) 46 j ∧ G6 (830 + 2 * j + 1) = upA (upA s.1.1.2.1 46 (fun j => if j < m then s.1.1.2.1 46 j else s.1.1.2.1 46 (j + 1))) 47 (fun j => if j < m then s.1.1.2.1 47 j else s.1.1.2.1 47 (j + 1)) 47 j
            rw [upA_n _ _ (show 46 ≠ 47 by decide), upA_s, upA_s]
            rw [n6 _ (by omega) (by omega), n6 _ (by omega) (by omega), hG5, upA_n _ _ (by omega), upA_n _ _ (by omega), hG4, upA_n _ _ (by omega), upA_n _ _ (by omega)]
            by_cases e : j < m
            · rw [if_pos e, if_pos e]
              obtain ⟨t1, t2⟩ := hs.2.2.2.2.1 j (by omega)
              rw [j1 _ (by omega), n2 _ (by omega) (by omega), j1 _ (by omega), n2 _ (by omega) (by omega)]
              exact ⟨t1, t2⟩
            · rw [if_neg e, if_neg e]
              obtain ⟨t1, t2⟩ := hs.2.2.2.2.1 (j + 1) (by omega)
              have s1 := j2 (2 * (j - m)) (by omega)
              have s2 := j2 (2 * (j - m) + 1) (by omega)
              rw [show 830 + 2 * m + 2 * (j - m) = 830 + 2 * j by omega, show 830 + 2 * j + 2 = 830 + 2 * (j + 1) by omega, n2 _ (by omega) (by omega)] at s1
              rw [show 830 + 2 * m + (2 * (j - m) + 1) = 830 + 2 * j + 1 by omega, show 830 + 2 * j + 1 + 2 = 830 + 2 * (j + 1) + 1 by omega, n2 _ (by omega) (by omega)] at s2
              exact ⟨s1.trans t1, s2.trans t2⟩
          · show sJ G6 (upA (upA s.1.1.1 3 (s.1.1.1 3 - 1)) 4 (min (s.1.1.1 4 + 1) 10) 4) _
            rw [upA_s]; exact sJ6
          · show upA (upA s.1.1.1 3 (s.1.1.1 3 - 1)) 4 (min (s.1.1.1 4 + 1) 10) r = _
            rw [upA_n _ _ h4, upA_n _ _ h3]
          · show upA (upA s.1.1.2.1 46 (fun j => if j < m then s.1.1.2.1 46 j else s.1.1.2.1 46 (j + 1))) 47 (fun j => if j < m then s.1.1.2.1 47 j else s.1.1.2.1 47 (j + 1)) r = _
            rw [upA_n _ _ h7, upA_n _ _ h6]
      · rw [if_neg c2]
        rw [if_neg c2] at ec
        exact ⟨T, f, by simp +decide only [x157_0, x157_1, x157_2, x157_5, x157_6, x157_7, x157_10, x157_11, x157_12, x157_13, x157_16, x157_19, x157_20, x157_22, x157_25, x157_26, x157_27, x157_28, x157_29, x157_30, x157_33, x157_36, x157_38, x157_39, x157_40, x157_43, x157_44, x157_47, x157_50, x157_51, x157_52, x157_53, x157_54, x157_55, x157_57, x157_58, x157_59, x157_61, x157_63, x157_64, x157_65, x157_66, x157_68, x157_70, x157_71, x157_74, x157_75, x157_76, x157_79, x157_80, x157_83, x157_85, x157_86, x157_87, x157_88, x157_89, x157_90, x157_91, x157_92, x157_93, x157_95, x157_97, x157_98, x157_99, x157_102, x157_104, x157_105, x157_106, x157_109, x157_110, x157_113, x157_116, x157_118, x157_119, x157_120, x157_123, x157_126, x157_128, x157_129, x157_130, x157_131, x157_132, x157_133, x157_136, x157_139, x157_140, x157_143, x157_146, x157_147, x157_148, x157_151, x157_153, x157_154, x157_155, x157_156, x157_157, x157_158, x157_159, x157_162, x157_165, x157_166, x157_167, x157_170, x157_172, x157_173, x157_174, x157_175, x157_176, x157_177, x157_178, x157_179, x157_180, x157_181, x157_182, x157_184, x157_187, x157_188, x157_191, x157_193, x157_194, aft_some, aft_void, Option.bind_some, Option.toList_some, Option.toList_none, List.cons_append, List.nil_append, if_true, if_false, ↓reduceIte, eq_self, z366_o, ↓z366_0, ↓z366_0p, ↓z366_1, ↓z366_2, ↓z366_3, ↓z366_4, ↓z366_4p, ↓z366_5, ↓z366_6, ↓z366_6p0, ↓z366_6p1, ↓z366_7, ↓z366_8, ↓z366_8p, ↓z366_9, ↓z366_9p, ↓z366_10, ↓z366_10p0, ↓z366_10p1, ↓z366_11, ↓z366_12, ↓z366_12p, ↓sg0, ↓sg1, ↓sg2, ↓sg3, ↓sg4, ↓sg5, ↓sg6, ↓sg7, ↓sg8, ↓sg9, ↓sg10, ↓sg11, ↓sg12, ↓sg13, ↓sg14, ↓sg15, ↓sg16, ↓sg17, ↓ss0, ↓ss1, ↓ss2, ↓ss3, ↓ss4, ↓ss5, ↓ss6, ↓ss7, ↓ss8, ↓ss9, ↓ss10, ↓ss11, ↓ss12, ↓ss13, ↓ss14, ↓ss15, ↓ss16, ↓ss17, t0, ↓aft_of (e1), ↓aft_of (ei), ni5, ↓aft_of (ec)], fun _ _ => rfl, h⟩
    · rw [if_neg ch]
      refine ⟨T, f, ?_, fun _ _ => rfl, h⟩
      have e0 : (if p < 0 then (0 : Int32) else if p < nI (s.1.1.1 3) then 1 else 0) = 0 := by
        by_cases q : p < 0
        · rw [if_pos q]
        · rw [if_neg q, if_neg (fun z => ch ⟨q, z⟩)]
      rw [e0] at ei
      simp +decide only [x157_0, x157_1, x157_2, x157_5, x157_6, x157_7, x157_10, x157_11, x157_12, x157_13, x157_16, x157_19, x157_20, x157_22, x157_25, x157_26, x157_27, x157_28, x157_29, x157_30, x157_33, x157_36, x157_38, x157_39, x157_40, x157_43, x157_44, x157_47, x157_50, x157_51, x157_52, x157_53, x157_54, x157_55, x157_57, x157_58, x157_59, x157_61, x157_63, x157_64, x157_65, x157_66, x157_68, x157_70, x157_71, x157_74, x157_75, x157_76, x157_79, x157_80, x157_83, x157_85, x157_86, x157_87, x157_88, x157_89, x157_90, x157_91, x157_92, x157_93, x157_95, x157_97, x157_98, x157_99, x157_102, x157_104, x157_105, x157_106, x157_109, x157_110, x157_113, x157_116, x157_118, x157_119, x157_120, x157_123, x157_126, x157_128, x157_129, x157_130, x157_131, x157_132, x157_133, x157_136, x157_139, x157_140, x157_143, x157_146, x157_147, x157_148, x157_151, x157_153, x157_154, x157_155, x157_156, x157_157, x157_158, x157_159, x157_162, x157_165, x157_166, x157_167, x157_170, x157_172, x157_173, x157_174, x157_175, x157_176, x157_177, x157_178, x157_179, x157_180, x157_181, x157_182, x157_184, x157_187, x157_188, x157_191, x157_193, x157_194, aft_some, aft_void, Option.bind_some, Option.toList_some, Option.toList_none, List.cons_append, List.nil_append, if_true, if_false, ↓reduceIte, eq_self, z366_o, ↓z366_0, ↓z366_0p, ↓z366_1, ↓z366_2, ↓z366_3, ↓z366_4, ↓z366_4p, ↓z366_5, ↓z366_6, ↓z366_6p0, ↓z366_6p1, ↓z366_7, ↓z366_8, ↓z366_8p, ↓z366_9, ↓z366_9p, ↓z366_10, ↓z366_10p0, ↓z366_10p1, ↓z366_11, ↓z366_12, ↓z366_12p, ↓sg0, ↓sg1, ↓sg2, ↓sg3, ↓sg4, ↓sg5, ↓sg6, ↓sg7, ↓sg8, ↓sg9, ↓sg10, ↓sg11, ↓sg12, ↓sg13, ↓sg14, ↓sg15, ↓sg16, ↓sg17, ↓ss0, ↓ss1, ↓ss2, ↓ss3, ↓ss4, ↓ss5, ↓ss6, ↓ss7, ↓ss8, ↓ss9, ↓ss10, ↓ss11, ↓ss12, ↓ss13, ↓ss14, ↓ss15, ↓ss16, ↓ss17, t0, ↓aft_of (e1), ↓aft_of (ei)]
end QC
end
