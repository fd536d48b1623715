section
/-! what the reference tells -/
section QT
variable {T : Nat → Nat → Int32} {P : Nat → Nat → Nat} {f g : Nat → Int32} {s : gT} {x y z w : Int32} {N M : Nat → Nat} {V W : Nat → Nat → Int32} {K : List kT} {B : List bT} {R R' : Nat → Nat → Int32} {i k : Nat}
theorem RQ.same {j : Nat} {A : List Value} {a : Int32} (h : CF T f s) (e : X j 0 A [] (H (upA T 367 f) P) = some (some (.int a), H (upA T 367 f) P)) : RQ T P f j A (a, s) := ⟨T, f, e, fun _ _ => rfl, h⟩
theorem r_basketsOf (h : sR f N V K B R) (hw : WF N V K B) : X 187 0 [.ref 366, .int x, .long 0, .long 0] [] (H (upA T 367 f) P) = some (some (.int (smI (fun i => if gK K i 0 1 = x then 1 else 0) K.length)), H (upA T 367 f) P) := by
  have h8 := hw.1.2.2.2.1
  have h16 := h.1.n
  have hstep : ∀ i, i < K.length → X 187 4 [.ref 366, .int x, .int (smI (fun i => if gK K i 0 1 = x then 1 else 0) i), .int (nI i)] [] (H (upA T 367 f) P) = X 187 4 [.ref 366, .int x, .int (smI (fun i => if gK K i 0 1 = x then 1 else 0) (i + 1)), .int (nI (i + 1))] [] (H (upA T 367 f) P) := by
    intro i hi
    have e := r_of (T := T) (P := P) (f := f) (i := i) (w := 1) (y := 1) rfl (by omega) (by decide)
    rw [(h.2.2.2.1 i hi).1.2.1] at e
    have hlt : nI i < nI K.length := nI_lt hi (by omega)
    rw [x187_4]
    by_cases c : gK K i 0 1 = x
    · simp +decide only [x187_0, x187_1, x187_2, x187_3, x187_5, x187_6, x187_9, x187_11, x187_12, x187_15, x187_16, x187_17, x187_18, x187_19, x187_22, x187_23, x187_26, x187_27, x187_30, x187_31, x187_32, x187_33, x187_36, x187_39, x187_40, aft_some, aft_void, Option.bind_some, Option.toList_some, Option.toList_none, List.cons_append, List.nil_append, if_true, if_false, ↓reduceIte, eq_self, z366_o, ↓z366_0, ↓z366_0p, ↓z366_1, ↓z366_2, ↓z366_3, ↓z366_4, ↓z366_4p, ↓z366_5, ↓z366_6, ↓z366_6p0, ↓z366_6p1, ↓z366_7, ↓z366_8, ↓z366_8p, ↓z366_9, ↓z366_9p, ↓z366_10, ↓z366_10p0, ↓z366_10p1, ↓z366_11, ↓z366_12, ↓z366_12p, ↓sg0, ↓sg1, ↓sg2, ↓sg3, ↓sg4, ↓sg5, ↓sg6, ↓sg7, ↓sg8, ↓sg9, ↓sg10, ↓sg11, ↓sg12, ↓sg13, ↓sg14, ↓sg15, ↓sg16, ↓sg17, ↓ss0, ↓ss1, ↓ss2, ↓ss3, ↓ss4, ↓ss5, ↓ss6, ↓ss7, ↓ss8, ↓ss9, ↓ss10, ↓ss11, ↓ss12, ↓ss13, ↓ss14, ↓ss15, ↓ss16, ↓ss17, h16, hlt, ↓aft_of (e), c, nI_1, smI]
    · simp +decide only [x187_0, x187_1, x187_2, x187_3, x187_5, x187_6, x187_9, x187_11, x187_12, x187_15, x187_16, x187_17, x187_18, x187_19, x187_22, x187_23, x187_26, x187_27, x187_30, x187_31, x187_32, x187_33, x187_36, x187_39, x187_40, aft_some, aft_void, Option.bind_some, Option.toList_some, Option.toList_none, List.cons_append, List.nil_append, if_true, if_false, ↓reduceIte, eq_self, z366_o, ↓z366_0, ↓z366_0p, ↓z366_1, ↓z366_2, ↓z366_3, ↓z366_4, ↓z366_4p, ↓z366_5, ↓z366_6, ↓z366_6p0, ↓z366_6p1, ↓z366_7, ↓z366_8, ↓z366_8p, ↓z366_9, ↓z366_9p, ↓z366_10, ↓z366_10p0, ↓z366_10p1, ↓z366_11, ↓z366_12, ↓z366_12p, ↓sg0, ↓sg1, ↓sg2, ↓sg3, ↓sg4, ↓sg5, ↓sg6, ↓sg7, ↓sg8, ↓sg9, ↓sg10, ↓sg11, ↓sg12, ↓sg13, ↓sg14, ↓sg15, ↓sg16, ↓sg17, ↓ss0, ↓ss1, ↓ss2, ↓ss3, ↓ss4, ↓ss5, ↓ss6, ↓ss7, ↓ss8, ↓ss9, ↓ss10, ↓ss11, ↓ss12, ↓ss13, ↓ss14, ↓ss15, ↓ss16, ↓ss17, h16, hlt, ↓aft_of (e), c, nI_1, smI]
  simp +decide only [x187_0, x187_1, x187_2, x187_3, x187_5, x187_6, x187_9, x187_11, x187_12, x187_15, x187_16, x187_17, x187_18, x187_19, x187_22, x187_23, x187_26, x187_27, x187_30, x187_31, x187_32, x187_33, x187_36, x187_39, x187_40, aft_some, aft_void, Option.bind_some, Option.toList_some, Option.toList_none, List.cons_append, List.nil_append, if_true, if_false, ↓reduceIte, eq_self]
  rw [show X 187 4 [.ref 366, .int x, .int 0, .int 0] [] (H (upA T 367 f) P) = _ from loop_up (fun i => X 187 4 [.ref 366, .int x, .int (smI (fun i => if gK K i 0 1 = x then 1 else 0) i), .int (nI i)] [] (H (upA T 367 f) P)) K.length hstep, x187_4]
  simp +decide only [x187_0, x187_1, x187_2, x187_3, x187_5, x187_6, x187_9, x187_11, x187_12, x187_15, x187_16, x187_17, x187_18, x187_19, x187_22, x187_23, x187_26, x187_27, x187_30, x187_31, x187_32, x187_33, x187_36, x187_39, x187_40, aft_some, aft_void, Option.bind_some, Option.toList_some, Option.toList_none, List.cons_append, List.nil_append, if_true, if_false, ↓reduceIte, eq_self, z366_o, ↓z366_0, ↓z366_0p, ↓z366_1, ↓z366_2, ↓z366_3, ↓z366_4, ↓z366_4p, ↓z366_5, ↓z366_6, ↓z366_6p0, ↓z366_6p1, ↓z366_7, ↓z366_8, ↓z366_8p, ↓z366_9, ↓z366_9p, ↓z366_10, ↓z366_10p0, ↓z366_10p1, ↓z366_11, ↓z366_12, ↓z366_12p, ↓sg0, ↓sg1, ↓sg2, ↓sg3, ↓sg4, ↓sg5, ↓sg6, ↓sg7, ↓sg8, ↓sg9, ↓sg10, ↓sg11, ↓sg12, ↓sg13, ↓sg14, ↓sg15, ↓sg16, ↓sg17, ↓ss0, ↓ss1, ↓ss2, ↓ss3, ↓ss4, ↓ss5, ↓ss6, ↓ss7, ↓ss8, ↓ss9, ↓ss10, ↓ss11, ↓ss12, ↓ss13, ↓ss14, ↓ss15, ↓ss16, ↓ss17, h16, nI_nlt (Nat.le_refl K.length) (show K.length < 2 ^ 31 by omega)]
theorem first_none {c : Nat} : ∀ {B : List bT}, (∀ q ∈ B, q.1 ≠ c) → firstL c B = -5
  | [], _ => rfl
  | q :: B, h => by
    have h1 := h q List.mem_cons_self
    simp only [firstL]
    rw [if_neg h1]
    exact first_none (fun p hp => h p (List.mem_cons_of_mem _ hp))
theorem first_some {c d : Nat} : ∀ {B : List bT}, B.Pairwise (fun p q => p.2.1 ≤ q.2.1) → (∃ q ∈ B, q.1 = c ∧ q.2.1 = d) → (∀ q ∈ B, q.1 = c → d ≤ q.2.1) → firstL c B = nI d
  | [], _, ⟨q, hq, _⟩, _ => by cases hq
  | p :: B, hp, ⟨q, hq, e1, e2⟩, hm => by
    simp only [firstL]
    by_cases c1 : p.1 = c
    · rw [if_pos c1]
      have h1 := hm p List.mem_cons_self c1
      have h2 : p.2.1 ≤ q.2.1 := by
        rcases List.mem_cons.mp hq with rfl | hq
        · exact Nat.le_refl _
        · exact (List.pairwise_cons.mp hp).1 q hq
      congr 1; omega
    · rw [if_neg c1]
      have hq' : q ∈ B := by
        rcases List.mem_cons.mp hq with rfl | hq
        · exact absurd e1 c1
        · exact hq
      exact first_some (List.pairwise_cons.mp hp).2 ⟨q, hq', e1, e2⟩ (fun r hr => hm r (List.mem_cons_of_mem _ hr))
theorem r_oldestDay (h : sR f N V K B R) (hw : WF N V K B) {c : Nat} (hc : c < 10) : X 188 0 [.ref 366, .int (nI c), .long 0] [] (H (upA T 367 f) P) = some (some (.int (firstL c B)), H (upA T 367 f) P) := by
  have hD := hw.1.1
  have hol := out_le c B
  have hall := hw.all
  have h4 := h.1.d
  have e := r_oldest (T := T) (P := P) hc h4 hD (r := fun k => rgL c k B) (fun k hk => ⟨h.2.2.1 c hc k hk, by have := rg_le c k B; omega⟩)
  have hpos : ∀ q ∈ B, 0 < q.2.2 := fun q hq => (hw.2.2.2.2.2.1.1 q hq).2.2.2.1
  cases hq : olF (fun k => rgL c k B) (N 0) 64 with
  | none =>
    rw [hq] at e
    have h0 := ol_all hw.nr (olF_none hq)
    have hn : ∀ q ∈ B, q.1 ≠ c := by
      intro q hq e1
      have : ∀ {B : List bT}, q ∈ B → q.2.2 ≤ outL c B := by
        intro B
        induction B with
        | nil => intro h; cases h
        | cons x B ih =>
          intro h
          simp only [outL]
          rcases List.mem_cons.mp h with rfl | h
          · rw [if_pos e1]; omega
          · have := ih h; omega
      have := this hq
      have := hpos q hq
      omega
    rw [first_none hn]
    simp +decide only [x188_0, x188_1, x188_2, x188_5, x188_6, x188_7, x188_9, x188_12, x188_14, x188_17, x188_18, x188_21, x188_22, x188_23, x188_24, x188_25, x188_28, x188_29, aft_some, aft_void, Option.bind_some, Option.toList_some, Option.toList_none, List.cons_append, List.nil_append, if_true, if_false, ↓reduceIte, eq_self, z366_o, ↓z366_0, ↓z366_0p, ↓z366_1, ↓z366_2, ↓z366_3, ↓z366_4, ↓z366_4p, ↓z366_5, ↓z366_6, ↓z366_6p0, ↓z366_6p1, ↓z366_7, ↓z366_8, ↓z366_8p, ↓z366_9, ↓z366_9p, ↓z366_10, ↓z366_10p0, ↓z366_10p1, ↓z366_11, ↓z366_12, ↓z366_12p, ↓sg0, ↓sg1, ↓sg2, ↓sg3, ↓sg4, ↓sg5, ↓sg6, ↓sg7, ↓sg8, ↓sg9, ↓sg10, ↓sg11, ↓sg12, ↓sg13, ↓sg14, ↓sg15, ↓sg16, ↓sg17, ↓ss0, ↓ss1, ↓ss2, ↓ss3, ↓ss4, ↓ss5, ↓ss6, ↓ss7, ↓ss8, ↓ss9, ↓ss10, ↓ss11, ↓ss12, ↓ss13, ↓ss14, ↓ss15, ↓ss16, ↓ss17, ↓aft_of (e)]
  | some k =>
    rw [hq] at e
    obtain ⟨d0, hd, hk, hp, hm⟩ := ol_ok hw.nr hq
    have hk64 : k < 64 := by omega
    have ea := r_ageOf (T := T) (P := P) h4 hD hk64
    have hex : ∃ q ∈ B, q.1 = c ∧ q.2.1 = d0 := by
      apply Classical.byContradiction
      intro hn
      have := rg_none (c := c) (k := k) (B := B) (fun q hq e1 e2 e3 => hn ⟨q, hq, e1, by
        have := hm q hq e1 e2
        have := hw.nr.1 q hq
        omega⟩)
      omega
    rw [first_some hw.nr.2 hex (fun q hq e1 => hm q hq e1 (hpos q hq))]
    have ne : (nI k = -5) = False := nI_ne5 (by omega)
    have es : nI (N 0) - nI ((N 0 + 64 - k) % 64) = nI d0 := by
      rw [nI_sub (by omega)]; congr 1; omega
    simp only at e
    simp +decide only [x188_0, x188_1, x188_2, x188_5, x188_6, x188_7, x188_9, x188_12, x188_14, x188_17, x188_18, x188_21, x188_22, x188_23, x188_24, x188_25, x188_28, x188_29, aft_some, aft_void, Option.bind_some, Option.toList_some, Option.toList_none, List.cons_append, List.nil_append, if_true, if_false, ↓reduceIte, eq_self, z366_o, ↓z366_0, ↓z366_0p, ↓z366_1, ↓z366_2, ↓z366_3, ↓z366_4, ↓z366_4p, ↓z366_5, ↓z366_6, ↓z366_6p0, ↓z366_6p1, ↓z366_7, ↓z366_8, ↓z366_8p, ↓z366_9, ↓z366_9p, ↓z366_10, ↓z366_10p0, ↓z366_10p1, ↓z366_11, ↓z366_12, ↓z366_12p, ↓sg0, ↓sg1, ↓sg2, ↓sg3, ↓sg4, ↓sg5, ↓sg6, ↓sg7, ↓sg8, ↓sg9, ↓sg10, ↓sg11, ↓sg12, ↓sg13, ↓sg14, ↓sg15, ↓sg16, ↓sg17, ↓ss0, ↓ss1, ↓ss2, ↓ss3, ↓ss4, ↓ss5, ↓ss6, ↓ss7, ↓ss8, ↓ss9, ↓ss10, ↓ss11, ↓ss12, ↓ss13, ↓ss14, ↓ss15, ↓ss16, ↓ss17, ↓aft_of (e), ne, h4, ↓aft_of (ea), es]
theorem q_cus (h : CF T f s) (hw : WG s) (c w : Int32) : RQ T P f 189 [.ref 366, .int c, .int w, .long 0] (gCus c w s, s) := by
  have t0 := thr (f := f) h.1.1
  have hs := h.2
  obtain ⟨⟨a1, ⟨a2, a3, a4, a5⟩, ⟨a6, a7, a8⟩, a9, ⟨a10, a11, a12⟩, a13, a14⟩, hC, hO, hK, hL, hJ⟩ := id hs
  have hN1 := hw.1.1.1.2.1
  have ec := r_isCust (T := T) (P := P) (f := f) (x := c)
  rw [a3, cust_in hN1] at ec
  refine RQ.same h ?_
  unfold gCus
  by_cases ch : hsI (s.1.1.1 1) c
  · rw [if_pos ch]
    rw [if_neg ch.1, if_pos ch.2] at ec
    obtain ⟨k, hk, rfl⟩ := nI_ex ch.1 (by omega) ch.2
    rw [nI_clamp (by omega)]
    obtain ⟨d, hd, ed⟩ := hw.1.1.2.1 k hk
    have e0 := r_ofCust (T := T) (P := P) (f := f) (i := k) (w := 0) (y := 0) rfl (by omega) (by decide)
    rw [(hC k (by omega)).1 hk] at e0
    have e1 := r_ofCust (T := T) (P := P) (f := f) (i := k) (w := 1) (y := 1) rfl (by omega) (by decide)
    rw [(hC k (by omega)).2.1, if_pos hk] at e1
    have e2 := r_ofCust (T := T) (P := P) (f := f) (i := k) (w := 2) (y := 2) rfl (by omega) (by decide)
    rw [(hC k (by omega)).2.2, if_pos hk] at e2
    have eo := r_outTo (T := T) (P := P) (f := f) (show k < 10 by omega)
    rw [smI_congr (fun j hj => hO k (by omega) j hj), smI_nI, rg_sum] at eo
    have eb := r_basketsOf (T := T) (P := P) (x := nI k) hs hw.1.1
    have ed5 := r_oldestDay (T := T) (P := P) hs hw.1.1 (show k < 10 by omega)
    by_cases w0 : w = 0
    · simp +decide only [x189_0, x189_1, x189_2, x189_5, x189_6, x189_7, x189_10, x189_13, x189_14, x189_15, x189_16, x189_60, x189_61, x189_62, x189_63, x189_66, x189_67, x189_68, x189_69, x189_72, x189_73, x189_74, x189_75, x189_76, x189_79, x189_80, x189_81, x189_82, x189_83, x189_86, x189_87, x189_88, x189_89, x189_92, x189_93, x189_94, x189_95, x189_98, x189_99, x189_100, x189_101, x189_102, x189_103, x189_106, x189_109, x189_110, x189_111, x189_113, x189_116, x189_118, x189_121, x189_122, x189_123, x189_125, aft_some, aft_void, Option.bind_some, Option.toList_some, Option.toList_none, List.cons_append, List.nil_append, if_true, if_false, ↓reduceIte, eq_self, z366_o, ↓z366_0, ↓z366_0p, ↓z366_1, ↓z366_2, ↓z366_3, ↓z366_4, ↓z366_4p, ↓z366_5, ↓z366_6, ↓z366_6p0, ↓z366_6p1, ↓z366_7, ↓z366_8, ↓z366_8p, ↓z366_9, ↓z366_9p, ↓z366_10, ↓z366_10p0, ↓z366_10p1, ↓z366_11, ↓z366_12, ↓z366_12p, ↓sg0, ↓sg1, ↓sg2, ↓sg3, ↓sg4, ↓sg5, ↓sg6, ↓sg7, ↓sg8, ↓sg9, ↓sg10, ↓sg11, ↓sg12, ↓sg13, ↓sg14, ↓sg15, ↓sg16, ↓sg17, ↓ss0, ↓ss1, ↓ss2, ↓ss3, ↓ss4, ↓ss5, ↓ss6, ↓ss7, ↓ss8, ↓ss9, ↓ss10, ↓ss11, ↓ss12, ↓ss13, ↓ss14, ↓ss15, ↓ss16, ↓ss17, t0, ↓aft_of (ec), w0, ↓aft_of (e0)]
    by_cases w1 : w = 1
    · simp +decide only [x189_0, x189_1, x189_2, x189_5, x189_6, x189_7, x189_10, x189_13, x189_14, x189_15, x189_16, x189_60, x189_61, x189_62, x189_63, x189_66, x189_67, x189_68, x189_69, x189_72, x189_73, x189_74, x189_75, x189_76, x189_79, x189_80, x189_81, x189_82, x189_83, x189_86, x189_87, x189_88, x189_89, x189_92, x189_93, x189_94, x189_95, x189_98, x189_99, x189_100, x189_101, x189_102, x189_103, x189_106, x189_109, x189_110, x189_111, x189_113, x189_116, x189_118, x189_121, x189_122, x189_123, x189_125, aft_some, aft_void, Option.bind_some, Option.toList_some, Option.toList_none, List.cons_append, List.nil_append, if_true, if_false, ↓reduceIte, eq_self, z366_o, ↓z366_0, ↓z366_0p, ↓z366_1, ↓z366_2, ↓z366_3, ↓z366_4, ↓z366_4p, ↓z366_5, ↓z366_6, ↓z366_6p0, ↓z366_6p1, ↓z366_7, ↓z366_8, ↓z366_8p, ↓z366_9, ↓z366_9p, ↓z366_10, ↓z366_10p0, ↓z366_10p1, ↓z366_11, ↓z366_12, ↓z366_12p, ↓sg0, ↓sg1, ↓sg2, ↓sg3, ↓sg4, ↓sg5, ↓sg6, ↓sg7, ↓sg8, ↓sg9, ↓sg10, ↓sg11, ↓sg12, ↓sg13, ↓sg14, ↓sg15, ↓sg16, ↓sg17, ↓ss0, ↓ss1, ↓ss2, ↓ss3, ↓ss4, ↓ss5, ↓ss6, ↓ss7, ↓ss8, ↓ss9, ↓ss10, ↓ss11, ↓ss12, ↓ss13, ↓ss14, ↓ss15, ↓ss16, ↓ss17, t0, ↓aft_of (ec), w0, w1, ↓aft_of (eo)]
    by_cases w2 : w = 2
    · simp +decide only [x189_0, x189_1, x189_2, x189_5, x189_6, x189_7, x189_10, x189_13, x189_14, x189_15, x189_16, x189_60, x189_61, x189_62, x189_63, x189_66, x189_67, x189_68, x189_69, x189_72, x189_73, x189_74, x189_75, x189_76, x189_79, x189_80, x189_81, x189_82, x189_83, x189_86, x189_87, x189_88, x189_89, x189_92, x189_93, x189_94, x189_95, x189_98, x189_99, x189_100, x189_101, x189_102, x189_103, x189_106, x189_109, x189_110, x189_111, x189_113, x189_116, x189_118, x189_121, x189_122, x189_123, x189_125, aft_some, aft_void, Option.bind_some, Option.toList_some, Option.toList_none, List.cons_append, List.nil_append, if_true, if_false, ↓reduceIte, eq_self, z366_o, ↓z366_0, ↓z366_0p, ↓z366_1, ↓z366_2, ↓z366_3, ↓z366_4, ↓z366_4p, ↓z366_5, ↓z366_6, ↓z366_6p0, ↓z366_6p1, ↓z366_7, ↓z366_8, ↓z366_8p, ↓z366_9, ↓z366_9p, ↓z366_10, ↓z366_10p0, ↓z366_10p1, ↓z366_11, ↓z366_12, ↓z366_12p, ↓sg0, ↓sg1, ↓sg2, ↓sg3, ↓sg4, ↓sg5, ↓sg6, ↓sg7, ↓sg8, ↓sg9, ↓sg10, ↓sg11, ↓sg12, ↓sg13, ↓sg14, ↓sg15, ↓sg16, ↓sg17, ↓ss0, ↓ss1, ↓ss2, ↓ss3, ↓ss4, ↓ss5, ↓ss6, ↓ss7, ↓ss8, ↓ss9, ↓ss10, ↓ss11, ↓ss12, ↓ss13, ↓ss14, ↓ss15, ↓ss16, ↓ss17, t0, ↓aft_of (ec), w0, w1, w2, ↓aft_of (e1)]
    by_cases w3 : w = 3
    · simp +decide only [x189_0, x189_1, x189_2, x189_5, x189_6, x189_7, x189_10, x189_13, x189_14, x189_15, x189_16, x189_60, x189_61, x189_62, x189_63, x189_66, x189_67, x189_68, x189_69, x189_72, x189_73, x189_74, x189_75, x189_76, x189_79, x189_80, x189_81, x189_82, x189_83, x189_86, x189_87, x189_88, x189_89, x189_92, x189_93, x189_94, x189_95, x189_98, x189_99, x189_100, x189_101, x189_102, x189_103, x189_106, x189_109, x189_110, x189_111, x189_113, x189_116, x189_118, x189_121, x189_122, x189_123, x189_125, aft_some, aft_void, Option.bind_some, Option.toList_some, Option.toList_none, List.cons_append, List.nil_append, if_true, if_false, ↓reduceIte, eq_self, z366_o, ↓z366_0, ↓z366_0p, ↓z366_1, ↓z366_2, ↓z366_3, ↓z366_4, ↓z366_4p, ↓z366_5, ↓z366_6, ↓z366_6p0, ↓z366_6p1, ↓z366_7, ↓z366_8, ↓z366_8p, ↓z366_9, ↓z366_9p, ↓z366_10, ↓z366_10p0, ↓z366_10p1, ↓z366_11, ↓z366_12, ↓z366_12p, ↓sg0, ↓sg1, ↓sg2, ↓sg3, ↓sg4, ↓sg5, ↓sg6, ↓sg7, ↓sg8, ↓sg9, ↓sg10, ↓sg11, ↓sg12, ↓sg13, ↓sg14, ↓sg15, ↓sg16, ↓sg17, ↓ss0, ↓ss1, ↓ss2, ↓ss3, ↓ss4, ↓ss5, ↓ss6, ↓ss7, ↓ss8, ↓ss9, ↓ss10, ↓ss11, ↓ss12, ↓ss13, ↓ss14, ↓ss15, ↓ss16, ↓ss17, t0, ↓aft_of (ec), w0, w1, w2, w3, ↓aft_of (e2)]
    by_cases w4 : w = 4
    · simp +decide only [x189_0, x189_1, x189_2, x189_5, x189_6, x189_7, x189_10, x189_13, x189_14, x189_15, x189_16, x189_60, x189_61, x189_62, x189_63, x189_66, x189_67, x189_68, x189_69, x189_72, x189_73, x189_74, x189_75, x189_76, x189_79, x189_80, x189_81, x189_82, x189_83, x189_86, x189_87, x189_88, x189_89, x189_92, x189_93, x189_94, x189_95, x189_98, x189_99, x189_100, x189_101, x189_102, x189_103, x189_106, x189_109, x189_110, x189_111, x189_113, x189_116, x189_118, x189_121, x189_122, x189_123, x189_125, aft_some, aft_void, Option.bind_some, Option.toList_some, Option.toList_none, List.cons_append, List.nil_append, if_true, if_false, ↓reduceIte, eq_self, z366_o, ↓z366_0, ↓z366_0p, ↓z366_1, ↓z366_2, ↓z366_3, ↓z366_4, ↓z366_4p, ↓z366_5, ↓z366_6, ↓z366_6p0, ↓z366_6p1, ↓z366_7, ↓z366_8, ↓z366_8p, ↓z366_9, ↓z366_9p, ↓z366_10, ↓z366_10p0, ↓z366_10p1, ↓z366_11, ↓z366_12, ↓z366_12p, ↓sg0, ↓sg1, ↓sg2, ↓sg3, ↓sg4, ↓sg5, ↓sg6, ↓sg7, ↓sg8, ↓sg9, ↓sg10, ↓sg11, ↓sg12, ↓sg13, ↓sg14, ↓sg15, ↓sg16, ↓sg17, ↓ss0, ↓ss1, ↓ss2, ↓ss3, ↓ss4, ↓ss5, ↓ss6, ↓ss7, ↓ss8, ↓ss9, ↓ss10, ↓ss11, ↓ss12, ↓ss13, ↓ss14, ↓ss15, ↓ss16, ↓ss17, t0, ↓aft_of (ec), w0, w1, w2, w3, w4, ↓aft_of (eb)]
    by_cases w5 : w = 5
    · simp +decide only [x189_0, x189_1, x189_2, x189_5, x189_6, x189_7, x189_10, x189_13, x189_14, x189_15, x189_16, x189_60, x189_61, x189_62, x189_63, x189_66, x189_67, x189_68, x189_69, x189_72, x189_73, x189_74, x189_75, x189_76, x189_79, x189_80, x189_81, x189_82, x189_83, x189_86, x189_87, x189_88, x189_89, x189_92, x189_93, x189_94, x189_95, x189_98, x189_99, x189_100, x189_101, x189_102, x189_103, x189_106, x189_109, x189_110, x189_111, x189_113, x189_116, x189_118, x189_121, x189_122, x189_123, x189_125, aft_some, aft_void, Option.bind_some, Option.toList_some, Option.toList_none, List.cons_append, List.nil_append, if_true, if_false, ↓reduceIte, eq_self, z366_o, ↓z366_0, ↓z366_0p, ↓z366_1, ↓z366_2, ↓z366_3, ↓z366_4, ↓z366_4p, ↓z366_5, ↓z366_6, ↓z366_6p0, ↓z366_6p1, ↓z366_7, ↓z366_8, ↓z366_8p, ↓z366_9, ↓z366_9p, ↓z366_10, ↓z366_10p0, ↓z366_10p1, ↓z366_11, ↓z366_12, ↓z366_12p, ↓sg0, ↓sg1, ↓sg2, ↓sg3, ↓sg4, ↓sg5, ↓sg6, ↓sg7, ↓sg8, ↓sg9, ↓sg10, ↓sg11, ↓sg12, ↓sg13, ↓sg14, ↓sg15, ↓sg16, ↓sg17, ↓ss0, ↓ss1, ↓ss2, ↓ss3, ↓ss4, ↓ss5, ↓ss6, ↓ss7, ↓ss8, ↓ss9, ↓ss10, ↓ss11, ↓ss12, ↓ss13, ↓ss14, ↓ss15, ↓ss16, ↓ss17, t0, ↓aft_of (ec), w0, w1, w2, w3, w4, w5, ↓aft_of (ed5)]
    by_cases w6 : w = 6
    · rw [ed] at e0 ⊢
      rw [nI_clamp (by omega)]
      have ev := r_nextVisit (T := T) (P := P) a2 hw.1.1.1.1 hd
      rw [a13 d hd] at ev
      have hne : ∀ a, a ≤ 7 → (nI (s.1.1.1 0 + a) = 99999) = False := fun a ha => by
        rw [show (99999 : Int32) = nI 99999 from rfl, nI_inj (by have := hw.1.1.1.1; omega) (by decide)]
        exact eq_false (by have := hw.1.1.1.1; omega)
      rcases nv_or (s.1.1.2.1 2 d) (s.1.1.1 0) with q | ⟨a, ha, q⟩
      · rw [q] at ev
        rw [q]
        simp +decide only [x189_0, x189_1, x189_2, x189_5, x189_6, x189_7, x189_10, x189_13, x189_14, x189_15, x189_16, x189_60, x189_61, x189_62, x189_63, x189_66, x189_67, x189_68, x189_69, x189_72, x189_73, x189_74, x189_75, x189_76, x189_79, x189_80, x189_81, x189_82, x189_83, x189_86, x189_87, x189_88, x189_89, x189_92, x189_93, x189_94, x189_95, x189_98, x189_99, x189_100, x189_101, x189_102, x189_103, x189_106, x189_109, x189_110, x189_111, x189_113, x189_116, x189_118, x189_121, x189_122, x189_123, x189_125, aft_some, aft_void, Option.bind_some, Option.toList_some, Option.toList_none, List.cons_append, List.nil_append, if_true, if_false, ↓reduceIte, eq_self, z366_o, ↓z366_0, ↓z366_0p, ↓z366_1, ↓z366_2, ↓z366_3, ↓z366_4, ↓z366_4p, ↓z366_5, ↓z366_6, ↓z366_6p0, ↓z366_6p1, ↓z366_7, ↓z366_8, ↓z366_8p, ↓z366_9, ↓z366_9p, ↓z366_10, ↓z366_10p0, ↓z366_10p1, ↓z366_11, ↓z366_12, ↓z366_12p, ↓sg0, ↓sg1, ↓sg2, ↓sg3, ↓sg4, ↓sg5, ↓sg6, ↓sg7, ↓sg8, ↓sg9, ↓sg10, ↓sg11, ↓sg12, ↓sg13, ↓sg14, ↓sg15, ↓sg16, ↓sg17, ↓ss0, ↓ss1, ↓ss2, ↓ss3, ↓ss4, ↓ss5, ↓ss6, ↓ss7, ↓ss8, ↓ss9, ↓ss10, ↓ss11, ↓ss12, ↓ss13, ↓ss14, ↓ss15, ↓ss16, ↓ss17, t0, ↓aft_of (ec), w0, w1, w2, w3, w4, w5, w6, ↓aft_of (e0), ↓aft_of (ev)]
      · rw [q] at ev
        rw [q]
        simp +decide only [x189_0, x189_1, x189_2, x189_5, x189_6, x189_7, x189_10, x189_13, x189_14, x189_15, x189_16, x189_60, x189_61, x189_62, x189_63, x189_66, x189_67, x189_68, x189_69, x189_72, x189_73, x189_74, x189_75, x189_76, x189_79, x189_80, x189_81, x189_82, x189_83, x189_86, x189_87, x189_88, x189_89, x189_92, x189_93, x189_94, x189_95, x189_98, x189_99, x189_100, x189_101, x189_102, x189_103, x189_106, x189_109, x189_110, x189_111, x189_113, x189_116, x189_118, x189_121, x189_122, x189_123, x189_125, aft_some, aft_void, Option.bind_some, Option.toList_some, Option.toList_none, List.cons_append, List.nil_append, if_true, if_false, ↓reduceIte, eq_self, z366_o, ↓z366_0, ↓z366_0p, ↓z366_1, ↓z366_2, ↓z366_3, ↓z366_4, ↓z366_4p, ↓z366_5, ↓z366_6, ↓z366_6p0, ↓z366_6p1, ↓z366_7, ↓z366_8, ↓z366_8p, ↓z366_9, ↓z366_9p, ↓z366_10, ↓z366_10p0, ↓z366_10p1, ↓z366_11, ↓z366_12, ↓z366_12p, ↓sg0, ↓sg1, ↓sg2, ↓sg3, ↓sg4, ↓sg5, ↓sg6, ↓sg7, ↓sg8, ↓sg9, ↓sg10, ↓sg11, ↓sg12, ↓sg13, ↓sg14, ↓sg15, ↓sg16, ↓sg17, ↓ss0, ↓ss1, ↓ss2, ↓ss3, ↓ss4, ↓ss5, ↓ss6, ↓ss7, ↓ss8, ↓ss9, ↓ss10, ↓ss11, ↓ss12, ↓ss13, ↓ss14, ↓ss15, ↓ss16, ↓ss17, t0, ↓aft_of (ec), w0, w1, w2, w3, w4, w5, w6, ↓aft_of (e0), ↓aft_of (ev), hne a ha]
    simp +decide only [x189_0, x189_1, x189_2, x189_5, x189_6, x189_7, x189_10, x189_13, x189_14, x189_15, x189_16, x189_60, x189_61, x189_62, x189_63, x189_66, x189_67, x189_68, x189_69, x189_72, x189_73, x189_74, x189_75, x189_76, x189_79, x189_80, x189_81, x189_82, x189_83, x189_86, x189_87, x189_88, x189_89, x189_92, x189_93, x189_94, x189_95, x189_98, x189_99, x189_100, x189_101, x189_102, x189_103, x189_106, x189_109, x189_110, x189_111, x189_113, x189_116, x189_118, x189_121, x189_122, x189_123, x189_125, aft_some, aft_void, Option.bind_some, Option.toList_some, Option.toList_none, List.cons_append, List.nil_append, if_true, if_false, ↓reduceIte, eq_self, z366_o, ↓z366_0, ↓z366_0p, ↓z366_1, ↓z366_2, ↓z366_3, ↓z366_4, ↓z366_4p, ↓z366_5, ↓z366_6, ↓z366_6p0, ↓z366_6p1, ↓z366_7, ↓z366_8, ↓z366_8p, ↓z366_9, ↓z366_9p, ↓z366_10, ↓z366_10p0, ↓z366_10p1, ↓z366_11, ↓z366_12, ↓z366_12p, ↓sg0, ↓sg1, ↓sg2, ↓sg3, ↓sg4, ↓sg5, ↓sg6, ↓sg7, ↓sg8, ↓sg9, ↓sg10, ↓sg11, ↓sg12, ↓sg13, ↓sg14, ↓sg15, ↓sg16, ↓sg17, ↓ss0, ↓ss1, ↓ss2, ↓ss3, ↓ss4, ↓ss5, ↓ss6, ↓ss7, ↓ss8, ↓ss9, ↓ss10, ↓ss11, ↓ss12, ↓ss13, ↓ss14, ↓ss15, ↓ss16, ↓ss17, t0, ↓aft_of (ec), w0, w1, w2, w3, w4, w5, w6]
  · rw [if_neg ch]
    have e0 : (if c < 0 then (0 : Int32) else if c < nI (s.1.1.1 1) then 1 else 0) = 0 := by
      by_cases q : c < 0
      · rw [if_pos q]
      · rw [if_neg q, if_neg (fun z => ch ⟨q, z⟩)]
    rw [e0] at ec
    simp +decide only [x189_0, x189_1, x189_2, x189_5, x189_6, x189_7, x189_10, x189_13, x189_14, x189_15, x189_16, x189_60, x189_61, x189_62, x189_63, x189_66, x189_67, x189_68, x189_69, x189_72, x189_73, x189_74, x189_75, x189_76, x189_79, x189_80, x189_81, x189_82, x189_83, x189_86, x189_87, x189_88, x189_89, x189_92, x189_93, x189_94, x189_95, x189_98, x189_99, x189_100, x189_101, x189_102, x189_103, x189_106, x189_109, x189_110, x189_111, x189_113, x189_116, x189_118, x189_121, x189_122, x189_123, x189_125, aft_some, aft_void, Option.bind_some, Option.toList_some, Option.toList_none, List.cons_append, List.nil_append, if_true, if_false, ↓reduceIte, eq_self, z366_o, ↓z366_0, ↓z366_0p, ↓z366_1, ↓z366_2, ↓z366_3, ↓z366_4, ↓z366_4p, ↓z366_5, ↓z366_6, ↓z366_6p0, ↓z366_6p1, ↓z366_7, ↓z366_8, ↓z366_8p, ↓z366_9, ↓z366_9p, ↓z366_10, ↓z366_10p0, ↓z366_10p1, ↓z366_11, ↓z366_12, ↓z366_12p, ↓sg0, ↓sg1, ↓sg2, ↓sg3, ↓sg4, ↓sg5, ↓sg6, ↓sg7, ↓sg8, ↓sg9, ↓sg10, ↓sg11, ↓sg12, ↓sg13, ↓sg14, ↓sg15, ↓sg16, ↓sg17, ↓ss0, ↓ss1, ↓ss2, ↓ss3, ↓ss4, ↓ss5, ↓ss6, ↓ss7, ↓ss8, ↓ss9, ↓ss10, ↓ss11, ↓ss12, ↓ss13, ↓ss14, ↓ss15, ↓ss16, ↓ss17, t0, ↓aft_of (ec)]
theorem dig4 (a b c d : Int32) : 1000 * a + 100 * b + 10 * c + d = (((0 * 10 + a) * 10 + b) * 10 + c) * 10 + d := by grind
theorem r_digits {b : kT} (hb : bR f i b) (hi : i < 8) (r o : Nat) (hr : (r = 1 ∧ o = 5) ∨ (r = 2 ∧ o = 9) ∨ (r = 3 ∧ o = 13)) : X 190 0 [.ref 366, .int (nI i), .int (nI o)] [] (H (upA T 367 f) P) = some (some (.int (dgt (b r))), H (upA T 367 f) P) := by
  have ho : o ≤ 13 := by omega
  have e0 := r_of (T := T) (P := P) (f := f) (i := i) (w := o + 0) (y := nI o) rfl hi (by omega)
  have e1 := r_of (T := T) (P := P) (f := f) (i := i) (w := o + 1) (y := nI o + 1) (nI_add o 1) hi (by omega)
  have e2 := r_of (T := T) (P := P) (f := f) (i := i) (w := o + 2) (y := nI o + 2) (nI_add o 2) hi (by omega)
  have e3 := r_of (T := T) (P := P) (f := f) (i := i) (w := o + 3) (y := nI o + 3) (nI_add o 3) hi (by omega)
  have v : ∀ k, k < 4 → f (694 + 17 * i + (o + k)) = b r k := by
    intro k hk
    rcases hr with ⟨rfl, rfl⟩ | ⟨rfl, rfl⟩ | ⟨rfl, rfl⟩
    · exact (hb.2 k hk).1
    · exact (hb.2 k hk).2.1
    · exact (hb.2 k hk).2.2
  rw [v 0 (by decide)] at e0
  rw [v 1 (by decide)] at e1
  rw [v 2 (by decide)] at e2
  rw [v 3 (by decide)] at e3
  simp +decide only [x190_0, x190_3, x190_4, x190_5, x190_6, x190_9, x190_10, x190_12, x190_13, x190_14, x190_15, x190_16, x190_17, x190_20, x190_21, x190_22, x190_24, x190_25, x190_26, x190_27, x190_28, x190_29, x190_32, x190_33, x190_34, x190_35, x190_36, x190_37, x190_38, x190_39, x190_42, x190_43, aft_some, aft_void, Option.bind_some, Option.toList_some, Option.toList_none, List.cons_append, List.nil_append, if_true, if_false, ↓reduceIte, eq_self, z366_o, ↓z366_0, ↓z366_0p, ↓z366_1, ↓z366_2, ↓z366_3, ↓z366_4, ↓z366_4p, ↓z366_5, ↓z366_6, ↓z366_6p0, ↓z366_6p1, ↓z366_7, ↓z366_8, ↓z366_8p, ↓z366_9, ↓z366_9p, ↓z366_10, ↓z366_10p0, ↓z366_10p1, ↓z366_11, ↓z366_12, ↓z366_12p, ↓sg0, ↓sg1, ↓sg2, ↓sg3, ↓sg4, ↓sg5, ↓sg6, ↓sg7, ↓sg8, ↓sg9, ↓sg10, ↓sg11, ↓sg12, ↓sg13, ↓sg14, ↓sg15, ↓sg16, ↓sg17, ↓ss0, ↓ss1, ↓ss2, ↓ss3, ↓ss4, ↓ss5, ↓ss6, ↓ss7, ↓ss8, ↓ss9, ↓ss10, ↓ss11, ↓ss12, ↓ss13, ↓ss14, ↓ss15, ↓ss16, ↓ss17, ↓aft_of (e0), ↓aft_of (e1), ↓aft_of (e2), ↓aft_of (e3)]
  rw [dig4]
  rfl
theorem q_basOf (h : CF T f s) (hw : WG s) (x w : Int32) : RQ T P f 191 [.ref 366, .int x, .int w, .long 0] (gBasOf x w s, s) := by
  have t0 := thr (f := f) h.1.1
  have hs := h.2
  have h8 : s.1.2.length ≤ 8 := hw.1.1.1.2.2.2.1
  have e1 := r_placeOf (T := T) (P := P) (x := x) hs hw.1.1
  refine RQ.same h ?_
  unfold plI at e1
  unfold gBasOf
  cases hq : wnK x s.1.2 with
  | none =>
    rw [hq] at e1
    simp only at e1 ⊢
    simp +decide only [x191_0, x191_1, x191_2, x191_5, x191_6, x191_7, x191_10, x191_11, x191_12, x191_14, x191_17, x191_18, x191_19, x191_20, x191_76, x191_77, x191_78, x191_79, x191_82, x191_83, x191_84, x191_85, x191_86, x191_89, x191_90, x191_91, x191_92, x191_93, x191_96, x191_97, x191_98, x191_99, x191_100, x191_103, x191_104, x191_105, x191_106, x191_108, x191_111, x191_112, x191_113, x191_114, x191_116, x191_119, x191_120, x191_121, x191_122, x191_125, x191_128, x191_129, x191_132, x191_133, x191_134, x191_135, x191_136, x191_139, x191_140, x191_141, x191_142, x191_145, x191_146, x191_147, x191_148, x191_149, x191_152, x191_153, x191_155, aft_some, aft_void, Option.bind_some, Option.toList_some, Option.toList_none, List.cons_append, List.nil_append, if_true, if_false, ↓reduceIte, eq_self, z366_o, ↓z366_0, ↓z366_0p, ↓z366_1, ↓z366_2, ↓z366_3, ↓z366_4, ↓z366_4p, ↓z366_5, ↓z366_6, ↓z366_6p0, ↓z366_6p1, ↓z366_7, ↓z366_8, ↓z366_8p, ↓z366_9, ↓z366_9p, ↓z366_10, ↓z366_10p0, ↓z366_10p1, ↓z366_11, ↓z366_12, ↓z366_12p, ↓sg0, ↓sg1, ↓sg2, ↓sg3, ↓sg4, ↓sg5, ↓sg6, ↓sg7, ↓sg8, ↓sg9, ↓sg10, ↓sg11, ↓sg12, ↓sg13, ↓sg14, ↓sg15, ↓sg16, ↓sg17, ↓ss0, ↓ss1, ↓ss2, ↓ss3, ↓ss4, ↓ss5, ↓ss6, ↓ss7, ↓ss8, ↓ss9, ↓ss10, ↓ss11, ↓ss12, ↓ss13, ↓ss14, ↓ss15, ↓ss16, ↓ss17, t0, ↓aft_of (e1)]
  | some i =>
    rw [hq] at e1
    simp only at e1 ⊢
    obtain ⟨-, hi, -⟩ := fst_some hq
    rw [Nat.zero_add] at hi
    have ni5 : (nI i = -5) = False := nI_ne5 (by omega)
    have i8 : i < 8 := by omega
    have hb := hs.2.2.2.1 i hi
    have o0 := r_of (T := T) (P := P) (f := f) (i := i) (w := 1) (y := 1) rfl i8 (by decide)
    rw [hb.1.2.1] at o0
    have o1 := r_of (T := T) (P := P) (f := f) (i := i) (w := 3) (y := 3) rfl i8 (by decide)
    rw [hb.1.2.2.2.1] at o1
    have o2 := r_of (T := T) (P := P) (f := f) (i := i) (w := 2) (y := 2) rfl i8 (by decide)
    rw [hb.1.2.2.1] at o2
    have o9 := r_of (T := T) (P := P) (f := f) (i := i) (w := 4) (y := 4) rfl i8 (by decide)
    rw [hb.1.2.2.2.2] at o9
    have d5 := r_digits (T := T) (P := P) hb i8 1 5 (by decide)
    have d9 := r_digits (T := T) (P := P) hb i8 2 9 (by decide)
    have d13 := r_digits (T := T) (P := P) hb i8 3 13 (by decide)
    rw [show nI 5 = 5 from rfl] at d5
    rw [show nI 9 = 9 from rfl] at d9
    rw [show nI 13 = 13 from rfl] at d13
    have er := r_isReady (T := T) (P := P) hb i8
    rw [hw.1.1.rdE hi] at er
    have ep := r_priceOf (T := T) (P := P) hb i8
    have em := r_minutesLeft (T := T) (P := P) hb i8
    unfold tbK
    by_cases w0 : w = 0
    · simp +decide only [x191_0, x191_1, x191_2, x191_5, x191_6, x191_7, x191_10, x191_11, x191_12, x191_14, x191_17, x191_18, x191_19, x191_20, x191_76, x191_77, x191_78, x191_79, x191_82, x191_83, x191_84, x191_85, x191_86, x191_89, x191_90, x191_91, x191_92, x191_93, x191_96, x191_97, x191_98, x191_99, x191_100, x191_103, x191_104, x191_105, x191_106, x191_108, x191_111, x191_112, x191_113, x191_114, x191_116, x191_119, x191_120, x191_121, x191_122, x191_125, x191_128, x191_129, x191_132, x191_133, x191_134, x191_135, x191_136, x191_139, x191_140, x191_141, x191_142, x191_145, x191_146, x191_147, x191_148, x191_149, x191_152, x191_153, x191_155, aft_some, aft_void, Option.bind_some, Option.toList_some, Option.toList_none, List.cons_append, List.nil_append, if_true, if_false, ↓reduceIte, eq_self, z366_o, ↓z366_0, ↓z366_0p, ↓z366_1, ↓z366_2, ↓z366_3, ↓z366_4, ↓z366_4p, ↓z366_5, ↓z366_6, ↓z366_6p0, ↓z366_6p1, ↓z366_7, ↓z366_8, ↓z366_8p, ↓z366_9, ↓z366_9p, ↓z366_10, ↓z366_10p0, ↓z366_10p1, ↓z366_11, ↓z366_12, ↓z366_12p, ↓sg0, ↓sg1, ↓sg2, ↓sg3, ↓sg4, ↓sg5, ↓sg6, ↓sg7, ↓sg8, ↓sg9, ↓sg10, ↓sg11, ↓sg12, ↓sg13, ↓sg14, ↓sg15, ↓sg16, ↓sg17, ↓ss0, ↓ss1, ↓ss2, ↓ss3, ↓ss4, ↓ss5, ↓ss6, ↓ss7, ↓ss8, ↓ss9, ↓ss10, ↓ss11, ↓ss12, ↓ss13, ↓ss14, ↓ss15, ↓ss16, ↓ss17, t0, ↓aft_of (e1), ni5, w0, ↓aft_of (o0)]
    by_cases w1 : w = 1
    · simp +decide only [x191_0, x191_1, x191_2, x191_5, x191_6, x191_7, x191_10, x191_11, x191_12, x191_14, x191_17, x191_18, x191_19, x191_20, x191_76, x191_77, x191_78, x191_79, x191_82, x191_83, x191_84, x191_85, x191_86, x191_89, x191_90, x191_91, x191_92, x191_93, x191_96, x191_97, x191_98, x191_99, x191_100, x191_103, x191_104, x191_105, x191_106, x191_108, x191_111, x191_112, x191_113, x191_114, x191_116, x191_119, x191_120, x191_121, x191_122, x191_125, x191_128, x191_129, x191_132, x191_133, x191_134, x191_135, x191_136, x191_139, x191_140, x191_141, x191_142, x191_145, x191_146, x191_147, x191_148, x191_149, x191_152, x191_153, x191_155, aft_some, aft_void, Option.bind_some, Option.toList_some, Option.toList_none, List.cons_append, List.nil_append, if_true, if_false, ↓reduceIte, eq_self, z366_o, ↓z366_0, ↓z366_0p, ↓z366_1, ↓z366_2, ↓z366_3, ↓z366_4, ↓z366_4p, ↓z366_5, ↓z366_6, ↓z366_6p0, ↓z366_6p1, ↓z366_7, ↓z366_8, ↓z366_8p, ↓z366_9, ↓z366_9p, ↓z366_10, ↓z366_10p0, ↓z366_10p1, ↓z366_11, ↓z366_12, ↓z366_12p, ↓sg0, ↓sg1, ↓sg2, ↓sg3, ↓sg4, ↓sg5, ↓sg6, ↓sg7, ↓sg8, ↓sg9, ↓sg10, ↓sg11, ↓sg12, ↓sg13, ↓sg14, ↓sg15, ↓sg16, ↓sg17, ↓ss0, ↓ss1, ↓ss2, ↓ss3, ↓ss4, ↓ss5, ↓ss6, ↓ss7, ↓ss8, ↓ss9, ↓ss10, ↓ss11, ↓ss12, ↓ss13, ↓ss14, ↓ss15, ↓ss16, ↓ss17, t0, ↓aft_of (e1), ni5, w0, w1, ↓aft_of (o1)]
    by_cases w2 : w = 2
    · simp +decide only [x191_0, x191_1, x191_2, x191_5, x191_6, x191_7, x191_10, x191_11, x191_12, x191_14, x191_17, x191_18, x191_19, x191_20, x191_76, x191_77, x191_78, x191_79, x191_82, x191_83, x191_84, x191_85, x191_86, x191_89, x191_90, x191_91, x191_92, x191_93, x191_96, x191_97, x191_98, x191_99, x191_100, x191_103, x191_104, x191_105, x191_106, x191_108, x191_111, x191_112, x191_113, x191_114, x191_116, x191_119, x191_120, x191_121, x191_122, x191_125, x191_128, x191_129, x191_132, x191_133, x191_134, x191_135, x191_136, x191_139, x191_140, x191_141, x191_142, x191_145, x191_146, x191_147, x191_148, x191_149, x191_152, x191_153, x191_155, aft_some, aft_void, Option.bind_some, Option.toList_some, Option.toList_none, List.cons_append, List.nil_append, if_true, if_false, ↓reduceIte, eq_self, z366_o, ↓z366_0, ↓z366_0p, ↓z366_1, ↓z366_2, ↓z366_3, ↓z366_4, ↓z366_4p, ↓z366_5, ↓z366_6, ↓z366_6p0, ↓z366_6p1, ↓z366_7, ↓z366_8, ↓z366_8p, ↓z366_9, ↓z366_9p, ↓z366_10, ↓z366_10p0, ↓z366_10p1, ↓z366_11, ↓z366_12, ↓z366_12p, ↓sg0, ↓sg1, ↓sg2, ↓sg3, ↓sg4, ↓sg5, ↓sg6, ↓sg7, ↓sg8, ↓sg9, ↓sg10, ↓sg11, ↓sg12, ↓sg13, ↓sg14, ↓sg15, ↓sg16, ↓sg17, ↓ss0, ↓ss1, ↓ss2, ↓ss3, ↓ss4, ↓ss5, ↓ss6, ↓ss7, ↓ss8, ↓ss9, ↓ss10, ↓ss11, ↓ss12, ↓ss13, ↓ss14, ↓ss15, ↓ss16, ↓ss17, t0, ↓aft_of (e1), ni5, w0, w1, w2, ↓aft_of (o2)]
    by_cases w3 : w = 3
    · simp +decide only [x191_0, x191_1, x191_2, x191_5, x191_6, x191_7, x191_10, x191_11, x191_12, x191_14, x191_17, x191_18, x191_19, x191_20, x191_76, x191_77, x191_78, x191_79, x191_82, x191_83, x191_84, x191_85, x191_86, x191_89, x191_90, x191_91, x191_92, x191_93, x191_96, x191_97, x191_98, x191_99, x191_100, x191_103, x191_104, x191_105, x191_106, x191_108, x191_111, x191_112, x191_113, x191_114, x191_116, x191_119, x191_120, x191_121, x191_122, x191_125, x191_128, x191_129, x191_132, x191_133, x191_134, x191_135, x191_136, x191_139, x191_140, x191_141, x191_142, x191_145, x191_146, x191_147, x191_148, x191_149, x191_152, x191_153, x191_155, aft_some, aft_void, Option.bind_some, Option.toList_some, Option.toList_none, List.cons_append, List.nil_append, if_true, if_false, ↓reduceIte, eq_self, z366_o, ↓z366_0, ↓z366_0p, ↓z366_1, ↓z366_2, ↓z366_3, ↓z366_4, ↓z366_4p, ↓z366_5, ↓z366_6, ↓z366_6p0, ↓z366_6p1, ↓z366_7, ↓z366_8, ↓z366_8p, ↓z366_9, ↓z366_9p, ↓z366_10, ↓z366_10p0, ↓z366_10p1, ↓z366_11, ↓z366_12, ↓z366_12p, ↓sg0, ↓sg1, ↓sg2, ↓sg3, ↓sg4, ↓sg5, ↓sg6, ↓sg7, ↓sg8, ↓sg9, ↓sg10, ↓sg11, ↓sg12, ↓sg13, ↓sg14, ↓sg15, ↓sg16, ↓sg17, ↓ss0, ↓ss1, ↓ss2, ↓ss3, ↓ss4, ↓ss5, ↓ss6, ↓ss7, ↓ss8, ↓ss9, ↓ss10, ↓ss11, ↓ss12, ↓ss13, ↓ss14, ↓ss15, ↓ss16, ↓ss17, t0, ↓aft_of (e1), ni5, w0, w1, w2, w3, ↓aft_of (d5)]
    by_cases w4 : w = 4
    · simp +decide only [x191_0, x191_1, x191_2, x191_5, x191_6, x191_7, x191_10, x191_11, x191_12, x191_14, x191_17, x191_18, x191_19, x191_20, x191_76, x191_77, x191_78, x191_79, x191_82, x191_83, x191_84, x191_85, x191_86, x191_89, x191_90, x191_91, x191_92, x191_93, x191_96, x191_97, x191_98, x191_99, x191_100, x191_103, x191_104, x191_105, x191_106, x191_108, x191_111, x191_112, x191_113, x191_114, x191_116, x191_119, x191_120, x191_121, x191_122, x191_125, x191_128, x191_129, x191_132, x191_133, x191_134, x191_135, x191_136, x191_139, x191_140, x191_141, x191_142, x191_145, x191_146, x191_147, x191_148, x191_149, x191_152, x191_153, x191_155, aft_some, aft_void, Option.bind_some, Option.toList_some, Option.toList_none, List.cons_append, List.nil_append, if_true, if_false, ↓reduceIte, eq_self, z366_o, ↓z366_0, ↓z366_0p, ↓z366_1, ↓z366_2, ↓z366_3, ↓z366_4, ↓z366_4p, ↓z366_5, ↓z366_6, ↓z366_6p0, ↓z366_6p1, ↓z366_7, ↓z366_8, ↓z366_8p, ↓z366_9, ↓z366_9p, ↓z366_10, ↓z366_10p0, ↓z366_10p1, ↓z366_11, ↓z366_12, ↓z366_12p, ↓sg0, ↓sg1, ↓sg2, ↓sg3, ↓sg4, ↓sg5, ↓sg6, ↓sg7, ↓sg8, ↓sg9, ↓sg10, ↓sg11, ↓sg12, ↓sg13, ↓sg14, ↓sg15, ↓sg16, ↓sg17, ↓ss0, ↓ss1, ↓ss2, ↓ss3, ↓ss4, ↓ss5, ↓ss6, ↓ss7, ↓ss8, ↓ss9, ↓ss10, ↓ss11, ↓ss12, ↓ss13, ↓ss14, ↓ss15, ↓ss16, ↓ss17, t0, ↓aft_of (e1), ni5, w0, w1, w2, w3, w4, ↓aft_of (d9)]
    by_cases w5 : w = 5
    · simp +decide only [x191_0, x191_1, x191_2, x191_5, x191_6, x191_7, x191_10, x191_11, x191_12, x191_14, x191_17, x191_18, x191_19, x191_20, x191_76, x191_77, x191_78, x191_79, x191_82, x191_83, x191_84, x191_85, x191_86, x191_89, x191_90, x191_91, x191_92, x191_93, x191_96, x191_97, x191_98, x191_99, x191_100, x191_103, x191_104, x191_105, x191_106, x191_108, x191_111, x191_112, x191_113, x191_114, x191_116, x191_119, x191_120, x191_121, x191_122, x191_125, x191_128, x191_129, x191_132, x191_133, x191_134, x191_135, x191_136, x191_139, x191_140, x191_141, x191_142, x191_145, x191_146, x191_147, x191_148, x191_149, x191_152, x191_153, x191_155, aft_some, aft_void, Option.bind_some, Option.toList_some, Option.toList_none, List.cons_append, List.nil_append, if_true, if_false, ↓reduceIte, eq_self, z366_o, ↓z366_0, ↓z366_0p, ↓z366_1, ↓z366_2, ↓z366_3, ↓z366_4, ↓z366_4p, ↓z366_5, ↓z366_6, ↓z366_6p0, ↓z366_6p1, ↓z366_7, ↓z366_8, ↓z366_8p, ↓z366_9, ↓z366_9p, ↓z366_10, ↓z366_10p0, ↓z366_10p1, ↓z366_11, ↓z366_12, ↓z366_12p, ↓sg0, ↓sg1, ↓sg2, ↓sg3, ↓sg4, ↓sg5, ↓sg6, ↓sg7, ↓sg8, ↓sg9, ↓sg10, ↓sg11, ↓sg12, ↓sg13, ↓sg14, ↓sg15, ↓sg16, ↓sg17, ↓ss0, ↓ss1, ↓ss2, ↓ss3, ↓ss4, ↓ss5, ↓ss6, ↓ss7, ↓ss8, ↓ss9, ↓ss10, ↓ss11, ↓ss12, ↓ss13, ↓ss14, ↓ss15, ↓ss16, ↓ss17, t0, ↓aft_of (e1), ni5, w0, w1, w2, w3, w4, w5, ↓aft_of (d13)]
    by_cases w6 : w = 6
    · have h01 : rdK (gK s.1.2 i) = 0 ∨ rdK (gK s.1.2 i) = 1 := by
        unfold rdK
        repeat' split
        all_goals simp
      rcases h01 with hx | hx
      · rw [hx] at er
        simp +decide only [x191_0, x191_1, x191_2, x191_5, x191_6, x191_7, x191_10, x191_11, x191_12, x191_14, x191_17, x191_18, x191_19, x191_20, x191_76, x191_77, x191_78, x191_79, x191_82, x191_83, x191_84, x191_85, x191_86, x191_89, x191_90, x191_91, x191_92, x191_93, x191_96, x191_97, x191_98, x191_99, x191_100, x191_103, x191_104, x191_105, x191_106, x191_108, x191_111, x191_112, x191_113, x191_114, x191_116, x191_119, x191_120, x191_121, x191_122, x191_125, x191_128, x191_129, x191_132, x191_133, x191_134, x191_135, x191_136, x191_139, x191_140, x191_141, x191_142, x191_145, x191_146, x191_147, x191_148, x191_149, x191_152, x191_153, x191_155, aft_some, aft_void, Option.bind_some, Option.toList_some, Option.toList_none, List.cons_append, List.nil_append, if_true, if_false, ↓reduceIte, eq_self, z366_o, ↓z366_0, ↓z366_0p, ↓z366_1, ↓z366_2, ↓z366_3, ↓z366_4, ↓z366_4p, ↓z366_5, ↓z366_6, ↓z366_6p0, ↓z366_6p1, ↓z366_7, ↓z366_8, ↓z366_8p, ↓z366_9, ↓z366_9p, ↓z366_10, ↓z366_10p0, ↓z366_10p1, ↓z366_11, ↓z366_12, ↓z366_12p, ↓sg0, ↓sg1, ↓sg2, ↓sg3, ↓sg4, ↓sg5, ↓sg6, ↓sg7, ↓sg8, ↓sg9, ↓sg10, ↓sg11, ↓sg12, ↓sg13, ↓sg14, ↓sg15, ↓sg16, ↓sg17, ↓ss0, ↓ss1, ↓ss2, ↓ss3, ↓ss4, ↓ss5, ↓ss6, ↓ss7, ↓ss8, ↓ss9, ↓ss10, ↓ss11, ↓ss12, ↓ss13, ↓ss14, ↓ss15, ↓ss16, ↓ss17, t0, ↓aft_of (e1), ni5, w0, w1, w2, w3, w4, w5, w6, ↓aft_of (er), hx]
      · rw [hx] at er
        simp +decide only [x191_0, x191_1, x191_2, x191_5, x191_6, x191_7, x191_10, x191_11, x191_12, x191_14, x191_17, x191_18, x191_19, x191_20, x191_76, x191_77, x191_78, x191_79, x191_82, x191_83, x191_84, x191_85, x191_86, x191_89, x191_90, x191_91, x191_92, x191_93, x191_96, x191_97, x191_98, x191_99, x191_100, x191_103, x191_104, x191_105, x191_106, x191_108, x191_111, x191_112, x191_113, x191_114, x191_116, x191_119, x191_120, x191_121, x191_122, x191_125, x191_128, x191_129, x191_132, x191_133, x191_134, x191_135, x191_136, x191_139, x191_140, x191_141, x191_142, x191_145, x191_146, x191_147, x191_148, x191_149, x191_152, x191_153, x191_155, aft_some, aft_void, Option.bind_some, Option.toList_some, Option.toList_none, List.cons_append, List.nil_append, if_true, if_false, ↓reduceIte, eq_self, z366_o, ↓z366_0, ↓z366_0p, ↓z366_1, ↓z366_2, ↓z366_3, ↓z366_4, ↓z366_4p, ↓z366_5, ↓z366_6, ↓z366_6p0, ↓z366_6p1, ↓z366_7, ↓z366_8, ↓z366_8p, ↓z366_9, ↓z366_9p, ↓z366_10, ↓z366_10p0, ↓z366_10p1, ↓z366_11, ↓z366_12, ↓z366_12p, ↓sg0, ↓sg1, ↓sg2, ↓sg3, ↓sg4, ↓sg5, ↓sg6, ↓sg7, ↓sg8, ↓sg9, ↓sg10, ↓sg11, ↓sg12, ↓sg13, ↓sg14, ↓sg15, ↓sg16, ↓sg17, ↓ss0, ↓ss1, ↓ss2, ↓ss3, ↓ss4, ↓ss5, ↓ss6, ↓ss7, ↓ss8, ↓ss9, ↓ss10, ↓ss11, ↓ss12, ↓ss13, ↓ss14, ↓ss15, ↓ss16, ↓ss17, t0, ↓aft_of (e1), ni5, w0, w1, w2, w3, w4, w5, w6, ↓aft_of (er), hx]
    by_cases w7 : w = 7
    · simp +decide only [x191_0, x191_1, x191_2, x191_5, x191_6, x191_7, x191_10, x191_11, x191_12, x191_14, x191_17, x191_18, x191_19, x191_20, x191_76, x191_77, x191_78, x191_79, x191_82, x191_83, x191_84, x191_85, x191_86, x191_89, x191_90, x191_91, x191_92, x191_93, x191_96, x191_97, x191_98, x191_99, x191_100, x191_103, x191_104, x191_105, x191_106, x191_108, x191_111, x191_112, x191_113, x191_114, x191_116, x191_119, x191_120, x191_121, x191_122, x191_125, x191_128, x191_129, x191_132, x191_133, x191_134, x191_135, x191_136, x191_139, x191_140, x191_141, x191_142, x191_145, x191_146, x191_147, x191_148, x191_149, x191_152, x191_153, x191_155, aft_some, aft_void, Option.bind_some, Option.toList_some, Option.toList_none, List.cons_append, List.nil_append, if_true, if_false, ↓reduceIte, eq_self, z366_o, ↓z366_0, ↓z366_0p, ↓z366_1, ↓z366_2, ↓z366_3, ↓z366_4, ↓z366_4p, ↓z366_5, ↓z366_6, ↓z366_6p0, ↓z366_6p1, ↓z366_7, ↓z366_8, ↓z366_8p, ↓z366_9, ↓z366_9p, ↓z366_10, ↓z366_10p0, ↓z366_10p1, ↓z366_11, ↓z366_12, ↓z366_12p, ↓sg0, ↓sg1, ↓sg2, ↓sg3, ↓sg4, ↓sg5, ↓sg6, ↓sg7, ↓sg8, ↓sg9, ↓sg10, ↓sg11, ↓sg12, ↓sg13, ↓sg14, ↓sg15, ↓sg16, ↓sg17, ↓ss0, ↓ss1, ↓ss2, ↓ss3, ↓ss4, ↓ss5, ↓ss6, ↓ss7, ↓ss8, ↓ss9, ↓ss10, ↓ss11, ↓ss12, ↓ss13, ↓ss14, ↓ss15, ↓ss16, ↓ss17, t0, ↓aft_of (e1), ni5, w0, w1, w2, w3, w4, w5, w6, w7, ↓aft_of (ep)]
    by_cases w8 : w = 8
    · simp +decide only [x191_0, x191_1, x191_2, x191_5, x191_6, x191_7, x191_10, x191_11, x191_12, x191_14, x191_17, x191_18, x191_19, x191_20, x191_76, x191_77, x191_78, x191_79, x191_82, x191_83, x191_84, x191_85, x191_86, x191_89, x191_90, x191_91, x191_92, x191_93, x191_96, x191_97, x191_98, x191_99, x191_100, x191_103, x191_104, x191_105, x191_106, x191_108, x191_111, x191_112, x191_113, x191_114, x191_116, x191_119, x191_120, x191_121, x191_122, x191_125, x191_128, x191_129, x191_132, x191_133, x191_134, x191_135, x191_136, x191_139, x191_140, x191_141, x191_142, x191_145, x191_146, x191_147, x191_148, x191_149, x191_152, x191_153, x191_155, aft_some, aft_void, Option.bind_some, Option.toList_some, Option.toList_none, List.cons_append, List.nil_append, if_true, if_false, ↓reduceIte, eq_self, z366_o, ↓z366_0, ↓z366_0p, ↓z366_1, ↓z366_2, ↓z366_3, ↓z366_4, ↓z366_4p, ↓z366_5, ↓z366_6, ↓z366_6p0, ↓z366_6p1, ↓z366_7, ↓z366_8, ↓z366_8p, ↓z366_9, ↓z366_9p, ↓z366_10, ↓z366_10p0, ↓z366_10p1, ↓z366_11, ↓z366_12, ↓z366_12p, ↓sg0, ↓sg1, ↓sg2, ↓sg3, ↓sg4, ↓sg5, ↓sg6, ↓sg7, ↓sg8, ↓sg9, ↓sg10, ↓sg11, ↓sg12, ↓sg13, ↓sg14, ↓sg15, ↓sg16, ↓sg17, ↓ss0, ↓ss1, ↓ss2, ↓ss3, ↓ss4, ↓ss5, ↓ss6, ↓ss7, ↓ss8, ↓ss9, ↓ss10, ↓ss11, ↓ss12, ↓ss13, ↓ss14, ↓ss15, ↓ss16, ↓ss17, t0, ↓aft_of (e1), ni5, w0, w1, w2, w3, w4, w5, w6, w7, w8, ↓aft_of (em)]
    by_cases w9 : w = 9
    · simp +decide only [x191_0, x191_1, x191_2, x191_5, x191_6, x191_7, x191_10, x191_11, x191_12, x191_14, x191_17, x191_18, x191_19, x191_20, x191_76, x191_77, x191_78, x191_79, x191_82, x191_83, x191_84, x191_85, x191_86, x191_89, x191_90, x191_91, x191_92, x191_93, x191_96, x191_97, x191_98, x191_99, x191_100, x191_103, x191_104, x191_105, x191_106, x191_108, x191_111, x191_112, x191_113, x191_114, x191_116, x191_119, x191_120, x191_121, x191_122, x191_125, x191_128, x191_129, x191_132, x191_133, x191_134, x191_135, x191_136, x191_139, x191_140, x191_141, x191_142, x191_145, x191_146, x191_147, x191_148, x191_149, x191_152, x191_153, x191_155, aft_some, aft_void, Option.bind_some, Option.toList_some, Option.toList_none, List.cons_append, List.nil_append, if_true, if_false, ↓reduceIte, eq_self, z366_o, ↓z366_0, ↓z366_0p, ↓z366_1, ↓z366_2, ↓z366_3, ↓z366_4, ↓z366_4p, ↓z366_5, ↓z366_6, ↓z366_6p0, ↓z366_6p1, ↓z366_7, ↓z366_8, ↓z366_8p, ↓z366_9, ↓z366_9p, ↓z366_10, ↓z366_10p0, ↓z366_10p1, ↓z366_11, ↓z366_12, ↓z366_12p, ↓sg0, ↓sg1, ↓sg2, ↓sg3, ↓sg4, ↓sg5, ↓sg6, ↓sg7, ↓sg8, ↓sg9, ↓sg10, ↓sg11, ↓sg12, ↓sg13, ↓sg14, ↓sg15, ↓sg16, ↓sg17, ↓ss0, ↓ss1, ↓ss2, ↓ss3, ↓ss4, ↓ss5, ↓ss6, ↓ss7, ↓ss8, ↓ss9, ↓ss10, ↓ss11, ↓ss12, ↓ss13, ↓ss14, ↓ss15, ↓ss16, ↓ss17, t0, ↓aft_of (e1), ni5, w0, w1, w2, w3, w4, w5, w6, w7, w8, w9, ↓aft_of (o9)]
    simp +decide only [x191_0, x191_1, x191_2, x191_5, x191_6, x191_7, x191_10, x191_11, x191_12, x191_14, x191_17, x191_18, x191_19, x191_20, x191_76, x191_77, x191_78, x191_79, x191_82, x191_83, x191_84, x191_85, x191_86, x191_89, x191_90, x191_91, x191_92, x191_93, x191_96, x191_97, x191_98, x191_99, x191_100, x191_103, x191_104, x191_105, x191_106, x191_108, x191_111, x191_112, x191_113, x191_114, x191_116, x191_119, x191_120, x191_121, x191_122, x191_125, x191_128, x191_129, x191_132, x191_133, x191_134, x191_135, x191_136, x191_139, x191_140, x191_141, x191_142, x191_145, x191_146, x191_147, x191_148, x191_149, x191_152, x191_153, x191_155, aft_some, aft_void, Option.bind_some, Option.toList_some, Option.toList_none, List.cons_append, List.nil_append, if_true, if_false, ↓reduceIte, eq_self, z366_o, ↓z366_0, ↓z366_0p, ↓z366_1, ↓z366_2, ↓z366_3, ↓z366_4, ↓z366_4p, ↓z366_5, ↓z366_6, ↓z366_6p0, ↓z366_6p1, ↓z366_7, ↓z366_8, ↓z366_8p, ↓z366_9, ↓z366_9p, ↓z366_10, ↓z366_10p0, ↓z366_10p1, ↓z366_11, ↓z366_12, ↓z366_12p, ↓sg0, ↓sg1, ↓sg2, ↓sg3, ↓sg4, ↓sg5, ↓sg6, ↓sg7, ↓sg8, ↓sg9, ↓sg10, ↓sg11, ↓sg12, ↓sg13, ↓sg14, ↓sg15, ↓sg16, ↓sg17, ↓ss0, ↓ss1, ↓ss2, ↓ss3, ↓ss4, ↓ss5, ↓ss6, ↓ss7, ↓ss8, ↓ss9, ↓ss10, ↓ss11, ↓ss12, ↓ss13, ↓ss14, ↓ss15, ↓ss16, ↓ss17, t0, ↓aft_of (e1), ni5, w0, w1, w2, w3, w4, w5, w6, w7, w8, w9]
theorem ms_01 (k : Nat) (d : Int32) (b : kT) : msK k d b = 0 ∨ msK k d b = 1 := by
  unfold msK
  split <;> simp
theorem r_belongs (h : sR f N V K B R) (hw : WF N V K B) {p : Nat} (hp : p < N 3) (hk : k < 4) (ek : V 46 p = nI k) : X 192 0 [.ref 366, .int (nI p), .long 0, .long 0] [] (H (upA T 367 f) P) = some (some (.int (msN k (V 47 p) K)), H (upA T 367 f) P) := by
  have h8 := hw.1.2.2.2.1
  have h16 := h.1.n
  have hstep : ∀ i, i < K.length → X 192 4 [.ref 366, .int (nI p), .int (smI (fun i => msK k (V 47 p) (gK K i)) i), .int (nI i)] [] (H (upA T 367 f) P) = X 192 4 [.ref 366, .int (nI p), .int (smI (fun i => msK k (V 47 p) (gK K i)) (i + 1)), .int (nI (i + 1))] [] (H (upA T 367 f) P) := by
    intro i hi
    have e := r_canBelong (T := T) (P := P) h hw hp hi hk ek
    have hlt : nI i < nI K.length := nI_lt hi (by omega)
    rw [x192_4]
    rcases ms_01 k (V 47 p) (gK K i) with hx | hx
    · rw [hx] at e
      simp +decide only [x192_0, x192_1, x192_2, x192_3, x192_5, x192_6, x192_9, x192_11, x192_12, x192_15, x192_16, x192_17, x192_18, x192_19, x192_22, x192_25, x192_26, x192_29, x192_30, x192_31, x192_32, x192_35, x192_38, x192_39, aft_some, aft_void, Option.bind_some, Option.toList_some, Option.toList_none, List.cons_append, List.nil_append, if_true, if_false, ↓reduceIte, eq_self, z366_o, ↓z366_0, ↓z366_0p, ↓z366_1, ↓z366_2, ↓z366_3, ↓z366_4, ↓z366_4p, ↓z366_5, ↓z366_6, ↓z366_6p0, ↓z366_6p1, ↓z366_7, ↓z366_8, ↓z366_8p, ↓z366_9, ↓z366_9p, ↓z366_10, ↓z366_10p0, ↓z366_10p1, ↓z366_11, ↓z366_12, ↓z366_12p, ↓sg0, ↓sg1, ↓sg2, ↓sg3, ↓sg4, ↓sg5, ↓sg6, ↓sg7, ↓sg8, ↓sg9, ↓sg10, ↓sg11, ↓sg12, ↓sg13, ↓sg14, ↓sg15, ↓sg16, ↓sg17, ↓ss0, ↓ss1, ↓ss2, ↓ss3, ↓ss4, ↓ss5, ↓ss6, ↓ss7, ↓ss8, ↓ss9, ↓ss10, ↓ss11, ↓ss12, ↓ss13, ↓ss14, ↓ss15, ↓ss16, ↓ss17, h16, hlt, ↓aft_of (e), hx, nI_1, smI]
    · rw [hx] at e
      simp +decide only [x192_0, x192_1, x192_2, x192_3, x192_5, x192_6, x192_9, x192_11, x192_12, x192_15, x192_16, x192_17, x192_18, x192_19, x192_22, x192_25, x192_26, x192_29, x192_30, x192_31, x192_32, x192_35, x192_38, x192_39, aft_some, aft_void, Option.bind_some, Option.toList_some, Option.toList_none, List.cons_append, List.nil_append, if_true, if_false, ↓reduceIte, eq_self, z366_o, ↓z366_0, ↓z366_0p, ↓z366_1, ↓z366_2, ↓z366_3, ↓z366_4, ↓z366_4p, ↓z366_5, ↓z366_6, ↓z366_6p0, ↓z366_6p1, ↓z366_7, ↓z366_8, ↓z366_8p, ↓z366_9, ↓z366_9p, ↓z366_10, ↓z366_10p0, ↓z366_10p1, ↓z366_11, ↓z366_12, ↓z366_12p, ↓sg0, ↓sg1, ↓sg2, ↓sg3, ↓sg4, ↓sg5, ↓sg6, ↓sg7, ↓sg8, ↓sg9, ↓sg10, ↓sg11, ↓sg12, ↓sg13, ↓sg14, ↓sg15, ↓sg16, ↓sg17, ↓ss0, ↓ss1, ↓ss2, ↓ss3, ↓ss4, ↓ss5, ↓ss6, ↓ss7, ↓ss8, ↓ss9, ↓ss10, ↓ss11, ↓ss12, ↓ss13, ↓ss14, ↓ss15, ↓ss16, ↓ss17, h16, hlt, ↓aft_of (e), hx, nI_1, smI]
  simp +decide only [x192_0, x192_1, x192_2, x192_3, x192_5, x192_6, x192_9, x192_11, x192_12, x192_15, x192_16, x192_17, x192_18, x192_19, x192_22, x192_25, x192_26, x192_29, x192_30, x192_31, x192_32, x192_35, x192_38, x192_39, aft_some, aft_void, Option.bind_some, Option.toList_some, Option.toList_none, List.cons_append, List.nil_append, if_true, if_false, ↓reduceIte, eq_self]
  rw [show X 192 4 [.ref 366, .int (nI p), .int 0, .int 0] [] (H (upA T 367 f) P) = _ from loop_up (fun i => X 192 4 [.ref 366, .int (nI p), .int (smI (fun i => msK k (V 47 p) (gK K i)) i), .int (nI i)] [] (H (upA T 367 f) P)) K.length hstep, x192_4]
  simp +decide only [x192_0, x192_1, x192_2, x192_3, x192_5, x192_6, x192_9, x192_11, x192_12, x192_15, x192_16, x192_17, x192_18, x192_19, x192_22, x192_25, x192_26, x192_29, x192_30, x192_31, x192_32, x192_35, x192_38, x192_39, aft_some, aft_void, Option.bind_some, Option.toList_some, Option.toList_none, List.cons_append, List.nil_append, if_true, if_false, ↓reduceIte, eq_self, z366_o, ↓z366_0, ↓z366_0p, ↓z366_1, ↓z366_2, ↓z366_3, ↓z366_4, ↓z366_4p, ↓z366_5, ↓z366_6, ↓z366_6p0, ↓z366_6p1, ↓z366_7, ↓z366_8, ↓z366_8p, ↓z366_9, ↓z366_9p, ↓z366_10, ↓z366_10p0, ↓z366_10p1, ↓z366_11, ↓z366_12, ↓z366_12p, ↓sg0, ↓sg1, ↓sg2, ↓sg3, ↓sg4, ↓sg5, ↓sg6, ↓sg7, ↓sg8, ↓sg9, ↓sg10, ↓sg11, ↓sg12, ↓sg13, ↓sg14, ↓sg15, ↓sg16, ↓sg17, ↓ss0, ↓ss1, ↓ss2, ↓ss3, ↓ss4, ↓ss5, ↓ss6, ↓ss7, ↓ss8, ↓ss9, ↓ss10, ↓ss11, ↓ss12, ↓ss13, ↓ss14, ↓ss15, ↓ss16, ↓ss17, h16, nI_nlt (Nat.le_refl K.length) (show K.length < 2 ^ 31 by omega)]
  rfl
theorem r_lowestFor (h : sR f N V K B R) (hw : WF N V K B) {p : Nat} (hp : p < N 3) (hk : k < 4) (ek : V 46 p = nI k) : X 193 0 [.ref 366, .int (nI p), .long 0] [] (H (upA T 367 f) P) = some (some (.int (msL k (V 47 p) K)), H (upA T 367 f) P) := by
  have h8 := hw.1.2.2.2.1
  have h16 := h.1.n
  have key : ∀ m i, i + m = K.length → X 193 2 [.ref 366, .int (nI p), .int (nI i)] [] (H (upA T 367 f) P) = some (some (.int (match fstN (fun i => msK k (V 47 p) (gK K i) = 1) i m with
      | some i => gK K i 0 0
      | none => -5)), H (upA T 367 f) P) := by
    intro m
    induction m with
    | zero =>
      intro i hi
      have hi : i = K.length := by omega
      subst hi
      rw [x193_2]
      simp +decide only [x193_0, x193_1, x193_3, x193_4, x193_7, x193_9, x193_10, x193_13, x193_14, x193_15, x193_16, x193_19, x193_22, x193_23, x193_24, x193_25, x193_28, x193_29, x193_32, x193_35, x193_37, aft_some, aft_void, Option.bind_some, Option.toList_some, Option.toList_none, List.cons_append, List.nil_append, if_true, if_false, ↓reduceIte, eq_self, z366_o, ↓z366_0, ↓z366_0p, ↓z366_1, ↓z366_2, ↓z366_3, ↓z366_4, ↓z366_4p, ↓z366_5, ↓z366_6, ↓z366_6p0, ↓z366_6p1, ↓z366_7, ↓z366_8, ↓z366_8p, ↓z366_9, ↓z366_9p, ↓z366_10, ↓z366_10p0, ↓z366_10p1, ↓z366_11, ↓z366_12, ↓z366_12p, ↓sg0, ↓sg1, ↓sg2, ↓sg3, ↓sg4, ↓sg5, ↓sg6, ↓sg7, ↓sg8, ↓sg9, ↓sg10, ↓sg11, ↓sg12, ↓sg13, ↓sg14, ↓sg15, ↓sg16, ↓sg17, ↓ss0, ↓ss1, ↓ss2, ↓ss3, ↓ss4, ↓ss5, ↓ss6, ↓ss7, ↓ss8, ↓ss9, ↓ss10, ↓ss11, ↓ss12, ↓ss13, ↓ss14, ↓ss15, ↓ss16, ↓ss17, h16, nI_nlt (Nat.le_refl K.length) (show K.length < 2 ^ 31 by omega), fstN]
    | succ m ih =>
      intro i hi
      have hi' : i < K.length := by omega
      have hlt : nI i < nI K.length := nI_lt hi' (by omega)
      have e := r_canBelong (T := T) (P := P) h hw hp hi' hk ek
      have o0 := r_of (T := T) (P := P) (f := f) (i := i) (w := 0) (y := 0) rfl (by omega) (by decide)
      rw [(h.2.2.2.1 i hi').1.1] at o0
      rw [x193_2]
      rcases ms_01 k (V 47 p) (gK K i) with hx | hx
      · have hn : ¬ msK k (V 47 p) (gK K i) = 1 := by rw [hx]; decide
        have hf : fstN (fun i => msK k (V 47 p) (gK K i) = 1) i (m + 1) = fstN (fun i => msK k (V 47 p) (gK K i) = 1) (i + 1) m := if_neg hn
        rw [hf]
        rw [hx] at e
        simp +decide only [x193_0, x193_1, x193_3, x193_4, x193_7, x193_9, x193_10, x193_13, x193_14, x193_15, x193_16, x193_19, x193_22, x193_23, x193_24, x193_25, x193_28, x193_29, x193_32, x193_35, x193_37, aft_some, aft_void, Option.bind_some, Option.toList_some, Option.toList_none, List.cons_append, List.nil_append, if_true, if_false, ↓reduceIte, eq_self, z366_o, ↓z366_0, ↓z366_0p, ↓z366_1, ↓z366_2, ↓z366_3, ↓z366_4, ↓z366_4p, ↓z366_5, ↓z366_6, ↓z366_6p0, ↓z366_6p1, ↓z366_7, ↓z366_8, ↓z366_8p, ↓z366_9, ↓z366_9p, ↓z366_10, ↓z366_10p0, ↓z366_10p1, ↓z366_11, ↓z366_12, ↓z366_12p, ↓sg0, ↓sg1, ↓sg2, ↓sg3, ↓sg4, ↓sg5, ↓sg6, ↓sg7, ↓sg8, ↓sg9, ↓sg10, ↓sg11, ↓sg12, ↓sg13, ↓sg14, ↓sg15, ↓sg16, ↓sg17, ↓ss0, ↓ss1, ↓ss2, ↓ss3, ↓ss4, ↓ss5, ↓ss6, ↓ss7, ↓ss8, ↓ss9, ↓ss10, ↓ss11, ↓ss12, ↓ss13, ↓ss14, ↓ss15, ↓ss16, ↓ss17, h16, hlt, ↓aft_of (e), nI_1]
        exact ih (i + 1) (by omega)
      · have hf : fstN (fun i => msK k (V 47 p) (gK K i) = 1) i (m + 1) = some i := if_pos hx
        rw [hf]
        rw [hx] at e
        simp +decide only [x193_0, x193_1, x193_3, x193_4, x193_7, x193_9, x193_10, x193_13, x193_14, x193_15, x193_16, x193_19, x193_22, x193_23, x193_24, x193_25, x193_28, x193_29, x193_32, x193_35, x193_37, aft_some, aft_void, Option.bind_some, Option.toList_some, Option.toList_none, List.cons_append, List.nil_append, if_true, if_false, ↓reduceIte, eq_self, z366_o, ↓z366_0, ↓z366_0p, ↓z366_1, ↓z366_2, ↓z366_3, ↓z366_4, ↓z366_4p, ↓z366_5, ↓z366_6, ↓z366_6p0, ↓z366_6p1, ↓z366_7, ↓z366_8, ↓z366_8p, ↓z366_9, ↓z366_9p, ↓z366_10, ↓z366_10p0, ↓z366_10p1, ↓z366_11, ↓z366_12, ↓z366_12p, ↓sg0, ↓sg1, ↓sg2, ↓sg3, ↓sg4, ↓sg5, ↓sg6, ↓sg7, ↓sg8, ↓sg9, ↓sg10, ↓sg11, ↓sg12, ↓sg13, ↓sg14, ↓sg15, ↓sg16, ↓sg17, ↓ss0, ↓ss1, ↓ss2, ↓ss3, ↓ss4, ↓ss5, ↓ss6, ↓ss7, ↓ss8, ↓ss9, ↓ss10, ↓ss11, ↓ss12, ↓ss13, ↓ss14, ↓ss15, ↓ss16, ↓ss17, h16, hlt, ↓aft_of (e), ↓aft_of (o0)]
  simp +decide only [x193_0, x193_1, x193_3, x193_4, x193_7, x193_9, x193_10, x193_13, x193_14, x193_15, x193_16, x193_19, x193_22, x193_23, x193_24, x193_25, x193_28, x193_29, x193_32, x193_35, x193_37, aft_some, aft_void, Option.bind_some, Option.toList_some, Option.toList_none, List.cons_append, List.nil_append, if_true, if_false, ↓reduceIte, eq_self]
  exact key K.length 0 (by omega)
theorem q_lost (h : CF T f s) (hw : WG s) (p w : Int32) : RQ T P f 194 [.ref 366, .int p, .int w] (gLost p w s, s) := by
  have t0 := thr (f := f) h.1.1
  have hs := h.2
  have h20 : s.1.1.1 3 ≤ 20 := hw.1.1.1.2.2.2.2.1
  have f10 : f 10 = nI (s.1.1.1 3) := hs.1.2.2.1.2.2
  have ei := r_isLost (T := T) (P := P) (f := f) (x := p)
  rw [f10, in_lt (show s.1.1.1 3 < 2 ^ 31 by omega)] at ei
  refine RQ.same h ?_
  unfold gLost
  by_cases ch : hsI (s.1.1.1 3) p
  · rw [if_pos ch]
    rw [if_neg ch.1, if_pos ch.2] at ei
    obtain ⟨m, hm, rfl⟩ := nI_ex ch.1 (by omega) ch.2
    rw [nI_clamp (by omega)]
    obtain ⟨kk, hk4, ek⟩ := hw.1.1.2.2.2.2.2.2.1 m hm
    obtain ⟨l1, l2⟩ := hs.2.2.2.2.1 m hm
    have eb := r_belongs (T := T) (P := P) hs hw.1.1 hm hk4 ek
    have el := r_lowestFor (T := T) (P := P) hs hw.1.1 hm hk4 ek
    have k0 : nI (830 + 2 * m) + 0 = nI (830 + 2 * m) := Int32.add_zero _
    have k1 : nI (830 + 2 * m) + 1 = nI (830 + 2 * m + 1) := nI_add _ 1
    by_cases w0 : w = 0
    · simp +decide only [x194_0, x194_1, x194_2, x194_5, x194_6, x194_7, x194_10, x194_13, x194_14, x194_15, x194_16, x194_48, x194_49, x194_52, x194_55, x194_56, x194_57, x194_58, x194_59, x194_60, x194_61, x194_62, x194_63, x194_64, x194_65, x194_68, x194_69, x194_70, x194_71, x194_74, x194_75, x194_77, aft_some, aft_void, Option.bind_some, Option.toList_some, Option.toList_none, List.cons_append, List.nil_append, if_true, if_false, ↓reduceIte, eq_self, z366_o, ↓z366_0, ↓z366_0p, ↓z366_1, ↓z366_2, ↓z366_3, ↓z366_4, ↓z366_4p, ↓z366_5, ↓z366_6, ↓z366_6p0, ↓z366_6p1, ↓z366_7, ↓z366_8, ↓z366_8p, ↓z366_9, ↓z366_9p, ↓z366_10, ↓z366_10p0, ↓z366_10p1, ↓z366_11, ↓z366_12, ↓z366_12p, ↓sg0, ↓sg1, ↓sg2, ↓sg3, ↓sg4, ↓sg5, ↓sg6, ↓sg7, ↓sg8, ↓sg9, ↓sg10, ↓sg11, ↓sg12, ↓sg13, ↓sg14, ↓sg15, ↓sg16, ↓sg17, ↓ss0, ↓ss1, ↓ss2, ↓ss3, ↓ss4, ↓ss5, ↓ss6, ↓ss7, ↓ss8, ↓ss9, ↓ss10, ↓ss11, ↓ss12, ↓ss13, ↓ss14, ↓ss15, ↓ss16, ↓ss17, t0, ↓aft_of (ei), w0, ixL, k0, ↓s_g (show 830 + 2 * m < 912 by omega), l1]
    by_cases w1 : w = 1
    · simp +decide only [x194_0, x194_1, x194_2, x194_5, x194_6, x194_7, x194_10, x194_13, x194_14, x194_15, x194_16, x194_48, x194_49, x194_52, x194_55, x194_56, x194_57, x194_58, x194_59, x194_60, x194_61, x194_62, x194_63, x194_64, x194_65, x194_68, x194_69, x194_70, x194_71, x194_74, x194_75, x194_77, aft_some, aft_void, Option.bind_some, Option.toList_some, Option.toList_none, List.cons_append, List.nil_append, if_true, if_false, ↓reduceIte, eq_self, z366_o, ↓z366_0, ↓z366_0p, ↓z366_1, ↓z366_2, ↓z366_3, ↓z366_4, ↓z366_4p, ↓z366_5, ↓z366_6, ↓z366_6p0, ↓z366_6p1, ↓z366_7, ↓z366_8, ↓z366_8p, ↓z366_9, ↓z366_9p, ↓z366_10, ↓z366_10p0, ↓z366_10p1, ↓z366_11, ↓z366_12, ↓z366_12p, ↓sg0, ↓sg1, ↓sg2, ↓sg3, ↓sg4, ↓sg5, ↓sg6, ↓sg7, ↓sg8, ↓sg9, ↓sg10, ↓sg11, ↓sg12, ↓sg13, ↓sg14, ↓sg15, ↓sg16, ↓sg17, ↓ss0, ↓ss1, ↓ss2, ↓ss3, ↓ss4, ↓ss5, ↓ss6, ↓ss7, ↓ss8, ↓ss9, ↓ss10, ↓ss11, ↓ss12, ↓ss13, ↓ss14, ↓ss15, ↓ss16, ↓ss17, t0, ↓aft_of (ei), w0, w1, ixL, k1, ↓s_g (show 830 + 2 * m + 1 < 912 by omega), l2]
    rw [ek, nI_clamp (by omega)]
    by_cases w2 : w = 2
    · simp +decide only [x194_0, x194_1, x194_2, x194_5, x194_6, x194_7, x194_10, x194_13, x194_14, x194_15, x194_16, x194_48, x194_49, x194_52, x194_55, x194_56, x194_57, x194_58, x194_59, x194_60, x194_61, x194_62, x194_63, x194_64, x194_65, x194_68, x194_69, x194_70, x194_71, x194_74, x194_75, x194_77, aft_some, aft_void, Option.bind_some, Option.toList_some, Option.toList_none, List.cons_append, List.nil_append, if_true, if_false, ↓reduceIte, eq_self, z366_o, ↓z366_0, ↓z366_0p, ↓z366_1, ↓z366_2, ↓z366_3, ↓z366_4, ↓z366_4p, ↓z366_5, ↓z366_6, ↓z366_6p0, ↓z366_6p1, ↓z366_7, ↓z366_8, ↓z366_8p, ↓z366_9, ↓z366_9p, ↓z366_10, ↓z366_10p0, ↓z366_10p1, ↓z366_11, ↓z366_12, ↓z366_12p, ↓sg0, ↓sg1, ↓sg2, ↓sg3, ↓sg4, ↓sg5, ↓sg6, ↓sg7, ↓sg8, ↓sg9, ↓sg10, ↓sg11, ↓sg12, ↓sg13, ↓sg14, ↓sg15, ↓sg16, ↓sg17, ↓ss0, ↓ss1, ↓ss2, ↓ss3, ↓ss4, ↓ss5, ↓ss6, ↓ss7, ↓ss8, ↓ss9, ↓ss10, ↓ss11, ↓ss12, ↓ss13, ↓ss14, ↓ss15, ↓ss16, ↓ss17, t0, ↓aft_of (ei), w0, w1, w2, ↓aft_of (eb)]
    by_cases w3 : w = 3
    · simp +decide only [x194_0, x194_1, x194_2, x194_5, x194_6, x194_7, x194_10, x194_13, x194_14, x194_15, x194_16, x194_48, x194_49, x194_52, x194_55, x194_56, x194_57, x194_58, x194_59, x194_60, x194_61, x194_62, x194_63, x194_64, x194_65, x194_68, x194_69, x194_70, x194_71, x194_74, x194_75, x194_77, aft_some, aft_void, Option.bind_some, Option.toList_some, Option.toList_none, List.cons_append, List.nil_append, if_true, if_false, ↓reduceIte, eq_self, z366_o, ↓z366_0, ↓z366_0p, ↓z366_1, ↓z366_2, ↓z366_3, ↓z366_4, ↓z366_4p, ↓z366_5, ↓z366_6, ↓z366_6p0, ↓z366_6p1, ↓z366_7, ↓z366_8, ↓z366_8p, ↓z366_9, ↓z366_9p, ↓z366_10, ↓z366_10p0, ↓z366_10p1, ↓z366_11, ↓z366_12, ↓z366_12p, ↓sg0, ↓sg1, ↓sg2, ↓sg3, ↓sg4, ↓sg5, ↓sg6, ↓sg7, ↓sg8, ↓sg9, ↓sg10, ↓sg11, ↓sg12, ↓sg13, ↓sg14, ↓sg15, ↓sg16, ↓sg17, ↓ss0, ↓ss1, ↓ss2, ↓ss3, ↓ss4, ↓ss5, ↓ss6, ↓ss7, ↓ss8, ↓ss9, ↓ss10, ↓ss11, ↓ss12, ↓ss13, ↓ss14, ↓ss15, ↓ss16, ↓ss17, t0, ↓aft_of (ei), w0, w1, w2, w3, ↓aft_of (el)]
    simp +decide only [x194_0, x194_1, x194_2, x194_5, x194_6, x194_7, x194_10, x194_13, x194_14, x194_15, x194_16, x194_48, x194_49, x194_52, x194_55, x194_56, x194_57, x194_58, x194_59, x194_60, x194_61, x194_62, x194_63, x194_64, x194_65, x194_68, x194_69, x194_70, x194_71, x194_74, x194_75, x194_77, aft_some, aft_void, Option.bind_some, Option.toList_some, Option.toList_none, List.cons_append, List.nil_append, if_true, if_false, ↓reduceIte, eq_self, z366_o, ↓z366_0, ↓z366_0p, ↓z366_1, ↓z366_2, ↓z366_3, ↓z366_4, ↓z366_4p, ↓z366_5, ↓z366_6, ↓z366_6p0, ↓z366_6p1, ↓z366_7, ↓z366_8, ↓z366_8p, ↓z366_9, ↓z366_9p, ↓z366_10, ↓z366_10p0, ↓z366_10p1, ↓z366_11, ↓z366_12, ↓z366_12p, ↓sg0, ↓sg1, ↓sg2, ↓sg3, ↓sg4, ↓sg5, ↓sg6, ↓sg7, ↓sg8, ↓sg9, ↓sg10, ↓sg11, ↓sg12, ↓sg13, ↓sg14, ↓sg15, ↓sg16, ↓sg17, ↓ss0, ↓ss1, ↓ss2, ↓ss3, ↓ss4, ↓ss5, ↓ss6, ↓ss7, ↓ss8, ↓ss9, ↓ss10, ↓ss11, ↓ss12, ↓ss13, ↓ss14, ↓ss15, ↓ss16, ↓ss17, t0, ↓aft_of (ei), w0, w1, w2, w3]
  · rw [if_neg ch]
    have e0 : (if p < 0 then (0 : Int32) else if p < nI (s.1.1.1 3) then 1 else 0) = 0 := by
      by_cases q : p < 0
      · rw [if_pos q]
      · rw [if_neg q, if_neg (fun z => ch ⟨q, z⟩)]
    rw [e0] at ei
    simp +decide only [x194_0, x194_1, x194_2, x194_5, x194_6, x194_7, x194_10, x194_13, x194_14, x194_15, x194_16, x194_48, x194_49, x194_52, x194_55, x194_56, x194_57, x194_58, x194_59, x194_60, x194_61, x194_62, x194_63, x194_64, x194_65, x194_68, x194_69, x194_70, x194_71, x194_74, x194_75, x194_77, aft_some, aft_void, Option.bind_some, Option.toList_some, Option.toList_none, List.cons_append, List.nil_append, if_true, if_false, ↓reduceIte, eq_self, z366_o, ↓z366_0, ↓z366_0p, ↓z366_1, ↓z366_2, ↓z366_3, ↓z366_4, ↓z366_4p, ↓z366_5, ↓z366_6, ↓z366_6p0, ↓z366_6p1, ↓z366_7, ↓z366_8, ↓z366_8p, ↓z366_9, ↓z366_9p, ↓z366_10, ↓z366_10p0, ↓z366_10p1, ↓z366_11, ↓z366_12, ↓z366_12p, ↓sg0, ↓sg1, ↓sg2, ↓sg3, ↓sg4, ↓sg5, ↓sg6, ↓sg7, ↓sg8, ↓sg9, ↓sg10, ↓sg11, ↓sg12, ↓sg13, ↓sg14, ↓sg15, ↓sg16, ↓sg17, ↓ss0, ↓ss1, ↓ss2, ↓ss3, ↓ss4, ↓ss5, ↓ss6, ↓ss7, ↓ss8, ↓ss9, ↓ss10, ↓ss11, ↓ss12, ↓ss13, ↓ss14, ↓ss15, ↓ss16, ↓ss17, t0, ↓aft_of (ei)]
theorem q_sure (h : CF T f s) (hw : WG s) : RQ T P f 208 [.ref 366, .long 0, .long 0] (gSure s, s) := by
  have t0 := thr (f := f) h.1.1
  have hs := h.2
  have h20 : s.1.1.1 3 ≤ 20 := hw.1.1.1.2.2.2.2.1
  have f10 : f 10 = nI (s.1.1.1 3) := hs.1.2.2.1.2.2
  refine RQ.same h ?_
  have hstep : ∀ i, i < s.1.1.1 3 → X 208 9 [.ref 366, .int (smI (fun p => if msN (s.1.1.2.1 46 p).toNatClampNeg (s.1.1.2.1 47 p) s.1.2 = 1 then 1 else 0) i), .int (nI i)] [] (H (upA T 367 f) P) = X 208 9 [.ref 366, .int (smI (fun p => if msN (s.1.1.2.1 46 p).toNatClampNeg (s.1.1.2.1 47 p) s.1.2 = 1 then 1 else 0) (i + 1)), .int (nI (i + 1))] [] (H (upA T 367 f) P) := by
    intro i hi
    obtain ⟨kk, hk4, ek⟩ := hw.1.1.2.2.2.2.2.2.1 i hi
    have eb := r_belongs (T := T) (P := P) hs hw.1.1 hi hk4 ek
    have hlt : nI i < nI (s.1.1.1 3) := nI_lt hi (by omega)
    have hcl : (s.1.1.2.1 46 i).toNatClampNeg = kk := by rw [ek, nI_clamp (by omega)]
    rw [x208_9]
    by_cases c : msN kk (s.1.1.2.1 47 i) s.1.2 = 1
    · simp +decide only [x208_0, x208_1, x208_2, x208_5, x208_6, x208_7, x208_8, x208_10, x208_11, x208_14, x208_16, x208_17, x208_20, x208_21, x208_22, x208_23, x208_26, x208_27, x208_30, x208_31, x208_34, x208_35, x208_36, x208_37, x208_40, x208_43, x208_44, aft_some, aft_void, Option.bind_some, Option.toList_some, Option.toList_none, List.cons_append, List.nil_append, if_true, if_false, ↓reduceIte, eq_self, z366_o, ↓z366_0, ↓z366_0p, ↓z366_1, ↓z366_2, ↓z366_3, ↓z366_4, ↓z366_4p, ↓z366_5, ↓z366_6, ↓z366_6p0, ↓z366_6p1, ↓z366_7, ↓z366_8, ↓z366_8p, ↓z366_9, ↓z366_9p, ↓z366_10, ↓z366_10p0, ↓z366_10p1, ↓z366_11, ↓z366_12, ↓z366_12p, ↓sg0, ↓sg1, ↓sg2, ↓sg3, ↓sg4, ↓sg5, ↓sg6, ↓sg7, ↓sg8, ↓sg9, ↓sg10, ↓sg11, ↓sg12, ↓sg13, ↓sg14, ↓sg15, ↓sg16, ↓sg17, ↓ss0, ↓ss1, ↓ss2, ↓ss3, ↓ss4, ↓ss5, ↓ss6, ↓ss7, ↓ss8, ↓ss9, ↓ss10, ↓ss11, ↓ss12, ↓ss13, ↓ss14, ↓ss15, ↓ss16, ↓ss17, f10, hlt, ↓aft_of (eb), c, hcl, nI_1, smI]
    · simp +decide only [x208_0, x208_1, x208_2, x208_5, x208_6, x208_7, x208_8, x208_10, x208_11, x208_14, x208_16, x208_17, x208_20, x208_21, x208_22, x208_23, x208_26, x208_27, x208_30, x208_31, x208_34, x208_35, x208_36, x208_37, x208_40, x208_43, x208_44, aft_some, aft_void, Option.bind_some, Option.toList_some, Option.toList_none, List.cons_append, List.nil_append, if_true, if_false, ↓reduceIte, eq_self, z366_o, ↓z366_0, ↓z366_0p, ↓z366_1, ↓z366_2, ↓z366_3, ↓z366_4, ↓z366_4p, ↓z366_5, ↓z366_6, ↓z366_6p0, ↓z366_6p1, ↓z366_7, ↓z366_8, ↓z366_8p, ↓z366_9, ↓z366_9p, ↓z366_10, ↓z366_10p0, ↓z366_10p1, ↓z366_11, ↓z366_12, ↓z366_12p, ↓sg0, ↓sg1, ↓sg2, ↓sg3, ↓sg4, ↓sg5, ↓sg6, ↓sg7, ↓sg8, ↓sg9, ↓sg10, ↓sg11, ↓sg12, ↓sg13, ↓sg14, ↓sg15, ↓sg16, ↓sg17, ↓ss0, ↓ss1, ↓ss2, ↓ss3, ↓ss4, ↓ss5, ↓ss6, ↓ss7, ↓ss8, ↓ss9, ↓ss10, ↓ss11, ↓ss12, ↓ss13, ↓ss14, ↓ss15, ↓ss16, ↓ss17, f10, hlt, ↓aft_of (eb), c, hcl, nI_1, smI]
  simp +decide only [x208_0, x208_1, x208_2, x208_5, x208_6, x208_7, x208_8, x208_10, x208_11, x208_14, x208_16, x208_17, x208_20, x208_21, x208_22, x208_23, x208_26, x208_27, x208_30, x208_31, x208_34, x208_35, x208_36, x208_37, x208_40, x208_43, x208_44, aft_some, aft_void, Option.bind_some, Option.toList_some, Option.toList_none, List.cons_append, List.nil_append, if_true, if_false, ↓reduceIte, eq_self, z366_o, ↓z366_0, ↓z366_0p, ↓z366_1, ↓z366_2, ↓z366_3, ↓z366_4, ↓z366_4p, ↓z366_5, ↓z366_6, ↓z366_6p0, ↓z366_6p1, ↓z366_7, ↓z366_8, ↓z366_8p, ↓z366_9, ↓z366_9p, ↓z366_10, ↓z366_10p0, ↓z366_10p1, ↓z366_11, ↓z366_12, ↓z366_12p, ↓sg0, ↓sg1, ↓sg2, ↓sg3, ↓sg4, ↓sg5, ↓sg6, ↓sg7, ↓sg8, ↓sg9, ↓sg10, ↓sg11, ↓sg12, ↓sg13, ↓sg14, ↓sg15, ↓sg16, ↓sg17, ↓ss0, ↓ss1, ↓ss2, ↓ss3, ↓ss4, ↓ss5, ↓ss6, ↓ss7, ↓ss8, ↓ss9, ↓ss10, ↓ss11, ↓ss12, ↓ss13, ↓ss14, ↓ss15, ↓ss16, ↓ss17, t0]
  rw [show X 208 9 [.ref 366, .int 0, .int 0] [] (H (upA T 367 f) P) = _ from loop_up (fun i => X 208 9 [.ref 366, .int (smI (fun p => if msN (s.1.1.2.1 46 p).toNatClampNeg (s.1.1.2.1 47 p) s.1.2 = 1 then 1 else 0) i), .int (nI i)] [] (H (upA T 367 f) P)) (s.1.1.1 3) hstep, x208_9]
  simp +decide only [x208_0, x208_1, x208_2, x208_5, x208_6, x208_7, x208_8, x208_10, x208_11, x208_14, x208_16, x208_17, x208_20, x208_21, x208_22, x208_23, x208_26, x208_27, x208_30, x208_31, x208_34, x208_35, x208_36, x208_37, x208_40, x208_43, x208_44, aft_some, aft_void, Option.bind_some, Option.toList_some, Option.toList_none, List.cons_append, List.nil_append, if_true, if_false, ↓reduceIte, eq_self, z366_o, ↓z366_0, ↓z366_0p, ↓z366_1, ↓z366_2, ↓z366_3, ↓z366_4, ↓z366_4p, ↓z366_5, ↓z366_6, ↓z366_6p0, ↓z366_6p1, ↓z366_7, ↓z366_8, ↓z366_8p, ↓z366_9, ↓z366_9p, ↓z366_10, ↓z366_10p0, ↓z366_10p1, ↓z366_11, ↓z366_12, ↓z366_12p, ↓sg0, ↓sg1, ↓sg2, ↓sg3, ↓sg4, ↓sg5, ↓sg6, ↓sg7, ↓sg8, ↓sg9, ↓sg10, ↓sg11, ↓sg12, ↓sg13, ↓sg14, ↓sg15, ↓sg16, ↓sg17, ↓ss0, ↓ss1, ↓ss2, ↓ss3, ↓ss4, ↓ss5, ↓ss6, ↓ss7, ↓ss8, ↓ss9, ↓ss10, ↓ss11, ↓ss12, ↓ss13, ↓ss14, ↓ss15, ↓ss16, ↓ss17, f10, nI_nlt (Nat.le_refl (s.1.1.1 3)) (show s.1.1.1 3 < 2 ^ 31 by omega)]
  rfl
theorem q_ord (h : CF T f s) (hw : WG s) (r : Int32) : RQ T P f 195 [.ref 366, .int r, .long 0] (if r < 0 then -2 else gOrd' r s.1, s) := by
  have t0 := thr (f := f) h.1.1
  have hs := h.2
  have h8 : s.1.2.length ≤ 8 := hw.1.1.1.2.2.2.1
  refine RQ.same h ?_
  by_cases c : r < 0
  · rw [if_pos c]
    simp +decide only [x195_0, x195_1, x195_2, x195_5, x195_6, x195_9, x195_11, x195_12, x195_13, x195_14, x195_17, x195_18, x195_19, x195_21, x195_24, x195_26, x195_29, x195_30, x195_31, x195_32, x195_35, aft_some, aft_void, Option.bind_some, Option.toList_some, Option.toList_none, List.cons_append, List.nil_append, if_true, if_false, ↓reduceIte, eq_self, z366_o, ↓z366_0, ↓z366_0p, ↓z366_1, ↓z366_2, ↓z366_3, ↓z366_4, ↓z366_4p, ↓z366_5, ↓z366_6, ↓z366_6p0, ↓z366_6p1, ↓z366_7, ↓z366_8, ↓z366_8p, ↓z366_9, ↓z366_9p, ↓z366_10, ↓z366_10p0, ↓z366_10p1, ↓z366_11, ↓z366_12, ↓z366_12p, ↓sg0, ↓sg1, ↓sg2, ↓sg3, ↓sg4, ↓sg5, ↓sg6, ↓sg7, ↓sg8, ↓sg9, ↓sg10, ↓sg11, ↓sg12, ↓sg13, ↓sg14, ↓sg15, ↓sg16, ↓sg17, ↓ss0, ↓ss1, ↓ss2, ↓ss3, ↓ss4, ↓ss5, ↓ss6, ↓ss7, ↓ss8, ↓ss9, ↓ss10, ↓ss11, ↓ss12, ↓ss13, ↓ss14, ↓ss15, ↓ss16, ↓ss17, t0, c]
  rw [if_neg c]
  have er := r_ranked (T := T) (P := P) (x := r) hs hw.1.1
  rw [fst_congr (q := fun i => rkI (fun i => tnK s.1.1.1 s.1.1.2.1 (gK s.1.2 i)) s.1.2.length i = r) (fun j _ hj => by rw [rk_cmp (t := fun i => kyK s.1.1.1 s.1.1.2.1 (gK s.1.2 i)) (u := fun i => tnK s.1.1.1 s.1.1.2.1 (gK s.1.2 i)) (by omega) (fun i j hi hj => ky_tn hw.1.1 hi hj)])] at er
  unfold gOrd'
  cases hq : fstN (fun i => rkI (fun i => tnK s.1.1.1 s.1.1.2.1 (gK s.1.2 i)) s.1.2.length i = r) 0 s.1.2.length with
  | none =>
    rw [hq] at er
    simp only at er ⊢
    simp +decide only [x195_0, x195_1, x195_2, x195_5, x195_6, x195_9, x195_11, x195_12, x195_13, x195_14, x195_17, x195_18, x195_19, x195_21, x195_24, x195_26, x195_29, x195_30, x195_31, x195_32, x195_35, aft_some, aft_void, Option.bind_some, Option.toList_some, Option.toList_none, List.cons_append, List.nil_append, if_true, if_false, ↓reduceIte, eq_self, z366_o, ↓z366_0, ↓z366_0p, ↓z366_1, ↓z366_2, ↓z366_3, ↓z366_4, ↓z366_4p, ↓z366_5, ↓z366_6, ↓z366_6p0, ↓z366_6p1, ↓z366_7, ↓z366_8, ↓z366_8p, ↓z366_9, ↓z366_9p, ↓z366_10, ↓z366_10p0, ↓z366_10p1, ↓z366_11, ↓z366_12, ↓z366_12p, ↓sg0, ↓sg1, ↓sg2, ↓sg3, ↓sg4, ↓sg5, ↓sg6, ↓sg7, ↓sg8, ↓sg9, ↓sg10, ↓sg11, ↓sg12, ↓sg13, ↓sg14, ↓sg15, ↓sg16, ↓sg17, ↓ss0, ↓ss1, ↓ss2, ↓ss3, ↓ss4, ↓ss5, ↓ss6, ↓ss7, ↓ss8, ↓ss9, ↓ss10, ↓ss11, ↓ss12, ↓ss13, ↓ss14, ↓ss15, ↓ss16, ↓ss17, t0, c, ↓aft_of (er)]
  | some i =>
    rw [hq] at er
    simp only at er ⊢
    obtain ⟨-, hi, -⟩ := fst_some hq
    rw [Nat.zero_add] at hi
    have ni5 : (nI i = -5) = False := nI_ne5 (by omega)
    have o0 := r_of (T := T) (P := P) (f := f) (i := i) (w := 0) (y := 0) rfl (by omega) (by decide)
    rw [(hs.2.2.2.1 i hi).1.1] at o0
    simp +decide only [x195_0, x195_1, x195_2, x195_5, x195_6, x195_9, x195_11, x195_12, x195_13, x195_14, x195_17, x195_18, x195_19, x195_21, x195_24, x195_26, x195_29, x195_30, x195_31, x195_32, x195_35, aft_some, aft_void, Option.bind_some, Option.toList_some, Option.toList_none, List.cons_append, List.nil_append, if_true, if_false, ↓reduceIte, eq_self, z366_o, ↓z366_0, ↓z366_0p, ↓z366_1, ↓z366_2, ↓z366_3, ↓z366_4, ↓z366_4p, ↓z366_5, ↓z366_6, ↓z366_6p0, ↓z366_6p1, ↓z366_7, ↓z366_8, ↓z366_8p, ↓z366_9, ↓z366_9p, ↓z366_10, ↓z366_10p0, ↓z366_10p1, ↓z366_11, ↓z366_12, ↓z366_12p, ↓sg0, ↓sg1, ↓sg2, ↓sg3, ↓sg4, ↓sg5, ↓sg6, ↓sg7, ↓sg8, ↓sg9, ↓sg10, ↓sg11, ↓sg12, ↓sg13, ↓sg14, ↓sg15, ↓sg16, ↓sg17, ↓ss0, ↓ss1, ↓ss2, ↓ss3, ↓ss4, ↓ss5, ↓ss6, ↓ss7, ↓ss8, ↓ss9, ↓ss10, ↓ss11, ↓ss12, ↓ss13, ↓ss14, ↓ss15, ↓ss16, ↓ss17, t0, c, ↓aft_of (er), ni5, ↓aft_of (o0)]
theorem q_book (h : CF T f s) (hw : WG s) (a w : Int32) : RQ T P f 196 [.ref 366, .int a, .int w] (gBook a w s, s) := by
  have t0 := thr (f := f) h.1.1
  have hs := h.2
  have h10 : s.1.1.1 4 ≤ 10 := hw.1.1.1.2.2.2.2.2
  have f17 : f 17 = nI (s.1.1.1 4) := hs.1.2.2.2.2.1.2.2
  refine RQ.same h ?_
  unfold gBook
  by_cases c1 : inI a 0 9 = 0
  · rw [if_pos c1]
    simp +decide only [x196_0, x196_1, x196_2, x196_5, x196_6, x196_7, x196_9, x196_12, x196_15, x196_16, x196_17, x196_18, x196_21, x196_24, x196_26, x196_27, x196_28, x196_29, x196_32, x196_34, x196_35, x196_38, x196_39, x196_42, x196_45, x196_46, x196_47, x196_50, x196_52, x196_53, x196_54, x196_55, x196_56, x196_57, x196_58, x196_59, x196_60, x196_61, x196_62, x196_65, x196_67, aft_some, aft_void, Option.bind_some, Option.toList_some, Option.toList_none, List.cons_append, List.nil_append, if_true, if_false, ↓reduceIte, eq_self, z366_o, ↓z366_0, ↓z366_0p, ↓z366_1, ↓z366_2, ↓z366_3, ↓z366_4, ↓z366_4p, ↓z366_5, ↓z366_6, ↓z366_6p0, ↓z366_6p1, ↓z366_7, ↓z366_8, ↓z366_8p, ↓z366_9, ↓z366_9p, ↓z366_10, ↓z366_10p0, ↓z366_10p1, ↓z366_11, ↓z366_12, ↓z366_12p, ↓sg0, ↓sg1, ↓sg2, ↓sg3, ↓sg4, ↓sg5, ↓sg6, ↓sg7, ↓sg8, ↓sg9, ↓sg10, ↓sg11, ↓sg12, ↓sg13, ↓sg14, ↓sg15, ↓sg16, ↓sg17, ↓ss0, ↓ss1, ↓ss2, ↓ss3, ↓ss4, ↓ss5, ↓ss6, ↓ss7, ↓ss8, ↓ss9, ↓ss10, ↓ss11, ↓ss12, ↓ss13, ↓ss14, ↓ss15, ↓ss16, ↓ss17, t0, ↓aft_of (r_in), c1]
  rw [if_neg c1]
  by_cases c2 : inI w 0 3 = 0
  · rw [if_pos c2]
    simp +decide only [x196_0, x196_1, x196_2, x196_5, x196_6, x196_7, x196_9, x196_12, x196_15, x196_16, x196_17, x196_18, x196_21, x196_24, x196_26, x196_27, x196_28, x196_29, x196_32, x196_34, x196_35, x196_38, x196_39, x196_42, x196_45, x196_46, x196_47, x196_50, x196_52, x196_53, x196_54, x196_55, x196_56, x196_57, x196_58, x196_59, x196_60, x196_61, x196_62, x196_65, x196_67, aft_some, aft_void, Option.bind_some, Option.toList_some, Option.toList_none, List.cons_append, List.nil_append, if_true, if_false, ↓reduceIte, eq_self, z366_o, ↓z366_0, ↓z366_0p, ↓z366_1, ↓z366_2, ↓z366_3, ↓z366_4, ↓z366_4p, ↓z366_5, ↓z366_6, ↓z366_6p0, ↓z366_6p1, ↓z366_7, ↓z366_8, ↓z366_8p, ↓z366_9, ↓z366_9p, ↓z366_10, ↓z366_10p0, ↓z366_10p1, ↓z366_11, ↓z366_12, ↓z366_12p, ↓sg0, ↓sg1, ↓sg2, ↓sg3, ↓sg4, ↓sg5, ↓sg6, ↓sg7, ↓sg8, ↓sg9, ↓sg10, ↓sg11, ↓sg12, ↓sg13, ↓sg14, ↓sg15, ↓sg16, ↓sg17, ↓ss0, ↓ss1, ↓ss2, ↓ss3, ↓ss4, ↓ss5, ↓ss6, ↓ss7, ↓ss8, ↓ss9, ↓ss10, ↓ss11, ↓ss12, ↓ss13, ↓ss14, ↓ss15, ↓ss16, ↓ss17, t0, ↓aft_of (r_in), c1, c2]
  rw [if_neg c2]
  obtain ⟨m, hm, rfl⟩ := inI_ex (n := 9) (by decide) c1
  obtain ⟨k, hk, rfl⟩ := inI_ex (n := 3) (by decide) c2
  rw [nI_clamp (by omega), nI_clamp (by omega)]
  have elt : (nI m < nI (s.1.1.1 4)) = (m < s.1.1.1 4) := nI_ltp (by omega) (by omega)
  by_cases c3 : m < s.1.1.1 4
  · rw [if_pos c3]
    have k1 : nI (s.1.1.1 4) - 1 = nI (s.1.1.1 4 - 1) := nI_sub (a := s.1.1.1 4) (b := 1) (by omega)
    have k2 : nI (s.1.1.1 4 - 1) - nI m = nI (s.1.1.1 4 - 1 - m) := nI_sub (by omega)
    have k3 : 870 + 4 * nI (s.1.1.1 4 - 1 - m) = nI (870 + 4 * (s.1.1.1 4 - 1 - m)) := by rw [show (870 : Int32) = nI 870 from rfl, show (4 : Int32) = nI 4 from rfl, nI_mul, nI_add]
    have k4 : nI (870 + 4 * (s.1.1.1 4 - 1 - m)) + nI k = nI (870 + 4 * (s.1.1.1 4 - 1 - m) + k) := nI_add _ _
    have hv := hs.2.2.2.2.2 m c3 k (by omega)
    simp +decide only [x196_0, x196_1, x196_2, x196_5, x196_6, x196_7, x196_9, x196_12, x196_15, x196_16, x196_17, x196_18, x196_21, x196_24, x196_26, x196_27, x196_28, x196_29, x196_32, x196_34, x196_35, x196_38, x196_39, x196_42, x196_45, x196_46, x196_47, x196_50, x196_52, x196_53, x196_54, x196_55, x196_56, x196_57, x196_58, x196_59, x196_60, x196_61, x196_62, x196_65, x196_67, aft_some, aft_void, Option.bind_some, Option.toList_some, Option.toList_none, List.cons_append, List.nil_append, if_true, if_false, ↓reduceIte, eq_self, z366_o, ↓z366_0, ↓z366_0p, ↓z366_1, ↓z366_2, ↓z366_3, ↓z366_4, ↓z366_4p, ↓z366_5, ↓z366_6, ↓z366_6p0, ↓z366_6p1, ↓z366_7, ↓z366_8, ↓z366_8p, ↓z366_9, ↓z366_9p, ↓z366_10, ↓z366_10p0, ↓z366_10p1, ↓z366_11, ↓z366_12, ↓z366_12p, ↓sg0, ↓sg1, ↓sg2, ↓sg3, ↓sg4, ↓sg5, ↓sg6, ↓sg7, ↓sg8, ↓sg9, ↓sg10, ↓sg11, ↓sg12, ↓sg13, ↓sg14, ↓sg15, ↓sg16, ↓sg17, ↓ss0, ↓ss1, ↓ss2, ↓ss3, ↓ss4, ↓ss5, ↓ss6, ↓ss7, ↓ss8, ↓ss9, ↓ss10, ↓ss11, ↓ss12, ↓ss13, ↓ss14, ↓ss15, ↓ss16, ↓ss17, t0, ↓aft_of (r_in), c1, c2, f17, elt, c3, k1, k2, k3, k4, ↓s_g (show 870 + 4 * (s.1.1.1 4 - 1 - m) + k < 912 by omega), hv]
  · rw [if_neg c3]
    simp +decide only [x196_0, x196_1, x196_2, x196_5, x196_6, x196_7, x196_9, x196_12, x196_15, x196_16, x196_17, x196_18, x196_21, x196_24, x196_26, x196_27, x196_28, x196_29, x196_32, x196_34, x196_35, x196_38, x196_39, x196_42, x196_45, x196_46, x196_47, x196_50, x196_52, x196_53, x196_54, x196_55, x196_56, x196_57, x196_58, x196_59, x196_60, x196_61, x196_62, x196_65, x196_67, aft_some, aft_void, Option.bind_some, Option.toList_some, Option.toList_none, List.cons_append, List.nil_append, if_true, if_false, ↓reduceIte, eq_self, z366_o, ↓z366_0, ↓z366_0p, ↓z366_1, ↓z366_2, ↓z366_3, ↓z366_4, ↓z366_4p, ↓z366_5, ↓z366_6, ↓z366_6p0, ↓z366_6p1, ↓z366_7, ↓z366_8, ↓z366_8p, ↓z366_9, ↓z366_9p, ↓z366_10, ↓z366_10p0, ↓z366_10p1, ↓z366_11, ↓z366_12, ↓z366_12p, ↓sg0, ↓sg1, ↓sg2, ↓sg3, ↓sg4, ↓sg5, ↓sg6, ↓sg7, ↓sg8, ↓sg9, ↓sg10, ↓sg11, ↓sg12, ↓sg13, ↓sg14, ↓sg15, ↓sg16, ↓sg17, ↓ss0, ↓ss1, ↓ss2, ↓ss3, ↓ss4, ↓ss5, ↓ss6, ↓ss7, ↓ss8, ↓ss9, ↓ss10, ↓ss11, ↓ss12, ↓ss13, ↓ss14, ↓ss15, ↓ss16, ↓ss17, t0, ↓aft_of (r_in), c1, c2, f17, elt, c3]
theorem r_onPieces (h : sR f N V K B R) (hw : WF N V K B) : X 197 0 [.ref 366, .long 0, .long 0] [] (H (upA T 367 f) P) = some (some (.int (smI (fun i => nhI (gK K i 2)) K.length)), H (upA T 367 f) P) := by
  have h8 := hw.1.2.2.2.1
  have h16 := h.1.n
  have hstep : ∀ i, i < K.length → X 197 4 [.ref 366, .int (smI (fun i => nhI (gK K i 2)) i), .int (nI i)] [] (H (upA T 367 f) P) = X 197 4 [.ref 366, .int (smI (fun i => nhI (gK K i 2)) (i + 1)), .int (nI (i + 1))] [] (H (upA T 367 f) P) := by
    intro i hi
    have hb := h.2.2.2.1 i hi
    have o9 := r_of (T := T) (P := P) (f := f) (i := i) (w := 9) (y := 9) rfl (by omega) (by decide)
    have o10 := r_of (T := T) (P := P) (f := f) (i := i) (w := 10) (y := 10) rfl (by omega) (by decide)
    have o11 := r_of (T := T) (P := P) (f := f) (i := i) (w := 11) (y := 11) rfl (by omega) (by decide)
    rw [(hb.2 0 (by decide)).2.1] at o9
    rw [(hb.2 1 (by decide)).2.1] at o10
    rw [(hb.2 2 (by decide)).2.1] at o11
    have hlt : nI i < nI K.length := nI_lt hi (by omega)
    have hn : gK K i 2 0 + gK K i 2 1 + gK K i 2 2 = nhI (gK K i 2) := by unfold nhI; rw [Int32.zero_add]
    rw [x197_4]
    simp +decide only [x197_0, x197_1, x197_2, x197_3, x197_5, x197_6, x197_9, x197_11, x197_12, x197_15, x197_16, x197_17, x197_18, x197_20, x197_23, x197_24, x197_25, x197_27, x197_30, x197_31, x197_32, x197_33, x197_35, x197_38, x197_39, x197_40, x197_41, x197_44, x197_47, x197_48, aft_some, aft_void, Option.bind_some, Option.toList_some, Option.toList_none, List.cons_append, List.nil_append, if_true, if_false, ↓reduceIte, eq_self, z366_o, ↓z366_0, ↓z366_0p, ↓z366_1, ↓z366_2, ↓z366_3, ↓z366_4, ↓z366_4p, ↓z366_5, ↓z366_6, ↓z366_6p0, ↓z366_6p1, ↓z366_7, ↓z366_8, ↓z366_8p, ↓z366_9, ↓z366_9p, ↓z366_10, ↓z366_10p0, ↓z366_10p1, ↓z366_11, ↓z366_12, ↓z366_12p, ↓sg0, ↓sg1, ↓sg2, ↓sg3, ↓sg4, ↓sg5, ↓sg6, ↓sg7, ↓sg8, ↓sg9, ↓sg10, ↓sg11, ↓sg12, ↓sg13, ↓sg14, ↓sg15, ↓sg16, ↓sg17, ↓ss0, ↓ss1, ↓ss2, ↓ss3, ↓ss4, ↓ss5, ↓ss6, ↓ss7, ↓ss8, ↓ss9, ↓ss10, ↓ss11, ↓ss12, ↓ss13, ↓ss14, ↓ss15, ↓ss16, ↓ss17, h16, hlt, ↓aft_of (o9), ↓aft_of (o10), ↓aft_of (o11), hn, nI_1, smI]
  simp +decide only [x197_0, x197_1, x197_2, x197_3, x197_5, x197_6, x197_9, x197_11, x197_12, x197_15, x197_16, x197_17, x197_18, x197_20, x197_23, x197_24, x197_25, x197_27, x197_30, x197_31, x197_32, x197_33, x197_35, x197_38, x197_39, x197_40, x197_41, x197_44, x197_47, x197_48, aft_some, aft_void, Option.bind_some, Option.toList_some, Option.toList_none, List.cons_append, List.nil_append, if_true, if_false, ↓reduceIte, eq_self]
  rw [show X 197 4 [.ref 366, .int 0, .int 0] [] (H (upA T 367 f) P) = _ from loop_up (fun i => X 197 4 [.ref 366, .int (smI (fun i => nhI (gK K i 2)) i), .int (nI i)] [] (H (upA T 367 f) P)) K.length hstep, x197_4]
  simp +decide only [x197_0, x197_1, x197_2, x197_3, x197_5, x197_6, x197_9, x197_11, x197_12, x197_15, x197_16, x197_17, x197_18, x197_20, x197_23, x197_24, x197_25, x197_27, x197_30, x197_31, x197_32, x197_33, x197_35, x197_38, x197_39, x197_40, x197_41, x197_44, x197_47, x197_48, aft_some, aft_void, Option.bind_some, Option.toList_some, Option.toList_none, List.cons_append, List.nil_append, if_true, if_false, ↓reduceIte, eq_self, z366_o, ↓z366_0, ↓z366_0p, ↓z366_1, ↓z366_2, ↓z366_3, ↓z366_4, ↓z366_4p, ↓z366_5, ↓z366_6, ↓z366_6p0, ↓z366_6p1, ↓z366_7, ↓z366_8, ↓z366_8p, ↓z366_9, ↓z366_9p, ↓z366_10, ↓z366_10p0, ↓z366_10p1, ↓z366_11, ↓z366_12, ↓z366_12p, ↓sg0, ↓sg1, ↓sg2, ↓sg3, ↓sg4, ↓sg5, ↓sg6, ↓sg7, ↓sg8, ↓sg9, ↓sg10, ↓sg11, ↓sg12, ↓sg13, ↓sg14, ↓sg15, ↓sg16, ↓sg17, ↓ss0, ↓ss1, ↓ss2, ↓ss3, ↓ss4, ↓ss5, ↓ss6, ↓ss7, ↓ss8, ↓ss9, ↓ss10, ↓ss11, ↓ss12, ↓ss13, ↓ss14, ↓ss15, ↓ss16, ↓ss17, h16, nI_nlt (Nat.le_refl K.length) (show K.length < 2 ^ 31 by omega)]
theorem all_sum {n : Nat} : ∀ {B : List bT}, (∀ q ∈ B, q.1 < n) → sN (fun c => outL c B) n = allL B
  | [], _ => sN_0 n
  | q :: B, h => by
    have ih := all_sum (n := n) (B := B) (fun p hp => h p (List.mem_cons_of_mem _ hp))
    have e : sN (fun c => outL c (q :: B)) n = sN (fun c => if q.1 = c then q.2.2 else 0) n + sN (fun c => outL c B) n := sN_add _ _ n
    rw [e, ih, sN_one, if_pos (h q List.mem_cons_self)]
    rfl
theorem r_outInAll (h : sR f N V K B R) (hw : WF N V K B) : X 198 0 [.ref 366, .long 0, .long 0] [] (H (upA T 367 f) P) = some (some (.int (nI (allL B))), H (upA T 367 f) P) := by
  have hN1 := hw.1.2.1
  have h5 : f 5 = nI (N 1) := h.1.2.1.2.1
  have hstep : ∀ i, i < N 1 → X 198 4 [.ref 366, .int (nI (sN (fun c => outL c B) i)), .int (nI i)] [] (H (upA T 367 f) P) = X 198 4 [.ref 366, .int (nI (sN (fun c => outL c B) (i + 1))), .int (nI (i + 1))] [] (H (upA T 367 f) P) := by
    intro i hi
    have eo := r_outTo (T := T) (P := P) (f := f) (show i < 10 by omega)
    rw [smI_congr (fun j hj => h.2.2.1 i (by omega) j hj), smI_nI, rg_sum] at eo
    have hlt : nI i < nI (N 1) := nI_lt hi (by omega)
    rw [x198_4]
    simp +decide only [x198_0, x198_1, x198_2, x198_3, x198_5, x198_6, x198_9, x198_10, x198_11, x198_14, x198_15, x198_16, x198_17, x198_20, x198_21, x198_22, x198_25, x198_28, x198_29, aft_some, aft_void, Option.bind_some, Option.toList_some, Option.toList_none, List.cons_append, List.nil_append, if_true, if_false, ↓reduceIte, eq_self, z366_o, ↓z366_0, ↓z366_0p, ↓z366_1, ↓z366_2, ↓z366_3, ↓z366_4, ↓z366_4p, ↓z366_5, ↓z366_6, ↓z366_6p0, ↓z366_6p1, ↓z366_7, ↓z366_8, ↓z366_8p, ↓z366_9, ↓z366_9p, ↓z366_10, ↓z366_10p0, ↓z366_10p1, ↓z366_11, ↓z366_12, ↓z366_12p, ↓sg0, ↓sg1, ↓sg2, ↓sg3, ↓sg4, ↓sg5, ↓sg6, ↓sg7, ↓sg8, ↓sg9, ↓sg10, ↓sg11, ↓sg12, ↓sg13, ↓sg14, ↓sg15, ↓sg16, ↓sg17, ↓ss0, ↓ss1, ↓ss2, ↓ss3, ↓ss4, ↓ss5, ↓ss6, ↓ss7, ↓ss8, ↓ss9, ↓ss10, ↓ss11, ↓ss12, ↓ss13, ↓ss14, ↓ss15, ↓ss16, ↓ss17, h5, hlt, ↓aft_of (eo), nI_add, nI_1, sN]
  rw [← all_sum (n := N 1) (fun q hq => (hw.2.2.2.2.2.1.1 q hq).1)]
  simp +decide only [x198_0, x198_1, x198_2, x198_3, x198_5, x198_6, x198_9, x198_10, x198_11, x198_14, x198_15, x198_16, x198_17, x198_20, x198_21, x198_22, x198_25, x198_28, x198_29, aft_some, aft_void, Option.bind_some, Option.toList_some, Option.toList_none, List.cons_append, List.nil_append, if_true, if_false, ↓reduceIte, eq_self]
  rw [show X 198 4 [.ref 366, .int 0, .int 0] [] (H (upA T 367 f) P) = _ from loop_up (fun i => X 198 4 [.ref 366, .int (nI (sN (fun c => outL c B) i)), .int (nI i)] [] (H (upA T 367 f) P)) (N 1) hstep, x198_4]
  simp +decide only [x198_0, x198_1, x198_2, x198_3, x198_5, x198_6, x198_9, x198_10, x198_11, x198_14, x198_15, x198_16, x198_17, x198_20, x198_21, x198_22, x198_25, x198_28, x198_29, aft_some, aft_void, Option.bind_some, Option.toList_some, Option.toList_none, List.cons_append, List.nil_append, if_true, if_false, ↓reduceIte, eq_self, z366_o, ↓z366_0, ↓z366_0p, ↓z366_1, ↓z366_2, ↓z366_3, ↓z366_4, ↓z366_4p, ↓z366_5, ↓z366_6, ↓z366_6p0, ↓z366_6p1, ↓z366_7, ↓z366_8, ↓z366_8p, ↓z366_9, ↓z366_9p, ↓z366_10, ↓z366_10p0, ↓z366_10p1, ↓z366_11, ↓z366_12, ↓z366_12p, ↓sg0, ↓sg1, ↓sg2, ↓sg3, ↓sg4, ↓sg5, ↓sg6, ↓sg7, ↓sg8, ↓sg9, ↓sg10, ↓sg11, ↓sg12, ↓sg13, ↓sg14, ↓sg15, ↓sg16, ↓sg17, ↓ss0, ↓ss1, ↓ss2, ↓ss3, ↓ss4, ↓ss5, ↓ss6, ↓ss7, ↓ss8, ↓ss9, ↓ss10, ↓ss11, ↓ss12, ↓ss13, ↓ss14, ↓ss15, ↓ss16, ↓ss17, h5, nI_nlt (Nat.le_refl (N 1)) (show N 1 < 2 ^ 31 by omega)]
theorem r_owedInAll (h : sR f N V K B R) (hw : WF N V K B) : X 199 0 [.ref 366, .long 0, .long 0] [] (H (upA T 367 f) P) = some (some (.int (smI (V 5) (N 1))), H (upA T 367 f) P) := by
  have hN1 := hw.1.2.1
  have h5 : f 5 = nI (N 1) := h.1.2.1.2.1
  have hstep : ∀ i, i < N 1 → X 199 4 [.ref 366, .int (smI (V 5) i), .int (nI i)] [] (H (upA T 367 f) P) = X 199 4 [.ref 366, .int (smI (V 5) (i + 1)), .int (nI (i + 1))] [] (H (upA T 367 f) P) := by
    intro i hi
    have e1 := r_ofCust (T := T) (P := P) (f := f) (i := i) (w := 1) (y := 1) rfl (by omega) (by decide)
    rw [(h.2.1 i (by omega)).2.1, if_pos hi] at e1
    have hlt : nI i < nI (N 1) := nI_lt hi (by omega)
    rw [x199_4]
    simp +decide only [x199_0, x199_1, x199_2, x199_3, x199_5, x199_6, x199_9, x199_10, x199_11, x199_14, x199_15, x199_16, x199_17, x199_18, x199_21, x199_22, x199_23, x199_26, x199_29, x199_30, aft_some, aft_void, Option.bind_some, Option.toList_some, Option.toList_none, List.cons_append, List.nil_append, if_true, if_false, ↓reduceIte, eq_self, z366_o, ↓z366_0, ↓z366_0p, ↓z366_1, ↓z366_2, ↓z366_3, ↓z366_4, ↓z366_4p, ↓z366_5, ↓z366_6, ↓z366_6p0, ↓z366_6p1, ↓z366_7, ↓z366_8, ↓z366_8p, ↓z366_9, ↓z366_9p, ↓z366_10, ↓z366_10p0, ↓z366_10p1, ↓z366_11, ↓z366_12, ↓z366_12p, ↓sg0, ↓sg1, ↓sg2, ↓sg3, ↓sg4, ↓sg5, ↓sg6, ↓sg7, ↓sg8, ↓sg9, ↓sg10, ↓sg11, ↓sg12, ↓sg13, ↓sg14, ↓sg15, ↓sg16, ↓sg17, ↓ss0, ↓ss1, ↓ss2, ↓ss3, ↓ss4, ↓ss5, ↓ss6, ↓ss7, ↓ss8, ↓ss9, ↓ss10, ↓ss11, ↓ss12, ↓ss13, ↓ss14, ↓ss15, ↓ss16, ↓ss17, h5, hlt, ↓aft_of (e1), nI_1, smI]
  simp +decide only [x199_0, x199_1, x199_2, x199_3, x199_5, x199_6, x199_9, x199_10, x199_11, x199_14, x199_15, x199_16, x199_17, x199_18, x199_21, x199_22, x199_23, x199_26, x199_29, x199_30, aft_some, aft_void, Option.bind_some, Option.toList_some, Option.toList_none, List.cons_append, List.nil_append, if_true, if_false, ↓reduceIte, eq_self]
  rw [show X 199 4 [.ref 366, .int 0, .int 0] [] (H (upA T 367 f) P) = _ from loop_up (fun i => X 199 4 [.ref 366, .int (smI (V 5) i), .int (nI i)] [] (H (upA T 367 f) P)) (N 1) hstep, x199_4]
  simp +decide only [x199_0, x199_1, x199_2, x199_3, x199_5, x199_6, x199_9, x199_10, x199_11, x199_14, x199_15, x199_16, x199_17, x199_18, x199_21, x199_22, x199_23, x199_26, x199_29, x199_30, aft_some, aft_void, Option.bind_some, Option.toList_some, Option.toList_none, List.cons_append, List.nil_append, if_true, if_false, ↓reduceIte, eq_self, z366_o, ↓z366_0, ↓z366_0p, ↓z366_1, ↓z366_2, ↓z366_3, ↓z366_4, ↓z366_4p, ↓z366_5, ↓z366_6, ↓z366_6p0, ↓z366_6p1, ↓z366_7, ↓z366_8, ↓z366_8p, ↓z366_9, ↓z366_9p, ↓z366_10, ↓z366_10p0, ↓z366_10p1, ↓z366_11, ↓z366_12, ↓z366_12p, ↓sg0, ↓sg1, ↓sg2, ↓sg3, ↓sg4, ↓sg5, ↓sg6, ↓sg7, ↓sg8, ↓sg9, ↓sg10, ↓sg11, ↓sg12, ↓sg13, ↓sg14, ↓sg15, ↓sg16, ↓sg17, ↓ss0, ↓ss1, ↓ss2, ↓ss3, ↓ss4, ↓ss5, ↓ss6, ↓ss7, ↓ss8, ↓ss9, ↓ss10, ↓ss11, ↓ss12, ↓ss13, ↓ss14, ↓ss15, ↓ss16, ↓ss17, h5, nI_nlt (Nat.le_refl (N 1)) (show N 1 < 2 ^ 31 by omega)]
theorem q_count (h : CF T f s) (hw : WG s) (w : Int32) : RQ T P f 201 [.ref 366, .int w] (gCount w s, s) := by
  have t0 := thr (f := f) h.1.1
  have hs := h.2
  obtain ⟨⟨a1, ⟨a2, a3, a4, a5⟩, ⟨a6, a7, a8⟩, a9, ⟨a10, a11, a12⟩, a13, a14⟩, hC, hO, hK, hL, hJ⟩ := id hs
  have s4 : upA T 367 f 366 4 = nI s.2.2.1.length := by rw [upA_n _ _ (by decide)]; exact h.1.2.2.1.1
  have s8 : upA T 367 f 366 8 = nI s.2.2.2.1 := by rw [upA_n _ _ (by decide)]; exact h.1.2.2.2.1
  have a2' : f 4 = s.1.1.2.1 0 0 := by rw [a2, a14]
  have er := r_readyMany (T := T) (P := P) hs hw.1.1
  have eo := r_onPieces (T := T) (P := P) hs hw.1.1
  have eu := r_outInAll (T := T) (P := P) hs hw.1.1
  have ew := r_owedInAll (T := T) (P := P) hs hw.1.1
  refine RQ.same h ?_
  by_cases c1 : inI w 0 22 = 0
  · have hg : gCount w s = -2 := by
      have key : ∀ q : Int32, inI q 0 22 = 1 → w ≠ q := fun q hq e => by rw [e, hq] at c1; exact absurd c1 (by decide)
      unfold gCount
      rw [if_neg (key 0 (by decide)), if_neg (key 1 (by decide)), if_neg (key 2 (by decide)), if_neg (key 3 (by decide)), if_neg (key 4 (by decide)), if_neg (key 5 (by decide)), if_neg (key 6 (by decide)), if_neg (key 7 (by decide)), if_neg (key 8 (by decide)), if_neg (key 9 (by decide)), if_neg (key 10 (by decide)), if_neg (key 11 (by decide)), if_neg (key 12 (by decide)), if_neg (key 13 (by decide)), if_neg (key 14 (by decide)), if_neg (key 15 (by decide)), if_neg (key 16 (by decide)), if_neg (key 17 (by decide)), if_neg (key 18 (by decide)), if_neg (key 19 (by decide)), if_neg (key 20 (by decide)), if_neg (key 21 (by decide)), if_neg (key 22 (by decide))]
    rw [hg]
    simp +decide only [x201_0, x201_1, x201_2, x201_5, x201_6, x201_7, x201_9, x201_12, x201_15, x201_16, x201_17, x201_20, x201_23, x201_25, aft_some, aft_void, Option.bind_some, Option.toList_some, Option.toList_none, List.cons_append, List.nil_append, if_true, if_false, ↓reduceIte, eq_self, z366_o, ↓z366_0, ↓z366_0p, ↓z366_1, ↓z366_2, ↓z366_3, ↓z366_4, ↓z366_4p, ↓z366_5, ↓z366_6, ↓z366_6p0, ↓z366_6p1, ↓z366_7, ↓z366_8, ↓z366_8p, ↓z366_9, ↓z366_9p, ↓z366_10, ↓z366_10p0, ↓z366_10p1, ↓z366_11, ↓z366_12, ↓z366_12p, ↓sg0, ↓sg1, ↓sg2, ↓sg3, ↓sg4, ↓sg5, ↓sg6, ↓sg7, ↓sg8, ↓sg9, ↓sg10, ↓sg11, ↓sg12, ↓sg13, ↓sg14, ↓sg15, ↓sg16, ↓sg17, ↓ss0, ↓ss1, ↓ss2, ↓ss3, ↓ss4, ↓ss5, ↓ss6, ↓ss7, ↓ss8, ↓ss9, ↓ss10, ↓ss11, ↓ss12, ↓ss13, ↓ss14, ↓ss15, ↓ss16, ↓ss17, t0, ↓aft_of (r_in), c1]
  obtain ⟨m, hm', rfl⟩ := inI_ex (n := 22) (by decide) c1
  have hm : m < 23 := by omega
  match m, hm with
  | 0, _ => rw [show nI 0 = 0 from rfl]; simp +decide only [gCount]; simp +decide only [x201_0, x201_1, x201_2, x201_5, x201_6, x201_7, x201_9, x201_12, x201_15, x201_16, x201_17, x201_20, x201_23, x201_25, x200_0, x200_1, x200_92, x200_93, x200_96, x200_97, x200_98, x200_99, x200_100, x200_103, x200_104, x200_105, x200_106, x200_107, x200_110, x200_112, x200_113, x200_114, x200_115, x200_118, x200_119, x200_120, x200_123, x200_125, x200_126, x200_127, x200_128, x200_131, x200_133, x200_134, x200_135, x200_136, x200_139, x200_140, x200_141, x200_144, x200_145, x200_146, x200_149, x200_150, x200_151, x200_154, x200_156, x200_157, x200_158, x200_159, x200_162, x200_163, x200_164, x200_167, x200_168, x200_169, x200_171, x200_174, x200_175, x200_178, x200_179, x200_180, x200_183, x200_184, x200_187, x200_188, x200_190, x200_191, x200_192, aft_some, aft_void, Option.bind_some, Option.toList_some, Option.toList_none, List.cons_append, List.nil_append, if_true, if_false, ↓reduceIte, eq_self, z366_o, ↓z366_0, ↓z366_0p, ↓z366_1, ↓z366_2, ↓z366_3, ↓z366_4, ↓z366_4p, ↓z366_5, ↓z366_6, ↓z366_6p0, ↓z366_6p1, ↓z366_7, ↓z366_8, ↓z366_8p, ↓z366_9, ↓z366_9p, ↓z366_10, ↓z366_10p0, ↓z366_10p1, ↓z366_11, ↓z366_12, ↓z366_12p, ↓sg0, ↓sg1, ↓sg2, ↓sg3, ↓sg4, ↓sg5, ↓sg6, ↓sg7, ↓sg8, ↓sg9, ↓sg10, ↓sg11, ↓sg12, ↓sg13, ↓sg14, ↓sg15, ↓sg16, ↓sg17, ↓ss0, ↓ss1, ↓ss2, ↓ss3, ↓ss4, ↓ss5, ↓ss6, ↓ss7, ↓ss8, ↓ss9, ↓ss10, ↓ss11, ↓ss12, ↓ss13, ↓ss14, ↓ss15, ↓ss16, ↓ss17, t0, ↓aft_of (r_in), inI, a2']
  | 1, _ => rw [show nI 1 = 1 from rfl]; simp +decide only [gCount]; simp +decide only [x201_0, x201_1, x201_2, x201_5, x201_6, x201_7, x201_9, x201_12, x201_15, x201_16, x201_17, x201_20, x201_23, x201_25, x200_0, x200_1, x200_92, x200_93, x200_96, x200_97, x200_98, x200_99, x200_100, x200_103, x200_104, x200_105, x200_106, x200_107, x200_110, x200_112, x200_113, x200_114, x200_115, x200_118, x200_119, x200_120, x200_123, x200_125, x200_126, x200_127, x200_128, x200_131, x200_133, x200_134, x200_135, x200_136, x200_139, x200_140, x200_141, x200_144, x200_145, x200_146, x200_149, x200_150, x200_151, x200_154, x200_156, x200_157, x200_158, x200_159, x200_162, x200_163, x200_164, x200_167, x200_168, x200_169, x200_171, x200_174, x200_175, x200_178, x200_179, x200_180, x200_183, x200_184, x200_187, x200_188, x200_190, x200_191, x200_192, aft_some, aft_void, Option.bind_some, Option.toList_some, Option.toList_none, List.cons_append, List.nil_append, if_true, if_false, ↓reduceIte, eq_self, z366_o, ↓z366_0, ↓z366_0p, ↓z366_1, ↓z366_2, ↓z366_3, ↓z366_4, ↓z366_4p, ↓z366_5, ↓z366_6, ↓z366_6p0, ↓z366_6p1, ↓z366_7, ↓z366_8, ↓z366_8p, ↓z366_9, ↓z366_9p, ↓z366_10, ↓z366_10p0, ↓z366_10p1, ↓z366_11, ↓z366_12, ↓z366_12p, ↓sg0, ↓sg1, ↓sg2, ↓sg3, ↓sg4, ↓sg5, ↓sg6, ↓sg7, ↓sg8, ↓sg9, ↓sg10, ↓sg11, ↓sg12, ↓sg13, ↓sg14, ↓sg15, ↓sg16, ↓sg17, ↓ss0, ↓ss1, ↓ss2, ↓ss3, ↓ss4, ↓ss5, ↓ss6, ↓ss7, ↓ss8, ↓ss9, ↓ss10, ↓ss11, ↓ss12, ↓ss13, ↓ss14, ↓ss15, ↓ss16, ↓ss17, t0, ↓aft_of (r_in), inI, a3]
  | 2, _ => rw [show nI 2 = 2 from rfl]; simp +decide only [gCount]; simp +decide only [x201_0, x201_1, x201_2, x201_5, x201_6, x201_7, x201_9, x201_12, x201_15, x201_16, x201_17, x201_20, x201_23, x201_25, x200_0, x200_1, x200_92, x200_93, x200_96, x200_97, x200_98, x200_99, x200_100, x200_103, x200_104, x200_105, x200_106, x200_107, x200_110, x200_112, x200_113, x200_114, x200_115, x200_118, x200_119, x200_120, x200_123, x200_125, x200_126, x200_127, x200_128, x200_131, x200_133, x200_134, x200_135, x200_136, x200_139, x200_140, x200_141, x200_144, x200_145, x200_146, x200_149, x200_150, x200_151, x200_154, x200_156, x200_157, x200_158, x200_159, x200_162, x200_163, x200_164, x200_167, x200_168, x200_169, x200_171, x200_174, x200_175, x200_178, x200_179, x200_180, x200_183, x200_184, x200_187, x200_188, x200_190, x200_191, x200_192, aft_some, aft_void, Option.bind_some, Option.toList_some, Option.toList_none, List.cons_append, List.nil_append, if_true, if_false, ↓reduceIte, eq_self, z366_o, ↓z366_0, ↓z366_0p, ↓z366_1, ↓z366_2, ↓z366_3, ↓z366_4, ↓z366_4p, ↓z366_5, ↓z366_6, ↓z366_6p0, ↓z366_6p1, ↓z366_7, ↓z366_8, ↓z366_8p, ↓z366_9, ↓z366_9p, ↓z366_10, ↓z366_10p0, ↓z366_10p1, ↓z366_11, ↓z366_12, ↓z366_12p, ↓sg0, ↓sg1, ↓sg2, ↓sg3, ↓sg4, ↓sg5, ↓sg6, ↓sg7, ↓sg8, ↓sg9, ↓sg10, ↓sg11, ↓sg12, ↓sg13, ↓sg14, ↓sg15, ↓sg16, ↓sg17, ↓ss0, ↓ss1, ↓ss2, ↓ss3, ↓ss4, ↓ss5, ↓ss6, ↓ss7, ↓ss8, ↓ss9, ↓ss10, ↓ss11, ↓ss12, ↓ss13, ↓ss14, ↓ss15, ↓ss16, ↓ss17, t0, ↓aft_of (r_in), inI, a11]
  | 3, _ => rw [show nI 3 = 3 from rfl]; simp +decide only [gCount]; simp +decide only [x201_0, x201_1, x201_2, x201_5, x201_6, x201_7, x201_9, x201_12, x201_15, x201_16, x201_17, x201_20, x201_23, x201_25, x200_0, x200_1, x200_92, x200_93, x200_96, x200_97, x200_98, x200_99, x200_100, x200_103, x200_104, x200_105, x200_106, x200_107, x200_110, x200_112, x200_113, x200_114, x200_115, x200_118, x200_119, x200_120, x200_123, x200_125, x200_126, x200_127, x200_128, x200_131, x200_133, x200_134, x200_135, x200_136, x200_139, x200_140, x200_141, x200_144, x200_145, x200_146, x200_149, x200_150, x200_151, x200_154, x200_156, x200_157, x200_158, x200_159, x200_162, x200_163, x200_164, x200_167, x200_168, x200_169, x200_171, x200_174, x200_175, x200_178, x200_179, x200_180, x200_183, x200_184, x200_187, x200_188, x200_190, x200_191, x200_192, aft_some, aft_void, Option.bind_some, Option.toList_some, Option.toList_none, List.cons_append, List.nil_append, if_true, if_false, ↓reduceIte, eq_self, z366_o, ↓z366_0, ↓z366_0p, ↓z366_1, ↓z366_2, ↓z366_3, ↓z366_4, ↓z366_4p, ↓z366_5, ↓z366_6, ↓z366_6p0, ↓z366_6p1, ↓z366_7, ↓z366_8, ↓z366_8p, ↓z366_9, ↓z366_9p, ↓z366_10, ↓z366_10p0, ↓z366_10p1, ↓z366_11, ↓z366_12, ↓z366_12p, ↓sg0, ↓sg1, ↓sg2, ↓sg3, ↓sg4, ↓sg5, ↓sg6, ↓sg7, ↓sg8, ↓sg9, ↓sg10, ↓sg11, ↓sg12, ↓sg13, ↓sg14, ↓sg15, ↓sg16, ↓sg17, ↓ss0, ↓ss1, ↓ss2, ↓ss3, ↓ss4, ↓ss5, ↓ss6, ↓ss7, ↓ss8, ↓ss9, ↓ss10, ↓ss11, ↓ss12, ↓ss13, ↓ss14, ↓ss15, ↓ss16, ↓ss17, t0, ↓aft_of (r_in), inI, ↓aft_of (er)]
  | 4, _ => rw [show nI 4 = 4 from rfl]; simp +decide only [gCount]; simp +decide only [x201_0, x201_1, x201_2, x201_5, x201_6, x201_7, x201_9, x201_12, x201_15, x201_16, x201_17, x201_20, x201_23, x201_25, x200_0, x200_1, x200_92, x200_93, x200_96, x200_97, x200_98, x200_99, x200_100, x200_103, x200_104, x200_105, x200_106, x200_107, x200_110, x200_112, x200_113, x200_114, x200_115, x200_118, x200_119, x200_120, x200_123, x200_125, x200_126, x200_127, x200_128, x200_131, x200_133, x200_134, x200_135, x200_136, x200_139, x200_140, x200_141, x200_144, x200_145, x200_146, x200_149, x200_150, x200_151, x200_154, x200_156, x200_157, x200_158, x200_159, x200_162, x200_163, x200_164, x200_167, x200_168, x200_169, x200_171, x200_174, x200_175, x200_178, x200_179, x200_180, x200_183, x200_184, x200_187, x200_188, x200_190, x200_191, x200_192, aft_some, aft_void, Option.bind_some, Option.toList_some, Option.toList_none, List.cons_append, List.nil_append, if_true, if_false, ↓reduceIte, eq_self, z366_o, ↓z366_0, ↓z366_0p, ↓z366_1, ↓z366_2, ↓z366_3, ↓z366_4, ↓z366_4p, ↓z366_5, ↓z366_6, ↓z366_6p0, ↓z366_6p1, ↓z366_7, ↓z366_8, ↓z366_8p, ↓z366_9, ↓z366_9p, ↓z366_10, ↓z366_10p0, ↓z366_10p1, ↓z366_11, ↓z366_12, ↓z366_12p, ↓sg0, ↓sg1, ↓sg2, ↓sg3, ↓sg4, ↓sg5, ↓sg6, ↓sg7, ↓sg8, ↓sg9, ↓sg10, ↓sg11, ↓sg12, ↓sg13, ↓sg14, ↓sg15, ↓sg16, ↓sg17, ↓ss0, ↓ss1, ↓ss2, ↓ss3, ↓ss4, ↓ss5, ↓ss6, ↓ss7, ↓ss8, ↓ss9, ↓ss10, ↓ss11, ↓ss12, ↓ss13, ↓ss14, ↓ss15, ↓ss16, ↓ss17, t0, ↓aft_of (r_in), inI, a4]
  | 5, _ => rw [show nI 5 = 5 from rfl]; simp +decide only [gCount]; simp +decide only [x201_0, x201_1, x201_2, x201_5, x201_6, x201_7, x201_9, x201_12, x201_15, x201_16, x201_17, x201_20, x201_23, x201_25, x200_0, x200_1, x200_92, x200_93, x200_96, x200_97, x200_98, x200_99, x200_100, x200_103, x200_104, x200_105, x200_106, x200_107, x200_110, x200_112, x200_113, x200_114, x200_115, x200_118, x200_119, x200_120, x200_123, x200_125, x200_126, x200_127, x200_128, x200_131, x200_133, x200_134, x200_135, x200_136, x200_139, x200_140, x200_141, x200_144, x200_145, x200_146, x200_149, x200_150, x200_151, x200_154, x200_156, x200_157, x200_158, x200_159, x200_162, x200_163, x200_164, x200_167, x200_168, x200_169, x200_171, x200_174, x200_175, x200_178, x200_179, x200_180, x200_183, x200_184, x200_187, x200_188, x200_190, x200_191, x200_192, aft_some, aft_void, Option.bind_some, Option.toList_some, Option.toList_none, List.cons_append, List.nil_append, if_true, if_false, ↓reduceIte, eq_self, z366_o, ↓z366_0, ↓z366_0p, ↓z366_1, ↓z366_2, ↓z366_3, ↓z366_4, ↓z366_4p, ↓z366_5, ↓z366_6, ↓z366_6p0, ↓z366_6p1, ↓z366_7, ↓z366_8, ↓z366_8p, ↓z366_9, ↓z366_9p, ↓z366_10, ↓z366_10p0, ↓z366_10p1, ↓z366_11, ↓z366_12, ↓z366_12p, ↓sg0, ↓sg1, ↓sg2, ↓sg3, ↓sg4, ↓sg5, ↓sg6, ↓sg7, ↓sg8, ↓sg9, ↓sg10, ↓sg11, ↓sg12, ↓sg13, ↓sg14, ↓sg15, ↓sg16, ↓sg17, ↓ss0, ↓ss1, ↓ss2, ↓ss3, ↓ss4, ↓ss5, ↓ss6, ↓ss7, ↓ss8, ↓ss9, ↓ss10, ↓ss11, ↓ss12, ↓ss13, ↓ss14, ↓ss15, ↓ss16, ↓ss17, t0, ↓aft_of (r_in), inI, a5]
  | 6, _ => rw [show nI 6 = 6 from rfl]; simp +decide only [gCount]; simp +decide only [x201_0, x201_1, x201_2, x201_5, x201_6, x201_7, x201_9, x201_12, x201_15, x201_16, x201_17, x201_20, x201_23, x201_25, x200_0, x200_1, x200_92, x200_93, x200_96, x200_97, x200_98, x200_99, x200_100, x200_103, x200_104, x200_105, x200_106, x200_107, x200_110, x200_112, x200_113, x200_114, x200_115, x200_118, x200_119, x200_120, x200_123, x200_125, x200_126, x200_127, x200_128, x200_131, x200_133, x200_134, x200_135, x200_136, x200_139, x200_140, x200_141, x200_144, x200_145, x200_146, x200_149, x200_150, x200_151, x200_154, x200_156, x200_157, x200_158, x200_159, x200_162, x200_163, x200_164, x200_167, x200_168, x200_169, x200_171, x200_174, x200_175, x200_178, x200_179, x200_180, x200_183, x200_184, x200_187, x200_188, x200_190, x200_191, x200_192, aft_some, aft_void, Option.bind_some, Option.toList_some, Option.toList_none, List.cons_append, List.nil_append, if_true, if_false, ↓reduceIte, eq_self, z366_o, ↓z366_0, ↓z366_0p, ↓z366_1, ↓z366_2, ↓z366_3, ↓z366_4, ↓z366_4p, ↓z366_5, ↓z366_6, ↓z366_6p0, ↓z366_6p1, ↓z366_7, ↓z366_8, ↓z366_8p, ↓z366_9, ↓z366_9p, ↓z366_10, ↓z366_10p0, ↓z366_10p1, ↓z366_11, ↓z366_12, ↓z366_12p, ↓sg0, ↓sg1, ↓sg2, ↓sg3, ↓sg4, ↓sg5, ↓sg6, ↓sg7, ↓sg8, ↓sg9, ↓sg10, ↓sg11, ↓sg12, ↓sg13, ↓sg14, ↓sg15, ↓sg16, ↓sg17, ↓ss0, ↓ss1, ↓ss2, ↓ss3, ↓ss4, ↓ss5, ↓ss6, ↓ss7, ↓ss8, ↓ss9, ↓ss10, ↓ss11, ↓ss12, ↓ss13, ↓ss14, ↓ss15, ↓ss16, ↓ss17, t0, ↓aft_of (r_in), inI, ↓aft_of (eo)]
  | 7, _ => rw [show nI 7 = 7 from rfl]; simp +decide only [gCount]; simp +decide only [x201_0, x201_1, x201_2, x201_5, x201_6, x201_7, x201_9, x201_12, x201_15, x201_16, x201_17, x201_20, x201_23, x201_25, x200_0, x200_1, x200_92, x200_93, x200_96, x200_97, x200_98, x200_99, x200_100, x200_103, x200_104, x200_105, x200_106, x200_107, x200_110, x200_112, x200_113, x200_114, x200_115, x200_118, x200_119, x200_120, x200_123, x200_125, x200_126, x200_127, x200_128, x200_131, x200_133, x200_134, x200_135, x200_136, x200_139, x200_140, x200_141, x200_144, x200_145, x200_146, x200_149, x200_150, x200_151, x200_154, x200_156, x200_157, x200_158, x200_159, x200_162, x200_163, x200_164, x200_167, x200_168, x200_169, x200_171, x200_174, x200_175, x200_178, x200_179, x200_180, x200_183, x200_184, x200_187, x200_188, x200_190, x200_191, x200_192, aft_some, aft_void, Option.bind_some, Option.toList_some, Option.toList_none, List.cons_append, List.nil_append, if_true, if_false, ↓reduceIte, eq_self, z366_o, ↓z366_0, ↓z366_0p, ↓z366_1, ↓z366_2, ↓z366_3, ↓z366_4, ↓z366_4p, ↓z366_5, ↓z366_6, ↓z366_6p0, ↓z366_6p1, ↓z366_7, ↓z366_8, ↓z366_8p, ↓z366_9, ↓z366_9p, ↓z366_10, ↓z366_10p0, ↓z366_10p1, ↓z366_11, ↓z366_12, ↓z366_12p, ↓sg0, ↓sg1, ↓sg2, ↓sg3, ↓sg4, ↓sg5, ↓sg6, ↓sg7, ↓sg8, ↓sg9, ↓sg10, ↓sg11, ↓sg12, ↓sg13, ↓sg14, ↓sg15, ↓sg16, ↓sg17, ↓ss0, ↓ss1, ↓ss2, ↓ss3, ↓ss4, ↓ss5, ↓ss6, ↓ss7, ↓ss8, ↓ss9, ↓ss10, ↓ss11, ↓ss12, ↓ss13, ↓ss14, ↓ss15, ↓ss16, ↓ss17, t0, ↓aft_of (r_in), inI, ↓aft_of (eu)]
  | 8, _ => rw [show nI 8 = 8 from rfl]; simp +decide only [gCount]; simp +decide only [x201_0, x201_1, x201_2, x201_5, x201_6, x201_7, x201_9, x201_12, x201_15, x201_16, x201_17, x201_20, x201_23, x201_25, x200_0, x200_1, x200_92, x200_93, x200_96, x200_97, x200_98, x200_99, x200_100, x200_103, x200_104, x200_105, x200_106, x200_107, x200_110, x200_112, x200_113, x200_114, x200_115, x200_118, x200_119, x200_120, x200_123, x200_125, x200_126, x200_127, x200_128, x200_131, x200_133, x200_134, x200_135, x200_136, x200_139, x200_140, x200_141, x200_144, x200_145, x200_146, x200_149, x200_150, x200_151, x200_154, x200_156, x200_157, x200_158, x200_159, x200_162, x200_163, x200_164, x200_167, x200_168, x200_169, x200_171, x200_174, x200_175, x200_178, x200_179, x200_180, x200_183, x200_184, x200_187, x200_188, x200_190, x200_191, x200_192, aft_some, aft_void, Option.bind_some, Option.toList_some, Option.toList_none, List.cons_append, List.nil_append, if_true, if_false, ↓reduceIte, eq_self, z366_o, ↓z366_0, ↓z366_0p, ↓z366_1, ↓z366_2, ↓z366_3, ↓z366_4, ↓z366_4p, ↓z366_5, ↓z366_6, ↓z366_6p0, ↓z366_6p1, ↓z366_7, ↓z366_8, ↓z366_8p, ↓z366_9, ↓z366_9p, ↓z366_10, ↓z366_10p0, ↓z366_10p1, ↓z366_11, ↓z366_12, ↓z366_12p, ↓sg0, ↓sg1, ↓sg2, ↓sg3, ↓sg4, ↓sg5, ↓sg6, ↓sg7, ↓sg8, ↓sg9, ↓sg10, ↓sg11, ↓sg12, ↓sg13, ↓sg14, ↓sg15, ↓sg16, ↓sg17, ↓ss0, ↓ss1, ↓ss2, ↓ss3, ↓ss4, ↓ss5, ↓ss6, ↓ss7, ↓ss8, ↓ss9, ↓ss10, ↓ss11, ↓ss12, ↓ss13, ↓ss14, ↓ss15, ↓ss16, ↓ss17, t0, ↓aft_of (r_in), inI, a6]
  | 9, _ => rw [show nI 9 = 9 from rfl]; simp +decide only [gCount]; simp +decide only [x201_0, x201_1, x201_2, x201_5, x201_6, x201_7, x201_9, x201_12, x201_15, x201_16, x201_17, x201_20, x201_23, x201_25, x200_0, x200_1, x200_92, x200_93, x200_96, x200_97, x200_98, x200_99, x200_100, x200_103, x200_104, x200_105, x200_106, x200_107, x200_110, x200_112, x200_113, x200_114, x200_115, x200_118, x200_119, x200_120, x200_123, x200_125, x200_126, x200_127, x200_128, x200_131, x200_133, x200_134, x200_135, x200_136, x200_139, x200_140, x200_141, x200_144, x200_145, x200_146, x200_149, x200_150, x200_151, x200_154, x200_156, x200_157, x200_158, x200_159, x200_162, x200_163, x200_164, x200_167, x200_168, x200_169, x200_171, x200_174, x200_175, x200_178, x200_179, x200_180, x200_183, x200_184, x200_187, x200_188, x200_190, x200_191, x200_192, aft_some, aft_void, Option.bind_some, Option.toList_some, Option.toList_none, List.cons_append, List.nil_append, if_true, if_false, ↓reduceIte, eq_self, z366_o, ↓z366_0, ↓z366_0p, ↓z366_1, ↓z366_2, ↓z366_3, ↓z366_4, ↓z366_4p, ↓z366_5, ↓z366_6, ↓z366_6p0, ↓z366_6p1, ↓z366_7, ↓z366_8, ↓z366_8p, ↓z366_9, ↓z366_9p, ↓z366_10, ↓z366_10p0, ↓z366_10p1, ↓z366_11, ↓z366_12, ↓z366_12p, ↓sg0, ↓sg1, ↓sg2, ↓sg3, ↓sg4, ↓sg5, ↓sg6, ↓sg7, ↓sg8, ↓sg9, ↓sg10, ↓sg11, ↓sg12, ↓sg13, ↓sg14, ↓sg15, ↓sg16, ↓sg17, ↓ss0, ↓ss1, ↓ss2, ↓ss3, ↓ss4, ↓ss5, ↓ss6, ↓ss7, ↓ss8, ↓ss9, ↓ss10, ↓ss11, ↓ss12, ↓ss13, ↓ss14, ↓ss15, ↓ss16, ↓ss17, t0, ↓aft_of (r_in), inI, a7]
  | 10, _ => rw [show nI 10 = 10 from rfl]; simp +decide only [gCount]; simp +decide only [x201_0, x201_1, x201_2, x201_5, x201_6, x201_7, x201_9, x201_12, x201_15, x201_16, x201_17, x201_20, x201_23, x201_25, x200_0, x200_1, x200_92, x200_93, x200_96, x200_97, x200_98, x200_99, x200_100, x200_103, x200_104, x200_105, x200_106, x200_107, x200_110, x200_112, x200_113, x200_114, x200_115, x200_118, x200_119, x200_120, x200_123, x200_125, x200_126, x200_127, x200_128, x200_131, x200_133, x200_134, x200_135, x200_136, x200_139, x200_140, x200_141, x200_144, x200_145, x200_146, x200_149, x200_150, x200_151, x200_154, x200_156, x200_157, x200_158, x200_159, x200_162, x200_163, x200_164, x200_167, x200_168, x200_169, x200_171, x200_174, x200_175, x200_178, x200_179, x200_180, x200_183, x200_184, x200_187, x200_188, x200_190, x200_191, x200_192, aft_some, aft_void, Option.bind_some, Option.toList_some, Option.toList_none, List.cons_append, List.nil_append, if_true, if_false, ↓reduceIte, eq_self, z366_o, ↓z366_0, ↓z366_0p, ↓z366_1, ↓z366_2, ↓z366_3, ↓z366_4, ↓z366_4p, ↓z366_5, ↓z366_6, ↓z366_6p0, ↓z366_6p1, ↓z366_7, ↓z366_8, ↓z366_8p, ↓z366_9, ↓z366_9p, ↓z366_10, ↓z366_10p0, ↓z366_10p1, ↓z366_11, ↓z366_12, ↓z366_12p, ↓sg0, ↓sg1, ↓sg2, ↓sg3, ↓sg4, ↓sg5, ↓sg6, ↓sg7, ↓sg8, ↓sg9, ↓sg10, ↓sg11, ↓sg12, ↓sg13, ↓sg14, ↓sg15, ↓sg16, ↓sg17, ↓ss0, ↓ss1, ↓ss2, ↓ss3, ↓ss4, ↓ss5, ↓ss6, ↓ss7, ↓ss8, ↓ss9, ↓ss10, ↓ss11, ↓ss12, ↓ss13, ↓ss14, ↓ss15, ↓ss16, ↓ss17, t0, ↓aft_of (r_in), inI, a8]
  | 11, _ => rw [show nI 11 = 11 from rfl]; simp +decide only [gCount]; simp +decide only [x201_0, x201_1, x201_2, x201_5, x201_6, x201_7, x201_9, x201_12, x201_15, x201_16, x201_17, x201_20, x201_23, x201_25, x200_0, x200_1, x200_92, x200_93, x200_96, x200_97, x200_98, x200_99, x200_100, x200_103, x200_104, x200_105, x200_106, x200_107, x200_110, x200_112, x200_113, x200_114, x200_115, x200_118, x200_119, x200_120, x200_123, x200_125, x200_126, x200_127, x200_128, x200_131, x200_133, x200_134, x200_135, x200_136, x200_139, x200_140, x200_141, x200_144, x200_145, x200_146, x200_149, x200_150, x200_151, x200_154, x200_156, x200_157, x200_158, x200_159, x200_162, x200_163, x200_164, x200_167, x200_168, x200_169, x200_171, x200_174, x200_175, x200_178, x200_179, x200_180, x200_183, x200_184, x200_187, x200_188, x200_190, x200_191, x200_192, aft_some, aft_void, Option.bind_some, Option.toList_some, Option.toList_none, List.cons_append, List.nil_append, if_true, if_false, ↓reduceIte, eq_self, z366_o, ↓z366_0, ↓z366_0p, ↓z366_1, ↓z366_2, ↓z366_3, ↓z366_4, ↓z366_4p, ↓z366_5, ↓z366_6, ↓z366_6p0, ↓z366_6p1, ↓z366_7, ↓z366_8, ↓z366_8p, ↓z366_9, ↓z366_9p, ↓z366_10, ↓z366_10p0, ↓z366_10p1, ↓z366_11, ↓z366_12, ↓z366_12p, ↓sg0, ↓sg1, ↓sg2, ↓sg3, ↓sg4, ↓sg5, ↓sg6, ↓sg7, ↓sg8, ↓sg9, ↓sg10, ↓sg11, ↓sg12, ↓sg13, ↓sg14, ↓sg15, ↓sg16, ↓sg17, ↓ss0, ↓ss1, ↓ss2, ↓ss3, ↓ss4, ↓ss5, ↓ss6, ↓ss7, ↓ss8, ↓ss9, ↓ss10, ↓ss11, ↓ss12, ↓ss13, ↓ss14, ↓ss15, ↓ss16, ↓ss17, t0, ↓aft_of (r_in), inI, show f 11 = s.1.1.2.1 48 0 from a9 0 (by decide)]
  | 12, _ => rw [show nI 12 = 12 from rfl]; simp +decide only [gCount]; simp +decide only [x201_0, x201_1, x201_2, x201_5, x201_6, x201_7, x201_9, x201_12, x201_15, x201_16, x201_17, x201_20, x201_23, x201_25, x200_0, x200_1, x200_92, x200_93, x200_96, x200_97, x200_98, x200_99, x200_100, x200_103, x200_104, x200_105, x200_106, x200_107, x200_110, x200_112, x200_113, x200_114, x200_115, x200_118, x200_119, x200_120, x200_123, x200_125, x200_126, x200_127, x200_128, x200_131, x200_133, x200_134, x200_135, x200_136, x200_139, x200_140, x200_141, x200_144, x200_145, x200_146, x200_149, x200_150, x200_151, x200_154, x200_156, x200_157, x200_158, x200_159, x200_162, x200_163, x200_164, x200_167, x200_168, x200_169, x200_171, x200_174, x200_175, x200_178, x200_179, x200_180, x200_183, x200_184, x200_187, x200_188, x200_190, x200_191, x200_192, aft_some, aft_void, Option.bind_some, Option.toList_some, Option.toList_none, List.cons_append, List.nil_append, if_true, if_false, ↓reduceIte, eq_self, z366_o, ↓z366_0, ↓z366_0p, ↓z366_1, ↓z366_2, ↓z366_3, ↓z366_4, ↓z366_4p, ↓z366_5, ↓z366_6, ↓z366_6p0, ↓z366_6p1, ↓z366_7, ↓z366_8, ↓z366_8p, ↓z366_9, ↓z366_9p, ↓z366_10, ↓z366_10p0, ↓z366_10p1, ↓z366_11, ↓z366_12, ↓z366_12p, ↓sg0, ↓sg1, ↓sg2, ↓sg3, ↓sg4, ↓sg5, ↓sg6, ↓sg7, ↓sg8, ↓sg9, ↓sg10, ↓sg11, ↓sg12, ↓sg13, ↓sg14, ↓sg15, ↓sg16, ↓sg17, ↓ss0, ↓ss1, ↓ss2, ↓ss3, ↓ss4, ↓ss5, ↓ss6, ↓ss7, ↓ss8, ↓ss9, ↓ss10, ↓ss11, ↓ss12, ↓ss13, ↓ss14, ↓ss15, ↓ss16, ↓ss17, t0, ↓aft_of (r_in), inI, show f 12 = s.1.1.2.1 48 1 from a9 1 (by decide)]
  | 13, _ => rw [show nI 13 = 13 from rfl]; simp +decide only [gCount]; simp +decide only [x201_0, x201_1, x201_2, x201_5, x201_6, x201_7, x201_9, x201_12, x201_15, x201_16, x201_17, x201_20, x201_23, x201_25, x200_0, x200_1, x200_92, x200_93, x200_96, x200_97, x200_98, x200_99, x200_100, x200_103, x200_104, x200_105, x200_106, x200_107, x200_110, x200_112, x200_113, x200_114, x200_115, x200_118, x200_119, x200_120, x200_123, x200_125, x200_126, x200_127, x200_128, x200_131, x200_133, x200_134, x200_135, x200_136, x200_139, x200_140, x200_141, x200_144, x200_145, x200_146, x200_149, x200_150, x200_151, x200_154, x200_156, x200_157, x200_158, x200_159, x200_162, x200_163, x200_164, x200_167, x200_168, x200_169, x200_171, x200_174, x200_175, x200_178, x200_179, x200_180, x200_183, x200_184, x200_187, x200_188, x200_190, x200_191, x200_192, aft_some, aft_void, Option.bind_some, Option.toList_some, Option.toList_none, List.cons_append, List.nil_append, if_true, if_false, ↓reduceIte, eq_self, z366_o, ↓z366_0, ↓z366_0p, ↓z366_1, ↓z366_2, ↓z366_3, ↓z366_4, ↓z366_4p, ↓z366_5, ↓z366_6, ↓z366_6p0, ↓z366_6p1, ↓z366_7, ↓z366_8, ↓z366_8p, ↓z366_9, ↓z366_9p, ↓z366_10, ↓z366_10p0, ↓z366_10p1, ↓z366_11, ↓z366_12, ↓z366_12p, ↓sg0, ↓sg1, ↓sg2, ↓sg3, ↓sg4, ↓sg5, ↓sg6, ↓sg7, ↓sg8, ↓sg9, ↓sg10, ↓sg11, ↓sg12, ↓sg13, ↓sg14, ↓sg15, ↓sg16, ↓sg17, ↓ss0, ↓ss1, ↓ss2, ↓ss3, ↓ss4, ↓ss5, ↓ss6, ↓ss7, ↓ss8, ↓ss9, ↓ss10, ↓ss11, ↓ss12, ↓ss13, ↓ss14, ↓ss15, ↓ss16, ↓ss17, t0, ↓aft_of (r_in), inI, show f 13 = s.1.1.2.1 48 2 from a9 2 (by decide)]
  | 14, _ => rw [show nI 14 = 14 from rfl]; simp +decide only [gCount]; simp +decide only [x201_0, x201_1, x201_2, x201_5, x201_6, x201_7, x201_9, x201_12, x201_15, x201_16, x201_17, x201_20, x201_23, x201_25, x200_0, x200_1, x200_92, x200_93, x200_96, x200_97, x200_98, x200_99, x200_100, x200_103, x200_104, x200_105, x200_106, x200_107, x200_110, x200_112, x200_113, x200_114, x200_115, x200_118, x200_119, x200_120, x200_123, x200_125, x200_126, x200_127, x200_128, x200_131, x200_133, x200_134, x200_135, x200_136, x200_139, x200_140, x200_141, x200_144, x200_145, x200_146, x200_149, x200_150, x200_151, x200_154, x200_156, x200_157, x200_158, x200_159, x200_162, x200_163, x200_164, x200_167, x200_168, x200_169, x200_171, x200_174, x200_175, x200_178, x200_179, x200_180, x200_183, x200_184, x200_187, x200_188, x200_190, x200_191, x200_192, aft_some, aft_void, Option.bind_some, Option.toList_some, Option.toList_none, List.cons_append, List.nil_append, if_true, if_false, ↓reduceIte, eq_self, z366_o, ↓z366_0, ↓z366_0p, ↓z366_1, ↓z366_2, ↓z366_3, ↓z366_4, ↓z366_4p, ↓z366_5, ↓z366_6, ↓z366_6p0, ↓z366_6p1, ↓z366_7, ↓z366_8, ↓z366_8p, ↓z366_9, ↓z366_9p, ↓z366_10, ↓z366_10p0, ↓z366_10p1, ↓z366_11, ↓z366_12, ↓z366_12p, ↓sg0, ↓sg1, ↓sg2, ↓sg3, ↓sg4, ↓sg5, ↓sg6, ↓sg7, ↓sg8, ↓sg9, ↓sg10, ↓sg11, ↓sg12, ↓sg13, ↓sg14, ↓sg15, ↓sg16, ↓sg17, ↓ss0, ↓ss1, ↓ss2, ↓ss3, ↓ss4, ↓ss5, ↓ss6, ↓ss7, ↓ss8, ↓ss9, ↓ss10, ↓ss11, ↓ss12, ↓ss13, ↓ss14, ↓ss15, ↓ss16, ↓ss17, t0, ↓aft_of (r_in), inI, show f 14 = s.1.1.2.1 48 3 from a9 3 (by decide)]
  | 15, _ => rw [show nI 15 = 15 from rfl]; simp +decide only [gCount]; simp +decide only [x201_0, x201_1, x201_2, x201_5, x201_6, x201_7, x201_9, x201_12, x201_15, x201_16, x201_17, x201_20, x201_23, x201_25, x200_0, x200_1, x200_92, x200_93, x200_96, x200_97, x200_98, x200_99, x200_100, x200_103, x200_104, x200_105, x200_106, x200_107, x200_110, x200_112, x200_113, x200_114, x200_115, x200_118, x200_119, x200_120, x200_123, x200_125, x200_126, x200_127, x200_128, x200_131, x200_133, x200_134, x200_135, x200_136, x200_139, x200_140, x200_141, x200_144, x200_145, x200_146, x200_149, x200_150, x200_151, x200_154, x200_156, x200_157, x200_158, x200_159, x200_162, x200_163, x200_164, x200_167, x200_168, x200_169, x200_171, x200_174, x200_175, x200_178, x200_179, x200_180, x200_183, x200_184, x200_187, x200_188, x200_190, x200_191, x200_192, aft_some, aft_void, Option.bind_some, Option.toList_some, Option.toList_none, List.cons_append, List.nil_append, if_true, if_false, ↓reduceIte, eq_self, z366_o, ↓z366_0, ↓z366_0p, ↓z366_1, ↓z366_2, ↓z366_3, ↓z366_4, ↓z366_4p, ↓z366_5, ↓z366_6, ↓z366_6p0, ↓z366_6p1, ↓z366_7, ↓z366_8, ↓z366_8p, ↓z366_9, ↓z366_9p, ↓z366_10, ↓z366_10p0, ↓z366_10p1, ↓z366_11, ↓z366_12, ↓z366_12p, ↓sg0, ↓sg1, ↓sg2, ↓sg3, ↓sg4, ↓sg5, ↓sg6, ↓sg7, ↓sg8, ↓sg9, ↓sg10, ↓sg11, ↓sg12, ↓sg13, ↓sg14, ↓sg15, ↓sg16, ↓sg17, ↓ss0, ↓ss1, ↓ss2, ↓ss3, ↓ss4, ↓ss5, ↓ss6, ↓ss7, ↓ss8, ↓ss9, ↓ss10, ↓ss11, ↓ss12, ↓ss13, ↓ss14, ↓ss15, ↓ss16, ↓ss17, t0, ↓aft_of (r_in), inI, ↓aft_of (ew)]
  | 16, _ => rw [show nI 16 = 16 from rfl]; simp +decide only [gCount]; simp +decide only [x201_0, x201_1, x201_2, x201_5, x201_6, x201_7, x201_9, x201_12, x201_15, x201_16, x201_17, x201_20, x201_23, x201_25, x200_0, x200_1, x200_92, x200_93, x200_96, x200_97, x200_98, x200_99, x200_100, x200_103, x200_104, x200_105, x200_106, x200_107, x200_110, x200_112, x200_113, x200_114, x200_115, x200_118, x200_119, x200_120, x200_123, x200_125, x200_126, x200_127, x200_128, x200_131, x200_133, x200_134, x200_135, x200_136, x200_139, x200_140, x200_141, x200_144, x200_145, x200_146, x200_149, x200_150, x200_151, x200_154, x200_156, x200_157, x200_158, x200_159, x200_162, x200_163, x200_164, x200_167, x200_168, x200_169, x200_171, x200_174, x200_175, x200_178, x200_179, x200_180, x200_183, x200_184, x200_187, x200_188, x200_190, x200_191, x200_192, aft_some, aft_void, Option.bind_some, Option.toList_some, Option.toList_none, List.cons_append, List.nil_append, if_true, if_false, ↓reduceIte, eq_self, z366_o, ↓z366_0, ↓z366_0p, ↓z366_1, ↓z366_2, ↓z366_3, ↓z366_4, ↓z366_4p, ↓z366_5, ↓z366_6, ↓z366_6p0, ↓z366_6p1, ↓z366_7, ↓z366_8, ↓z366_8p, ↓z366_9, ↓z366_9p, ↓z366_10, ↓z366_10p0, ↓z366_10p1, ↓z366_11, ↓z366_12, ↓z366_12p, ↓sg0, ↓sg1, ↓sg2, ↓sg3, ↓sg4, ↓sg5, ↓sg6, ↓sg7, ↓sg8, ↓sg9, ↓sg10, ↓sg11, ↓sg12, ↓sg13, ↓sg14, ↓sg15, ↓sg16, ↓sg17, ↓ss0, ↓ss1, ↓ss2, ↓ss3, ↓ss4, ↓ss5, ↓ss6, ↓ss7, ↓ss8, ↓ss9, ↓ss10, ↓ss11, ↓ss12, ↓ss13, ↓ss14, ↓ss15, ↓ss16, ↓ss17, t0, ↓aft_of (r_in), inI, a10]
  | 17, _ => rw [show nI 17 = 17 from rfl]; simp +decide only [gCount]; simp +decide only [x201_0, x201_1, x201_2, x201_5, x201_6, x201_7, x201_9, x201_12, x201_15, x201_16, x201_17, x201_20, x201_23, x201_25, x200_0, x200_1, x200_92, x200_93, x200_96, x200_97, x200_98, x200_99, x200_100, x200_103, x200_104, x200_105, x200_106, x200_107, x200_110, x200_112, x200_113, x200_114, x200_115, x200_118, x200_119, x200_120, x200_123, x200_125, x200_126, x200_127, x200_128, x200_131, x200_133, x200_134, x200_135, x200_136, x200_139, x200_140, x200_141, x200_144, x200_145, x200_146, x200_149, x200_150, x200_151, x200_154, x200_156, x200_157, x200_158, x200_159, x200_162, x200_163, x200_164, x200_167, x200_168, x200_169, x200_171, x200_174, x200_175, x200_178, x200_179, x200_180, x200_183, x200_184, x200_187, x200_188, x200_190, x200_191, x200_192, aft_some, aft_void, Option.bind_some, Option.toList_some, Option.toList_none, List.cons_append, List.nil_append, if_true, if_false, ↓reduceIte, eq_self, z366_o, ↓z366_0, ↓z366_0p, ↓z366_1, ↓z366_2, ↓z366_3, ↓z366_4, ↓z366_4p, ↓z366_5, ↓z366_6, ↓z366_6p0, ↓z366_6p1, ↓z366_7, ↓z366_8, ↓z366_8p, ↓z366_9, ↓z366_9p, ↓z366_10, ↓z366_10p0, ↓z366_10p1, ↓z366_11, ↓z366_12, ↓z366_12p, ↓sg0, ↓sg1, ↓sg2, ↓sg3, ↓sg4, ↓sg5, ↓sg6, ↓sg7, ↓sg8, ↓sg9, ↓sg10, ↓sg11, ↓sg12, ↓sg13, ↓sg14, ↓sg15, ↓sg16, ↓sg17, ↓ss0, ↓ss1, ↓ss2, ↓ss3, ↓ss4, ↓ss5, ↓ss6, ↓ss7, ↓ss8, ↓ss9, ↓ss10, ↓ss11, ↓ss12, ↓ss13, ↓ss14, ↓ss15, ↓ss16, ↓ss17, t0, ↓aft_of (r_in), inI, s4]
  | 18, _ => rw [show nI 18 = 18 from rfl]; simp +decide only [gCount]; simp +decide only [x201_0, x201_1, x201_2, x201_5, x201_6, x201_7, x201_9, x201_12, x201_15, x201_16, x201_17, x201_20, x201_23, x201_25, x200_0, x200_1, x200_92, x200_93, x200_96, x200_97, x200_98, x200_99, x200_100, x200_103, x200_104, x200_105, x200_106, x200_107, x200_110, x200_112, x200_113, x200_114, x200_115, x200_118, x200_119, x200_120, x200_123, x200_125, x200_126, x200_127, x200_128, x200_131, x200_133, x200_134, x200_135, x200_136, x200_139, x200_140, x200_141, x200_144, x200_145, x200_146, x200_149, x200_150, x200_151, x200_154, x200_156, x200_157, x200_158, x200_159, x200_162, x200_163, x200_164, x200_167, x200_168, x200_169, x200_171, x200_174, x200_175, x200_178, x200_179, x200_180, x200_183, x200_184, x200_187, x200_188, x200_190, x200_191, x200_192, aft_some, aft_void, Option.bind_some, Option.toList_some, Option.toList_none, List.cons_append, List.nil_append, if_true, if_false, ↓reduceIte, eq_self, z366_o, ↓z366_0, ↓z366_0p, ↓z366_1, ↓z366_2, ↓z366_3, ↓z366_4, ↓z366_4p, ↓z366_5, ↓z366_6, ↓z366_6p0, ↓z366_6p1, ↓z366_7, ↓z366_8, ↓z366_8p, ↓z366_9, ↓z366_9p, ↓z366_10, ↓z366_10p0, ↓z366_10p1, ↓z366_11, ↓z366_12, ↓z366_12p, ↓sg0, ↓sg1, ↓sg2, ↓sg3, ↓sg4, ↓sg5, ↓sg6, ↓sg7, ↓sg8, ↓sg9, ↓sg10, ↓sg11, ↓sg12, ↓sg13, ↓sg14, ↓sg15, ↓sg16, ↓sg17, ↓ss0, ↓ss1, ↓ss2, ↓ss3, ↓ss4, ↓ss5, ↓ss6, ↓ss7, ↓ss8, ↓ss9, ↓ss10, ↓ss11, ↓ss12, ↓ss13, ↓ss14, ↓ss15, ↓ss16, ↓ss17, t0, ↓aft_of (r_in), inI, s8]
  | 19, _ => rw [show nI 19 = 19 from rfl]; simp +decide only [gCount]; simp +decide only [x201_0, x201_1, x201_2, x201_5, x201_6, x201_7, x201_9, x201_12, x201_15, x201_16, x201_17, x201_20, x201_23, x201_25, x200_0, x200_1, x200_92, x200_93, x200_96, x200_97, x200_98, x200_99, x200_100, x200_103, x200_104, x200_105, x200_106, x200_107, x200_110, x200_112, x200_113, x200_114, x200_115, x200_118, x200_119, x200_120, x200_123, x200_125, x200_126, x200_127, x200_128, x200_131, x200_133, x200_134, x200_135, x200_136, x200_139, x200_140, x200_141, x200_144, x200_145, x200_146, x200_149, x200_150, x200_151, x200_154, x200_156, x200_157, x200_158, x200_159, x200_162, x200_163, x200_164, x200_167, x200_168, x200_169, x200_171, x200_174, x200_175, x200_178, x200_179, x200_180, x200_183, x200_184, x200_187, x200_188, x200_190, x200_191, x200_192, aft_some, aft_void, Option.bind_some, Option.toList_some, Option.toList_none, List.cons_append, List.nil_append, if_true, if_false, ↓reduceIte, eq_self, z366_o, ↓z366_0, ↓z366_0p, ↓z366_1, ↓z366_2, ↓z366_3, ↓z366_4, ↓z366_4p, ↓z366_5, ↓z366_6, ↓z366_6p0, ↓z366_6p1, ↓z366_7, ↓z366_8, ↓z366_8p, ↓z366_9, ↓z366_9p, ↓z366_10, ↓z366_10p0, ↓z366_10p1, ↓z366_11, ↓z366_12, ↓z366_12p, ↓sg0, ↓sg1, ↓sg2, ↓sg3, ↓sg4, ↓sg5, ↓sg6, ↓sg7, ↓sg8, ↓sg9, ↓sg10, ↓sg11, ↓sg12, ↓sg13, ↓sg14, ↓sg15, ↓sg16, ↓sg17, ↓ss0, ↓ss1, ↓ss2, ↓ss3, ↓ss4, ↓ss5, ↓ss6, ↓ss7, ↓ss8, ↓ss9, ↓ss10, ↓ss11, ↓ss12, ↓ss13, ↓ss14, ↓ss15, ↓ss16, ↓ss17, t0, ↓aft_of (r_in), inI, Int32.reduceSub, a1 0 (by decide)]
  | 20, _ => rw [show nI 20 = 20 from rfl]; simp +decide only [gCount]; simp +decide only [x201_0, x201_1, x201_2, x201_5, x201_6, x201_7, x201_9, x201_12, x201_15, x201_16, x201_17, x201_20, x201_23, x201_25, x200_0, x200_1, x200_92, x200_93, x200_96, x200_97, x200_98, x200_99, x200_100, x200_103, x200_104, x200_105, x200_106, x200_107, x200_110, x200_112, x200_113, x200_114, x200_115, x200_118, x200_119, x200_120, x200_123, x200_125, x200_126, x200_127, x200_128, x200_131, x200_133, x200_134, x200_135, x200_136, x200_139, x200_140, x200_141, x200_144, x200_145, x200_146, x200_149, x200_150, x200_151, x200_154, x200_156, x200_157, x200_158, x200_159, x200_162, x200_163, x200_164, x200_167, x200_168, x200_169, x200_171, x200_174, x200_175, x200_178, x200_179, x200_180, x200_183, x200_184, x200_187, x200_188, x200_190, x200_191, x200_192, aft_some, aft_void, Option.bind_some, Option.toList_some, Option.toList_none, List.cons_append, List.nil_append, if_true, if_false, ↓reduceIte, eq_self, z366_o, ↓z366_0, ↓z366_0p, ↓z366_1, ↓z366_2, ↓z366_3, ↓z366_4, ↓z366_4p, ↓z366_5, ↓z366_6, ↓z366_6p0, ↓z366_6p1, ↓z366_7, ↓z366_8, ↓z366_8p, ↓z366_9, ↓z366_9p, ↓z366_10, ↓z366_10p0, ↓z366_10p1, ↓z366_11, ↓z366_12, ↓z366_12p, ↓sg0, ↓sg1, ↓sg2, ↓sg3, ↓sg4, ↓sg5, ↓sg6, ↓sg7, ↓sg8, ↓sg9, ↓sg10, ↓sg11, ↓sg12, ↓sg13, ↓sg14, ↓sg15, ↓sg16, ↓sg17, ↓ss0, ↓ss1, ↓ss2, ↓ss3, ↓ss4, ↓ss5, ↓ss6, ↓ss7, ↓ss8, ↓ss9, ↓ss10, ↓ss11, ↓ss12, ↓ss13, ↓ss14, ↓ss15, ↓ss16, ↓ss17, t0, ↓aft_of (r_in), inI, Int32.reduceSub, a1 1 (by decide)]
  | 21, _ => rw [show nI 21 = 21 from rfl]; simp +decide only [gCount]; simp +decide only [x201_0, x201_1, x201_2, x201_5, x201_6, x201_7, x201_9, x201_12, x201_15, x201_16, x201_17, x201_20, x201_23, x201_25, x200_0, x200_1, x200_92, x200_93, x200_96, x200_97, x200_98, x200_99, x200_100, x200_103, x200_104, x200_105, x200_106, x200_107, x200_110, x200_112, x200_113, x200_114, x200_115, x200_118, x200_119, x200_120, x200_123, x200_125, x200_126, x200_127, x200_128, x200_131, x200_133, x200_134, x200_135, x200_136, x200_139, x200_140, x200_141, x200_144, x200_145, x200_146, x200_149, x200_150, x200_151, x200_154, x200_156, x200_157, x200_158, x200_159, x200_162, x200_163, x200_164, x200_167, x200_168, x200_169, x200_171, x200_174, x200_175, x200_178, x200_179, x200_180, x200_183, x200_184, x200_187, x200_188, x200_190, x200_191, x200_192, aft_some, aft_void, Option.bind_some, Option.toList_some, Option.toList_none, List.cons_append, List.nil_append, if_true, if_false, ↓reduceIte, eq_self, z366_o, ↓z366_0, ↓z366_0p, ↓z366_1, ↓z366_2, ↓z366_3, ↓z366_4, ↓z366_4p, ↓z366_5, ↓z366_6, ↓z366_6p0, ↓z366_6p1, ↓z366_7, ↓z366_8, ↓z366_8p, ↓z366_9, ↓z366_9p, ↓z366_10, ↓z366_10p0, ↓z366_10p1, ↓z366_11, ↓z366_12, ↓z366_12p, ↓sg0, ↓sg1, ↓sg2, ↓sg3, ↓sg4, ↓sg5, ↓sg6, ↓sg7, ↓sg8, ↓sg9, ↓sg10, ↓sg11, ↓sg12, ↓sg13, ↓sg14, ↓sg15, ↓sg16, ↓sg17, ↓ss0, ↓ss1, ↓ss2, ↓ss3, ↓ss4, ↓ss5, ↓ss6, ↓ss7, ↓ss8, ↓ss9, ↓ss10, ↓ss11, ↓ss12, ↓ss13, ↓ss14, ↓ss15, ↓ss16, ↓ss17, t0, ↓aft_of (r_in), inI, Int32.reduceSub, a1 2 (by decide)]
  | 22, _ => rw [show nI 22 = 22 from rfl]; simp +decide only [gCount]; simp +decide only [x201_0, x201_1, x201_2, x201_5, x201_6, x201_7, x201_9, x201_12, x201_15, x201_16, x201_17, x201_20, x201_23, x201_25, x200_0, x200_1, x200_92, x200_93, x200_96, x200_97, x200_98, x200_99, x200_100, x200_103, x200_104, x200_105, x200_106, x200_107, x200_110, x200_112, x200_113, x200_114, x200_115, x200_118, x200_119, x200_120, x200_123, x200_125, x200_126, x200_127, x200_128, x200_131, x200_133, x200_134, x200_135, x200_136, x200_139, x200_140, x200_141, x200_144, x200_145, x200_146, x200_149, x200_150, x200_151, x200_154, x200_156, x200_157, x200_158, x200_159, x200_162, x200_163, x200_164, x200_167, x200_168, x200_169, x200_171, x200_174, x200_175, x200_178, x200_179, x200_180, x200_183, x200_184, x200_187, x200_188, x200_190, x200_191, x200_192, aft_some, aft_void, Option.bind_some, Option.toList_some, Option.toList_none, List.cons_append, List.nil_append, if_true, if_false, ↓reduceIte, eq_self, z366_o, ↓z366_0, ↓z366_0p, ↓z366_1, ↓z366_2, ↓z366_3, ↓z366_4, ↓z366_4p, ↓z366_5, ↓z366_6, ↓z366_6p0, ↓z366_6p1, ↓z366_7, ↓z366_8, ↓z366_8p, ↓z366_9, ↓z366_9p, ↓z366_10, ↓z366_10p0, ↓z366_10p1, ↓z366_11, ↓z366_12, ↓z366_12p, ↓sg0, ↓sg1, ↓sg2, ↓sg3, ↓sg4, ↓sg5, ↓sg6, ↓sg7, ↓sg8, ↓sg9, ↓sg10, ↓sg11, ↓sg12, ↓sg13, ↓sg14, ↓sg15, ↓sg16, ↓sg17, ↓ss0, ↓ss1, ↓ss2, ↓ss3, ↓ss4, ↓ss5, ↓ss6, ↓ss7, ↓ss8, ↓ss9, ↓ss10, ↓ss11, ↓ss12, ↓ss13, ↓ss14, ↓ss15, ↓ss16, ↓ss17, t0, ↓aft_of (r_in), inI, Int32.reduceSub, a1 3 (by decide)]
  | m + 23, hm => exact absurd hm (by omega)
theorem q_want (h : CF T f s) (hw : WG s) {st : Nat} (hst : s.1.1.2.1 0 1 = nI st) (hst9 : st ≤ 100000) : RQ T P f 207 [.ref 366, .long 0, .long 0, .long 0] (gWant s, s) := by
  have t0 := thr (f := f) h.1.1
  have hs := h.2
  have h8 : s.1.2.length ≤ 8 := hw.1.1.1.2.2.2.1
  have h16 := hs.1.n
  have f7 : f 7 = s.1.1.2.1 0 1 := hs.1.2.1.2.2.2
  refine RQ.same h ?_
  obtain ⟨F, hF⟩ : ∃ F, F = fun i => nhI (gK s.1.2 i 1) - nhI (gK s.1.2 i 2) := ⟨_, rfl⟩
  have hnum : ∀ i, i < s.1.2.length → ∃ y, y ≤ 27 ∧ F i = nI y := by
    intro i hi
    obtain ⟨-, -, -, -, h4⟩ := hw.1.1.2.2.2.1 i _ (gK_at hi)
    obtain ⟨x0, y0, z0, p0, q0, m0, r0, -⟩ := h4 0 (by decide)
    obtain ⟨x1, y1, z1, p1, q1, m1, r1, -⟩ := h4 1 (by decide)
    obtain ⟨x2, y2, z2, p2, q2, m2, r2, -⟩ := h4 2 (by decide)
    refine ⟨(x0 + x1 + x2) - (y0 + y1 + y2), by omega, ?_⟩
    rw [hF]
    simp only [nhI]
    rw [m0, m1, m2, r0, r1, r2, Int32.zero_add, Int32.zero_add, nI_add, nI_add, nI_add, nI_add, nI_sub (by omega)]
  have hsum : ∀ n, n ≤ s.1.2.length → ∃ y, y ≤ 27 * n ∧ smI F n = nI y := by
    intro n
    induction n with
    | zero => intro _; exact ⟨0, by omega, rfl⟩
    | succ n ih =>
      intro hn
      obtain ⟨y, h1, h2⟩ := ih (by omega)
      obtain ⟨y2, h3, h4⟩ := hnum n (by omega)
      exact ⟨y + y2, by omega, by simp only [smI]; rw [h2, h4, nI_add]⟩
  have hstep : ∀ i, i < s.1.2.length → ∀ v3 : Value, ∃ w3, X 207 9 [.ref 366, .int (smI F i), .int (nI i), v3] [] (H (upA T 367 f) P) = X 207 9 [.ref 366, .int (smI F (i + 1)), .int (nI (i + 1)), w3] [] (H (upA T 367 f) P) := by
    intro i hi v3
    have hb := hs.2.2.2.1 i hi
    have o5 := r_of (T := T) (P := P) (f := f) (i := i) (w := 5) (y := 5) rfl (by omega) (by decide)
    have o6 := r_of (T := T) (P := P) (f := f) (i := i) (w := 6) (y := 6) rfl (by omega) (by decide)
    have o7 := r_of (T := T) (P := P) (f := f) (i := i) (w := 7) (y := 7) rfl (by omega) (by decide)
    have o9 := r_of (T := T) (P := P) (f := f) (i := i) (w := 9) (y := 9) rfl (by omega) (by decide)
    have o10 := r_of (T := T) (P := P) (f := f) (i := i) (w := 10) (y := 10) rfl (by omega) (by decide)
    have o11 := r_of (T := T) (P := P) (f := f) (i := i) (w := 11) (y := 11) rfl (by omega) (by decide)
    rw [(hb.2 0 (by decide)).1] at o5
    rw [(hb.2 1 (by decide)).1] at o6
    rw [(hb.2 2 (by decide)).1] at o7
    rw [(hb.2 0 (by decide)).2.1] at o9
    rw [(hb.2 1 (by decide)).2.1] at o10
    rw [(hb.2 2 (by decide)).2.1] at o11
    have hlt : nI i < nI s.1.2.length := nI_lt hi (by omega)
    have hn : smI F i + (gK s.1.2 i 1 0 - gK s.1.2 i 2 0) + (gK s.1.2 i 1 1 - gK s.1.2 i 2 1) + (gK s.1.2 i 1 2 - gK s.1.2 i 2 2) = smI F (i + 1) := by
      simp only [smI]
      rw [show F i = nhI (gK s.1.2 i 1) - nhI (gK s.1.2 i 2) by rw [hF]]
      simp only [nhI]
      generalize smI F i = a
      generalize gK s.1.2 i 1 0 = a0
      generalize gK s.1.2 i 1 1 = a1
      generalize gK s.1.2 i 1 2 = a2
      generalize gK s.1.2 i 2 0 = b0
      generalize gK s.1.2 i 2 1 = b1
      generalize gK s.1.2 i 2 2 = b2
      grind
    refine ⟨.int 3, ?_⟩
    rw [x207_9]
    simp +decide only [x207_0, x207_1, x207_2, x207_5, x207_6, x207_7, x207_8, x207_10, x207_11, x207_14, x207_16, x207_17, x207_20, x207_21, x207_22, x207_23, x207_24, x207_27, x207_28, x207_29, x207_30, x207_31, x207_32, x207_33, x207_36, x207_37, x207_38, x207_40, x207_41, x207_42, x207_45, x207_46, x207_47, x207_48, x207_51, x207_54, x207_57, x207_60, x207_61, x207_62, x207_65, x207_67, x207_68, x207_71, x207_72, x207_73, x207_76, x207_78, x207_79, x207_80, x207_83, x207_84, aft_some, aft_void, Option.bind_some, Option.toList_some, Option.toList_none, List.cons_append, List.nil_append, if_true, if_false, ↓reduceIte, eq_self, z366_o, ↓z366_0, ↓z366_0p, ↓z366_1, ↓z366_2, ↓z366_3, ↓z366_4, ↓z366_4p, ↓z366_5, ↓z366_6, ↓z366_6p0, ↓z366_6p1, ↓z366_7, ↓z366_8, ↓z366_8p, ↓z366_9, ↓z366_9p, ↓z366_10, ↓z366_10p0, ↓z366_10p1, ↓z366_11, ↓z366_12, ↓z366_12p, ↓sg0, ↓sg1, ↓sg2, ↓sg3, ↓sg4, ↓sg5, ↓sg6, ↓sg7, ↓sg8, ↓sg9, ↓sg10, ↓sg11, ↓sg12, ↓sg13, ↓sg14, ↓sg15, ↓sg16, ↓sg17, ↓ss0, ↓ss1, ↓ss2, ↓ss3, ↓ss4, ↓ss5, ↓ss6, ↓ss7, ↓ss8, ↓ss9, ↓ss10, ↓ss11, ↓ss12, ↓ss13, ↓ss14, ↓ss15, ↓ss16, ↓ss17, h16, hlt, ↓aft_of (o5), ↓aft_of (o6), ↓aft_of (o7), ↓aft_of (o9), ↓aft_of (o10), ↓aft_of (o11), hn, nI_1, Int32.reduceAdd]
  have hloop : ∀ n, n ≤ s.1.2.length → ∃ w3, X 207 9 [.ref 366, .int 0, .int 0, .long 0] [] (H (upA T 367 f) P) = X 207 9 [.ref 366, .int (smI F n), .int (nI n), w3] [] (H (upA T 367 f) P) := by
    intro n
    induction n with
    | zero => intro _; exact ⟨.long 0, rfl⟩
    | succ n ih =>
      intro hn
      obtain ⟨w, e⟩ := ih (by omega)
      obtain ⟨w', e'⟩ := hstep n (by omega) w
      exact ⟨w', e.trans e'⟩
  obtain ⟨w3, el⟩ := hloop s.1.2.length (Nat.le_refl _)
  obtain ⟨y, hy, ey⟩ := hsum s.1.2.length (Nat.le_refl _)
  have hgw : gWant s = if st < y then nI (y - st) else 0 := by
    unfold gWant
    rw [show smI (fun i => nhI (gK s.1.2 i 1) - nhI (gK s.1.2 i 2)) s.1.2.length = nI y by rw [← hF]; exact ey, hst]
    by_cases c : st < y
    · rw [if_pos c, nI_sub (by omega), if_pos (by rw [nI_posn (by omega)]; omega)]
    · rw [if_neg c, if_neg]
      intro z
      rw [Int32.lt_iff_toInt_lt, Int32.toInt_sub, nI_toInt (by omega), nI_toInt (by omega), Int.bmod_eq_of_le (by omega) (by omega), show (0 : Int32).toInt = 0 from by decide] at z
      omega
  rw [hgw]
  have elt : (nI st < nI y) = (st < y) := nI_ltp (by omega) (by omega)
  simp +decide only [x207_0, x207_1, x207_2, x207_5, x207_6, x207_7, x207_8, x207_10, x207_11, x207_14, x207_16, x207_17, x207_20, x207_21, x207_22, x207_23, x207_24, x207_27, x207_28, x207_29, x207_30, x207_31, x207_32, x207_33, x207_36, x207_37, x207_38, x207_40, x207_41, x207_42, x207_45, x207_46, x207_47, x207_48, x207_51, x207_54, x207_57, x207_60, x207_61, x207_62, x207_65, x207_67, x207_68, x207_71, x207_72, x207_73, x207_76, x207_78, x207_79, x207_80, x207_83, x207_84, aft_some, aft_void, Option.bind_some, Option.toList_some, Option.toList_none, List.cons_append, List.nil_append, if_true, if_false, ↓reduceIte, eq_self, z366_o, ↓z366_0, ↓z366_0p, ↓z366_1, ↓z366_2, ↓z366_3, ↓z366_4, ↓z366_4p, ↓z366_5, ↓z366_6, ↓z366_6p0, ↓z366_6p1, ↓z366_7, ↓z366_8, ↓z366_8p, ↓z366_9, ↓z366_9p, ↓z366_10, ↓z366_10p0, ↓z366_10p1, ↓z366_11, ↓z366_12, ↓z366_12p, ↓sg0, ↓sg1, ↓sg2, ↓sg3, ↓sg4, ↓sg5, ↓sg6, ↓sg7, ↓sg8, ↓sg9, ↓sg10, ↓sg11, ↓sg12, ↓sg13, ↓sg14, ↓sg15, ↓sg16, ↓sg17, ↓ss0, ↓ss1, ↓ss2, ↓ss3, ↓ss4, ↓ss5, ↓ss6, ↓ss7, ↓ss8, ↓ss9, ↓ss10, ↓ss11, ↓ss12, ↓ss13, ↓ss14, ↓ss15, ↓ss16, ↓ss17, t0]
  rw [el, x207_9, ey]
  by_cases c : st < y
  · simp +decide only [x207_0, x207_1, x207_2, x207_5, x207_6, x207_7, x207_8, x207_10, x207_11, x207_14, x207_16, x207_17, x207_20, x207_21, x207_22, x207_23, x207_24, x207_27, x207_28, x207_29, x207_30, x207_31, x207_32, x207_33, x207_36, x207_37, x207_38, x207_40, x207_41, x207_42, x207_45, x207_46, x207_47, x207_48, x207_51, x207_54, x207_57, x207_60, x207_61, x207_62, x207_65, x207_67, x207_68, x207_71, x207_72, x207_73, x207_76, x207_78, x207_79, x207_80, x207_83, x207_84, aft_some, aft_void, Option.bind_some, Option.toList_some, Option.toList_none, List.cons_append, List.nil_append, if_true, if_false, ↓reduceIte, eq_self, z366_o, ↓z366_0, ↓z366_0p, ↓z366_1, ↓z366_2, ↓z366_3, ↓z366_4, ↓z366_4p, ↓z366_5, ↓z366_6, ↓z366_6p0, ↓z366_6p1, ↓z366_7, ↓z366_8, ↓z366_8p, ↓z366_9, ↓z366_9p, ↓z366_10, ↓z366_10p0, ↓z366_10p1, ↓z366_11, ↓z366_12, ↓z366_12p, ↓sg0, ↓sg1, ↓sg2, ↓sg3, ↓sg4, ↓sg5, ↓sg6, ↓sg7, ↓sg8, ↓sg9, ↓sg10, ↓sg11, ↓sg12, ↓sg13, ↓sg14, ↓sg15, ↓sg16, ↓sg17, ↓ss0, ↓ss1, ↓ss2, ↓ss3, ↓ss4, ↓ss5, ↓ss6, ↓ss7, ↓ss8, ↓ss9, ↓ss10, ↓ss11, ↓ss12, ↓ss13, ↓ss14, ↓ss15, ↓ss16, ↓ss17, h16, nI_nlt (Nat.le_refl s.1.2.length) (show s.1.2.length < 2 ^ 31 by omega), f7, hst, elt, c, nI_sub (show st ≤ y by omega)]
  · simp +decide only [x207_0, x207_1, x207_2, x207_5, x207_6, x207_7, x207_8, x207_10, x207_11, x207_14, x207_16, x207_17, x207_20, x207_21, x207_22, x207_23, x207_24, x207_27, x207_28, x207_29, x207_30, x207_31, x207_32, x207_33, x207_36, x207_37, x207_38, x207_40, x207_41, x207_42, x207_45, x207_46, x207_47, x207_48, x207_51, x207_54, x207_57, x207_60, x207_61, x207_62, x207_65, x207_67, x207_68, x207_71, x207_72, x207_73, x207_76, x207_78, x207_79, x207_80, x207_83, x207_84, aft_some, aft_void, Option.bind_some, Option.toList_some, Option.toList_none, List.cons_append, List.nil_append, if_true, if_false, ↓reduceIte, eq_self, z366_o, ↓z366_0, ↓z366_0p, ↓z366_1, ↓z366_2, ↓z366_3, ↓z366_4, ↓z366_4p, ↓z366_5, ↓z366_6, ↓z366_6p0, ↓z366_6p1, ↓z366_7, ↓z366_8, ↓z366_8p, ↓z366_9, ↓z366_9p, ↓z366_10, ↓z366_10p0, ↓z366_10p1, ↓z366_11, ↓z366_12, ↓z366_12p, ↓sg0, ↓sg1, ↓sg2, ↓sg3, ↓sg4, ↓sg5, ↓sg6, ↓sg7, ↓sg8, ↓sg9, ↓sg10, ↓sg11, ↓sg12, ↓sg13, ↓sg14, ↓sg15, ↓sg16, ↓sg17, ↓ss0, ↓ss1, ↓ss2, ↓ss3, ↓ss4, ↓ss5, ↓ss6, ↓ss7, ↓ss8, ↓ss9, ↓ss10, ↓ss11, ↓ss12, ↓ss13, ↓ss14, ↓ss15, ↓ss16, ↓ss17, h16, nI_nlt (Nat.le_refl s.1.2.length) (show s.1.2.length < 2 ^ 31 by omega), f7, hst, elt, c]
theorem q_want0 (h : CF T f s) (hw : WG s) : ∃ b, RQ T P f 207 [.ref 366, .long 0, .long 0, .long 0] (b, s) := by
  have t0 := thr (f := f) h.1.1
  have hs := h.2
  have h8 : s.1.2.length ≤ 8 := hw.1.1.1.2.2.2.1
  have h16 := hs.1.n
  have f7 : f 7 = s.1.1.2.1 0 1 := hs.1.2.1.2.2.2
  obtain ⟨F, hF⟩ : ∃ F, F = fun i => nhI (gK s.1.2 i 1) - nhI (gK s.1.2 i 2) := ⟨_, rfl⟩
  have hnum : ∀ i, i < s.1.2.length → ∃ y, y ≤ 27 ∧ F i = nI y := by
    intro i hi
    obtain ⟨-, -, -, -, h4⟩ := hw.1.1.2.2.2.1 i _ (gK_at hi)
    obtain ⟨x0, y0, z0, p0, q0, m0, r0, -⟩ := h4 0 (by decide)
    obtain ⟨x1, y1, z1, p1, q1, m1, r1, -⟩ := h4 1 (by decide)
    obtain ⟨x2, y2, z2, p2, q2, m2, r2, -⟩ := h4 2 (by decide)
    refine ⟨(x0 + x1 + x2) - (y0 + y1 + y2), by omega, ?_⟩
    rw [hF]
    simp only [nhI]
    rw [m0, m1, m2, r0, r1, r2, Int32.zero_add, Int32.zero_add, nI_add, nI_add, nI_add, nI_add, nI_sub (by omega)]
  have hsum : ∀ n, n ≤ s.1.2.length → ∃ y, y ≤ 27 * n ∧ smI F n = nI y := by
    intro n
    induction n with
    | zero => intro _; exact ⟨0, by omega, rfl⟩
    | succ n ih =>
      intro hn
      obtain ⟨y, h1, h2⟩ := ih (by omega)
      obtain ⟨y2, h3, h4⟩ := hnum n (by omega)
      exact ⟨y + y2, by omega, by simp only [smI]; rw [h2, h4, nI_add]⟩
  have hstep : ∀ i, i < s.1.2.length → ∀ v3 : Value, ∃ w3, X 207 9 [.ref 366, .int (smI F i), .int (nI i), v3] [] (H (upA T 367 f) P) = X 207 9 [.ref 366, .int (smI F (i + 1)), .int (nI (i + 1)), w3] [] (H (upA T 367 f) P) := by
    intro i hi v3
    have hb := hs.2.2.2.1 i hi
    have o5 := r_of (T := T) (P := P) (f := f) (i := i) (w := 5) (y := 5) rfl (by omega) (by decide)
    have o6 := r_of (T := T) (P := P) (f := f) (i := i) (w := 6) (y := 6) rfl (by omega) (by decide)
    have o7 := r_of (T := T) (P := P) (f := f) (i := i) (w := 7) (y := 7) rfl (by omega) (by decide)
    have o9 := r_of (T := T) (P := P) (f := f) (i := i) (w := 9) (y := 9) rfl (by omega) (by decide)
    have o10 := r_of (T := T) (P := P) (f := f) (i := i) (w := 10) (y := 10) rfl (by omega) (by decide)
    have o11 := r_of (T := T) (P := P) (f := f) (i := i) (w := 11) (y := 11) rfl (by omega) (by decide)
    rw [(hb.2 0 (by decide)).1] at o5
    rw [(hb.2 1 (by decide)).1] at o6
    rw [(hb.2 2 (by decide)).1] at o7
    rw [(hb.2 0 (by decide)).2.1] at o9
    rw [(hb.2 1 (by decide)).2.1] at o10
    rw [(hb.2 2 (by decide)).2.1] at o11
    have hlt : nI i < nI s.1.2.length := nI_lt hi (by omega)
    have hn : smI F i + (gK s.1.2 i 1 0 - gK s.1.2 i 2 0) + (gK s.1.2 i 1 1 - gK s.1.2 i 2 1) + (gK s.1.2 i 1 2 - gK s.1.2 i 2 2) = smI F (i + 1) := by
      simp only [smI]
      rw [show F i = nhI (gK s.1.2 i 1) - nhI (gK s.1.2 i 2) by rw [hF]]
      simp only [nhI]
      generalize smI F i = a
      generalize gK s.1.2 i 1 0 = a0
      generalize gK s.1.2 i 1 1 = a1
      generalize gK s.1.2 i 1 2 = a2
      generalize gK s.1.2 i 2 0 = b0
      generalize gK s.1.2 i 2 1 = b1
      generalize gK s.1.2 i 2 2 = b2
      grind
    refine ⟨.int 3, ?_⟩
    rw [x207_9]
    simp +decide only [x207_0, x207_1, x207_2, x207_5, x207_6, x207_7, x207_8, x207_10, x207_11, x207_14, x207_16, x207_17, x207_20, x207_21, x207_22, x207_23, x207_24, x207_27, x207_28, x207_29, x207_30, x207_31, x207_32, x207_33, x207_36, x207_37, x207_38, x207_40, x207_41, x207_42, x207_45, x207_46, x207_47, x207_48, x207_51, x207_54, x207_57, x207_60, x207_61, x207_62, x207_65, x207_67, x207_68, x207_71, x207_72, x207_73, x207_76, x207_78, x207_79, x207_80, x207_83, x207_84, aft_some, aft_void, Option.bind_some, Option.toList_some, Option.toList_none, List.cons_append, List.nil_append, if_true, if_false, ↓reduceIte, eq_self, z366_o, ↓z366_0, ↓z366_0p, ↓z366_1, ↓z366_2, ↓z366_3, ↓z366_4, ↓z366_4p, ↓z366_5, ↓z366_6, ↓z366_6p0, ↓z366_6p1, ↓z366_7, ↓z366_8, ↓z366_8p, ↓z366_9, ↓z366_9p, ↓z366_10, ↓z366_10p0, ↓z366_10p1, ↓z366_11, ↓z366_12, ↓z366_12p, ↓sg0, ↓sg1, ↓sg2, ↓sg3, ↓sg4, ↓sg5, ↓sg6, ↓sg7, ↓sg8, ↓sg9, ↓sg10, ↓sg11, ↓sg12, ↓sg13, ↓sg14, ↓sg15, ↓sg16, ↓sg17, ↓ss0, ↓ss1, ↓ss2, ↓ss3, ↓ss4, ↓ss5, ↓ss6, ↓ss7, ↓ss8, ↓ss9, ↓ss10, ↓ss11, ↓ss12, ↓ss13, ↓ss14, ↓ss15, ↓ss16, ↓ss17, h16, hlt, ↓aft_of (o5), ↓aft_of (o6), ↓aft_of (o7), ↓aft_of (o9), ↓aft_of (o10), ↓aft_of (o11), hn, nI_1, Int32.reduceAdd]
  have hloop : ∀ n, n ≤ s.1.2.length → ∃ w3, X 207 9 [.ref 366, .int 0, .int 0, .long 0] [] (H (upA T 367 f) P) = X 207 9 [.ref 366, .int (smI F n), .int (nI n), w3] [] (H (upA T 367 f) P) := by
    intro n
    induction n with
    | zero => intro _; exact ⟨.long 0, rfl⟩
    | succ n ih =>
      intro hn
      obtain ⟨w, e⟩ := ih (by omega)
      obtain ⟨w', e'⟩ := hstep n (by omega) w
      exact ⟨w', e.trans e'⟩
  obtain ⟨w3, el⟩ := hloop s.1.2.length (Nat.le_refl _)
  obtain ⟨y, hy, ey⟩ := hsum s.1.2.length (Nat.le_refl _)
  have e0 : ∀ b, X 207 9 [.ref 366, .int (nI y), .int (nI s.1.2.length), w3] [] (H (upA T 367 f) P) = some (some (.int b), H (upA T 367 f) P) → RQ T P f 207 [.ref 366, .long 0, .long 0, .long 0] (b, s) := by
    intro b hb
    rw [ey] at el
    have el := el.trans hb
    refine RQ.same h ?_
    simp +decide only [x207_0, x207_1, x207_2, x207_5, x207_6, x207_7, x207_8, x207_10, x207_11, x207_14, x207_16, x207_17, x207_20, x207_21, x207_22, x207_23, x207_24, x207_27, x207_28, x207_29, x207_30, x207_31, x207_32, x207_33, x207_36, x207_37, x207_38, x207_40, x207_41, x207_42, x207_45, x207_46, x207_47, x207_48, x207_51, x207_54, x207_57, x207_60, x207_61, x207_62, x207_65, x207_67, x207_68, x207_71, x207_72, x207_73, x207_76, x207_78, x207_79, x207_80, x207_83, x207_84, aft_some, aft_void, Option.bind_some, Option.toList_some, Option.toList_none, List.cons_append, List.nil_append, if_true, if_false, ↓reduceIte, eq_self, z366_o, ↓z366_0, ↓z366_0p, ↓z366_1, ↓z366_2, ↓z366_3, ↓z366_4, ↓z366_4p, ↓z366_5, ↓z366_6, ↓z366_6p0, ↓z366_6p1, ↓z366_7, ↓z366_8, ↓z366_8p, ↓z366_9, ↓z366_9p, ↓z366_10, ↓z366_10p0, ↓z366_10p1, ↓z366_11, ↓z366_12, ↓z366_12p, ↓sg0, ↓sg1, ↓sg2, ↓sg3, ↓sg4, ↓sg5, ↓sg6, ↓sg7, ↓sg8, ↓sg9, ↓sg10, ↓sg11, ↓sg12, ↓sg13, ↓sg14, ↓sg15, ↓sg16, ↓sg17, ↓ss0, ↓ss1, ↓ss2, ↓ss3, ↓ss4, ↓ss5, ↓ss6, ↓ss7, ↓ss8, ↓ss9, ↓ss10, ↓ss11, ↓ss12, ↓ss13, ↓ss14, ↓ss15, ↓ss16, ↓ss17, t0]
    exact el
  by_cases c : s.1.1.2.1 0 1 < nI y
  · exact ⟨nI y - s.1.1.2.1 0 1, e0 _ (by rw [x207_9]; simp +decide only [x207_0, x207_1, x207_2, x207_5, x207_6, x207_7, x207_8, x207_10, x207_11, x207_14, x207_16, x207_17, x207_20, x207_21, x207_22, x207_23, x207_24, x207_27, x207_28, x207_29, x207_30, x207_31, x207_32, x207_33, x207_36, x207_37, x207_38, x207_40, x207_41, x207_42, x207_45, x207_46, x207_47, x207_48, x207_51, x207_54, x207_57, x207_60, x207_61, x207_62, x207_65, x207_67, x207_68, x207_71, x207_72, x207_73, x207_76, x207_78, x207_79, x207_80, x207_83, x207_84, aft_some, aft_void, Option.bind_some, Option.toList_some, Option.toList_none, List.cons_append, List.nil_append, if_true, if_false, ↓reduceIte, eq_self, z366_o, ↓z366_0, ↓z366_0p, ↓z366_1, ↓z366_2, ↓z366_3, ↓z366_4, ↓z366_4p, ↓z366_5, ↓z366_6, ↓z366_6p0, ↓z366_6p1, ↓z366_7, ↓z366_8, ↓z366_8p, ↓z366_9, ↓z366_9p, ↓z366_10, ↓z366_10p0, ↓z366_10p1, ↓z366_11, ↓z366_12, ↓z366_12p, ↓sg0, ↓sg1, ↓sg2, ↓sg3, ↓sg4, ↓sg5, ↓sg6, ↓sg7, ↓sg8, ↓sg9, ↓sg10, ↓sg11, ↓sg12, ↓sg13, ↓sg14, ↓sg15, ↓sg16, ↓sg17, ↓ss0, ↓ss1, ↓ss2, ↓ss3, ↓ss4, ↓ss5, ↓ss6, ↓ss7, ↓ss8, ↓ss9, ↓ss10, ↓ss11, ↓ss12, ↓ss13, ↓ss14, ↓ss15, ↓ss16, ↓ss17, h16, nI_nlt (Nat.le_refl s.1.2.length) (show s.1.2.length < 2 ^ 31 by omega), f7, c])⟩
  · exact ⟨0, e0 _ (by rw [x207_9]; simp +decide only [x207_0, x207_1, x207_2, x207_5, x207_6, x207_7, x207_8, x207_10, x207_11, x207_14, x207_16, x207_17, x207_20, x207_21, x207_22, x207_23, x207_24, x207_27, x207_28, x207_29, x207_30, x207_31, x207_32, x207_33, x207_36, x207_37, x207_38, x207_40, x207_41, x207_42, x207_45, x207_46, x207_47, x207_48, x207_51, x207_54, x207_57, x207_60, x207_61, x207_62, x207_65, x207_67, x207_68, x207_71, x207_72, x207_73, x207_76, x207_78, x207_79, x207_80, x207_83, x207_84, aft_some, aft_void, Option.bind_some, Option.toList_some, Option.toList_none, List.cons_append, List.nil_append, if_true, if_false, ↓reduceIte, eq_self, z366_o, ↓z366_0, ↓z366_0p, ↓z366_1, ↓z366_2, ↓z366_3, ↓z366_4, ↓z366_4p, ↓z366_5, ↓z366_6, ↓z366_6p0, ↓z366_6p1, ↓z366_7, ↓z366_8, ↓z366_8p, ↓z366_9, ↓z366_9p, ↓z366_10, ↓z366_10p0, ↓z366_10p1, ↓z366_11, ↓z366_12, ↓z366_12p, ↓sg0, ↓sg1, ↓sg2, ↓sg3, ↓sg4, ↓sg5, ↓sg6, ↓sg7, ↓sg8, ↓sg9, ↓sg10, ↓sg11, ↓sg12, ↓sg13, ↓sg14, ↓sg15, ↓sg16, ↓sg17, ↓ss0, ↓ss1, ↓ss2, ↓ss3, ↓ss4, ↓ss5, ↓ss6, ↓ss7, ↓ss8, ↓ss9, ↓ss10, ↓ss11, ↓ss12, ↓ss13, ↓ss14, ↓ss15, ↓ss16, ↓ss17, h16, nI_nlt (Nat.le_refl s.1.2.length) (show s.1.2.length < 2 ^ 31 by omega), f7, c])⟩
end QT
end
section
/-! what would be, in the reference -/
section QW
variable {T U : Nat → Nat → Int32} {P : Nat → Nat → Nat} {f g : Nat → Int32} {s : gT} {x y z w m : Int32} {N M : Nat → Nat} {V W : Nat → Nat → Int32} {K : List kT} {B : List bT} {R R' : Nat → Nat → Int32} {i k r : Nat}
theorem ag12 {G : Int32 → Option (Option Value × List hC)} : (getI (H T P)[368]? 368 0 12).bind G = G (T 368 12) := a368_g (k := 12) (by decide)
/-- the state is laid aside -/
theorem q_aside (h : CF T f s) : ∃ U, X 132 0 [.ref 366, .long 0] [] (H (upA T 367 f) P) = some (none, H (upA U 367 f) P) ∧ (∀ a, a ≠ 368 → U a = T a) ∧ (∀ k, k < 912 → U 368 k = f k) ∧ CF U f s := by
  obtain ⟨U, e, f1, g1, -⟩ := r_putAside (T := upA T 367 f) (P := P)
  have hU : U 367 = f := by rw [f1 367 (by decide), upA_s]
  have hUU : upA U 367 f = U := by rw [← hU]; exact upA_self _ _
  have n1 : ∀ a, a ≠ 368 → upA U 367 (T 367) a = T a := fun a q1 => by
    by_cases q : a = 367
    · subst q; exact upA_s _ _ _
    · rw [upA_n _ _ q, f1 a q1, upA_n _ _ q]
  refine ⟨upA U 367 (T 367), ?_, n1, fun k hk => ?_, ?_⟩
  · rw [upA_upA, hUU]; exact e
  · rw [upA_n _ _ (by decide), g1 k hk, upA_s]
  · obtain ⟨⟨h0, hk, hh, hx⟩, hs⟩ := h
    refine ⟨⟨?_, ?_, ?_, ?_⟩, hs⟩
    · rw [n1 366 (by decide)]; exact h0
    · cases hq : s.2.1 with
      | none => rw [hq] at hk; show upA U 367 (T 367) 366 6 = 0; rw [n1 366 (by decide)]; exact hk
      | some v => rw [hq] at hk; exact ⟨by rw [n1 366 (by decide)]; exact hk.1, by rw [n1 370 (by decide)]; exact hk.2⟩
    · exact hh.same (by rw [n1 366 (by decide)]) (n1 369 (by decide))
    · exact hx.same (by rw [n1 366 (by decide)]) (n1 371 (by decide))
/-- and taken back -/
theorem q_back (h : CF U f s) (hw : WG s) (ha : ∀ k, k < 912 → U 368 k = f k) : ∃ U' f', X 133 0 [.ref 366, .long 0] [] (H (upA U 367 g) P) = some (none, H (upA U' 367 f') P) ∧ (∀ a, a < 366 → U' a = U a) ∧ CF U' f' s := by
  obtain ⟨W, e, f1, g1, -⟩ := r_takeBack (T := upA U 367 g) (P := P)
  have n1 : ∀ a, a ≠ 367 → W a = U a := fun a q => by rw [f1 a q, upA_n _ _ q]
  refine ⟨W, W 367, by rw [upA_self]; exact e, fun a ha => n1 a (by omega), ?_⟩
  obtain ⟨⟨h0, hk, hh, hx⟩, hs⟩ := h
  refine ⟨⟨?_, ?_, ?_, ?_⟩, sU.same hs hw.1 (fun k hk => ?_)⟩
  · rw [n1 366 (by decide)]; exact h0
  · cases hq : s.2.1 with
    | none => rw [hq] at hk; show W 366 6 = 0; rw [n1 366 (by decide)]; exact hk
    | some v => rw [hq] at hk; exact ⟨by rw [n1 366 (by decide)]; exact hk.1, by rw [n1 370 (by decide)]; exact hk.2⟩
  · exact hh.same (by rw [n1 366 (by decide)]) (n1 369 (by decide))
  · exact hx.same (by rw [n1 366 (by decide)]) (n1 371 (by decide))
  · rw [g1 k hk, upA_n _ _ (by decide)]; exact ha k hk
theorem WF.ord (hw : WF N V K B) (hr : r < 3) : WF N (up1 V 1 0 (nI r)) K B := by
  obtain ⟨-, g3, g4⟩ := hw.2.2.1
  refine hw.v ?_ ?_ ?_ ?_ ⟨⟨r, hr, ?_⟩, ?_, ?_⟩
  · simp +decide only [u_n]
  · simp +decide only [u_n]
  · simp +decide only [u_n]
  · simp +decide only [u_n]
  · simp +decide only [upA_s]
  · simp +decide only [upA_s, u_n]; exact g3
  · simp +decide only [upA_s, u_n]; exact g4
/-- what ironing by the order r would answer -/
noncomputable def wdU (u : uT) (r m w : Int32) : Int32 := if w = 0 then tuN u r m else if w = 1 then smI (fun i => rdK (gK (tuU u r m).2 i)) (tuU u r m).2.length else (tuU u r m).1.2.1 48 1 - u.1.2.1 48 1
theorem r_would (h : CF T f s) (hw : WG s) (hr : r < 3) (m w : Int32) : RQ T P f 203 [.ref 366, .int (nI r), .int m, .int w, .long 0, .long 0] (wdU s.1 (nI r) m w, s) := by
  obtain ⟨U, e1, f1, g1, hU⟩ := q_aside (P := P) h
  have hs := h.2
  have w8 : s.1.2.length ≤ 8 := hw.1.1.1.2.2.2.1
  have hso : sR (upA f 0 (nI r)) s.1.1.1 (up1 s.1.1.2.1 1 0 (nI r)) s.1.2 s.1.1.2.2.1 s.1.1.2.2.2 := by
    have n : ∀ a, a ≠ 0 → upA f 0 (nI r) a = f a := fun a ha => upA_n _ _ ha
    have vn : ∀ q, q ≠ 1 → up1 s.1.1.2.1 1 0 (nI r) q = s.1.1.2.1 q := fun q hq => up1_n hq
    obtain ⟨⟨a1, ⟨a2, a3, a4, a5⟩, ⟨a6, a7, a8⟩, a9, ⟨a10, a11, a12⟩, a13, a14⟩, hC, hO, hK, hL, hJ⟩ := id hs
    refine sR.rows (W := up1 s.1.1.2.1 1 0 (nI r)) hs w8 hw.1.1.1.2.2.2.2.1 hw.1.1.1.2.2.2.2.2 (fun j hj => ?_) ⟨n 4 (by omega), n 5 (by omega), n 6 (by omega), n 10 (by omega), n 16 (by omega), n 17 (by omega)⟩ ?_ (n 8 (by omega)) ?_ ?_ (fun j hj => n _ (by omega)) (fun d hd => ?_) ?_ (fun c hc => ⟨n _ (by omega), ?_, n _ (by omega)⟩) (fun a ha => n a (by omega)) (vn 48 (by decide)) (vn 4 (by decide)) (vn 6 (by decide)) (vn 46 (by decide)) (vn 47 (by decide))
    · rw [up1_s]
      by_cases e : j = 0
      · rw [e, upA_s, upA_s]
      · rw [n _ e, upA_n _ _ e]; exact a1 j hj
    · rw [n 7 (by omega), vn 0 (by decide)]; exact a5
    · rw [n 9 (by omega), vn 0 (by decide)]; exact a7
    · rw [n 15 (by omega), vn 0 (by decide)]; exact a10
    · rw [n _ (by omega), vn 2 (by decide)]; exact a13 d hd
    · rw [vn 0 (by decide)]
    · rw [n _ (by omega), vn 5 (by decide)]; exact (hC c hc).2.1
  obtain ⟨G, ei, hG, wG⟩ := r_irons (T := U) (P := P) (m := m) hso (hw.1.1.ord hr)
  obtain ⟨U', f', e2, fr2, hB⟩ := q_back (P := P) (g := G) hU hw g1
  have er := r_readyMany (T := U) (P := P) hG wG
  have f12 : f 12 = s.1.1.2.1 48 1 := hs.1.2.2.2.1 1 (by decide)
  have g12 : G 12 = (irS s.1.1.1 288 (up1 s.1.1.2.1 1 0 (nI r)) s.1.2 m).2.1 48 1 := hG.1.2.2.2.1 1 (by decide)
  have u12 : upA U 367 G 368 12 = s.1.1.2.1 48 1 := by rw [upA_n _ _ (by decide), g1 12 (by decide)]; exact f12
  refine ⟨U', f', ?_, fun a ha => (fr2 a ha).trans (f1 a (by omega)), hB⟩
  unfold wdU
  by_cases w0 : w = 0
  · simp +decide only [x203_0, x203_1, x203_4, x203_5, x203_8, x203_9, x203_10, x203_11, x203_12, x203_13, x203_16, x203_18, x203_19, x203_22, x203_24, x203_27, x203_28, x203_29, x203_32, x203_33, x203_36, x203_39, x203_40, x203_43, x203_45, x203_46, x203_47, x203_50, x203_52, x203_53, x203_54, x203_56, x203_57, x203_60, x203_62, aft_some, aft_void, Option.bind_some, Option.toList_some, Option.toList_none, List.cons_append, List.nil_append, if_true, if_false, ↓reduceIte, eq_self, z366_o, ↓z366_0, ↓z366_0p, ↓z366_1, ↓z366_2, ↓z366_3, ↓z366_4, ↓z366_4p, ↓z366_5, ↓z366_6, ↓z366_6p0, ↓z366_6p1, ↓z366_7, ↓z366_8, ↓z366_8p, ↓z366_9, ↓z366_9p, ↓z366_10, ↓z366_10p0, ↓z366_10p1, ↓z366_11, ↓z366_12, ↓z366_12p, ↓sg0, ↓sg1, ↓sg2, ↓sg3, ↓sg4, ↓sg5, ↓sg6, ↓sg7, ↓sg8, ↓sg9, ↓sg10, ↓sg11, ↓sg12, ↓sg13, ↓sg14, ↓sg15, ↓sg16, ↓sg17, ↓ss0, ↓ss1, ↓ss2, ↓ss3, ↓ss4, ↓ss5, ↓ss6, ↓ss7, ↓ss8, ↓ss9, ↓ss10, ↓ss11, ↓ss12, ↓ss13, ↓ss14, ↓ss15, ↓ss16, ↓ss17, ↓aft_of (e1), ↓aft_of (ei), w0, ↓aft_of (e2)]
  by_cases w1 : w = 1
  · simp +decide only [x203_0, x203_1, x203_4, x203_5, x203_8, x203_9, x203_10, x203_11, x203_12, x203_13, x203_16, x203_18, x203_19, x203_22, x203_24, x203_27, x203_28, x203_29, x203_32, x203_33, x203_36, x203_39, x203_40, x203_43, x203_45, x203_46, x203_47, x203_50, x203_52, x203_53, x203_54, x203_56, x203_57, x203_60, x203_62, aft_some, aft_void, Option.bind_some, Option.toList_some, Option.toList_none, List.cons_append, List.nil_append, if_true, if_false, ↓reduceIte, eq_self, z366_o, ↓z366_0, ↓z366_0p, ↓z366_1, ↓z366_2, ↓z366_3, ↓z366_4, ↓z366_4p, ↓z366_5, ↓z366_6, ↓z366_6p0, ↓z366_6p1, ↓z366_7, ↓z366_8, ↓z366_8p, ↓z366_9, ↓z366_9p, ↓z366_10, ↓z366_10p0, ↓z366_10p1, ↓z366_11, ↓z366_12, ↓z366_12p, ↓sg0, ↓sg1, ↓sg2, ↓sg3, ↓sg4, ↓sg5, ↓sg6, ↓sg7, ↓sg8, ↓sg9, ↓sg10, ↓sg11, ↓sg12, ↓sg13, ↓sg14, ↓sg15, ↓sg16, ↓sg17, ↓ss0, ↓ss1, ↓ss2, ↓ss3, ↓ss4, ↓ss5, ↓ss6, ↓ss7, ↓ss8, ↓ss9, ↓ss10, ↓ss11, ↓ss12, ↓ss13, ↓ss14, ↓ss15, ↓ss16, ↓ss17, ↓aft_of (e1), ↓aft_of (ei), w0, w1, ↓aft_of (er), ↓aft_of (e2)]
  simp +decide only [x203_0, x203_1, x203_4, x203_5, x203_8, x203_9, x203_10, x203_11, x203_12, x203_13, x203_16, x203_18, x203_19, x203_22, x203_24, x203_27, x203_28, x203_29, x203_32, x203_33, x203_36, x203_39, x203_40, x203_43, x203_45, x203_46, x203_47, x203_50, x203_52, x203_53, x203_54, x203_56, x203_57, x203_60, x203_62, aft_some, aft_void, Option.bind_some, Option.toList_some, Option.toList_none, List.cons_append, List.nil_append, if_true, if_false, ↓reduceIte, eq_self, z366_o, ↓z366_0, ↓z366_0p, ↓z366_1, ↓z366_2, ↓z366_3, ↓z366_4, ↓z366_4p, ↓z366_5, ↓z366_6, ↓z366_6p0, ↓z366_6p1, ↓z366_7, ↓z366_8, ↓z366_8p, ↓z366_9, ↓z366_9p, ↓z366_10, ↓z366_10p0, ↓z366_10p1, ↓z366_11, ↓z366_12, ↓z366_12p, ↓sg0, ↓sg1, ↓sg2, ↓sg3, ↓sg4, ↓sg5, ↓sg6, ↓sg7, ↓sg8, ↓sg9, ↓sg10, ↓sg11, ↓sg12, ↓sg13, ↓sg14, ↓sg15, ↓sg16, ↓sg17, ↓ss0, ↓ss1, ↓ss2, ↓ss3, ↓ss4, ↓ss5, ↓ss6, ↓ss7, ↓ss8, ↓ss9, ↓ss10, ↓ss11, ↓ss12, ↓ss13, ↓ss14, ↓ss15, ↓ss16, ↓ss17, ↓ag12, ↓aft_of (e1), ↓aft_of (ei), w0, w1, g12, u12, ↓aft_of (e2)]
theorem q_if (h : CF T f s) (hw : WG s) (r m w : Int32) : RQ T P f 204 [.ref 366, .int r, .int m, .int w, .long 0] (gIf r m w s, s) := by
  have t0 := thr (f := f) h.1.1
  unfold gIf
  by_cases c1 : inI r 0 2 = 0
  · rw [if_pos c1]
    exact RQ.same h (by simp +decide only [x204_0, x204_1, x204_2, x204_5, x204_6, x204_7, x204_8, x204_11, x204_14, x204_15, x204_16, x204_19, x204_22, x204_25, x204_26, x204_27, x204_28, x204_31, x204_34, x204_35, x204_38, x204_39, x204_41, x204_43, x204_46, x204_47, x204_48, x204_49, x204_50, x204_53, x204_56, x204_58, aft_some, aft_void, Option.bind_some, Option.toList_some, Option.toList_none, List.cons_append, List.nil_append, if_true, if_false, ↓reduceIte, eq_self, z366_o, ↓z366_0, ↓z366_0p, ↓z366_1, ↓z366_2, ↓z366_3, ↓z366_4, ↓z366_4p, ↓z366_5, ↓z366_6, ↓z366_6p0, ↓z366_6p1, ↓z366_7, ↓z366_8, ↓z366_8p, ↓z366_9, ↓z366_9p, ↓z366_10, ↓z366_10p0, ↓z366_10p1, ↓z366_11, ↓z366_12, ↓z366_12p, ↓sg0, ↓sg1, ↓sg2, ↓sg3, ↓sg4, ↓sg5, ↓sg6, ↓sg7, ↓sg8, ↓sg9, ↓sg10, ↓sg11, ↓sg12, ↓sg13, ↓sg14, ↓sg15, ↓sg16, ↓sg17, ↓ss0, ↓ss1, ↓ss2, ↓ss3, ↓ss4, ↓ss5, ↓ss6, ↓ss7, ↓ss8, ↓ss9, ↓ss10, ↓ss11, ↓ss12, ↓ss13, ↓ss14, ↓ss15, ↓ss16, ↓ss17, t0, ↓aft_of (r_in), c1])
  rw [if_neg c1]
  by_cases c2 : inI m 1 600 = 0
  · rw [if_pos c2]
    exact RQ.same h (by simp +decide only [x204_0, x204_1, x204_2, x204_5, x204_6, x204_7, x204_8, x204_11, x204_14, x204_15, x204_16, x204_19, x204_22, x204_25, x204_26, x204_27, x204_28, x204_31, x204_34, x204_35, x204_38, x204_39, x204_41, x204_43, x204_46, x204_47, x204_48, x204_49, x204_50, x204_53, x204_56, x204_58, aft_some, aft_void, Option.bind_some, Option.toList_some, Option.toList_none, List.cons_append, List.nil_append, if_true, if_false, ↓reduceIte, eq_self, z366_o, ↓z366_0, ↓z366_0p, ↓z366_1, ↓z366_2, ↓z366_3, ↓z366_4, ↓z366_4p, ↓z366_5, ↓z366_6, ↓z366_6p0, ↓z366_6p1, ↓z366_7, ↓z366_8, ↓z366_8p, ↓z366_9, ↓z366_9p, ↓z366_10, ↓z366_10p0, ↓z366_10p1, ↓z366_11, ↓z366_12, ↓z366_12p, ↓sg0, ↓sg1, ↓sg2, ↓sg3, ↓sg4, ↓sg5, ↓sg6, ↓sg7, ↓sg8, ↓sg9, ↓sg10, ↓sg11, ↓sg12, ↓sg13, ↓sg14, ↓sg15, ↓sg16, ↓sg17, ↓ss0, ↓ss1, ↓ss2, ↓ss3, ↓ss4, ↓ss5, ↓ss6, ↓ss7, ↓ss8, ↓ss9, ↓ss10, ↓ss11, ↓ss12, ↓ss13, ↓ss14, ↓ss15, ↓ss16, ↓ss17, t0, ↓aft_of (r_in), c1, c2])
  rw [if_neg c2]
  by_cases c3 : inI w 0 2 = 0
  · rw [if_pos c3]
    exact RQ.same h (by simp +decide only [x204_0, x204_1, x204_2, x204_5, x204_6, x204_7, x204_8, x204_11, x204_14, x204_15, x204_16, x204_19, x204_22, x204_25, x204_26, x204_27, x204_28, x204_31, x204_34, x204_35, x204_38, x204_39, x204_41, x204_43, x204_46, x204_47, x204_48, x204_49, x204_50, x204_53, x204_56, x204_58, aft_some, aft_void, Option.bind_some, Option.toList_some, Option.toList_none, List.cons_append, List.nil_append, if_true, if_false, ↓reduceIte, eq_self, z366_o, ↓z366_0, ↓z366_0p, ↓z366_1, ↓z366_2, ↓z366_3, ↓z366_4, ↓z366_4p, ↓z366_5, ↓z366_6, ↓z366_6p0, ↓z366_6p1, ↓z366_7, ↓z366_8, ↓z366_8p, ↓z366_9, ↓z366_9p, ↓z366_10, ↓z366_10p0, ↓z366_10p1, ↓z366_11, ↓z366_12, ↓z366_12p, ↓sg0, ↓sg1, ↓sg2, ↓sg3, ↓sg4, ↓sg5, ↓sg6, ↓sg7, ↓sg8, ↓sg9, ↓sg10, ↓sg11, ↓sg12, ↓sg13, ↓sg14, ↓sg15, ↓sg16, ↓sg17, ↓ss0, ↓ss1, ↓ss2, ↓ss3, ↓ss4, ↓ss5, ↓ss6, ↓ss7, ↓ss8, ↓ss9, ↓ss10, ↓ss11, ↓ss12, ↓ss13, ↓ss14, ↓ss15, ↓ss16, ↓ss17, t0, ↓aft_of (r_in), c1, c2, c3])
  rw [if_neg c3]
  obtain ⟨k, hk, rfl⟩ := inI_ex (n := 2) (by decide) c1
  obtain ⟨U, g, e, fr, hU⟩ := r_would (P := P) h hw (show k < 3 by omega) m w
  refine ⟨U, g, ?_, fr, hU⟩
  show X 204 0 [.ref 366, .int (nI k), .int m, .int w, .long 0] [] (H (upA T 367 f) P) = some (some (.int (wdU s.1 (nI k) m w)), H (upA U 367 g) P)
  simp +decide only [x204_0, x204_1, x204_2, x204_5, x204_6, x204_7, x204_8, x204_11, x204_14, x204_15, x204_16, x204_19, x204_22, x204_25, x204_26, x204_27, x204_28, x204_31, x204_34, x204_35, x204_38, x204_39, x204_41, x204_43, x204_46, x204_47, x204_48, x204_49, x204_50, x204_53, x204_56, x204_58, aft_some, aft_void, Option.bind_some, Option.toList_some, Option.toList_none, List.cons_append, List.nil_append, if_true, if_false, ↓reduceIte, eq_self, z366_o, ↓z366_0, ↓z366_0p, ↓z366_1, ↓z366_2, ↓z366_3, ↓z366_4, ↓z366_4p, ↓z366_5, ↓z366_6, ↓z366_6p0, ↓z366_6p1, ↓z366_7, ↓z366_8, ↓z366_8p, ↓z366_9, ↓z366_9p, ↓z366_10, ↓z366_10p0, ↓z366_10p1, ↓z366_11, ↓z366_12, ↓z366_12p, ↓sg0, ↓sg1, ↓sg2, ↓sg3, ↓sg4, ↓sg5, ↓sg6, ↓sg7, ↓sg8, ↓sg9, ↓sg10, ↓sg11, ↓sg12, ↓sg13, ↓sg14, ↓sg15, ↓sg16, ↓sg17, ↓ss0, ↓ss1, ↓ss2, ↓ss3, ↓ss4, ↓ss5, ↓ss6, ↓ss7, ↓ss8, ↓ss9, ↓ss10, ↓ss11, ↓ss12, ↓ss13, ↓ss14, ↓ss15, ↓ss16, ↓ss17, t0, ↓aft_of (r_in), c1, c2, c3, ↓aft_of (e)]
/-- how many pieces -/
theorem irS_le (N : Nat → Nat) : ∀ (n : Nat) (V : Nat → Nat → Int32) (K : List kT) (m : Int32), (irS N n V K m).1 ≤ n
  | 0, _, _, _ => Nat.le_refl _
  | n + 1, V, K, m => by
    unfold irS
    split
    · exact Nat.zero_le _
    · split
      · exact Nat.zero_le _
      · rename_i i _ _
        have := irS_le N n (inV V (gK K i) (kdN V (gK K i))) (K.set i (inB (gK K i) (kdN V (gK K i)))) (m - ndI V (gK K i) (kdN V (gK K i)))
        simp only []
        omega
theorem irS_len (N : Nat → Nat) : ∀ (n : Nat) (V : Nat → Nat → Int32) (K : List kT) (m : Int32), (irS N n V K m).2.2.length = K.length
  | 0, _, _, _ => rfl
  | n + 1, V, K, m => by
    unfold irS
    split
    · rfl
    · split
      · rfl
      · rename_i i _ _
        have := irS_len N n (inV V (gK K i) (kdN V (gK K i))) (K.set i (inB (gK K i) (kdN V (gK K i)))) (m - ndI V (gK K i) (kdN V (gK K i)))
        simp only []
        rw [this, List.length_set]
theorem rd_sum {K : List kT} : ∀ n, ∃ y, y ≤ n ∧ smI (fun i => rdK (gK K i)) n = nI y
  | 0 => ⟨0, Nat.le_refl _, rfl⟩
  | n + 1 => by
    obtain ⟨y, h1, h2⟩ := rd_sum (K := K) n
    have h01 : rdK (gK K n) = 0 ∨ rdK (gK K n) = 1 := by
      unfold rdK
      repeat' split
      all_goals simp
    simp only [smI]
    rcases h01 with h | h
    · exact ⟨y, by omega, by rw [h2, h, Int32.add_zero]⟩
    · exact ⟨y + 1, by omega, by rw [h2, h]; exact nI_add y 1⟩
/-- the best so far: the reference's way and the class's -/
def BI (b : bsT) (bo mo : Int32) : Prop := b.1 = bo ∧ ((b.2.1 = -1 ∧ b.2.2 = -1 ∧ mo = -5) ∨ ∃ r p, r ≤ 8 ∧ p ≤ 288 ∧ b.2.1 = nI r ∧ b.2.2 = nI p ∧ mo = nI (1000 * r + p))
theorem BI.step {b : bsT} {bo mo : Int32} (h : BI b bo mo) {k r p : Nat} (hr : r ≤ 8) (hp : p ≤ 288) : BI (bsS (nI k) (nI r) (nI p) b) (if mo < nI (1000 * r + p) then nI k else bo) (if mo < nI (1000 * r + p) then nI (1000 * r + p) else mo) := by
  obtain ⟨h1, h2⟩ := h
  unfold bsS
  rcases h2 with ⟨q1, q2, q3⟩ | ⟨r', p', hr', hp', q1, q2, q3⟩
  · have c1 : (-1 : Int32) < nI r := by
      rw [Int32.lt_iff_toInt_lt, nI_toInt (by omega), show (-1 : Int32).toInt = -1 from by decide]; omega
    have c2 : (-5 : Int32) < nI (1000 * r + p) := by
      rw [Int32.lt_iff_toInt_lt, nI_toInt (by omega), show (-5 : Int32).toInt = -5 from by decide]; omega
    rw [q1, q3, if_pos c1, if_pos c2, if_pos c2]
    exact ⟨rfl, Or.inr ⟨r, p, hr, hp, rfl, rfl, rfl⟩⟩
  · rw [q1, q2, q3]
    have e1 : nI r' < nI r ↔ r' < r := by rw [nI_ltp (by omega) (by omega)]
    have e2 : nI r = nI r' ↔ r = r' := by rw [nI_inj (by omega) (by omega)]
    have e3 : nI p' < nI p ↔ p' < p := by rw [nI_ltp (by omega) (by omega)]
    have e4 : nI (1000 * r' + p') < nI (1000 * r + p) ↔ 1000 * r' + p' < 1000 * r + p := by rw [nI_ltp (by omega) (by omega)]
    by_cases c1 : r' < r
    · rw [if_pos (e1.mpr c1), if_pos (e4.mpr (by omega)), if_pos (e4.mpr (by omega))]
      exact ⟨rfl, Or.inr ⟨r, p, hr, hp, rfl, rfl, rfl⟩⟩
    · rw [if_neg (fun z => c1 (e1.mp z))]
      by_cases c2 : r = r'
      · rw [if_pos (e2.mpr c2)]
        by_cases c3 : p' < p
        · rw [if_pos (e3.mpr c3), if_pos (e4.mpr (by omega)), if_pos (e4.mpr (by omega))]
          exact ⟨rfl, Or.inr ⟨r, p, hr, hp, rfl, rfl, rfl⟩⟩
        · rw [if_neg (fun z => c3 (e3.mp z)), if_neg (fun z => by have := e4.mp z; omega), if_neg (fun z => by have := e4.mp z; omega)]
          exact ⟨h1, Or.inr ⟨r', p', hr', hp', q1, q2, rfl⟩⟩
      · rw [if_neg (fun z => c2 (e2.mp z)), if_neg (fun z => by have := e4.mp z; omega), if_neg (fun z => by have := e4.mp z; omega)]
        exact ⟨h1, Or.inr ⟨r', p', hr', hp', q1, q2, rfl⟩⟩
theorem q_best (h : CF T f s) (hw : WG s) (m : Int32) : RQ T P f 205 [.ref 366, .int m, .long 0, .long 0, .long 0, .long 0] (gBest m s, s) := by
  have t0 := thr (f := f) h.1.1
  unfold gBest
  by_cases c1 : inI m 1 600 = 0
  · rw [if_pos c1]
    exact RQ.same h (by simp +decide only [x205_0, x205_1, x205_2, x205_5, x205_6, x205_7, x205_10, x205_13, x205_16, x205_18, x205_19, x205_20, x205_21, x205_23, x205_24, x205_25, x205_27, x205_29, x205_30, x205_33, x205_36, x205_37, x205_39, x205_40, x205_41, x205_44, x205_45, x205_46, x205_48, x205_49, x205_50, x205_53, x205_54, x205_56, x205_58, x205_59, x205_62, x205_64, x205_67, x205_68, x205_69, x205_71, x205_72, x205_75, x205_77, x205_80, x205_81, x205_82, x205_85, x205_88, x205_89, aft_some, aft_void, Option.bind_some, Option.toList_some, Option.toList_none, List.cons_append, List.nil_append, if_true, if_false, ↓reduceIte, eq_self, z366_o, ↓z366_0, ↓z366_0p, ↓z366_1, ↓z366_2, ↓z366_3, ↓z366_4, ↓z366_4p, ↓z366_5, ↓z366_6, ↓z366_6p0, ↓z366_6p1, ↓z366_7, ↓z366_8, ↓z366_8p, ↓z366_9, ↓z366_9p, ↓z366_10, ↓z366_10p0, ↓z366_10p1, ↓z366_11, ↓z366_12, ↓z366_12p, ↓sg0, ↓sg1, ↓sg2, ↓sg3, ↓sg4, ↓sg5, ↓sg6, ↓sg7, ↓sg8, ↓sg9, ↓sg10, ↓sg11, ↓sg12, ↓sg13, ↓sg14, ↓sg15, ↓sg16, ↓sg17, ↓ss0, ↓ss1, ↓ss2, ↓ss3, ↓ss4, ↓ss5, ↓ss6, ↓ss7, ↓ss8, ↓ss9, ↓ss10, ↓ss11, ↓ss12, ↓ss13, ↓ss14, ↓ss15, ↓ss16, ↓ss17, t0, ↓aft_of (r_in), c1])
  rw [if_neg c1]
  have w8 : s.1.2.length ≤ 8 := hw.1.1.1.2.2.2.1
  obtain ⟨⟨U, g, bo, mo, v5⟩, e, i1, i2, i3⟩ := loop_ex (fun i (t : (Nat → Nat → Int32) × (Nat → Int32) × Int32 × Int32 × Value) => X 205 27 [.ref 366, .int m, .int t.2.2.1, .int t.2.2.2.1, .int (nI i), t.2.2.2.2] [] (H (upA t.1 367 t.2.1) P))
    (fun i t => BI (bsU m s.1 i) t.2.2.1 t.2.2.2.1 ∧ (∀ a, a < 366 → t.1 a = T a) ∧ CF t.1 t.2.1 s) 3 (T, f, 0, -5, .long 0) ⟨⟨rfl, Or.inl ⟨rfl, rfl, rfl⟩⟩, fun _ _ => rfl, h⟩ (by
      intro i ⟨U, g, bo, mo, v5⟩ hi ⟨i1, i2, i3⟩
      have i1 : BI (bsU m s.1 i) bo mo := i1
      have i2 : ∀ a, a < 366 → U a = T a := i2
      have i3 : CF U g s := i3
      obtain ⟨U1, g1, e1, fr1, h1⟩ := r_would (P := P) i3 hw hi m 1
      obtain ⟨U2, g2, e2, fr2, h2⟩ := r_would (P := P) h1 hw hi m 0
      obtain ⟨y, hy, ey⟩ := rd_sum (K := (tuU s.1 (nI i) m).2) (tuU s.1 (nI i) m).2.length
      have hlen : (tuU s.1 (nI i) m).2.length = s.1.2.length := irS_len _ _ _ _ _
      have hcnt := irS_le s.1.1.1 288 (up1 s.1.1.2.1 1 0 (nI i)) s.1.2 m
      have w1 : wdU s.1 (nI i) m 1 = nI y := ey
      have w0 : wdU s.1 (nI i) m 0 = tuN s.1 (nI i) m := rfl
      have ea : 1000 * nI y + tuN s.1 (nI i) m = nI (1000 * y + (irS s.1.1.1 288 (up1 s.1.1.2.1 1 0 (nI i)) s.1.2 m).1) := by
        rw [show (1000 : Int32) = nI 1000 from rfl, nI_mul, nI_add]
      have hb := i1.step (k := i) (r := y) (p := (irS s.1.1.1 288 (up1 s.1.1.2.1 1 0 (nI i)) s.1.2 m).1) (by omega) hcnt
      have hbs : bsU m s.1 (i + 1) = bsS (nI i) (nI y) (nI (irS s.1.1.1 288 (up1 s.1.1.2.1 1 0 (nI i)) s.1.2 m).1) (bsU m s.1 i) := by
        show bsS (nI i) (rdU (tuU s.1 (nI i) m)) (tuN s.1 (nI i) m) (bsU m s.1 i) = _
        rw [show rdU (tuU s.1 (nI i) m) = nI y from ey]
      rw [w1] at e1
      rw [w0] at e2
      have hlt : nI i < 3 := nI_lt hi (by decide)
      obtain ⟨q, hq⟩ : ∃ q, q = nI (1000 * y + (irS s.1.1.1 288 (up1 s.1.1.2.1 1 0 (nI i)) s.1.2 m).1) := ⟨_, rfl⟩
      rw [← hq] at ea hb
      refine ⟨(U2, g2, (if mo < q then nI i else bo), (if mo < q then q else mo), .int q), ?_, by rw [hbs]; exact hb, fun a ha => (fr2 a ha).trans ((fr1 a ha).trans (i2 a ha)), h2⟩
      show X 205 27 [.ref 366, .int m, .int bo, .int mo, .int (nI i), v5] [] (H (upA U 367 g) P) = X 205 27 [.ref 366, .int m, .int (if mo < q then nI i else bo), .int (if mo < q then q else mo), .int (nI (i + 1)), .int q] [] (H (upA U2 367 g2) P)
      rw [x205_27]
      by_cases c : mo < q
      · simp +decide only [x205_0, x205_1, x205_2, x205_5, x205_6, x205_7, x205_10, x205_13, x205_16, x205_18, x205_19, x205_20, x205_21, x205_23, x205_24, x205_25, x205_29, x205_30, x205_33, x205_36, x205_37, x205_39, x205_40, x205_41, x205_44, x205_45, x205_46, x205_48, x205_49, x205_50, x205_53, x205_54, x205_56, x205_58, x205_59, x205_62, x205_64, x205_67, x205_68, x205_69, x205_71, x205_72, x205_75, x205_77, x205_80, x205_81, x205_82, x205_85, x205_88, x205_89, aft_some, aft_void, Option.bind_some, Option.toList_some, Option.toList_none, List.cons_append, List.nil_append, if_true, if_false, ↓reduceIte, eq_self, z366_o, ↓z366_0, ↓z366_0p, ↓z366_1, ↓z366_2, ↓z366_3, ↓z366_4, ↓z366_4p, ↓z366_5, ↓z366_6, ↓z366_6p0, ↓z366_6p1, ↓z366_7, ↓z366_8, ↓z366_8p, ↓z366_9, ↓z366_9p, ↓z366_10, ↓z366_10p0, ↓z366_10p1, ↓z366_11, ↓z366_12, ↓z366_12p, ↓sg0, ↓sg1, ↓sg2, ↓sg3, ↓sg4, ↓sg5, ↓sg6, ↓sg7, ↓sg8, ↓sg9, ↓sg10, ↓sg11, ↓sg12, ↓sg13, ↓sg14, ↓sg15, ↓sg16, ↓sg17, ↓ss0, ↓ss1, ↓ss2, ↓ss3, ↓ss4, ↓ss5, ↓ss6, ↓ss7, ↓ss8, ↓ss9, ↓ss10, ↓ss11, ↓ss12, ↓ss13, ↓ss14, ↓ss15, ↓ss16, ↓ss17, hlt, ↓aft_of (e1), ↓aft_of (e2), ea, c, nI_1]
      · simp +decide only [x205_0, x205_1, x205_2, x205_5, x205_6, x205_7, x205_10, x205_13, x205_16, x205_18, x205_19, x205_20, x205_21, x205_23, x205_24, x205_25, x205_29, x205_30, x205_33, x205_36, x205_37, x205_39, x205_40, x205_41, x205_44, x205_45, x205_46, x205_48, x205_49, x205_50, x205_53, x205_54, x205_56, x205_58, x205_59, x205_62, x205_64, x205_67, x205_68, x205_69, x205_71, x205_72, x205_75, x205_77, x205_80, x205_81, x205_82, x205_85, x205_88, x205_89, aft_some, aft_void, Option.bind_some, Option.toList_some, Option.toList_none, List.cons_append, List.nil_append, if_true, if_false, ↓reduceIte, eq_self, z366_o, ↓z366_0, ↓z366_0p, ↓z366_1, ↓z366_2, ↓z366_3, ↓z366_4, ↓z366_4p, ↓z366_5, ↓z366_6, ↓z366_6p0, ↓z366_6p1, ↓z366_7, ↓z366_8, ↓z366_8p, ↓z366_9, ↓z366_9p, ↓z366_10, ↓z366_10p0, ↓z366_10p1, ↓z366_11, ↓z366_12, ↓z366_12p, ↓sg0, ↓sg1, ↓sg2, ↓sg3, ↓sg4, ↓sg5, ↓sg6, ↓sg7, ↓sg8, ↓sg9, ↓sg10, ↓sg11, ↓sg12, ↓sg13, ↓sg14, ↓sg15, ↓sg16, ↓sg17, ↓ss0, ↓ss1, ↓ss2, ↓ss3, ↓ss4, ↓ss5, ↓ss6, ↓ss7, ↓ss8, ↓ss9, ↓ss10, ↓ss11, ↓ss12, ↓ss13, ↓ss14, ↓ss15, ↓ss16, ↓ss17, hlt, ↓aft_of (e1), ↓aft_of (e2), ea, c, nI_1])
  have i1 : BI (bsU m s.1 3) bo mo := i1
  have e : X 205 27 [.ref 366, .int m, .int 0, .int (-5), .int 0, .long 0] [] (H (upA T 367 f) P) = X 205 27 [.ref 366, .int m, .int bo, .int mo, .int 3, v5] [] (H (upA U 367 g) P) := e
  refine ⟨U, g, ?_, i2, i3⟩
  simp +decide only [x205_0, x205_1, x205_2, x205_5, x205_6, x205_7, x205_10, x205_13, x205_16, x205_18, x205_19, x205_20, x205_21, x205_23, x205_24, x205_25, x205_29, x205_30, x205_33, x205_36, x205_37, x205_39, x205_40, x205_41, x205_44, x205_45, x205_46, x205_48, x205_49, x205_50, x205_53, x205_54, x205_56, x205_58, x205_59, x205_62, x205_64, x205_67, x205_68, x205_69, x205_71, x205_72, x205_75, x205_77, x205_80, x205_81, x205_82, x205_85, x205_88, x205_89, aft_some, aft_void, Option.bind_some, Option.toList_some, Option.toList_none, List.cons_append, List.nil_append, if_true, if_false, ↓reduceIte, eq_self, z366_o, ↓z366_0, ↓z366_0p, ↓z366_1, ↓z366_2, ↓z366_3, ↓z366_4, ↓z366_4p, ↓z366_5, ↓z366_6, ↓z366_6p0, ↓z366_6p1, ↓z366_7, ↓z366_8, ↓z366_8p, ↓z366_9, ↓z366_9p, ↓z366_10, ↓z366_10p0, ↓z366_10p1, ↓z366_11, ↓z366_12, ↓z366_12p, ↓sg0, ↓sg1, ↓sg2, ↓sg3, ↓sg4, ↓sg5, ↓sg6, ↓sg7, ↓sg8, ↓sg9, ↓sg10, ↓sg11, ↓sg12, ↓sg13, ↓sg14, ↓sg15, ↓sg16, ↓sg17, ↓ss0, ↓ss1, ↓ss2, ↓ss3, ↓ss4, ↓ss5, ↓ss6, ↓ss7, ↓ss8, ↓ss9, ↓ss10, ↓ss11, ↓ss12, ↓ss13, ↓ss14, ↓ss15, ↓ss16, ↓ss17, t0, ↓aft_of (r_in), c1]
  rw [e, x205_27]
  simp +decide only [x205_0, x205_1, x205_2, x205_5, x205_6, x205_7, x205_10, x205_13, x205_16, x205_18, x205_19, x205_20, x205_21, x205_23, x205_24, x205_25, x205_29, x205_30, x205_33, x205_36, x205_37, x205_39, x205_40, x205_41, x205_44, x205_45, x205_46, x205_48, x205_49, x205_50, x205_53, x205_54, x205_56, x205_58, x205_59, x205_62, x205_64, x205_67, x205_68, x205_69, x205_71, x205_72, x205_75, x205_77, x205_80, x205_81, x205_82, x205_85, x205_88, x205_89, aft_some, aft_void, Option.bind_some, Option.toList_some, Option.toList_none, List.cons_append, List.nil_append, if_true, if_false, ↓reduceIte, eq_self]
  rw [i1.1]
theorem q_home (h : CF T f s) (hw : WG s) (x m : Int32) : RQ T P f 206 [.ref 366, .int x, .int m, .long 0, .long 0] (gHome x m s, s) := by
  have t0 := thr (f := f) h.1.1
  have e1 := r_placeOf (T := T) (P := P) (x := x) h.2 hw.1.1
  unfold plI at e1
  unfold gHome
  cases hq : wnK x s.1.2 with
  | none =>
    rw [hq] at e1
    simp only at e1 ⊢
    exact RQ.same h (by simp +decide only [x206_0, x206_1, x206_2, x206_5, x206_6, x206_7, x206_10, x206_12, x206_15, x206_16, x206_17, x206_18, x206_19, x206_22, x206_25, x206_28, x206_30, x206_31, x206_32, x206_35, x206_36, x206_37, x206_38, x206_40, x206_43, x206_44, x206_45, x206_48, x206_50, x206_53, x206_54, x206_55, x206_58, x206_59, x206_60, x206_63, x206_64, x206_67, x206_70, x206_71, x206_72, x206_75, x206_77, x206_80, x206_81, x206_84, x206_85, x206_86, x206_89, x206_91, x206_93, x206_94, x206_97, x206_99, aft_some, aft_void, Option.bind_some, Option.toList_some, Option.toList_none, List.cons_append, List.nil_append, if_true, if_false, ↓reduceIte, eq_self, z366_o, ↓z366_0, ↓z366_0p, ↓z366_1, ↓z366_2, ↓z366_3, ↓z366_4, ↓z366_4p, ↓z366_5, ↓z366_6, ↓z366_6p0, ↓z366_6p1, ↓z366_7, ↓z366_8, ↓z366_8p, ↓z366_9, ↓z366_9p, ↓z366_10, ↓z366_10p0, ↓z366_10p1, ↓z366_11, ↓z366_12, ↓z366_12p, ↓sg0, ↓sg1, ↓sg2, ↓sg3, ↓sg4, ↓sg5, ↓sg6, ↓sg7, ↓sg8, ↓sg9, ↓sg10, ↓sg11, ↓sg12, ↓sg13, ↓sg14, ↓sg15, ↓sg16, ↓sg17, ↓ss0, ↓ss1, ↓ss2, ↓ss3, ↓ss4, ↓ss5, ↓ss6, ↓ss7, ↓ss8, ↓ss9, ↓ss10, ↓ss11, ↓ss12, ↓ss13, ↓ss14, ↓ss15, ↓ss16, ↓ss17, t0, ↓aft_of (e1)])
  | some i =>
    rw [hq] at e1
    simp only at e1 ⊢
    have w8 : s.1.2.length ≤ 8 := hw.1.1.1.2.2.2.1
    obtain ⟨-, hi, -⟩ := fst_some hq
    rw [Nat.zero_add] at hi
    have ni5 : (nI i = -5) = False := nI_ne5 (by omega)
    by_cases c1 : inI m 1 600 = 0
    · rw [if_pos c1]
      exact RQ.same h (by simp +decide only [x206_0, x206_1, x206_2, x206_5, x206_6, x206_7, x206_10, x206_12, x206_15, x206_16, x206_17, x206_18, x206_19, x206_22, x206_25, x206_28, x206_30, x206_31, x206_32, x206_35, x206_36, x206_37, x206_38, x206_40, x206_43, x206_44, x206_45, x206_48, x206_50, x206_53, x206_54, x206_55, x206_58, x206_59, x206_60, x206_63, x206_64, x206_67, x206_70, x206_71, x206_72, x206_75, x206_77, x206_80, x206_81, x206_84, x206_85, x206_86, x206_89, x206_91, x206_93, x206_94, x206_97, x206_99, aft_some, aft_void, Option.bind_some, Option.toList_some, Option.toList_none, List.cons_append, List.nil_append, if_true, if_false, ↓reduceIte, eq_self, z366_o, ↓z366_0, ↓z366_0p, ↓z366_1, ↓z366_2, ↓z366_3, ↓z366_4, ↓z366_4p, ↓z366_5, ↓z366_6, ↓z366_6p0, ↓z366_6p1, ↓z366_7, ↓z366_8, ↓z366_8p, ↓z366_9, ↓z366_9p, ↓z366_10, ↓z366_10p0, ↓z366_10p1, ↓z366_11, ↓z366_12, ↓z366_12p, ↓sg0, ↓sg1, ↓sg2, ↓sg3, ↓sg4, ↓sg5, ↓sg6, ↓sg7, ↓sg8, ↓sg9, ↓sg10, ↓sg11, ↓sg12, ↓sg13, ↓sg14, ↓sg15, ↓sg16, ↓sg17, ↓ss0, ↓ss1, ↓ss2, ↓ss3, ↓ss4, ↓ss5, ↓ss6, ↓ss7, ↓ss8, ↓ss9, ↓ss10, ↓ss11, ↓ss12, ↓ss13, ↓ss14, ↓ss15, ↓ss16, ↓ss17, t0, ↓aft_of (e1), ni5, ↓aft_of (r_in), c1])
    rw [if_neg c1]
    obtain ⟨U, e2, f1, g1, hU⟩ := q_aside (P := P) h
    have key : ∀ (n d : Nat) (u : uT) (G : Nat → Int32), d + n = 60 → sU G u → WF u.1.1 u.1.2.1 u.2 u.1.2.2.1 → u.1.1 0 ≤ 9999 + d → (∃ j, wnK x u.2 = some j) → ∃ G', X 206 37 [.ref 366, .int x, .int m, .int (nI d), .long 0] [] (H (upA U 367 G) P) = X 206 93 [.ref 366, .int x, .int m, .int (nI 60), .int (hmU x m n u)] [] (H (upA U 367 G') P) ∨ ∃ d', X 206 37 [.ref 366, .int x, .int m, .int (nI d), .long 0] [] (H (upA U 367 G) P) = X 206 93 [.ref 366, .int x, .int m, .int d', .int (hmU x m n u)] [] (H (upA U 367 G') P) := by
      intro n
      induction n with
      | zero =>
        intro d u G hd hs hwf h0 ⟨j, hj⟩
        have hd : d = 60 := by omega
        subst hd
        have ep := r_placeOf (T := U) (P := P) (x := x) hs hwf
        unfold plI at ep
        rw [hj] at ep
        simp only at ep
        obtain ⟨-, hj8, -⟩ := fst_some hj
        have h8 := hwf.1.2.2.2.1
        have nj5 : (nI j = -5) = False := nI_ne5 (by omega)
        refine ⟨G, Or.inr ⟨nI 60, ?_⟩⟩
        rw [x206_37]
        simp +decide only [x206_0, x206_1, x206_2, x206_5, x206_6, x206_7, x206_10, x206_12, x206_15, x206_16, x206_17, x206_18, x206_19, x206_22, x206_25, x206_28, x206_30, x206_31, x206_32, x206_35, x206_36, x206_38, x206_40, x206_43, x206_44, x206_45, x206_48, x206_50, x206_53, x206_54, x206_55, x206_58, x206_59, x206_60, x206_63, x206_64, x206_67, x206_70, x206_71, x206_72, x206_75, x206_77, x206_80, x206_81, x206_84, x206_85, x206_86, x206_89, x206_91, x206_94, x206_97, x206_99, aft_some, aft_void, Option.bind_some, Option.toList_some, Option.toList_none, List.cons_append, List.nil_append, if_true, if_false, ↓reduceIte, eq_self, z366_o, ↓z366_0, ↓z366_0p, ↓z366_1, ↓z366_2, ↓z366_3, ↓z366_4, ↓z366_4p, ↓z366_5, ↓z366_6, ↓z366_6p0, ↓z366_6p1, ↓z366_7, ↓z366_8, ↓z366_8p, ↓z366_9, ↓z366_9p, ↓z366_10, ↓z366_10p0, ↓z366_10p1, ↓z366_11, ↓z366_12, ↓z366_12p, ↓sg0, ↓sg1, ↓sg2, ↓sg3, ↓sg4, ↓sg5, ↓sg6, ↓sg7, ↓sg8, ↓sg9, ↓sg10, ↓sg11, ↓sg12, ↓sg13, ↓sg14, ↓sg15, ↓sg16, ↓sg17, ↓ss0, ↓ss1, ↓ss2, ↓ss3, ↓ss4, ↓ss5, ↓ss6, ↓ss7, ↓ss8, ↓ss9, ↓ss10, ↓ss11, ↓ss12, ↓ss13, ↓ss14, ↓ss15, ↓ss16, ↓ss17, show nI 60 = 60 from rfl, ↓aft_of (ep), nj5, hmU]
      | succ n ih =>
        intro d u G hd hs hwf h0 ⟨j, hj⟩
        have ep := r_placeOf (T := U) (P := P) (x := x) hs hwf
        unfold plI at ep
        rw [hj] at ep
        simp only at ep
        obtain ⟨-, hj8, -⟩ := fst_some hj
        have h8 := hwf.1.2.2.2.1
        have nj5 : (nI j = -5) = False := nI_ne5 (by omega)
        have hlt : nI d < 60 := nI_lt (show d < 60 by omega) (by decide)
        obtain ⟨G1, ei, hs1, w1⟩ := r_irons (T := U) (P := P) (m := m) hs hwf
        have hs1 : sU G1 (irU u m) := hs1
        have w1 : WF (irU u m).1.1 (irU u m).1.2.1 (irU u m).2 (irU u m).1.2.2.1 := w1
        obtain ⟨G2, eg, hs2⟩ := r_goesBy (T := U) (P := P) hs1 w1 (show u.1.1 0 < 10100 by omega)
        have hs2 : sU G2 (dyU (irU u m)) := hs2
        have w2 : WF (dyU (irU u m)).1.1 (dyU (irU u m)).1.2.1 (dyU (irU u m)).2 (dyU (irU u m)).1.2.2.1 := WF_day w1 (show u.1.1 0 < 10100 by omega)
        have hday : (dyU (irU u m)).1.1 0 = u.1.1 0 + 1 := dy_day _
        have ep2 := r_placeOf (T := U) (P := P) (x := x) hs2 w2
        unfold plI at ep2
        have k1 : nI d + 1 = nI (d + 1) := nI_add _ 1
        cases hq2 : wnK x (dyU (irU u m)).2 with
        | none =>
          rw [hq2] at ep2
          simp only at ep2
          have hh : hmU x m (n + 1) u = (dyU (irU u m)).1.2.1 0 0 := by
            show (match wnK x (dyU (irU u m)).2 with
              | none => (dyU (irU u m)).1.2.1 0 0
              | some _ => hmU x m n (dyU (irU u m))) = _
            rw [hq2]
          have g4 : G2 4 = (dyU (irU u m)).1.2.1 0 0 := by rw [hs2.1.d, hs2.1.2.2.2.2.2.2]
          rw [hh]
          refine ⟨G2, Or.inr ⟨nI (d + 1), ?_⟩⟩
          rw [x206_37]
          simp +decide only [x206_0, x206_1, x206_2, x206_5, x206_6, x206_7, x206_10, x206_12, x206_15, x206_16, x206_17, x206_18, x206_19, x206_22, x206_25, x206_28, x206_30, x206_31, x206_32, x206_35, x206_36, x206_38, x206_40, x206_43, x206_44, x206_45, x206_48, x206_50, x206_53, x206_54, x206_55, x206_58, x206_59, x206_60, x206_63, x206_64, x206_67, x206_70, x206_71, x206_72, x206_75, x206_77, x206_80, x206_81, x206_84, x206_85, x206_86, x206_89, x206_91, x206_94, x206_97, x206_99, aft_some, aft_void, Option.bind_some, Option.toList_some, Option.toList_none, List.cons_append, List.nil_append, if_true, if_false, ↓reduceIte, eq_self, z366_o, ↓z366_0, ↓z366_0p, ↓z366_1, ↓z366_2, ↓z366_3, ↓z366_4, ↓z366_4p, ↓z366_5, ↓z366_6, ↓z366_6p0, ↓z366_6p1, ↓z366_7, ↓z366_8, ↓z366_8p, ↓z366_9, ↓z366_9p, ↓z366_10, ↓z366_10p0, ↓z366_10p1, ↓z366_11, ↓z366_12, ↓z366_12p, ↓sg0, ↓sg1, ↓sg2, ↓sg3, ↓sg4, ↓sg5, ↓sg6, ↓sg7, ↓sg8, ↓sg9, ↓sg10, ↓sg11, ↓sg12, ↓sg13, ↓sg14, ↓sg15, ↓sg16, ↓sg17, ↓ss0, ↓ss1, ↓ss2, ↓ss3, ↓ss4, ↓ss5, ↓ss6, ↓ss7, ↓ss8, ↓ss9, ↓ss10, ↓ss11, ↓ss12, ↓ss13, ↓ss14, ↓ss15, ↓ss16, ↓ss17, hlt, ↓aft_of (ep), nj5, ↓aft_of (ei), ↓aft_of (eg), k1]
          rw [x206_37]
          by_cases c60 : d + 1 < 60
          · have hlt2 : nI (d + 1) < 60 := nI_lt c60 (by decide)
            simp +decide only [x206_0, x206_1, x206_2, x206_5, x206_6, x206_7, x206_10, x206_12, x206_15, x206_16, x206_17, x206_18, x206_19, x206_22, x206_25, x206_28, x206_30, x206_31, x206_32, x206_35, x206_36, x206_38, x206_40, x206_43, x206_44, x206_45, x206_48, x206_50, x206_53, x206_54, x206_55, x206_58, x206_59, x206_60, x206_63, x206_64, x206_67, x206_70, x206_71, x206_72, x206_75, x206_77, x206_80, x206_81, x206_84, x206_85, x206_86, x206_89, x206_91, x206_94, x206_97, x206_99, aft_some, aft_void, Option.bind_some, Option.toList_some, Option.toList_none, List.cons_append, List.nil_append, if_true, if_false, ↓reduceIte, eq_self, z366_o, ↓z366_0, ↓z366_0p, ↓z366_1, ↓z366_2, ↓z366_3, ↓z366_4, ↓z366_4p, ↓z366_5, ↓z366_6, ↓z366_6p0, ↓z366_6p1, ↓z366_7, ↓z366_8, ↓z366_8p, ↓z366_9, ↓z366_9p, ↓z366_10, ↓z366_10p0, ↓z366_10p1, ↓z366_11, ↓z366_12, ↓z366_12p, ↓sg0, ↓sg1, ↓sg2, ↓sg3, ↓sg4, ↓sg5, ↓sg6, ↓sg7, ↓sg8, ↓sg9, ↓sg10, ↓sg11, ↓sg12, ↓sg13, ↓sg14, ↓sg15, ↓sg16, ↓sg17, ↓ss0, ↓ss1, ↓ss2, ↓ss3, ↓ss4, ↓ss5, ↓ss6, ↓ss7, ↓ss8, ↓ss9, ↓ss10, ↓ss11, ↓ss12, ↓ss13, ↓ss14, ↓ss15, ↓ss16, ↓ss17, hlt2, ↓aft_of (ep2), g4]
          · have hlt2 : ¬ nI (d + 1) < 60 := nI_nlt (show 60 ≤ d + 1 by omega) (by omega)
            simp +decide only [x206_0, x206_1, x206_2, x206_5, x206_6, x206_7, x206_10, x206_12, x206_15, x206_16, x206_17, x206_18, x206_19, x206_22, x206_25, x206_28, x206_30, x206_31, x206_32, x206_35, x206_36, x206_38, x206_40, x206_43, x206_44, x206_45, x206_48, x206_50, x206_53, x206_54, x206_55, x206_58, x206_59, x206_60, x206_63, x206_64, x206_67, x206_70, x206_71, x206_72, x206_75, x206_77, x206_80, x206_81, x206_84, x206_85, x206_86, x206_89, x206_91, x206_94, x206_97, x206_99, aft_some, aft_void, Option.bind_some, Option.toList_some, Option.toList_none, List.cons_append, List.nil_append, if_true, if_false, ↓reduceIte, eq_self, z366_o, ↓z366_0, ↓z366_0p, ↓z366_1, ↓z366_2, ↓z366_3, ↓z366_4, ↓z366_4p, ↓z366_5, ↓z366_6, ↓z366_6p0, ↓z366_6p1, ↓z366_7, ↓z366_8, ↓z366_8p, ↓z366_9, ↓z366_9p, ↓z366_10, ↓z366_10p0, ↓z366_10p1, ↓z366_11, ↓z366_12, ↓z366_12p, ↓sg0, ↓sg1, ↓sg2, ↓sg3, ↓sg4, ↓sg5, ↓sg6, ↓sg7, ↓sg8, ↓sg9, ↓sg10, ↓sg11, ↓sg12, ↓sg13, ↓sg14, ↓sg15, ↓sg16, ↓sg17, ↓ss0, ↓ss1, ↓ss2, ↓ss3, ↓ss4, ↓ss5, ↓ss6, ↓ss7, ↓ss8, ↓ss9, ↓ss10, ↓ss11, ↓ss12, ↓ss13, ↓ss14, ↓ss15, ↓ss16, ↓ss17, hlt2, ↓aft_of (ep2), g4]
        | some j2 =>
          have hh : hmU x m (n + 1) u = hmU x m n (dyU (irU u m)) := by
            show (match wnK x (dyU (irU u m)).2 with
              | none => (dyU (irU u m)).1.2.1 0 0
              | some _ => hmU x m n (dyU (irU u m))) = _
            rw [hq2]
          rw [hh]
          obtain ⟨G3, e3⟩ := ih (d + 1) (dyU (irU u m)) G2 (by omega) hs2 w2 (by omega) ⟨j2, hq2⟩
          refine ⟨G3, ?_⟩
          have es : X 206 37 [.ref 366, .int x, .int m, .int (nI d), .long 0] [] (H (upA U 367 G) P) = X 206 37 [.ref 366, .int x, .int m, .int (nI (d + 1)), .long 0] [] (H (upA U 367 G2) P) := by
            rw [x206_37]
            simp +decide only [x206_0, x206_1, x206_2, x206_5, x206_6, x206_7, x206_10, x206_12, x206_15, x206_16, x206_17, x206_18, x206_19, x206_22, x206_25, x206_28, x206_30, x206_31, x206_32, x206_35, x206_36, x206_38, x206_40, x206_43, x206_44, x206_45, x206_48, x206_50, x206_53, x206_54, x206_55, x206_58, x206_59, x206_60, x206_63, x206_64, x206_67, x206_70, x206_71, x206_72, x206_75, x206_77, x206_80, x206_81, x206_84, x206_85, x206_86, x206_89, x206_91, x206_94, x206_97, x206_99, aft_some, aft_void, Option.bind_some, Option.toList_some, Option.toList_none, List.cons_append, List.nil_append, if_true, if_false, ↓reduceIte, eq_self, z366_o, ↓z366_0, ↓z366_0p, ↓z366_1, ↓z366_2, ↓z366_3, ↓z366_4, ↓z366_4p, ↓z366_5, ↓z366_6, ↓z366_6p0, ↓z366_6p1, ↓z366_7, ↓z366_8, ↓z366_8p, ↓z366_9, ↓z366_9p, ↓z366_10, ↓z366_10p0, ↓z366_10p1, ↓z366_11, ↓z366_12, ↓z366_12p, ↓sg0, ↓sg1, ↓sg2, ↓sg3, ↓sg4, ↓sg5, ↓sg6, ↓sg7, ↓sg8, ↓sg9, ↓sg10, ↓sg11, ↓sg12, ↓sg13, ↓sg14, ↓sg15, ↓sg16, ↓sg17, ↓ss0, ↓ss1, ↓ss2, ↓ss3, ↓ss4, ↓ss5, ↓ss6, ↓ss7, ↓ss8, ↓ss9, ↓ss10, ↓ss11, ↓ss12, ↓ss13, ↓ss14, ↓ss15, ↓ss16, ↓ss17, hlt, ↓aft_of (ep), nj5, ↓aft_of (ei), ↓aft_of (eg), k1]
          rw [es]
          exact e3
    obtain ⟨G', ek⟩ := key 60 0 s.1 f (by omega) hU.2 hw.1.1 (by have := hw.1.2; omega) ⟨i, hq⟩
    obtain ⟨d', ek⟩ : ∃ d', X 206 37 [.ref 366, .int x, .int m, .int (nI 0), .long 0] [] (H (upA U 367 f) P) = X 206 93 [.ref 366, .int x, .int m, .int d', .int (hmU x m 60 s.1)] [] (H (upA U 367 G') P) := by
      rcases ek with ek | ek
      · exact ⟨_, ek⟩
      · exact ek
    have ek : X 206 37 [.ref 366, .int x, .int m, .int 0, .long 0] [] (H (upA U 367 f) P) = X 206 93 [.ref 366, .int x, .int m, .int d', .int (hmU x m 60 s.1)] [] (H (upA U 367 G') P) := ek
    obtain ⟨U', f', e3, fr3, hB⟩ := q_back (P := P) (g := G') hU hw g1
    refine ⟨U', f', ?_, fun a ha => (fr3 a ha).trans (f1 a (by omega)), hB⟩
    simp +decide only [x206_0, x206_1, x206_2, x206_5, x206_6, x206_7, x206_10, x206_12, x206_15, x206_16, x206_17, x206_18, x206_19, x206_22, x206_25, x206_28, x206_30, x206_31, x206_32, x206_35, x206_36, x206_38, x206_40, x206_43, x206_44, x206_45, x206_48, x206_50, x206_53, x206_54, x206_55, x206_58, x206_59, x206_60, x206_63, x206_64, x206_67, x206_70, x206_71, x206_72, x206_75, x206_77, x206_80, x206_81, x206_84, x206_85, x206_86, x206_89, x206_91, x206_94, x206_97, x206_99, aft_some, aft_void, Option.bind_some, Option.toList_some, Option.toList_none, List.cons_append, List.nil_append, if_true, if_false, ↓reduceIte, eq_self, z366_o, ↓z366_0, ↓z366_0p, ↓z366_1, ↓z366_2, ↓z366_3, ↓z366_4, ↓z366_4p, ↓z366_5, ↓z366_6, ↓z366_6p0, ↓z366_6p1, ↓z366_7, ↓z366_8, ↓z366_8p, ↓z366_9, ↓z366_9p, ↓z366_10, ↓z366_10p0, ↓z366_10p1, ↓z366_11, ↓z366_12, ↓z366_12p, ↓sg0, ↓sg1, ↓sg2, ↓sg3, ↓sg4, ↓sg5, ↓sg6, ↓sg7, ↓sg8, ↓sg9, ↓sg10, ↓sg11, ↓sg12, ↓sg13, ↓sg14, ↓sg15, ↓sg16, ↓sg17, ↓ss0, ↓ss1, ↓ss2, ↓ss3, ↓ss4, ↓ss5, ↓ss6, ↓ss7, ↓ss8, ↓ss9, ↓ss10, ↓ss11, ↓ss12, ↓ss13, ↓ss14, ↓ss15, ↓ss16, ↓ss17, t0, ↓aft_of (e1), ni5, ↓aft_of (r_in), c1, ↓aft_of (e2)]
    rw [ek, x206_93]
    simp +decide only [x206_0, x206_1, x206_2, x206_5, x206_6, x206_7, x206_10, x206_12, x206_15, x206_16, x206_17, x206_18, x206_19, x206_22, x206_25, x206_28, x206_30, x206_31, x206_32, x206_35, x206_36, x206_38, x206_40, x206_43, x206_44, x206_45, x206_48, x206_50, x206_53, x206_54, x206_55, x206_58, x206_59, x206_60, x206_63, x206_64, x206_67, x206_70, x206_71, x206_72, x206_75, x206_77, x206_80, x206_81, x206_84, x206_85, x206_86, x206_89, x206_91, x206_94, x206_97, x206_99, aft_some, aft_void, Option.bind_some, Option.toList_some, Option.toList_none, List.cons_append, List.nil_append, if_true, if_false, ↓reduceIte, eq_self, z366_o, ↓z366_0, ↓z366_0p, ↓z366_1, ↓z366_2, ↓z366_3, ↓z366_4, ↓z366_4p, ↓z366_5, ↓z366_6, ↓z366_6p0, ↓z366_6p1, ↓z366_7, ↓z366_8, ↓z366_8p, ↓z366_9, ↓z366_9p, ↓z366_10, ↓z366_10p0, ↓z366_10p1, ↓z366_11, ↓z366_12, ↓z366_12p, ↓sg0, ↓sg1, ↓sg2, ↓sg3, ↓sg4, ↓sg5, ↓sg6, ↓sg7, ↓sg8, ↓sg9, ↓sg10, ↓sg11, ↓sg12, ↓sg13, ↓sg14, ↓sg15, ↓sg16, ↓sg17, ↓ss0, ↓ss1, ↓ss2, ↓ss3, ↓ss4, ↓ss5, ↓ss6, ↓ss7, ↓ss8, ↓ss9, ↓ss10, ↓ss11, ↓ss12, ↓ss13, ↓ss14, ↓ss15, ↓ss16, ↓ss17, ↓aft_of (e3)]
end QW
end
section
/-! the reference reads the text: its steps as mathematics, and what the class's reading does there -/
abbrev gS (t : Nat → Int32) (n a : Nat) : Int32 := if a < n then t a else 0
abbrev qT : Type := Nat × Bool
def dgW (t : Nat → Int32) (n : Nat) (lo hi : Int32) (q : qT) : qT := if q.2 = true then (if inI (gS t n q.1) (48 + lo) (48 + hi) = 0 then (q.1, false) else (q.1 + 1, true)) else q
def tkW (t : Nat → Int32) (n : Nat) (c : Int32) (q : qT) : Bool × qT := if q.2 = true then (if gS t n q.1 = c then (true, q.1 + 1, true) else (false, q)) else (false, q)
def ltI (k : Nat) : Int32 := match k with
  | 0 => 115
  | 1 => 98
  | 2 => 116
  | _ => 108
def stP2 (t : Nat → Int32) (n k : Nat) (a : Int32 × qT) : Int32 × qT := if (tkW t n (ltI k) a.2).1 = true then (a.1 + wtI (nI k) * (gS t n (tkW t n (ltI k) a.2).2.1 - 48), dgW t n 1 9 (tkW t n (ltI k) a.2).2) else (a.1, (tkW t n (ltI k) a.2).2)
def pcW (t : Nat → Int32) (n : Nat) (q : qT) : Int32 × qT := stP2 t n 3 (stP2 t n 2 (stP2 t n 1 (stP2 t n 0 (0, q))))
/-- pieces, with the check that there is one -/
def pcZ (t : Nat → Int32) (n : Nat) (q : qT) : Int32 × qT := ((pcW t n q).1, (pcW t n q).2.1, (pcW t n q).2.2 && !decide ((pcW t n q).1 = 0))
def sxW (t : Nat → Int32) (n : Nat) (q : qT) : Int32 × qT := if (tkW t n 42 q).1 = true then (gS t n (tkW t n 42 q).2.1 - 48, dgW t n 1 3 (tkW t n 42 q).2) else (0, (tkW t n 42 q).2)
def hnW (t : Nat → Int32) (n : Nat) (q : qT) : Int32 × qT := if (dgW t n 1 9 q).2 = true then (if inI (gS t n (dgW t n 1 9 q).1) 48 57 = 0 then (gS t n q.1 - 48, dgW t n 1 9 q) else (10 * (gS t n q.1 - 48) + (gS t n (dgW t n 1 9 q).1 - 48), dgW t n 0 9 (dgW t n 1 9 q))) else (gS t n q.1 - 48, dgW t n 1 9 q)
def hxW (t : Nat → Int32) (n : Nat) (q : qT) : Int32 × qT := if (tkW t n 45 q).1 = true then hnW t n (tkW t n 45 q).2 else (0, (tkW t n 45 q).2)
/-- after the colon -/
def clW (t : Nat → Int32) (n a : Nat) : qT := ((tkW t n 58 (dgW t n 0 9 (a, true))).2.1, (tkW t n 58 (dgW t n 0 9 (a, true))).1)
abbrev b1W (t : Nat → Int32) (n a : Nat) : Int32 × qT := pcZ t n (clW t n a)
abbrev b2W (t : Nat → Int32) (n a : Nat) : Int32 × qT := sxW t n (b1W t n a).2
abbrev b3W (t : Nat → Int32) (n a : Nat) : Int32 × qT := hxW t n (b2W t n a).2
/-- the class's reading from i on -/
def cl (t : Nat → Int32) (n i : Nat) (r : rS) : Option Nat × rS := rdG t (n - i) i r
section CLW
variable {t : Nat → Int32} {n i a k : Nat} {r : rS} {p : Int32}
theorem cl_s (h : i < n) : cl t n i r = if (tkS (t i) r).1 = 0 then (some i, (tkS (t i) r).2) else cl t n (i + 1) (tkS (t i) r).2 := by
  unfold cl
  rw [show n - i = (n - (i + 1)) + 1 by omega]
  rfl
theorem cl_e (h : n ≤ i) : cl t n i r = (none, r) := by
  unfold cl
  rw [show n - i = 0 by omega]
  rfl
theorem cl_bad (h : i < n) (hb : (tkS (t i) r).1 = 0) : rdA n (cl t n i r) = nI i := by
  rw [cl_s h, if_pos hb]; rfl
theorem cl_end (h : i = n) (hb : meI r.2.1 = 0) : rdA n (cl t n i r) = nI i := by
  rw [cl_e (by omega)]
  show (if meI r.2.1 = 0 then nI n else -5) = _
  rw [if_pos hb, h]
theorem cl_go {r' : rS} (h : i < n) (e : tkS (t i) r = (1, r')) : cl t n i r = cl t n (i + 1) r' := by
  rw [cl_s h, e, if_neg (show ¬ (1 : Int32) = 0 by decide)]
/-- at a place where nothing fits, or the end -/
theorem cl_stop (hi : i ≤ n) (hm : meI r.2.1 = 0) (hb : i < n → (tkS (t i) r).1 = 0) : rdA n (cl t n i r) = nI i := by
  by_cases h : i < n
  · exact cl_bad h (hb h)
  · exact cl_end (by omega) hm
theorem dg_f {q : qT} {lo hi : Int32} (h : q.2 = false) : dgW t n lo hi q = q := by
  unfold dgW; rw [if_neg (by rw [h]; decide)]
theorem tk_f {q : qT} {c : Int32} (h : q.2 = false) : tkW t n c q = (false, q) := by
  unfold tkW; rw [if_neg (by rw [h]; decide)]
theorem st_f {q : qT} (h : q.2 = false) : stP2 t n k (p, q) = (p, q) := by
  unfold stP2; rw [tk_f h]; rfl
theorem sx_f {q : qT} (h : q.2 = false) : sxW t n q = (0, q) := by
  unfold sxW; rw [tk_f h]; rfl
theorem hx_f {q : qT} (h : q.2 = false) : hxW t n q = (0, q) := by
  unfold hxW; rw [tk_f h]; rfl
theorem pc_f {q : qT} (h : q.2 = false) : pcZ t n q = (0, q) := by
  unfold pcZ pcW
  rw [st_f h, st_f h, st_f h, st_f h]
  obtain ⟨a, w⟩ := q
  have : w = false := h
  subst this
  rfl
theorem inI_z {lo hi : Int32} (h : lo = 48 ∨ lo = 49) (hh : hi = 57 ∨ hi = 51) : inI 0 lo hi = 0 := by
  rcases h with rfl | rfl <;> rcases hh with rfl | rfl <;> decide
theorem gS_lt (h : i < n) : gS t n i = t i := if_pos h
theorem gS_ge (h : n ≤ i) : gS t n i = 0 := if_neg (by omega)
/-- letters -/
theorem kd_lt (hk : k < 4) {c : Int32} : c = ltI k ↔ kdI c = nI k := by
  unfold kdI
  match k, hk with
  | 0, _ =>
    show c = 115 ↔ _
    by_cases h : c = 115
    · rw [if_pos h]; exact ⟨fun _ => rfl, fun _ => h⟩
    · rw [if_neg h]
      refine ⟨fun e => absurd e h, fun e => ?_⟩
      repeat' split at e
      all_goals exact absurd e (by decide)
  | 1, _ =>
    show c = 98 ↔ _
    by_cases h0 : c = 115
    · rw [if_pos h0, h0]; decide
    · rw [if_neg h0]
      by_cases h : c = 98
      · rw [if_pos h]; exact ⟨fun _ => rfl, fun _ => h⟩
      · rw [if_neg h]
        refine ⟨fun e => absurd e h, fun e => ?_⟩
        repeat' split at e
        all_goals exact absurd e (by decide)
  | 2, _ =>
    show c = 116 ↔ _
    by_cases h0 : c = 115
    · rw [if_pos h0, h0]; decide
    · rw [if_neg h0]
      by_cases h1 : c = 98
      · rw [if_pos h1, h1]; decide
      · rw [if_neg h1]
        by_cases h : c = 116
        · rw [if_pos h]; exact ⟨fun _ => rfl, fun _ => h⟩
        · rw [if_neg h]
          refine ⟨fun e => absurd e h, fun e => ?_⟩
          repeat' split at e
          all_goals exact absurd e (by decide)
  | 3, _ =>
    show c = 108 ↔ _
    by_cases h0 : c = 115
    · rw [if_pos h0, h0]; decide
    · rw [if_neg h0]
      by_cases h1 : c = 98
      · rw [if_pos h1, h1]; decide
      · rw [if_neg h1]
        by_cases h2 : c = 116
        · rw [if_pos h2, h2]; decide
        · rw [if_neg h2]
          by_cases h : c = 108
          · rw [if_pos h]; exact ⟨fun _ => rfl, fun _ => h⟩
          · rw [if_neg h]
            exact ⟨fun e => absurd e h, fun e => absurd e (by decide)⟩
theorem kd_or (c : Int32) : kdI c = -5 ∨ ∃ k, k < 4 ∧ kdI c = nI k := by
  unfold kdI
  repeat' split
  · exact Or.inr ⟨0, by decide, rfl⟩
  · exact Or.inr ⟨1, by decide, rfl⟩
  · exact Or.inr ⟨2, by decide, rfl⟩
  · exact Or.inr ⟨3, by decide, rfl⟩
  · exact Or.inl rfl
theorem lt_ne0 (k : Nat) : ltI k ≠ 0 := by
  unfold ltI
  split <;> decide
theorem dig_ex {c : Int32} {lo hi : Nat} (hl : lo ≤ 9) (hh : hi ≤ 9) (h : ¬ inI c (48 + nI lo) (48 + nI hi) = 0) : ∃ d, lo ≤ d ∧ d ≤ hi ∧ c - 48 = nI d := by
  rw [show (48 : Int32) = nI 48 from rfl, nI_add, nI_add] at h
  obtain ⟨x, h1, h2, rfl⟩ := inI_ex2 (m := 48 + lo) (n := 48 + hi) (by omega) (by omega) h
  exact ⟨x - 48, by omega, by omega, by rw [show (48 : Int32) = nI 48 from rfl, nI_sub (by omega)]⟩
/-- the state of the pieces: before the kind k -/
def PI (t : Nat → Int32) (n k a : Nat) (p : Int32) (r : rS) : Prop := 1 ≤ r.1 ∧ a ≤ n ∧ r.2.2.2.2.1 (r.1 - 1) = p ∧
  ((r.2.1 = 2 ∧ r.2.2.1 = -5 ∧ p = 0) ∨ (r.2.1 = 4 ∧ (∃ j, j < k ∧ r.2.2.1 = nI j) ∧ ∃ m, 0 < m ∧ m ≤ 9000 * k ∧ p = nI m)) ∧
  ∀ j, j < k → r.2.2.1 < nI j → gS t n a ≠ ltI j
/-- r' is r but for the pieces of its last basket, the place and the kind -/
def SP (r r' : rS) : Prop := r'.1 = r.1 ∧ r'.2.2.2.1 = r.2.2.2.1 ∧ (∀ j, j ≠ r.1 - 1 → r'.2.2.2.2.1 j = r.2.2.2.2.1 j) ∧ r'.2.2.2.2.2.1 = r.2.2.2.2.2.1 ∧ r'.2.2.2.2.2.2 = r.2.2.2.2.2.2
theorem pc_step (h : PI t n k a p r) (hk : k < 4) : ((stP2 t n k (p, a, true)).2.2 = false ∧ rdA n (cl t n a r) = nI (stP2 t n k (p, a, true)).2.1) ∨
    ((stP2 t n k (p, a, true)).2.2 = true ∧ a ≤ (stP2 t n k (p, a, true)).2.1 ∧ ∃ r', cl t n a r = cl t n (stP2 t n k (p, a, true)).2.1 r' ∧ SP r r' ∧ PI t n (k + 1) (stP2 t n k (p, a, true)).2.1 (stP2 t n k (p, a, true)).1 r') := by
  obtain ⟨h1, han, hp, hst, hn⟩ := h
  have hkind : r.2.2.1 < nI k := by
    rcases hst with ⟨-, e, -⟩ | ⟨-, ⟨j, hj, e⟩, -⟩
    · rw [e, Int32.lt_iff_toInt_lt, nI_toInt (by omega), show (-5 : Int32).toInt = -5 from by decide]; omega
    · rw [e, nI_ltp (by omega) (by omega)]; exact hj
  by_cases hc : gS t n a = ltI k
  · -- the letter stands there
    have hlt : a < n := by
      apply Classical.byContradiction
      intro q
      rw [gS_ge (by omega)] at hc
      exact lt_ne0 k hc.symm
    rw [gS_lt hlt] at hc
    have hkd : kdI (t a) = nI k := (kd_lt hk).mp hc
    have htk : tkW t n (ltI k) (a, true) = (true, a + 1, true) := by
      unfold tkW
      rw [if_pos rfl]
      show (if gS t n a = ltI k then _ else _) = _
      rw [gS_lt hlt, if_pos hc]
    have hkn : knS (t a) r = (1, r.1, 3, nI k, r.2.2.2) := by
      unfold knS
      rw [hkd, if_neg (fun e => by have := nI_ne5 (n := k) (by omega); rw [this] at e; exact e), if_pos hkind]
    have htS : tkS (t a) r = (1, r.1, 3, nI k, r.2.2.2) := by
      unfold tkS
      rcases hst with ⟨e, -, -⟩ | ⟨e, -, -⟩
      · rw [e, if_neg (by decide), if_neg (by decide), if_pos rfl]; exact hkn
      · rw [e, if_neg (by decide), if_neg (by decide), if_neg (by decide), if_neg (by decide), if_pos rfl, hkn, if_neg (show ¬ (1 : Int32) = 0 by decide)]
    rw [cl_go hlt htS]
    have hst2 : stP2 t n k (p, a, true) = (p + wtI (nI k) * (gS t n (a + 1) - 48), dgW t n 1 9 (a + 1, true)) := by
      unfold stP2
      show (if (tkW t n (ltI k) (a, true)).1 = true then (p + wtI (nI k) * (gS t n (tkW t n (ltI k) (a, true)).2.1 - 48), dgW t n 1 9 (tkW t n (ltI k) (a, true)).2) else (p, (tkW t n (ltI k) (a, true)).2)) = _
      rw [htk]; rfl
    rw [hst2]
    obtain ⟨r3, hr3⟩ : ∃ r3 : rS, r3 = (r.1, 3, nI k, r.2.2.2) := ⟨_, rfl⟩
    rw [← hr3]
    have e3 : r3.2.1 = 3 := by rw [hr3]
    have e31 : r3.1 = r.1 := by rw [hr3]
    have e32 : r3.2.2.1 = nI k := by rw [hr3]
    have e33 : r3.2.2.2 = r.2.2.2 := by rw [hr3]
    have htS3 : ∀ c, tkS c r3 = pcS c r3 := fun c => by
      unfold tkS
      rw [e3, if_neg (by decide), if_neg (by decide), if_neg (by decide), if_pos rfl]
    by_cases hd : inI (gS t n (a + 1)) 49 57 = 0
    · -- no digit
      left
      have hdg : dgW t n 1 9 (a + 1, true) = (a + 1, false) := by
        unfold dgW
        rw [if_pos rfl]
        show (if inI (gS t n (a + 1)) (48 + 1) (48 + 9) = 0 then _ else _) = _
        rw [show (48 + 1 : Int32) = 49 from rfl, show (48 + 9 : Int32) = 57 from rfl, if_pos hd]
      rw [hdg]
      refine ⟨rfl, cl_stop (by omega) (by rw [e3]; decide) (fun hl => ?_)⟩
      rw [gS_lt hl] at hd
      rw [htS3]
      unfold pcS
      rw [if_pos hd]
    · right
      have hl : a + 1 < n := by
        apply Classical.byContradiction
        intro q
        rw [gS_ge (by omega)] at hd
        exact hd (by decide)
      have hdg : dgW t n 1 9 (a + 1, true) = (a + 1 + 1, true) := by
        unfold dgW
        rw [if_pos rfl]
        show (if inI (gS t n (a + 1)) (48 + 1) (48 + 9) = 0 then _ else _) = _
        rw [show (48 + 1 : Int32) = 49 from rfl, show (48 + 9 : Int32) = 57 from rfl, if_neg hd]
      rw [hdg]
      obtain ⟨d, hd1, hd9, ed⟩ := dig_ex (lo := 1) (hi := 9) (by decide) (by decide) hd
      rw [gS_lt hl] at hd ed
      have hnn : ¬ (nI k : Int32) < 0 := nI_pos (by omega)
      have htS4 : tkS (t (a + 1)) r3 = (1, r3.1, 4, nI k, r3.2.2.2.1, upA r3.2.2.2.2.1 (r3.1 - 1) (r3.2.2.2.2.1 (r3.1 - 1) + (t (a + 1) - 48) * wtI (nI k)), r3.2.2.2.2.2) := by
        rw [htS3]
        unfold pcS
        rw [if_neg hd, if_neg (by rw [e31]; omega), e32, if_neg hnn]
      rw [cl_go hl htS4, gS_lt hl]
      refine ⟨rfl, by show a ≤ a + 1 + 1; omega, _, rfl, ⟨e31, by rw [e33], fun j hj => ?_, by rw [e33], by rw [e33]⟩, ?_, ?_, ?_, ?_, fun j hj hlt' => ?_⟩
      · show upA r3.2.2.2.2.1 (r3.1 - 1) _ j = _
        rw [e31, upA_n _ _ hj, e33]
      · show 1 ≤ r3.1; rw [e31]; exact h1
      · show a + 1 + 1 ≤ n; omega
      · show upA r3.2.2.2.2.1 (r3.1 - 1) _ (r3.1 - 1) = _
        rw [upA_s, e31, e33, hp, Int32.mul_comm]
      · right
        have hw : ∃ w, 1 ≤ w ∧ w ≤ 1000 ∧ wtI (nI k) = nI w := by
          match k, hk with
          | 0, _ => exact ⟨1000, by decide, by decide, rfl⟩
          | 1, _ => exact ⟨100, by decide, by decide, rfl⟩
          | 2, _ => exact ⟨10, by decide, by decide, rfl⟩
          | 3, _ => exact ⟨1, by decide, by decide, rfl⟩
        obtain ⟨w, hw1, hw2, ew⟩ := hw
        have hpm : ∃ m, m ≤ 9000 * k ∧ p = nI m := by
          rcases hst with ⟨-, -, e⟩ | ⟨-, -, m, -, hm, e⟩
          · exact ⟨0, by omega, e⟩
          · exact ⟨m, hm, e⟩
        obtain ⟨m, hm, em⟩ := hpm
        have hwd : w * d ≤ 9000 := Nat.le_trans (Nat.mul_le_mul hw2 hd9) (by decide)
        have hwd1 : 1 ≤ w * d := Nat.mul_pos (by omega) (by omega)
        refine ⟨rfl, ⟨k, by omega, rfl⟩, m + w * d, by omega, by omega, ?_⟩
        show p + wtI (nI k) * (t (a + 1) - 48) = _
        rw [em, ew, ed, nI_mul, nI_add]
      · have hlt' : nI k < nI j := hlt'
        rw [nI_ltp (by omega) (by omega)] at hlt'
        omega
  · -- it doesn't
    right
    have htk : tkW t n (ltI k) (a, true) = (false, a, true) := by
      unfold tkW
      rw [if_pos rfl]
      show (if gS t n a = ltI k then _ else _) = _
      rw [if_neg hc]
    have hst2 : stP2 t n k (p, a, true) = (p, a, true) := by
      unfold stP2
      show (if (tkW t n (ltI k) (a, true)).1 = true then (p + wtI (nI k) * (gS t n (tkW t n (ltI k) (a, true)).2.1 - 48), dgW t n 1 9 (tkW t n (ltI k) (a, true)).2) else (p, (tkW t n (ltI k) (a, true)).2)) = _
      rw [htk]; rfl
    rw [hst2]
    refine ⟨rfl, Nat.le_refl _, r, rfl, ⟨rfl, rfl, fun _ _ => rfl, rfl, rfl⟩, h1, han, hp, ?_, fun j hj hl => ?_⟩
    · rcases hst with e | ⟨e1, ⟨j, hj, e2⟩, m, h0, hm, e3⟩
      · exact Or.inl e
      · exact Or.inr ⟨e1, ⟨j, by omega, e2⟩, m, h0, by omega, e3⟩
    · by_cases e : j = k
      · rw [e]; exact hc
      · exact hn j (by omega) hl
theorem SP.trans {r r' r'' : rS} (h : SP r r') (g : SP r' r'') : SP r r'' := by
  obtain ⟨h1, h2, h3, h4, h5⟩ := h
  obtain ⟨g1, g2, g3, g4, g5⟩ := g
  exact ⟨g1.trans h1, g2.trans h2, fun j hj => (g3 j (by rw [h1]; exact hj)).trans (h3 j hj), g4.trans h4, g5.trans h5⟩
/-- all the pieces -/
theorem pc_all (h : PI t n 0 a 0 r) : ((pcZ t n (a, true)).2.2 = false ∧ rdA n (cl t n a r) = nI (pcZ t n (a, true)).2.1) ∨
    ((pcZ t n (a, true)).2.2 = true ∧ a + 2 ≤ (pcZ t n (a, true)).2.1 ∧ ∃ r', cl t n a r = cl t n (pcZ t n (a, true)).2.1 r' ∧ SP r r' ∧ r'.2.1 = 4 ∧ (pcZ t n (a, true)).2.1 ≤ n ∧ r'.2.2.2.2.1 (r.1 - 1) = (pcZ t n (a, true)).1 ∧ ∀ c, gS t n (pcZ t n (a, true)).2.1 = c → c ≠ 0 → (knS c r').1 = 0) := by
  have fin : ∀ (s : Int32 × qT), pcW t n (a, true) = s → s.2.2 = false → pcZ t n (a, true) = (s.1, s.2.1, false) := by
    intro s e hs
    unfold pcZ
    rw [e, hs]; rfl
  have fl : ∀ (k : Nat) (s : Int32 × qT), s.2.2 = false → stP2 t n k s = s := fun k s hs => st_f hs
  obtain ⟨s0, e0⟩ : ∃ s, s = stP2 t n 0 (0, a, true) := ⟨_, rfl⟩
  obtain ⟨s1, e1⟩ : ∃ s, s = stP2 t n 1 s0 := ⟨_, rfl⟩
  obtain ⟨s2, e2⟩ : ∃ s, s = stP2 t n 2 s1 := ⟨_, rfl⟩
  obtain ⟨s3, e3⟩ : ∃ s, s = stP2 t n 3 s2 := ⟨_, rfl⟩
  have eW : pcW t n (a, true) = s3 := by unfold pcW; rw [← e0, ← e1, ← e2, ← e3]
  have sp : ∀ s : Int32 × qT, s.2.2 = true → s = (s.1, s.2.1, true) := fun s hs => by rw [← hs]
  have g0 := pc_step h (by decide)
  rw [← e0] at g0
  rcases g0 with ⟨w0, c0⟩ | ⟨w0, l0, r0, c0, p0, q0⟩
  · left
    have : s3 = s0 := by rw [e3, e2, e1, fl 1 s0 w0, fl 2 s0 w0, fl 3 s0 w0]
    rw [fin s0 (by rw [eW, this]) w0]; exact ⟨rfl, c0⟩
  have g1 := pc_step q0 (by decide)
  rw [← sp s0 w0, ← e1] at g1
  rcases g1 with ⟨w1, c1⟩ | ⟨w1, l1, r1, c1, p1, q1⟩
  · left
    have : s3 = s1 := by rw [e3, e2, fl 2 s1 w1, fl 3 s1 w1]
    rw [fin s1 (by rw [eW, this]) w1]; exact ⟨rfl, by rw [c0]; exact c1⟩
  have g2 := pc_step q1 (by decide)
  rw [← sp s1 w1, ← e2] at g2
  rcases g2 with ⟨w2, c2⟩ | ⟨w2, l2, r2, c2, p2, q2⟩
  · left
    have : s3 = s2 := by rw [e3, fl 3 s2 w2]
    rw [fin s2 (by rw [eW, this]) w2]; exact ⟨rfl, by rw [c0, c1]; exact c2⟩
  have g3 := pc_step q2 (by decide)
  rw [← sp s2 w2, ← e3] at g3
  rcases g3 with ⟨w3, c3⟩ | ⟨w3, l3, r3, c3, p3, q3⟩
  · left
    rw [fin s3 eW w3]; exact ⟨rfl, by rw [c0, c1, c2]; exact c3⟩
  have hc : cl t n a r = cl t n s3.2.1 r3 := by rw [c0, c1, c2, c3]
  have hsp := ((p0.trans p1).trans p2).trans p3
  obtain ⟨h1, han, hp, hst, hn⟩ := q3
  have hkn : ∀ c, gS t n s3.2.1 = c → c ≠ 0 → (knS c r3).1 = 0 := by
    intro c ec hc0
    unfold knS
    rcases kd_or c with e | ⟨j, hj, e⟩
    · rw [if_pos e]
    · rw [e, if_neg (fun z => by have := nI_ne5 (n := j) (by omega); rw [this] at z; exact z)]
      by_cases hl : r3.2.2.1 < nI j
      · exact absurd ((kd_lt hj).mpr e) (by rw [← ec]; exact hn j hj hl)
      · rw [if_neg hl]
  rcases hst with ⟨z1, z2, z3⟩ | ⟨z1, -, m, hm0, hm, z3⟩
  · left
    have ez : pcZ t n (a, true) = (0, s3.2.1, false) := by
      unfold pcZ
      rw [eW, z3, w3]; rfl
    rw [ez]
    refine ⟨rfl, ?_⟩
    rw [hc]
    refine cl_stop han (by rw [z1]; decide) (fun hl => ?_)
    unfold tkS
    rw [z1, if_neg (by decide), if_neg (by decide), if_pos rfl]
    have hk := hn 0 (by decide)
    unfold knS
    rcases kd_or (t s3.2.1) with e | ⟨j, hj, e⟩
    · rw [if_pos e]
    · have hl2 : r3.2.2.1 < nI j := by
        rw [z2, Int32.lt_iff_toInt_lt, nI_toInt (by omega), show (-5 : Int32).toInt = -5 from by decide]; omega
      have := hn j hj hl2
      rw [gS_lt hl] at this
      exact absurd ((kd_lt hj).mpr e) this
  · right
    have hne : ¬ s3.1 = 0 := by
      rw [z3, show (0 : Int32) = nI 0 from rfl, nI_inj (by omega) (by decide)]; omega
    have ez : pcZ t n (a, true) = s3 := by
      unfold pcZ
      rw [eW, w3]
      rw [decide_eq_false hne]
      show (s3.1, s3.2.1, true) = s3
      exact (sp s3 w3).symm
    rw [ez]
    refine ⟨w3, ?_, r3, hc, hsp, z1, han, by rw [← hsp.1]; exact hp, hkn⟩
    -- one letter and one digit at least
    have key : ∀ (k : Nat) (s : Int32 × qT), s.2.2 = true → (stP2 t n k s).2.2 = true → (stP2 t n k s) = s ∨ s.2.1 + 2 ≤ (stP2 t n k s).2.1 := by
      intro k s hs h2
      unfold stP2 at h2 ⊢
      by_cases c : (tkW t n (ltI k) s.2).1 = true
      · right
        rw [if_pos c] at h2 ⊢
        have et : tkW t n (ltI k) s.2 = (true, s.2.1 + 1, true) := by
          unfold tkW at c ⊢
          rw [if_pos hs] at c ⊢
          by_cases q : gS t n s.2.1 = ltI k
          · rw [if_pos q]
          · rw [if_neg q] at c; cases c
        rw [et] at h2 ⊢
        unfold dgW at h2 ⊢
        rw [if_pos rfl] at h2 ⊢
        by_cases q : inI (gS t n ((true, s.2.1 + 1, true) : Bool × qT).2.1) (48 + 1) (48 + 9) = 0
        · rw [if_pos q] at h2; cases h2
        · rw [if_neg q]; show s.2.1 + 2 ≤ s.2.1 + 1 + 1; omega
      · left
        rw [if_neg c]
        have et : (tkW t n (ltI k) s.2).2 = s.2 := by
          unfold tkW at c ⊢
          rw [if_pos hs] at c ⊢
          by_cases q : gS t n s.2.1 = ltI k
          · rw [if_pos q] at c; exact absurd rfl c
          · rw [if_neg q]
        rw [et]
    have k0 := key 0 (0, a, true) rfl (by rw [← e0]; exact w0)
    have k1 := key 1 s0 w0 (by rw [← e1]; exact w1)
    have k2 := key 2 s1 w1 (by rw [← e2]; exact w2)
    have k3 := key 3 s2 w2 (by rw [← e3]; exact w3)
    rw [← e0] at k0
    rw [← e1] at k1
    rw [← e2] at k2
    rw [← e3] at k3
    have l0 : a ≤ s0.2.1 := l0
    have l1 : s0.2.1 ≤ s1.2.1 := l1
    have l2 : s1.2.1 ≤ s2.2.1 := l2
    have l3 : s2.2.1 ≤ s3.2.1 := l3
    rcases k0 with k0 | k0
    · rcases k1 with k1 | k1
      · rcases k2 with k2 | k2
        · rcases k3 with k3 | k3
          · exact absurd (by rw [k3, k2, k1, k0]) hne
          · have : s2.2.1 = a := by rw [k2, k1, k0]
            omega
        · have : s1.2.1 = a := by rw [k1, k0]
          omega
      · have : s0.2.1 = a := by rw [k0]
        omega
    · have k0 : a + 2 ≤ s0.2.1 := k0
      omega
end CLW
end
section
/-! a basket of the text: the reference's way and the class's -/
section BKW
variable {t : Nat → Int32} {n i a k : Nat} {r : rS} {p : Int32}
theorem dg_no {lo hi : Int32} (h : inI (gS t n a) (48 + lo) (48 + hi) = 0) : dgW t n lo hi (a, true) = (a, false) := by
  unfold dgW
  rw [if_pos rfl]
  show (if inI (gS t n a) (48 + lo) (48 + hi) = 0 then _ else _) = _
  rw [if_pos h]
theorem dg_ok {lo hi : Int32} (h : ¬ inI (gS t n a) (48 + lo) (48 + hi) = 0) : dgW t n lo hi (a, true) = (a + 1, true) := by
  unfold dgW
  rw [if_pos rfl]
  show (if inI (gS t n a) (48 + lo) (48 + hi) = 0 then _ else _) = _
  rw [if_neg h]
theorem tk_no {c : Int32} (h : ¬ gS t n a = c) : tkW t n c (a, true) = (false, a, true) := by
  unfold tkW
  rw [if_pos rfl]
  show (if gS t n a = c then _ else _) = _
  rw [if_neg h]
theorem tk_ok {c : Int32} (h : gS t n a = c) : tkW t n c (a, true) = (true, a + 1, true) := by
  unfold tkW
  rw [if_pos rfl]
  show (if gS t n a = c then _ else _) = _
  rw [if_pos h]
theorem gS_in {lo hi : Int32} (hl : lo = 48 ∨ lo = 49) (hh : hi = 57 ∨ hi = 51) (h : ¬ inI (gS t n a) lo hi = 0) : a < n := by
  apply Classical.byContradiction
  intro q
  rw [gS_ge (by omega)] at h
  exact h (inI_z hl hh)
theorem gS_eq {c : Int32} (hc : c ≠ 0) (h : gS t n a = c) : a < n := by
  apply Classical.byContradiction
  intro q
  rw [gS_ge (by omega)] at h
  exact hc h.symm
/-- where a basket may end -/
def ED (t : Nat → Int32) (n a : Nat) (r : rS) : Prop := a ≤ n ∧ meI r.2.1 = 1 ∧ (a < n → t a = 59 → tkS (t a) r = (1, r.1, 0, r.2.2)) ∧ (a < n → ¬ t a = 59 → (tkS (t a) r).1 = 0)
/-- the rows of baskets but the last one are the same -/
def SB (r r' : rS) : Prop := r'.1 = r.1 ∧ ∀ j, j ≠ r.1 - 1 → r'.2.2.2.1 j = r.2.2.2.1 j ∧ r'.2.2.2.2.1 j = r.2.2.2.2.1 j ∧ r'.2.2.2.2.2.1 j = r.2.2.2.2.2.1 j ∧ r'.2.2.2.2.2.2 j = r.2.2.2.2.2.2 j
/-- the hangers, behind the pieces and the starch -/
theorem hx_cl (h1 : 1 ≤ r.1) (ha : a ≤ n) (hg0 : r.2.2.2.2.2.2 (r.1 - 1) = 0) (hpl : (r.2.1 = 4 ∧ (∀ c, gS t n a = c → c ≠ 0 → (knS c r).1 = 0) ∧ ¬ gS t n a = 42) ∨ r.2.1 = 6) :
    ((hxW t n (a, true)).2.2 = false ∧ rdA n (cl t n a r) = nI (hxW t n (a, true)).2.1) ∨
    ((hxW t n (a, true)).2.2 = true ∧ a ≤ (hxW t n (a, true)).2.1 ∧ ∃ r', cl t n a r = cl t n (hxW t n (a, true)).2.1 r' ∧ r'.1 = r.1 ∧ r'.2.2.2.1 = r.2.2.2.1 ∧ r'.2.2.2.2.1 = r.2.2.2.2.1 ∧ r'.2.2.2.2.2.1 = r.2.2.2.2.2.1 ∧ (∀ j, j ≠ r.1 - 1 → r'.2.2.2.2.2.2 j = r.2.2.2.2.2.2 j) ∧ r'.2.2.2.2.2.2 (r.1 - 1) = (hxW t n (a, true)).1 ∧ ED t n (hxW t n (a, true)).2.1 r') := by
  -- what the class does with a sign there
  have htk : ∀ c, gS t n a = c → c ≠ 0 → tkS c r = enS c r := by
    intro c ec hc
    unfold tkS
    rcases hpl with ⟨e, hk, h42⟩ | e
    · rw [e, if_neg (by decide), if_neg (by decide), if_neg (by decide), if_neg (by decide), if_pos rfl, if_pos (hk c ec hc)]
      have : (sgS c 42 5 r).1 = 0 := by
        unfold sgS
        rw [if_neg (by rw [← ec]; exact h42)]
      rw [if_pos this]
    · rw [e, if_neg (by decide), if_neg (by decide), if_neg (by decide), if_neg (by decide), if_neg (by decide), if_neg (by decide), if_pos rfl]
  by_cases h45 : gS t n a = 45
  · have hl := gS_eq (by decide) h45
    have ht : t a = 45 := by rw [← gS_lt (t := t) hl]; exact h45
    obtain ⟨r7, hr7⟩ : ∃ r7 : rS, r7 = (r.1, 7, r.2.2) := ⟨_, rfl⟩
    have h7 : tkS (t a) r = (1, r7) := by
      rw [htk (t a) (gS_lt hl) (by rw [ht]; decide), hr7]
      unfold enS
      rw [if_pos ht]
    have p7 : r7.2.1 = 7 := by rw [hr7]
    have e71 : r7.1 = r.1 := by rw [hr7]
    have e72 : r7.2.2 = r.2.2 := by rw [hr7]
    rw [cl_go hl h7]
    have hx : hxW t n (a, true) = hnW t n (a + 1, true) := by
      unfold hxW
      rw [tk_ok h45]; rfl
    rw [hx]
    have tk7 : ∀ c, tkS c r7 = if inI c 49 57 = 0 then (0, r7) else haS c 8 r7 := fun c => by
      unfold tkS
      rw [p7, if_neg (by decide), if_neg (by decide), if_neg (by decide), if_neg (by decide), if_neg (by decide), if_neg (by decide), if_neg (by decide), if_pos rfl]
    by_cases hd : inI (gS t n (a + 1)) (48 + 1) (48 + 9) = 0
    · left
      have hh : hnW t n (a + 1, true) = (gS t n (a + 1) - 48, a + 1, false) := by
        unfold hnW
        rw [dg_no hd]; rfl
      rw [hh]
      refine ⟨rfl, cl_stop (by omega) (by rw [p7]; decide) (fun hl2 => ?_)⟩
      rw [gS_lt hl2] at hd
      have hd : inI (t (a + 1)) 49 57 = 0 := hd
      rw [tk7, if_pos hd]
    · have hl2 := gS_in (lo := 49) (hi := 57) (Or.inr rfl) (Or.inl rfl) hd
      have hd' : ¬ inI (t (a + 1)) 49 57 = 0 := by rw [← gS_lt (t := t) hl2]; exact hd
      obtain ⟨d, hd1, hd9, ed⟩ := dig_ex (lo := 1) (hi := 9) (by decide) (by decide) (c := t (a + 1)) hd'
      have hd48 : ¬ inI (t (a + 1)) 48 57 = 0 := by
        have e1 : t (a + 1) = nI (48 + d) := by
          have : t (a + 1) = nI d + 48 := by rw [← ed]; grind
          rw [this, show (48 : Int32) = nI 48 from rfl, nI_add, Nat.add_comm]
        rw [e1]
        unfold inI
        rw [if_neg (show ¬ nI (48 + d) < 48 from nI_nlt (show 48 ≤ 48 + d by omega) (by omega)), if_neg (show ¬ 57 < nI (48 + d) from nI_nlt (show 48 + d ≤ 57 by omega) (by decide))]
        decide
      obtain ⟨r8, hr8⟩ : ∃ r8 : rS, r8 = (r7.1, 8, r7.2.2.1, r7.2.2.2.1, r7.2.2.2.2.1, r7.2.2.2.2.2.1, upA r7.2.2.2.2.2.2 (r7.1 - 1) (r7.2.2.2.2.2.2 (r7.1 - 1) * 10 + (t (a + 1) - 48))) := ⟨_, rfl⟩
      have h8 : tkS (t (a + 1)) r7 = (1, r8) := by
        rw [tk7, if_neg hd', hr8]
        unfold haS
        rw [if_neg hd48, if_neg (by rw [e71]; omega)]
      have p8 : r8.2.1 = 8 := by rw [hr8]
      have e81 : r8.1 = r.1 := by rw [hr8]; exact e71
      have e8c : r8.2.2.2.1 = r.2.2.2.1 := by rw [hr8]; show r7.2.2.2.1 = _; rw [e72]
      have e8p : r8.2.2.2.2.1 = r.2.2.2.2.1 := by rw [hr8]; show r7.2.2.2.2.1 = _; rw [e72]
      have e8s : r8.2.2.2.2.2.1 = r.2.2.2.2.2.1 := by rw [hr8]; show r7.2.2.2.2.2.1 = _; rw [e72]
      have e8h : r8.2.2.2.2.2.2 = upA r.2.2.2.2.2.2 (r.1 - 1) (t (a + 1) - 48) := by
        rw [hr8]
        show upA r7.2.2.2.2.2.2 (r7.1 - 1) (r7.2.2.2.2.2.2 (r7.1 - 1) * 10 + (t (a + 1) - 48)) = _
        rw [e72, e71, hg0, Int32.zero_mul, Int32.zero_add]
      rw [cl_go hl2 h8]
      have tk8 : ∀ c, tkS c r8 = if (haS c 9 r8).1 = 0 then sgS c 59 0 r8 else haS c 9 r8 := fun c => by
        unfold tkS
        rw [p8, if_neg (by decide), if_neg (by decide), if_neg (by decide), if_neg (by decide), if_neg (by decide), if_neg (by decide), if_neg (by decide), if_neg (by decide), if_pos rfl]
      by_cases hdd : inI (gS t n (a + 1 + 1)) 48 57 = 0
      · right
        have hh : hnW t n (a + 1, true) = (gS t n (a + 1) - 48, a + 1 + 1, true) := by
          unfold hnW
          rw [dg_ok hd]
          show (if inI (gS t n (a + 1 + 1)) 48 57 = 0 then _ else _) = _
          rw [if_pos hdd]
        rw [hh]
        refine ⟨rfl, by show a ≤ a + 1 + 1; omega, r8, rfl, e81, e8c, e8p, e8s, fun j hj => by rw [e8h, upA_n _ _ hj], by rw [e8h, upA_s, gS_lt hl2], by show a + 1 + 1 ≤ n; omega, by rw [p8]; decide, fun hl3 h59 => ?_, fun hl3 h59 => ?_⟩
        · have hl3 : a + 1 + 1 < n := hl3
          have h59 : t (a + 1 + 1) = 59 := h59
          rw [gS_lt hl3] at hdd
          show tkS (t (a + 1 + 1)) r8 = _
          rw [tk8]
          have hz : (haS (t (a + 1 + 1)) 9 r8).1 = 0 := by unfold haS; rw [if_pos hdd]
          rw [if_pos hz]
          unfold sgS
          rw [if_pos h59]
        · have hl3 : a + 1 + 1 < n := hl3
          have h59 : ¬ t (a + 1 + 1) = 59 := h59
          rw [gS_lt hl3] at hdd
          show (tkS (t (a + 1 + 1)) r8).1 = 0
          rw [tk8]
          have hz : (haS (t (a + 1 + 1)) 9 r8).1 = 0 := by unfold haS; rw [if_pos hdd]
          rw [if_pos hz]
          unfold sgS
          rw [if_neg h59]
      · right
        have hl3 := gS_in (lo := 48) (hi := 57) (Or.inl rfl) (Or.inl rfl) hdd
        have hh : hnW t n (a + 1, true) = (10 * (gS t n (a + 1) - 48) + (gS t n (a + 1 + 1) - 48), a + 1 + 1 + 1, true) := by
          unfold hnW
          rw [dg_ok hd]
          show (if inI (gS t n (a + 1 + 1)) 48 57 = 0 then _ else (_, dgW t n 0 9 (a + 1 + 1, true))) = _
          rw [if_neg hdd, dg_ok (lo := 0) (hi := 9) hdd]
        rw [hh]
        have hdd' : ¬ inI (t (a + 1 + 1)) 48 57 = 0 := by rw [← gS_lt (t := t) hl3]; exact hdd
        obtain ⟨r9, hr9⟩ : ∃ r9 : rS, r9 = (r8.1, 9, r8.2.2.1, r8.2.2.2.1, r8.2.2.2.2.1, r8.2.2.2.2.2.1, upA r8.2.2.2.2.2.2 (r8.1 - 1) (r8.2.2.2.2.2.2 (r8.1 - 1) * 10 + (t (a + 1 + 1) - 48))) := ⟨_, rfl⟩
        have hh9 : haS (t (a + 1 + 1)) 9 r8 = (1, r9) := by
          rw [hr9]
          unfold haS
          rw [if_neg hdd', if_neg (by rw [e81]; omega)]
        have h9 : tkS (t (a + 1 + 1)) r8 = (1, r9) := by
          rw [tk8, hh9, if_neg (show ¬ (1 : Int32) = 0 by decide)]
        rw [cl_go hl3 h9]
        have p9 : r9.2.1 = 9 := by rw [hr9]
        have tk9 : ∀ c, tkS c r9 = sgS c 59 0 r9 := fun c => by
          unfold tkS
          rw [p9, if_neg (by decide), if_neg (by decide), if_neg (by decide), if_neg (by decide), if_neg (by decide), if_neg (by decide), if_neg (by decide), if_neg (by decide), if_neg (by decide)]
        refine ⟨rfl, by show a ≤ a + 1 + 1 + 1; omega, r9, rfl, by rw [hr9]; exact e81, by rw [hr9]; exact e8c, by rw [hr9]; exact e8p, by rw [hr9]; exact e8s, fun j hj => ?_, ?_, by show a + 1 + 1 + 1 ≤ n; omega, by rw [p9]; decide, fun hl4 h59 => ?_, fun hl4 h59 => ?_⟩
        · rw [hr9]
          show upA r8.2.2.2.2.2.2 (r8.1 - 1) _ j = _
          rw [e81, upA_n _ _ hj, e8h, upA_n _ _ hj]
        · rw [hr9]
          show upA r8.2.2.2.2.2.2 (r8.1 - 1) (r8.2.2.2.2.2.2 (r8.1 - 1) * 10 + (t (a + 1 + 1) - 48)) (r.1 - 1) = _
          rw [e81, upA_s, e8h, upA_s, gS_lt hl2, gS_lt hl3, Int32.mul_comm]
        · have h59 : t (a + 1 + 1 + 1) = 59 := h59
          show tkS (t (a + 1 + 1 + 1)) r9 = _
          rw [tk9]
          unfold sgS
          rw [if_pos h59]
        · have h59 : ¬ t (a + 1 + 1 + 1) = 59 := h59
          show (tkS (t (a + 1 + 1 + 1)) r9).1 = 0
          rw [tk9]
          unfold sgS
          rw [if_neg h59]
  · right
    have hx : hxW t n (a, true) = (0, a, true) := by
      unfold hxW
      rw [tk_no h45]; rfl
    rw [hx]
    have hme : meI r.2.1 = 1 := by
      rcases hpl with ⟨e, -, -⟩ | e <;> rw [e] <;> decide
    refine ⟨rfl, Nat.le_refl _, r, rfl, rfl, rfl, rfl, rfl, fun _ _ => rfl, hg0, ha, hme, fun hl h59 => ?_, fun hl h59 => ?_⟩
    · have h59 : t a = 59 := h59
      show tkS (t a) r = _
      rw [htk (t a) (gS_lt hl) (by rw [h59]; decide)]
      unfold enS
      rw [h59, if_neg (by decide), if_pos rfl]
    · have h59 : ¬ t a = 59 := h59
      show (tkS (t a) r).1 = 0
      by_cases hz : t a = 0
      · -- a sign 0 fits nowhere
        unfold tkS
        rcases hpl with ⟨e, -, -⟩ | e
        · rw [e, hz, if_neg (by decide), if_neg (by decide), if_neg (by decide), if_neg (by decide), if_pos rfl]
          have k0 : (knS 0 r).1 = 0 := by unfold knS; rw [if_pos (by decide)]
          have s0 : (sgS 0 42 5 r).1 = 0 := by unfold sgS; rw [if_neg (by decide)]
          rw [if_pos k0, if_pos s0]
          unfold enS
          rw [if_neg (by decide), if_neg (by decide)]
        · rw [e, hz, if_neg (by decide), if_neg (by decide), if_neg (by decide), if_neg (by decide), if_neg (by decide), if_neg (by decide), if_pos rfl]
          unfold enS
          rw [if_neg (by decide), if_neg (by decide)]
      · rw [htk (t a) (gS_lt hl) hz]
        unfold enS
        rw [if_neg (by rw [← gS_lt (t := t) hl]; exact h45), if_neg h59]
/-- the starch, and what comes behind -/
theorem sx_cl (h1 : 1 ≤ r.1) (ha : a ≤ n) (hs0 : r.2.2.2.2.2.1 (r.1 - 1) = 0) (hg0 : r.2.2.2.2.2.2 (r.1 - 1) = 0) (hpl : r.2.1 = 4) (hk : ∀ c, gS t n a = c → c ≠ 0 → (knS c r).1 = 0) :
    ((hxW t n (sxW t n (a, true)).2).2.2 = false ∧ rdA n (cl t n a r) = nI (hxW t n (sxW t n (a, true)).2).2.1) ∨
    ((hxW t n (sxW t n (a, true)).2).2.2 = true ∧ a ≤ (hxW t n (sxW t n (a, true)).2).2.1 ∧ ∃ r', cl t n a r = cl t n (hxW t n (sxW t n (a, true)).2).2.1 r' ∧ r'.1 = r.1 ∧ r'.2.2.2.1 = r.2.2.2.1 ∧ r'.2.2.2.2.1 = r.2.2.2.2.1 ∧ (∀ j, j ≠ r.1 - 1 → r'.2.2.2.2.2.1 j = r.2.2.2.2.2.1 j ∧ r'.2.2.2.2.2.2 j = r.2.2.2.2.2.2 j) ∧ r'.2.2.2.2.2.1 (r.1 - 1) = (sxW t n (a, true)).1 ∧ r'.2.2.2.2.2.2 (r.1 - 1) = (hxW t n (sxW t n (a, true)).2).1 ∧ ED t n (hxW t n (sxW t n (a, true)).2).2.1 r') := by
  by_cases h42 : gS t n a = 42
  · have hl := gS_eq (by decide) h42
    have ht : t a = 42 := by rw [← gS_lt (t := t) hl]; exact h42
    obtain ⟨r5, hr5⟩ : ∃ r5 : rS, r5 = (r.1, 5, r.2.2) := ⟨_, rfl⟩
    have h5 : tkS (t a) r = (1, r5) := by
      unfold tkS
      rw [hpl, if_neg (by decide), if_neg (by decide), if_neg (by decide), if_neg (by decide), if_pos rfl, if_pos (hk (t a) (gS_lt hl) (by rw [ht]; decide))]
      have : sgS (t a) 42 5 r = (1, r5) := by unfold sgS; rw [if_pos ht, hr5]
      rw [this, if_neg (show ¬ (1 : Int32) = 0 by decide)]
    have p5 : r5.2.1 = 5 := by rw [hr5]
    have e51 : r5.1 = r.1 := by rw [hr5]
    have e52 : r5.2.2 = r.2.2 := by rw [hr5]
    rw [cl_go hl h5]
    have hx : sxW t n (a, true) = (gS t n (a + 1) - 48, dgW t n 1 3 (a + 1, true)) := by
      unfold sxW
      rw [tk_ok h42]; rfl
    rw [hx]
    have tk5 : ∀ c, tkS c r5 = stS c r5 := fun c => by
      unfold tkS
      rw [p5, if_neg (by decide), if_neg (by decide), if_neg (by decide), if_neg (by decide), if_neg (by decide), if_pos rfl]
    by_cases hd : inI (gS t n (a + 1)) (48 + 1) (48 + 3) = 0
    · left
      rw [dg_no hd]
      show (hxW t n (a + 1, false)).2.2 = false ∧ _ = nI (hxW t n (a + 1, false)).2.1
      rw [hx_f rfl]
      refine ⟨rfl, cl_stop (by omega) (by rw [p5]; decide) (fun hl2 => ?_)⟩
      rw [gS_lt hl2] at hd
      have hd : inI (t (a + 1)) 49 51 = 0 := hd
      rw [tk5]
      unfold stS
      rw [if_pos hd]
    · have hl2 := gS_in (lo := 49) (hi := 51) (Or.inr rfl) (Or.inr rfl) hd
      have hd' : ¬ inI (t (a + 1)) 49 51 = 0 := by rw [← gS_lt (t := t) hl2]; exact hd
      rw [dg_ok hd]
      obtain ⟨r6, hr6⟩ : ∃ r6 : rS, r6 = (r5.1, 6, r5.2.2.1, r5.2.2.2.1, r5.2.2.2.2.1, upA r5.2.2.2.2.2.1 (r5.1 - 1) (t (a + 1) - 48), r5.2.2.2.2.2.2) := ⟨_, rfl⟩
      have h6 : tkS (t (a + 1)) r5 = (1, r6) := by
        rw [tk5, hr6]
        unfold stS
        rw [if_neg hd', if_neg (by rw [e51]; omega)]
      rw [cl_go hl2 h6]
      have p6 : r6.2.1 = 6 := by rw [hr6]
      have e61 : r6.1 = r.1 := by rw [hr6]; exact e51
      have e6c : r6.2.2.2.1 = r.2.2.2.1 := by rw [hr6]; show r5.2.2.2.1 = _; rw [e52]
      have e6p : r6.2.2.2.2.1 = r.2.2.2.2.1 := by rw [hr6]; show r5.2.2.2.2.1 = _; rw [e52]
      have e6s : r6.2.2.2.2.2.1 = upA r.2.2.2.2.2.1 (r.1 - 1) (t (a + 1) - 48) := by rw [hr6]; show upA r5.2.2.2.2.2.1 (r5.1 - 1) _ = _; rw [e51, e52]
      have e6h : r6.2.2.2.2.2.2 = r.2.2.2.2.2.2 := by rw [hr6]; show r5.2.2.2.2.2.2 = _; rw [e52]
      have g := hx_cl (t := t) (n := n) (a := a + 1 + 1) (r := r6) (by rw [e61]; exact h1) (by omega) (by rw [e61, e6h]; exact hg0) (Or.inr p6)
      show ((hxW t n (a + 1 + 1, true)).2.2 = false ∧ _ = nI (hxW t n (a + 1 + 1, true)).2.1) ∨ _
      rcases g with g | ⟨g1, g2, r', g3, g4, g5, g6, g7, g8, g9, g10⟩
      · exact Or.inl g
      · right
        rw [e61] at g4 g8 g9
        exact ⟨g1, by show a ≤ (hxW t n (a + 1 + 1, true)).2.1; omega, r', g3, g4, g5.trans e6c, g6.trans e6p, fun j hj => ⟨by rw [g7, e6s, upA_n _ _ hj], by rw [g8 j hj, e6h]⟩, by rw [g7, e6s, upA_s, gS_lt hl2], g9, g10⟩
  · have hx : sxW t n (a, true) = (0, a, true) := by
      unfold sxW
      rw [tk_no h42]; rfl
    rw [hx]
    have g := hx_cl (t := t) (n := n) (a := a) (r := r) h1 ha hg0 (Or.inl ⟨hpl, hk, h42⟩)
    rcases g with g | ⟨g1, g2, r', g3, g4, g5, g6, g7, g8, g9, g10⟩
    · exact Or.inl g
    · exact Or.inr ⟨g1, g2, r', g3, g4, g5, g6, fun j hj => ⟨by rw [g7], g8 j hj⟩, by rw [g7]; exact hs0, g9, g10⟩
/-- a whole basket -/
theorem bk_cl (h0 : r.2.1 = 0) (ha : a ≤ n) (hn : n ≤ 60) (h5 : 5 * r.1 ≤ a) :
    ((b3W t n a).2.2 = false ∧ rdA n (cl t n a r) = nI (b3W t n a).2.1) ∨
    ((b3W t n a).2.2 = true ∧ a + 4 ≤ (b3W t n a).2.1 ∧ ∃ r', cl t n a r = cl t n (b3W t n a).2.1 r' ∧ r'.1 = r.1 + 1 ∧ (∀ j, j ≠ r.1 → r'.2.2.2.1 j = r.2.2.2.1 j ∧ r'.2.2.2.2.1 j = r.2.2.2.2.1 j ∧ r'.2.2.2.2.2.1 j = r.2.2.2.2.2.1 j ∧ r'.2.2.2.2.2.2 j = r.2.2.2.2.2.2 j) ∧
      r'.2.2.2.1 r.1 = gS t n a - 48 ∧ r'.2.2.2.2.1 r.1 = (b1W t n a).1 ∧ r'.2.2.2.2.2.1 r.1 = (b2W t n a).1 ∧ r'.2.2.2.2.2.2 r.1 = (b3W t n a).1 ∧ ED t n (b3W t n a).2.1 r') := by
  have fall : ∀ x, clW t n a = (x, false) → (b3W t n a).2 = (x, false) := by
    intro x e
    unfold b3W b2W b1W
    rw [e, pc_f rfl]
    show (hxW t n (sxW t n (x, false)).2).2 = _
    rw [sx_f rfl]
    show (hxW t n (x, false)).2 = _
    rw [hx_f rfl]
  have tk0 : ∀ c, tkS c r = cuS c r := fun c => by
    unfold tkS
    rw [if_pos h0]
  by_cases hd : inI (gS t n a) (48 + 0) (48 + 9) = 0
  · left
    have e : clW t n a = (a, false) := by
      unfold clW
      rw [dg_no hd, tk_f rfl]
    rw [fall a e]
    refine ⟨rfl, cl_stop ha (by rw [h0]; decide) (fun hl => ?_)⟩
    rw [gS_lt hl] at hd
    have hd : inI (t a) 48 57 = 0 := hd
    rw [tk0]
    unfold cuS
    rw [if_pos hd]
  have hl := gS_in (lo := 48) (hi := 57) (Or.inl rfl) (Or.inl rfl) hd
  have hd' : ¬ inI (t a) 48 57 = 0 := by rw [← gS_lt (t := t) hl]; exact hd
  obtain ⟨r1, hr1⟩ : ∃ r1 : rS, r1 = (r.1 + 1, 1, -5, upA r.2.2.2.1 r.1 (t a - 48), upA r.2.2.2.2.1 r.1 0, upA r.2.2.2.2.2.1 r.1 0, upA r.2.2.2.2.2.2 r.1 0) := ⟨_, rfl⟩
  have h1 : tkS (t a) r = (1, r1) := by
    rw [tk0, hr1]
    unfold cuS
    rw [if_neg hd', if_pos (by omega)]
  have p1 : r1.2.1 = 1 := by rw [hr1]
  have tk1 : ∀ c, tkS c r1 = sgS c 58 2 r1 := fun c => by
    unfold tkS
    rw [p1, if_neg (by decide), if_pos rfl]
  rw [cl_go hl h1]
  by_cases h58 : gS t n (a + 1) = 58
  · have hl1 := gS_eq (by decide) h58
    have ht : t (a + 1) = 58 := by rw [← gS_lt (t := t) hl1]; exact h58
    obtain ⟨r2, hr2⟩ : ∃ r2 : rS, r2 = (r1.1, 2, r1.2.2) := ⟨_, rfl⟩
    have h2 : tkS (t (a + 1)) r1 = (1, r2) := by
      rw [tk1, hr2]
      unfold sgS
      rw [if_pos ht]
    rw [cl_go hl1 h2]
    have e : clW t n a = (a + 1 + 1, true) := by
      unfold clW
      rw [dg_ok hd, tk_ok h58]
    have e21 : r2.1 = r.1 + 1 := by rw [hr2, hr1]
    have e2k : r2.2.2.1 = -5 := by rw [hr2, hr1]
    have e2c : r2.2.2.2.1 = upA r.2.2.2.1 r.1 (t a - 48) := by rw [hr2, hr1]
    have e2p : r2.2.2.2.2.1 = upA r.2.2.2.2.1 r.1 0 := by rw [hr2, hr1]
    have e2s : r2.2.2.2.2.2.1 = upA r.2.2.2.2.2.1 r.1 0 := by rw [hr2, hr1]
    have e2h : r2.2.2.2.2.2.2 = upA r.2.2.2.2.2.2 r.1 0 := by rw [hr2, hr1]
    have g := pc_all (t := t) (n := n) (a := a + 1 + 1) (r := r2) ⟨by rw [e21]; omega, by omega, by rw [e21, e2p, Nat.add_sub_cancel, upA_s], Or.inl ⟨by rw [hr2], e2k, rfl⟩, fun j hj => absurd hj (Nat.not_lt_zero j)⟩
    have eb : b1W t n a = pcZ t n (a + 1 + 1, true) := by
      unfold b1W
      rw [e]
    rcases g with ⟨g1, g2⟩ | ⟨g1, g2, r', g3, ⟨s1, s2, s3, s4, s5⟩, g5, g6, g7, g8⟩
    · left
      have eq3 : (b3W t n a).2 = ((pcZ t n (a + 1 + 1, true)).2.1, false) := by
        have eq1 : (b1W t n a).2 = ((pcZ t n (a + 1 + 1, true)).2.1, false) := by rw [eb]; exact Prod.ext rfl g1
        unfold b3W b2W
        rw [eq1, sx_f rfl]
        show (hxW t n ((pcZ t n (a + 1 + 1, true)).2.1, false)).2 = _
        rw [hx_f rfl]
      rw [eq3]
      exact ⟨rfl, g2⟩
    · have eq1 : (b1W t n a).2 = ((pcZ t n (a + 1 + 1, true)).2.1, true) := by rw [eb]; exact Prod.ext rfl g1
      rw [e21, Nat.add_sub_cancel] at s3 g7
      have f := sx_cl (t := t) (n := n) (a := (pcZ t n (a + 1 + 1, true)).2.1) (r := r') (by rw [s1, e21]; omega) g6 (by rw [s1, e21, Nat.add_sub_cancel, s4, e2s, upA_s]) (by rw [s1, e21, Nat.add_sub_cancel, s5, e2h, upA_s]) g5 g8
      have eq2 : b2W t n a = sxW t n ((pcZ t n (a + 1 + 1, true)).2.1, true) := by
        unfold b2W
        rw [eq1]
      have eq3 : b3W t n a = hxW t n (sxW t n ((pcZ t n (a + 1 + 1, true)).2.1, true)).2 := by
        unfold b3W
        rw [eq2]
      rw [← eq2] at f
      have eq3' : hxW t n (b2W t n a).2 = b3W t n a := rfl
      rw [eq3'] at f
      rw [g3]
      rcases f with f | ⟨f1, f2, r'', f3, f4, f5, f6, f7, f8, f9, f10⟩
      · exact Or.inl f
      · right
        rw [s1, e21, Nat.add_sub_cancel] at f7 f8 f9
        refine ⟨f1, by omega, r'', f3, by rw [f4, s1, e21], fun j hj => ⟨?_, ?_, ?_, ?_⟩, ?_, ?_, f8, f9, f10⟩
        · rw [f5, s2, e2c, upA_n _ _ hj]
        · rw [f6, s3 j hj, e2p, upA_n _ _ hj]
        · rw [(f7 j hj).1, s4, e2s, upA_n _ _ hj]
        · rw [(f7 j hj).2, s5, e2h, upA_n _ _ hj]
        · rw [f5, s2, e2c, upA_s, gS_lt hl]
        · rw [f6, g7, eb]
  · left
    have e : clW t n a = (a + 1, false) := by
      unfold clW
      rw [dg_ok hd, tk_no h58]
    rw [fall (a + 1) e]
    refine ⟨rfl, cl_stop (by omega) (by rw [p1]; decide) (fun hl2 => ?_)⟩
    rw [gS_lt hl2] at h58
    rw [tk1]
    unfold sgS
    rw [if_neg h58]
end BKW
end
section
/-! the reference reads the text: its methods -/
/-- the heap while the text is read: where, well or not, how many baskets, the row -/
def hT (T : Nat → Nat → Int32) (q : qT) (k : Nat) (g : Nat → Int32) : Nat → Nat → Int32 := upA (upA T 366 (upA (upA (upA (T 366) 9 (nI q.1)) 10 (if q.2 = true then 1 else 0)) 12 (nI k))) 372 g
section HTS
variable {T : Nat → Nat → Int32} {P : Nat → Nat → Nat} {q : qT} {k b j : Nat} {g : Nat → Int32} {v : Int32}
theorem hT_366 {j : Nat} (h9 : j ≠ 9) (h10 : j ≠ 10) (h12 : j ≠ 12) : hT T q k g 366 j = T 366 j := by
  unfold hT
  rw [upA_n _ _ (by decide), upA_s, upA_n _ _ h12, upA_n _ _ h10, upA_n _ _ h9]
theorem uhT_0 : hT T q k g 366 0 = T 366 0 := hT_366 (by decide) (by decide) (by decide)
theorem uhT_8 : hT T q k g 366 8 = T 366 8 := hT_366 (by decide) (by decide) (by decide)
theorem uhT_9 : hT T q k g 366 9 = nI q.1 := by
  unfold hT
  rw [upA_n _ _ (by decide), upA_s, upA_n _ _ (by decide), upA_n _ _ (by decide), upA_s]
theorem uhT_10 : hT T q k g 366 10 = if q.2 = true then 1 else 0 := by
  unfold hT
  rw [upA_n _ _ (by decide), upA_s, upA_n _ _ (by decide), upA_s]
theorem uhT_12 : hT T q k g 366 12 = nI k := by
  unfold hT
  rw [upA_n _ _ (by decide), upA_s, upA_s]
theorem uhT_371 : hT T q k g 371 = T 371 := by
  unfold hT
  rw [upA_n _ _ (by decide), upA_n _ _ (by decide)]
theorem uhT_372 : hT T q k g 372 = g := by
  unfold hT
  rw [upA_s]
theorem hT_n {a : Nat} (h6 : a ≠ 366) (h7 : a ≠ 372) : hT T q k g a = T a := by
  unfold hT
  rw [upA_n _ _ h7, upA_n _ _ h6]
theorem hT_ext {U W : Nat → Nat → Int32} (h : ∀ a, a ≠ 366 → a ≠ 372 → U a = W a) (h6 : ∀ j, U 366 j = W 366 j) (h7 : U 372 = W 372) : U = W := by
  funext a
  by_cases q6 : a = 366
  · subst q6; funext j; exact h6 j
  · by_cases q7 : a = 372
    · subst q7; exact h7
    · exact h a q6 q7
theorem uhT_a : up1 (hT T q k g) 366 9 (nI b) = hT T (b, q.2) k g := by
  refine hT_ext (fun a h6 h7 => by rw [up1_n h6, hT_n h6 h7, hT_n h6 h7]) (fun j => ?_) (by rw [up1_n (by decide), uhT_372, uhT_372])
  rw [up1_s]
  by_cases h9 : j = 9
  · subst h9; rw [upA_s, uhT_9]
  · rw [upA_n _ _ h9]
    by_cases h10 : j = 10
    · subst h10; rw [uhT_10, uhT_10]
    · by_cases h12 : j = 12
      · subst h12; rw [uhT_12, uhT_12]
      · rw [hT_366 h9 h10 h12, hT_366 h9 h10 h12]
theorem hT_w {w : Bool} : up1 (hT T q k g) 366 10 (if w = true then 1 else 0) = hT T (q.1, w) k g := by
  refine hT_ext (fun a h6 h7 => by rw [up1_n h6, hT_n h6 h7, hT_n h6 h7]) (fun j => ?_) (by rw [up1_n (by decide), uhT_372, uhT_372])
  rw [up1_s]
  by_cases h10 : j = 10
  · subst h10; rw [upA_s, uhT_10]
  · rw [upA_n _ _ h10]
    by_cases h9 : j = 9
    · subst h9; rw [uhT_9, uhT_9]
    · by_cases h12 : j = 12
      · subst h12; rw [uhT_12, uhT_12]
      · rw [hT_366 h9 h10 h12, hT_366 h9 h10 h12]
theorem uhT_w0 : up1 (hT T q k g) 366 10 0 = hT T (q.1, false) k g := hT_w (w := false)
theorem uhT_w1 : up1 (hT T q k g) 366 10 1 = hT T (q.1, true) k g := hT_w (w := true)
theorem uhT_k : up1 (hT T q k g) 366 12 (nI j) = hT T q j g := by
  refine hT_ext (fun a h6 h7 => by rw [up1_n h6, hT_n h6 h7, hT_n h6 h7]) (fun i => ?_) (by rw [up1_n (by decide), uhT_372, uhT_372])
  rw [up1_s]
  by_cases h12 : i = 12
  · subst h12; rw [upA_s, uhT_12]
  · rw [upA_n _ _ h12]
    by_cases h9 : i = 9
    · subst h9; rw [uhT_9, uhT_9]
    · by_cases h10 : i = 10
      · subst h10; rw [uhT_10, uhT_10]
      · rw [hT_366 h9 h10 h12, hT_366 h9 h10 h12]
theorem uhT_g : up1 (hT T q k g) 372 j v = hT T q k (upA g j v) := by
  refine hT_ext (fun a h6 h7 => by rw [up1_n h7, hT_n h6 h7, hT_n h6 h7]) (fun i => ?_) (by rw [up1_s, uhT_372, uhT_372])
  rw [up1_n (by decide)]
  by_cases h12 : i = 12
  · subst h12; rw [uhT_12, uhT_12]
  · by_cases h9 : i = 9
    · subst h9; rw [uhT_9, uhT_9]
    · by_cases h10 : i = 10
      · subst h10; rw [uhT_10, uhT_10]
      · rw [hT_366 h9 h10 h12, hT_366 h9 h10 h12]
end HTS
section QR
variable {T : Nat → Nat → Int32} {P : Nat → Nat → Nat} {t : Nat → Int32} {n k : Nat} {g : Nat → Int32} {q : qT} {c lo hi : Int32}
/-- the text is t, of n signs -/
def TT (T : Nat → Nat → Int32) (t : Nat → Int32) (n : Nat) : Prop := T 366 8 = nI n ∧ n ≤ 60 ∧ ∀ i, i < n → T 371 i = t i
theorem t_sign (h : TT T t n) (hq : q.1 ≤ n) : X 174 0 [.ref 366] [] (H (hT T q k g) P) = some (some (.int (gS t n q.1)), H (hT T q k g) P) := by
  obtain ⟨h8, h60, ht⟩ := h
  have elt : (nI q.1 < nI n) = (q.1 < n) := nI_ltp (by omega) (by omega)
  by_cases hl : q.1 < n
  · have ev := ht q.1 hl
    have e : gS t n q.1 = t q.1 := gS_lt hl
    rw [e]
    simp +decide only [x174_0, x174_1, x174_4, x174_5, x174_8, x174_11, x174_12, x174_15, x174_16, x174_19, x174_20, x174_23, x174_24, aft_some, aft_void, Option.bind_some, Option.toList_some, Option.toList_none, List.cons_append, List.nil_append, if_true, if_false, ↓reduceIte, eq_self, z366_o, ↓z366_0, ↓z366_0p, ↓z366_1, ↓z366_2, ↓z366_3, ↓z366_4, ↓z366_4p, ↓z366_5, ↓z366_6, ↓z366_6p0, ↓z366_6p1, ↓z366_7, ↓z366_8, ↓z366_8p, ↓z366_9, ↓z366_9p, ↓z366_10, ↓z366_10p0, ↓z366_10p1, ↓z366_11, ↓z366_12, ↓z366_12p, ↓sg0, ↓sg1, ↓sg2, ↓sg3, ↓sg4, ↓sg5, ↓sg6, ↓sg7, ↓sg8, ↓sg9, ↓sg10, ↓sg11, ↓sg12, ↓sg13, ↓sg14, ↓sg15, ↓sg16, ↓sg17, ↓ss0, ↓ss1, ↓ss2, ↓ss3, ↓ss4, ↓ss5, ↓ss6, ↓ss7, ↓ss8, ↓ss9, ↓ss10, ↓ss11, ↓ss12, ↓ss13, ↓ss14, ↓ss15, ↓ss16, ↓ss17, uhT_8, uhT_9, uhT_10, uhT_12, uhT_371, uhT_372, uhT_0, uhT_a, uhT_w0, uhT_w1, uhT_k, uhT_g, h8, elt, hl, ↓a371_g (show q.1 < 60 by omega), ev]
  · have e : gS t n q.1 = 0 := gS_ge (by omega)
    rw [e]
    simp +decide only [x174_0, x174_1, x174_4, x174_5, x174_8, x174_11, x174_12, x174_15, x174_16, x174_19, x174_20, x174_23, x174_24, aft_some, aft_void, Option.bind_some, Option.toList_some, Option.toList_none, List.cons_append, List.nil_append, if_true, if_false, ↓reduceIte, eq_self, z366_o, ↓z366_0, ↓z366_0p, ↓z366_1, ↓z366_2, ↓z366_3, ↓z366_4, ↓z366_4p, ↓z366_5, ↓z366_6, ↓z366_6p0, ↓z366_6p1, ↓z366_7, ↓z366_8, ↓z366_8p, ↓z366_9, ↓z366_9p, ↓z366_10, ↓z366_10p0, ↓z366_10p1, ↓z366_11, ↓z366_12, ↓z366_12p, ↓sg0, ↓sg1, ↓sg2, ↓sg3, ↓sg4, ↓sg5, ↓sg6, ↓sg7, ↓sg8, ↓sg9, ↓sg10, ↓sg11, ↓sg12, ↓sg13, ↓sg14, ↓sg15, ↓sg16, ↓sg17, ↓ss0, ↓ss1, ↓ss2, ↓ss3, ↓ss4, ↓ss5, ↓ss6, ↓ss7, ↓ss8, ↓ss9, ↓ss10, ↓ss11, ↓ss12, ↓ss13, ↓ss14, ↓ss15, ↓ss16, ↓ss17, uhT_8, uhT_9, uhT_10, uhT_12, uhT_371, uhT_372, uhT_0, uhT_a, uhT_w0, uhT_w1, uhT_k, uhT_g, h8, elt, hl]
theorem t_digit (h : TT T t n) (hq : q.1 ≤ n) : X 175 0 [.ref 366, .int lo, .int hi, .long 0] [] (H (hT T q k g) P) = some (some (.int (gS t n q.1 - 48)), H (hT T (dgW t n lo hi q) k g) P) := by
  have k1 : ∀ a : Nat, nI a + 1 = nI (a + 1) := fun a => nI_add a 1
  have k0 : ∀ a : Nat, nI a + 0 = nI a := fun a => Int32.add_zero _
  have es := t_sign (P := P) (k := k) (g := g) h hq
  obtain ⟨a, w⟩ := q
  cases w with
  | false =>
    rw [dg_f rfl]
    have esf := t_sign (P := P) (k := k) (g := g) (q := (a, false)) h hq
    simp +decide only [x175_0, x175_1, x175_2, x175_5, x175_8, x175_9, x175_12, x175_14, x175_15, x175_16, x175_18, x175_19, x175_20, x175_23, x175_26, x175_27, x175_30, x175_31, x175_34, x175_35, x175_38, x175_40, x175_41, x175_42, x175_43, x175_44, x175_47, x175_48, x175_51, x175_54, x175_55, x175_58, x175_59, x175_60, x175_63, x175_64, aft_some, aft_void, Option.bind_some, Option.toList_some, Option.toList_none, List.cons_append, List.nil_append, if_true, if_false, ↓reduceIte, eq_self, z366_o, ↓z366_0, ↓z366_0p, ↓z366_1, ↓z366_2, ↓z366_3, ↓z366_4, ↓z366_4p, ↓z366_5, ↓z366_6, ↓z366_6p0, ↓z366_6p1, ↓z366_7, ↓z366_8, ↓z366_8p, ↓z366_9, ↓z366_9p, ↓z366_10, ↓z366_10p0, ↓z366_10p1, ↓z366_11, ↓z366_12, ↓z366_12p, ↓sg0, ↓sg1, ↓sg2, ↓sg3, ↓sg4, ↓sg5, ↓sg6, ↓sg7, ↓sg8, ↓sg9, ↓sg10, ↓sg11, ↓sg12, ↓sg13, ↓sg14, ↓sg15, ↓sg16, ↓sg17, ↓ss0, ↓ss1, ↓ss2, ↓ss3, ↓ss4, ↓ss5, ↓ss6, ↓ss7, ↓ss8, ↓ss9, ↓ss10, ↓ss11, ↓ss12, ↓ss13, ↓ss14, ↓ss15, ↓ss16, ↓ss17, uhT_8, uhT_9, uhT_10, uhT_12, uhT_371, uhT_372, uhT_0, uhT_a, uhT_w0, uhT_w1, uhT_k, uhT_g, ↓aft_of (esf), k0]
  | true =>
    have esf := t_sign (P := P) (k := k) (g := g) (q := (a, false)) h hq
    by_cases hd : inI (gS t n a) (48 + lo) (48 + hi) = 0
    · rw [dg_no hd]
      have hd1 : inI (gS t n ((a, true) : qT).1) (48 + lo) (48 + hi) = 0 := hd
      simp +decide only [x175_0, x175_1, x175_2, x175_5, x175_8, x175_9, x175_12, x175_14, x175_15, x175_16, x175_18, x175_19, x175_20, x175_23, x175_26, x175_27, x175_30, x175_31, x175_34, x175_35, x175_38, x175_40, x175_41, x175_42, x175_43, x175_44, x175_47, x175_48, x175_51, x175_54, x175_55, x175_58, x175_59, x175_60, x175_63, x175_64, aft_some, aft_void, Option.bind_some, Option.toList_some, Option.toList_none, List.cons_append, List.nil_append, if_true, if_false, ↓reduceIte, eq_self, z366_o, ↓z366_0, ↓z366_0p, ↓z366_1, ↓z366_2, ↓z366_3, ↓z366_4, ↓z366_4p, ↓z366_5, ↓z366_6, ↓z366_6p0, ↓z366_6p1, ↓z366_7, ↓z366_8, ↓z366_8p, ↓z366_9, ↓z366_9p, ↓z366_10, ↓z366_10p0, ↓z366_10p1, ↓z366_11, ↓z366_12, ↓z366_12p, ↓sg0, ↓sg1, ↓sg2, ↓sg3, ↓sg4, ↓sg5, ↓sg6, ↓sg7, ↓sg8, ↓sg9, ↓sg10, ↓sg11, ↓sg12, ↓sg13, ↓sg14, ↓sg15, ↓sg16, ↓sg17, ↓ss0, ↓ss1, ↓ss2, ↓ss3, ↓ss4, ↓ss5, ↓ss6, ↓ss7, ↓ss8, ↓ss9, ↓ss10, ↓ss11, ↓ss12, ↓ss13, ↓ss14, ↓ss15, ↓ss16, ↓ss17, uhT_8, uhT_9, uhT_10, uhT_12, uhT_371, uhT_372, uhT_0, uhT_a, uhT_w0, uhT_w1, uhT_k, uhT_g, ↓aft_of (es), ↓aft_of (esf), ↓aft_of (r_in), hd, hd1, k0]
    · rw [dg_ok hd]
      have hd1 : ¬ inI (gS t n ((a, true) : qT).1) (48 + lo) (48 + hi) = 0 := hd
      simp +decide only [x175_0, x175_1, x175_2, x175_5, x175_8, x175_9, x175_12, x175_14, x175_15, x175_16, x175_18, x175_19, x175_20, x175_23, x175_26, x175_27, x175_30, x175_31, x175_34, x175_35, x175_38, x175_40, x175_41, x175_42, x175_43, x175_44, x175_47, x175_48, x175_51, x175_54, x175_55, x175_58, x175_59, x175_60, x175_63, x175_64, aft_some, aft_void, Option.bind_some, Option.toList_some, Option.toList_none, List.cons_append, List.nil_append, if_true, if_false, ↓reduceIte, eq_self, z366_o, ↓z366_0, ↓z366_0p, ↓z366_1, ↓z366_2, ↓z366_3, ↓z366_4, ↓z366_4p, ↓z366_5, ↓z366_6, ↓z366_6p0, ↓z366_6p1, ↓z366_7, ↓z366_8, ↓z366_8p, ↓z366_9, ↓z366_9p, ↓z366_10, ↓z366_10p0, ↓z366_10p1, ↓z366_11, ↓z366_12, ↓z366_12p, ↓sg0, ↓sg1, ↓sg2, ↓sg3, ↓sg4, ↓sg5, ↓sg6, ↓sg7, ↓sg8, ↓sg9, ↓sg10, ↓sg11, ↓sg12, ↓sg13, ↓sg14, ↓sg15, ↓sg16, ↓sg17, ↓ss0, ↓ss1, ↓ss2, ↓ss3, ↓ss4, ↓ss5, ↓ss6, ↓ss7, ↓ss8, ↓ss9, ↓ss10, ↓ss11, ↓ss12, ↓ss13, ↓ss14, ↓ss15, ↓ss16, ↓ss17, uhT_8, uhT_9, uhT_10, uhT_12, uhT_371, uhT_372, uhT_0, uhT_a, uhT_w0, uhT_w1, uhT_k, uhT_g, ↓aft_of (es), ↓aft_of (r_in), hd, hd1, k1]
theorem t_takes (h : TT T t n) (hq : q.1 ≤ n) : X 176 0 [.ref 366, .int c, .long 0] [] (H (hT T q k g) P) = some (some (.int (if (tkW t n c q).1 = true then 1 else 0)), H (hT T (tkW t n c q).2 k g) P) := by
  have k1 : ∀ a : Nat, nI a + 1 = nI (a + 1) := fun a => nI_add a 1
  have k0 : ∀ a : Nat, nI a + 0 = nI a := fun a => Int32.add_zero _
  have es := t_sign (P := P) (k := k) (g := g) h hq
  obtain ⟨a, w⟩ := q
  cases w with
  | false =>
    rw [tk_f rfl]
    simp +decide only [x176_0, x176_1, x176_4, x176_7, x176_8, x176_11, x176_12, x176_15, x176_16, x176_19, x176_20, x176_21, x176_22, x176_23, x176_26, x176_27, x176_30, x176_31, x176_34, x176_35, x176_36, x176_39, x176_40, aft_some, aft_void, Option.bind_some, Option.toList_some, Option.toList_none, List.cons_append, List.nil_append, if_true, if_false, ↓reduceIte, eq_self, z366_o, ↓z366_0, ↓z366_0p, ↓z366_1, ↓z366_2, ↓z366_3, ↓z366_4, ↓z366_4p, ↓z366_5, ↓z366_6, ↓z366_6p0, ↓z366_6p1, ↓z366_7, ↓z366_8, ↓z366_8p, ↓z366_9, ↓z366_9p, ↓z366_10, ↓z366_10p0, ↓z366_10p1, ↓z366_11, ↓z366_12, ↓z366_12p, ↓sg0, ↓sg1, ↓sg2, ↓sg3, ↓sg4, ↓sg5, ↓sg6, ↓sg7, ↓sg8, ↓sg9, ↓sg10, ↓sg11, ↓sg12, ↓sg13, ↓sg14, ↓sg15, ↓sg16, ↓sg17, ↓ss0, ↓ss1, ↓ss2, ↓ss3, ↓ss4, ↓ss5, ↓ss6, ↓ss7, ↓ss8, ↓ss9, ↓ss10, ↓ss11, ↓ss12, ↓ss13, ↓ss14, ↓ss15, ↓ss16, ↓ss17, uhT_8, uhT_9, uhT_10, uhT_12, uhT_371, uhT_372, uhT_0, uhT_a, uhT_w0, uhT_w1, uhT_k, uhT_g, k0]
  | true =>
    by_cases hc : gS t n a = c
    · rw [tk_ok hc]
      have hc1 : gS t n ((a, true) : qT).1 = c := hc
      rw [hc1] at es
      simp +decide only [x176_0, x176_1, x176_4, x176_7, x176_8, x176_11, x176_12, x176_15, x176_16, x176_19, x176_20, x176_21, x176_22, x176_23, x176_26, x176_27, x176_30, x176_31, x176_34, x176_35, x176_36, x176_39, x176_40, aft_some, aft_void, Option.bind_some, Option.toList_some, Option.toList_none, List.cons_append, List.nil_append, if_true, if_false, ↓reduceIte, eq_self, z366_o, ↓z366_0, ↓z366_0p, ↓z366_1, ↓z366_2, ↓z366_3, ↓z366_4, ↓z366_4p, ↓z366_5, ↓z366_6, ↓z366_6p0, ↓z366_6p1, ↓z366_7, ↓z366_8, ↓z366_8p, ↓z366_9, ↓z366_9p, ↓z366_10, ↓z366_10p0, ↓z366_10p1, ↓z366_11, ↓z366_12, ↓z366_12p, ↓sg0, ↓sg1, ↓sg2, ↓sg3, ↓sg4, ↓sg5, ↓sg6, ↓sg7, ↓sg8, ↓sg9, ↓sg10, ↓sg11, ↓sg12, ↓sg13, ↓sg14, ↓sg15, ↓sg16, ↓sg17, ↓ss0, ↓ss1, ↓ss2, ↓ss3, ↓ss4, ↓ss5, ↓ss6, ↓ss7, ↓ss8, ↓ss9, ↓ss10, ↓ss11, ↓ss12, ↓ss13, ↓ss14, ↓ss15, ↓ss16, ↓ss17, uhT_8, uhT_9, uhT_10, uhT_12, uhT_371, uhT_372, uhT_0, uhT_a, uhT_w0, uhT_w1, uhT_k, uhT_g, ↓aft_of (es), k1]
    · rw [tk_no hc]
      have hc1 : (gS t n ((a, true) : qT).1 = c) = False := eq_false hc
      simp +decide only [x176_0, x176_1, x176_4, x176_7, x176_8, x176_11, x176_12, x176_15, x176_16, x176_19, x176_20, x176_21, x176_22, x176_23, x176_26, x176_27, x176_30, x176_31, x176_34, x176_35, x176_36, x176_39, x176_40, aft_some, aft_void, Option.bind_some, Option.toList_some, Option.toList_none, List.cons_append, List.nil_append, if_true, if_false, ↓reduceIte, eq_self, z366_o, ↓z366_0, ↓z366_0p, ↓z366_1, ↓z366_2, ↓z366_3, ↓z366_4, ↓z366_4p, ↓z366_5, ↓z366_6, ↓z366_6p0, ↓z366_6p1, ↓z366_7, ↓z366_8, ↓z366_8p, ↓z366_9, ↓z366_9p, ↓z366_10, ↓z366_10p0, ↓z366_10p1, ↓z366_11, ↓z366_12, ↓z366_12p, ↓sg0, ↓sg1, ↓sg2, ↓sg3, ↓sg4, ↓sg5, ↓sg6, ↓sg7, ↓sg8, ↓sg9, ↓sg10, ↓sg11, ↓sg12, ↓sg13, ↓sg14, ↓sg15, ↓sg16, ↓sg17, ↓ss0, ↓ss1, ↓ss2, ↓ss3, ↓ss4, ↓ss5, ↓ss6, ↓ss7, ↓ss8, ↓ss9, ↓ss10, ↓ss11, ↓ss12, ↓ss13, ↓ss14, ↓ss15, ↓ss16, ↓ss17, uhT_8, uhT_9, uhT_10, uhT_12, uhT_371, uhT_372, uhT_0, uhT_a, uhT_w0, uhT_w1, uhT_k, uhT_g, ↓aft_of (es), hc, hc1, k0]
theorem t_letter (hk : k < 4) {h0 : List hC} : X 177 0 [.int (nI k)] [] h0 = some (some (.int (ltI k)), h0) := by
  match k, hk with
  | 0, _ => simp +decide only [x177_0, x177_1, x177_4, x177_6, x177_9, x177_10, x177_11, x177_14, x177_16, x177_19, x177_20, x177_21, x177_24, x177_26, x177_29, x177_31, aft_some, aft_void, Option.bind_some, Option.toList_some, Option.toList_none, List.cons_append, List.nil_append, if_true, if_false, ↓reduceIte, eq_self, nl0]; rfl
  | 1, _ => simp +decide only [x177_0, x177_1, x177_4, x177_6, x177_9, x177_10, x177_11, x177_14, x177_16, x177_19, x177_20, x177_21, x177_24, x177_26, x177_29, x177_31, aft_some, aft_void, Option.bind_some, Option.toList_some, Option.toList_none, List.cons_append, List.nil_append, if_true, if_false, ↓reduceIte, eq_self, nl1]; rfl
  | 2, _ => simp +decide only [x177_0, x177_1, x177_4, x177_6, x177_9, x177_10, x177_11, x177_14, x177_16, x177_19, x177_20, x177_21, x177_24, x177_26, x177_29, x177_31, aft_some, aft_void, Option.bind_some, Option.toList_some, Option.toList_none, List.cons_append, List.nil_append, if_true, if_false, ↓reduceIte, eq_self, nl2]; rfl
  | 3, _ => simp +decide only [x177_0, x177_1, x177_4, x177_6, x177_9, x177_10, x177_11, x177_14, x177_16, x177_19, x177_20, x177_21, x177_24, x177_26, x177_29, x177_31, aft_some, aft_void, Option.bind_some, Option.toList_some, Option.toList_none, List.cons_append, List.nil_append, if_true, if_false, ↓reduceIte, eq_self, nl3]; rfl
theorem t_unit (hk : k < 4) {h0 : List hC} : X 178 0 [.int (nI k)] [] h0 = some (some (.int (wtI (nI k))), h0) := by
  match k, hk with
  | 0, _ => simp +decide only [x178_0, x178_1, x178_4, x178_7, x178_10, x178_11, x178_12, x178_15, x178_17, x178_20, x178_21, x178_22, x178_25, x178_27, x178_30, x178_31, aft_some, aft_void, Option.bind_some, Option.toList_some, Option.toList_none, List.cons_append, List.nil_append, if_true, if_false, ↓reduceIte, eq_self, nl0]; rfl
  | 1, _ => simp +decide only [x178_0, x178_1, x178_4, x178_7, x178_10, x178_11, x178_12, x178_15, x178_17, x178_20, x178_21, x178_22, x178_25, x178_27, x178_30, x178_31, aft_some, aft_void, Option.bind_some, Option.toList_some, Option.toList_none, List.cons_append, List.nil_append, if_true, if_false, ↓reduceIte, eq_self, nl1]; rfl
  | 2, _ => simp +decide only [x178_0, x178_1, x178_4, x178_7, x178_10, x178_11, x178_12, x178_15, x178_17, x178_20, x178_21, x178_22, x178_25, x178_27, x178_30, x178_31, aft_some, aft_void, Option.bind_some, Option.toList_some, Option.toList_none, List.cons_append, List.nil_append, if_true, if_false, ↓reduceIte, eq_self, nl2]; rfl
  | 3, _ => simp +decide only [x178_0, x178_1, x178_4, x178_7, x178_10, x178_11, x178_12, x178_15, x178_17, x178_20, x178_21, x178_22, x178_25, x178_27, x178_30, x178_31, aft_some, aft_void, Option.bind_some, Option.toList_some, Option.toList_none, List.cons_append, List.nil_append, if_true, if_false, ↓reduceIte, eq_self, nl3]; rfl
theorem dg_le (hq : q.1 ≤ n) (hl : lo = 0 ∨ lo = 1) (hh : hi = 9 ∨ hi = 3) : (dgW t n lo hi q).1 ≤ n := by
  obtain ⟨a, w⟩ := q
  cases w with
  | false => rw [dg_f rfl]; exact hq
  | true =>
    by_cases hd : inI (gS t n a) (48 + lo) (48 + hi) = 0
    · rw [dg_no hd]; exact hq
    · rw [dg_ok hd]
      have := gS_in (lo := 48 + lo) (hi := 48 + hi) (by rcases hl with rfl | rfl; exact Or.inl rfl; exact Or.inr rfl) (by rcases hh with rfl | rfl; exact Or.inl rfl; exact Or.inr rfl) hd
      show a + 1 ≤ n
      omega
theorem tk_le (hq : q.1 ≤ n) (hc : c ≠ 0) : (tkW t n c q).2.1 ≤ n := by
  obtain ⟨a, w⟩ := q
  cases w with
  | false => rw [tk_f rfl]; exact hq
  | true =>
    by_cases h : gS t n a = c
    · rw [tk_ok h]
      have := gS_eq hc h
      show a + 1 ≤ n
      omega
    · rw [tk_no h]; exact hq
theorem st_le {p : Int32} (hq : q.1 ≤ n) : (stP2 t n k (p, q)).2.1 ≤ n := by
  have h1 := tk_le (t := t) (c := ltI k) hq (lt_ne0 k)
  unfold stP2
  by_cases h : (tkW t n (ltI k) (p, q).2).1 = true
  · rw [if_pos h]; exact dg_le h1 (Or.inr rfl) (Or.inl rfl)
  · rw [if_neg h]; exact h1
theorem t_pieces (h : TT T t n) (hq : q.1 ≤ n) : X 179 0 [.ref 366, .long 0, .long 0] [] (H (hT T q k g) P) = some (some (.int (pcZ t n q).1), H (hT T (pcZ t n q).2 k g) P) := by
  have step : ∀ (j : Nat) (p : Int32) (q : qT), j < 4 → q.1 ≤ n → X 179 4 [.ref 366, .int p, .int (nI j)] [] (H (hT T q k g) P) = X 179 4 [.ref 366, .int (stP2 t n j (p, q)).1, .int (nI (j + 1))] [] (H (hT T (stP2 t n j (p, q)).2 k g) P) := by
    intro j p q hj hq
    have hlt : nI j < 4 := nI_lt hj (by decide)
    have el := t_letter (h0 := H (hT T q k g) P) hj
    have et := t_takes (P := P) (k := k) (g := g) (c := ltI j) h hq
    have h1 := tk_le (t := t) (c := ltI j) hq (lt_ne0 j)
    have eu := t_unit (h0 := H (hT T (tkW t n (ltI j) q).2 k g) P) hj
    have ed := t_digit (P := P) (k := k) (g := g) (lo := 1) (hi := 9) h h1
    rw [x179_4]
    unfold stP2
    by_cases c : (tkW t n (ltI j) (p, q).2).1 = true
    · have c' : (tkW t n (ltI j) q).1 = true := c
      rw [if_pos c' ] at et
      rw [if_pos c]
      simp +decide only [x179_0, x179_1, x179_2, x179_3, x179_5, x179_6, x179_9, x179_10, x179_11, x179_12, x179_15, x179_18, x179_21, x179_22, x179_25, x179_26, x179_27, x179_29, x179_32, x179_33, x179_36, x179_37, x179_38, x179_39, x179_42, x179_45, x179_46, x179_47, x179_50, x179_53, x179_54, x179_57, x179_58, x179_61, x179_62, x179_65, x179_66, aft_some, aft_void, Option.bind_some, Option.toList_some, Option.toList_none, List.cons_append, List.nil_append, if_true, if_false, ↓reduceIte, eq_self, z366_o, ↓z366_0, ↓z366_0p, ↓z366_1, ↓z366_2, ↓z366_3, ↓z366_4, ↓z366_4p, ↓z366_5, ↓z366_6, ↓z366_6p0, ↓z366_6p1, ↓z366_7, ↓z366_8, ↓z366_8p, ↓z366_9, ↓z366_9p, ↓z366_10, ↓z366_10p0, ↓z366_10p1, ↓z366_11, ↓z366_12, ↓z366_12p, ↓sg0, ↓sg1, ↓sg2, ↓sg3, ↓sg4, ↓sg5, ↓sg6, ↓sg7, ↓sg8, ↓sg9, ↓sg10, ↓sg11, ↓sg12, ↓sg13, ↓sg14, ↓sg15, ↓sg16, ↓sg17, ↓ss0, ↓ss1, ↓ss2, ↓ss3, ↓ss4, ↓ss5, ↓ss6, ↓ss7, ↓ss8, ↓ss9, ↓ss10, ↓ss11, ↓ss12, ↓ss13, ↓ss14, ↓ss15, ↓ss16, ↓ss17, hlt, ↓aft_of (el), ↓aft_of (et), ↓aft_of (eu), ↓aft_of (ed), nI_1]
    · have c' : ¬ (tkW t n (ltI j) q).1 = true := c
      rw [if_neg c' ] at et
      rw [if_neg c]
      simp +decide only [x179_0, x179_1, x179_2, x179_3, x179_5, x179_6, x179_9, x179_10, x179_11, x179_12, x179_15, x179_18, x179_21, x179_22, x179_25, x179_26, x179_27, x179_29, x179_32, x179_33, x179_36, x179_37, x179_38, x179_39, x179_42, x179_45, x179_46, x179_47, x179_50, x179_53, x179_54, x179_57, x179_58, x179_61, x179_62, x179_65, x179_66, aft_some, aft_void, Option.bind_some, Option.toList_some, Option.toList_none, List.cons_append, List.nil_append, if_true, if_false, ↓reduceIte, eq_self, z366_o, ↓z366_0, ↓z366_0p, ↓z366_1, ↓z366_2, ↓z366_3, ↓z366_4, ↓z366_4p, ↓z366_5, ↓z366_6, ↓z366_6p0, ↓z366_6p1, ↓z366_7, ↓z366_8, ↓z366_8p, ↓z366_9, ↓z366_9p, ↓z366_10, ↓z366_10p0, ↓z366_10p1, ↓z366_11, ↓z366_12, ↓z366_12p, ↓sg0, ↓sg1, ↓sg2, ↓sg3, ↓sg4, ↓sg5, ↓sg6, ↓sg7, ↓sg8, ↓sg9, ↓sg10, ↓sg11, ↓sg12, ↓sg13, ↓sg14, ↓sg15, ↓sg16, ↓sg17, ↓ss0, ↓ss1, ↓ss2, ↓ss3, ↓ss4, ↓ss5, ↓ss6, ↓ss7, ↓ss8, ↓ss9, ↓ss10, ↓ss11, ↓ss12, ↓ss13, ↓ss14, ↓ss15, ↓ss16, ↓ss17, hlt, ↓aft_of (el), ↓aft_of (et), nI_1, Int32.add_zero]
  have s0 := step 0 0 q (by decide) hq
  have l0 := st_le (t := t) (k := 0) (p := 0) hq
  have s1 := step 1 (stP2 t n 0 (0, q)).1 (stP2 t n 0 (0, q)).2 (by decide) l0
  have l1 := st_le (t := t) (k := 1) (p := (stP2 t n 0 (0, q)).1) l0
  have s2 := step 2 (stP2 t n 1 (stP2 t n 0 (0, q))).1 (stP2 t n 1 (stP2 t n 0 (0, q))).2 (by decide) l1
  have l2 := st_le (t := t) (k := 2) (p := (stP2 t n 1 (stP2 t n 0 (0, q))).1) l1
  have s3 := step 3 (stP2 t n 2 (stP2 t n 1 (stP2 t n 0 (0, q)))).1 (stP2 t n 2 (stP2 t n 1 (stP2 t n 0 (0, q)))).2 (by decide) l2
  have sA : X 179 4 [.ref 366, .int 0, .int 0] [] (H (hT T q k g) P) = X 179 4 [.ref 366, .int (pcW t n q).1, .int 4] [] (H (hT T (pcW t n q).2 k g) P) := s0.trans (s1.trans (s2.trans s3))
  unfold pcZ
  simp +decide only [x179_0, x179_1, x179_2, x179_3, x179_5, x179_6, x179_9, x179_10, x179_11, x179_12, x179_15, x179_18, x179_21, x179_22, x179_25, x179_26, x179_27, x179_29, x179_32, x179_33, x179_36, x179_37, x179_38, x179_39, x179_42, x179_45, x179_46, x179_47, x179_50, x179_53, x179_54, x179_57, x179_58, x179_61, x179_62, x179_65, x179_66, aft_some, aft_void, Option.bind_some, Option.toList_some, Option.toList_none, List.cons_append, List.nil_append, if_true, if_false, ↓reduceIte, eq_self]
  rw [sA, x179_4]
  obtain ⟨⟨p, a, w⟩, hs⟩ : ∃ s, s = pcW t n q := ⟨_, rfl⟩
  rw [← hs]
  cases w with
  | false => simp +decide only [x179_0, x179_1, x179_2, x179_3, x179_5, x179_6, x179_9, x179_10, x179_11, x179_12, x179_15, x179_18, x179_21, x179_22, x179_25, x179_26, x179_27, x179_29, x179_32, x179_33, x179_36, x179_37, x179_38, x179_39, x179_42, x179_45, x179_46, x179_47, x179_50, x179_53, x179_54, x179_57, x179_58, x179_61, x179_62, x179_65, x179_66, aft_some, aft_void, Option.bind_some, Option.toList_some, Option.toList_none, List.cons_append, List.nil_append, if_true, if_false, ↓reduceIte, eq_self, z366_o, ↓z366_0, ↓z366_0p, ↓z366_1, ↓z366_2, ↓z366_3, ↓z366_4, ↓z366_4p, ↓z366_5, ↓z366_6, ↓z366_6p0, ↓z366_6p1, ↓z366_7, ↓z366_8, ↓z366_8p, ↓z366_9, ↓z366_9p, ↓z366_10, ↓z366_10p0, ↓z366_10p1, ↓z366_11, ↓z366_12, ↓z366_12p, ↓sg0, ↓sg1, ↓sg2, ↓sg3, ↓sg4, ↓sg5, ↓sg6, ↓sg7, ↓sg8, ↓sg9, ↓sg10, ↓sg11, ↓sg12, ↓sg13, ↓sg14, ↓sg15, ↓sg16, ↓sg17, ↓ss0, ↓ss1, ↓ss2, ↓ss3, ↓ss4, ↓ss5, ↓ss6, ↓ss7, ↓ss8, ↓ss9, ↓ss10, ↓ss11, ↓ss12, ↓ss13, ↓ss14, ↓ss15, ↓ss16, ↓ss17, uhT_8, uhT_9, uhT_10, uhT_12, uhT_371, uhT_372, uhT_0, uhT_a, uhT_w0, uhT_w1, uhT_k, uhT_g, Bool.false_and]
  | true =>
    by_cases hp : p = 0
    · have e : decide (p = 0) = true := decide_eq_true hp
      simp +decide only [x179_0, x179_1, x179_2, x179_3, x179_5, x179_6, x179_9, x179_10, x179_11, x179_12, x179_15, x179_18, x179_21, x179_22, x179_25, x179_26, x179_27, x179_29, x179_32, x179_33, x179_36, x179_37, x179_38, x179_39, x179_42, x179_45, x179_46, x179_47, x179_50, x179_53, x179_54, x179_57, x179_58, x179_61, x179_62, x179_65, x179_66, aft_some, aft_void, Option.bind_some, Option.toList_some, Option.toList_none, List.cons_append, List.nil_append, if_true, if_false, ↓reduceIte, eq_self, z366_o, ↓z366_0, ↓z366_0p, ↓z366_1, ↓z366_2, ↓z366_3, ↓z366_4, ↓z366_4p, ↓z366_5, ↓z366_6, ↓z366_6p0, ↓z366_6p1, ↓z366_7, ↓z366_8, ↓z366_8p, ↓z366_9, ↓z366_9p, ↓z366_10, ↓z366_10p0, ↓z366_10p1, ↓z366_11, ↓z366_12, ↓z366_12p, ↓sg0, ↓sg1, ↓sg2, ↓sg3, ↓sg4, ↓sg5, ↓sg6, ↓sg7, ↓sg8, ↓sg9, ↓sg10, ↓sg11, ↓sg12, ↓sg13, ↓sg14, ↓sg15, ↓sg16, ↓sg17, ↓ss0, ↓ss1, ↓ss2, ↓ss3, ↓ss4, ↓ss5, ↓ss6, ↓ss7, ↓ss8, ↓ss9, ↓ss10, ↓ss11, ↓ss12, ↓ss13, ↓ss14, ↓ss15, ↓ss16, ↓ss17, uhT_8, uhT_9, uhT_10, uhT_12, uhT_371, uhT_372, uhT_0, uhT_a, uhT_w0, uhT_w1, uhT_k, uhT_g, hp, Bool.true_and, decide_true, Bool.not_true]
    · have e : decide (p = 0) = false := decide_eq_false hp
      simp +decide only [x179_0, x179_1, x179_2, x179_3, x179_5, x179_6, x179_9, x179_10, x179_11, x179_12, x179_15, x179_18, x179_21, x179_22, x179_25, x179_26, x179_27, x179_29, x179_32, x179_33, x179_36, x179_37, x179_38, x179_39, x179_42, x179_45, x179_46, x179_47, x179_50, x179_53, x179_54, x179_57, x179_58, x179_61, x179_62, x179_65, x179_66, aft_some, aft_void, Option.bind_some, Option.toList_some, Option.toList_none, List.cons_append, List.nil_append, if_true, if_false, ↓reduceIte, eq_self, z366_o, ↓z366_0, ↓z366_0p, ↓z366_1, ↓z366_2, ↓z366_3, ↓z366_4, ↓z366_4p, ↓z366_5, ↓z366_6, ↓z366_6p0, ↓z366_6p1, ↓z366_7, ↓z366_8, ↓z366_8p, ↓z366_9, ↓z366_9p, ↓z366_10, ↓z366_10p0, ↓z366_10p1, ↓z366_11, ↓z366_12, ↓z366_12p, ↓sg0, ↓sg1, ↓sg2, ↓sg3, ↓sg4, ↓sg5, ↓sg6, ↓sg7, ↓sg8, ↓sg9, ↓sg10, ↓sg11, ↓sg12, ↓sg13, ↓sg14, ↓sg15, ↓sg16, ↓sg17, ↓ss0, ↓ss1, ↓ss2, ↓ss3, ↓ss4, ↓ss5, ↓ss6, ↓ss7, ↓ss8, ↓ss9, ↓ss10, ↓ss11, ↓ss12, ↓ss13, ↓ss14, ↓ss15, ↓ss16, ↓ss17, uhT_8, uhT_9, uhT_10, uhT_12, uhT_371, uhT_372, uhT_0, uhT_a, uhT_w0, uhT_w1, uhT_k, uhT_g, hp, Bool.true_and, decide_false, Bool.not_false]
theorem t_hangers (h : TT T t n) (hq : q.1 ≤ n) : X 180 0 [.ref 366, .long 0] [] (H (hT T q k g) P) = some (some (.int (hnW t n q).1), H (hT T (hnW t n q).2 k g) P) := by
  have ed := t_digit (P := P) (k := k) (g := g) (lo := 1) (hi := 9) h hq
  have l1 := dg_le (t := t) (lo := 1) (hi := 9) hq (Or.inr rfl) (Or.inl rfl)
  have es := t_sign (P := P) (k := k) (g := g) h l1
  have ed2 := t_digit (P := P) (k := k) (g := g) (lo := 0) (hi := 9) h l1
  unfold hnW
  by_cases c : (dgW t n 1 9 q).2 = true
  · rw [if_pos c]
    by_cases c2 : inI (gS t n (dgW t n 1 9 q).1) 48 57 = 0
    · rw [if_pos c2]
      simp +decide only [x180_0, x180_1, x180_2, x180_4, x180_7, x180_8, x180_9, x180_12, x180_15, x180_16, x180_19, x180_21, x180_23, x180_26, x180_29, x180_31, x180_32, x180_33, x180_34, x180_35, x180_37, x180_40, x180_41, x180_42, x180_43, aft_some, aft_void, Option.bind_some, Option.toList_some, Option.toList_none, List.cons_append, List.nil_append, if_true, if_false, ↓reduceIte, eq_self, z366_o, ↓z366_0, ↓z366_0p, ↓z366_1, ↓z366_2, ↓z366_3, ↓z366_4, ↓z366_4p, ↓z366_5, ↓z366_6, ↓z366_6p0, ↓z366_6p1, ↓z366_7, ↓z366_8, ↓z366_8p, ↓z366_9, ↓z366_9p, ↓z366_10, ↓z366_10p0, ↓z366_10p1, ↓z366_11, ↓z366_12, ↓z366_12p, ↓sg0, ↓sg1, ↓sg2, ↓sg3, ↓sg4, ↓sg5, ↓sg6, ↓sg7, ↓sg8, ↓sg9, ↓sg10, ↓sg11, ↓sg12, ↓sg13, ↓sg14, ↓sg15, ↓sg16, ↓sg17, ↓ss0, ↓ss1, ↓ss2, ↓ss3, ↓ss4, ↓ss5, ↓ss6, ↓ss7, ↓ss8, ↓ss9, ↓ss10, ↓ss11, ↓ss12, ↓ss13, ↓ss14, ↓ss15, ↓ss16, ↓ss17, uhT_8, uhT_9, uhT_10, uhT_12, uhT_371, uhT_372, uhT_0, uhT_a, uhT_w0, uhT_w1, uhT_k, uhT_g, ↓aft_of (ed), c, ↓aft_of (es), ↓aft_of (r_in), c2]
    · rw [if_neg c2]
      simp +decide only [x180_0, x180_1, x180_2, x180_4, x180_7, x180_8, x180_9, x180_12, x180_15, x180_16, x180_19, x180_21, x180_23, x180_26, x180_29, x180_31, x180_32, x180_33, x180_34, x180_35, x180_37, x180_40, x180_41, x180_42, x180_43, aft_some, aft_void, Option.bind_some, Option.toList_some, Option.toList_none, List.cons_append, List.nil_append, if_true, if_false, ↓reduceIte, eq_self, z366_o, ↓z366_0, ↓z366_0p, ↓z366_1, ↓z366_2, ↓z366_3, ↓z366_4, ↓z366_4p, ↓z366_5, ↓z366_6, ↓z366_6p0, ↓z366_6p1, ↓z366_7, ↓z366_8, ↓z366_8p, ↓z366_9, ↓z366_9p, ↓z366_10, ↓z366_10p0, ↓z366_10p1, ↓z366_11, ↓z366_12, ↓z366_12p, ↓sg0, ↓sg1, ↓sg2, ↓sg3, ↓sg4, ↓sg5, ↓sg6, ↓sg7, ↓sg8, ↓sg9, ↓sg10, ↓sg11, ↓sg12, ↓sg13, ↓sg14, ↓sg15, ↓sg16, ↓sg17, ↓ss0, ↓ss1, ↓ss2, ↓ss3, ↓ss4, ↓ss5, ↓ss6, ↓ss7, ↓ss8, ↓ss9, ↓ss10, ↓ss11, ↓ss12, ↓ss13, ↓ss14, ↓ss15, ↓ss16, ↓ss17, uhT_8, uhT_9, uhT_10, uhT_12, uhT_371, uhT_372, uhT_0, uhT_a, uhT_w0, uhT_w1, uhT_k, uhT_g, ↓aft_of (ed), c, ↓aft_of (es), ↓aft_of (r_in), c2, ↓aft_of (ed2)]
  · rw [if_neg c]
    simp +decide only [x180_0, x180_1, x180_2, x180_4, x180_7, x180_8, x180_9, x180_12, x180_15, x180_16, x180_19, x180_21, x180_23, x180_26, x180_29, x180_31, x180_32, x180_33, x180_34, x180_35, x180_37, x180_40, x180_41, x180_42, x180_43, aft_some, aft_void, Option.bind_some, Option.toList_some, Option.toList_none, List.cons_append, List.nil_append, if_true, if_false, ↓reduceIte, eq_self, z366_o, ↓z366_0, ↓z366_0p, ↓z366_1, ↓z366_2, ↓z366_3, ↓z366_4, ↓z366_4p, ↓z366_5, ↓z366_6, ↓z366_6p0, ↓z366_6p1, ↓z366_7, ↓z366_8, ↓z366_8p, ↓z366_9, ↓z366_9p, ↓z366_10, ↓z366_10p0, ↓z366_10p1, ↓z366_11, ↓z366_12, ↓z366_12p, ↓sg0, ↓sg1, ↓sg2, ↓sg3, ↓sg4, ↓sg5, ↓sg6, ↓sg7, ↓sg8, ↓sg9, ↓sg10, ↓sg11, ↓sg12, ↓sg13, ↓sg14, ↓sg15, ↓sg16, ↓sg17, ↓ss0, ↓ss1, ↓ss2, ↓ss3, ↓ss4, ↓ss5, ↓ss6, ↓ss7, ↓ss8, ↓ss9, ↓ss10, ↓ss11, ↓ss12, ↓ss13, ↓ss14, ↓ss15, ↓ss16, ↓ss17, uhT_8, uhT_9, uhT_10, uhT_12, uhT_371, uhT_372, uhT_0, uhT_a, uhT_w0, uhT_w1, uhT_k, uhT_g, ↓aft_of (ed), c]
theorem sx_le (hq : q.1 ≤ n) : (sxW t n q).2.1 ≤ n := by
  have h1 := tk_le (t := t) (c := 42) hq (by decide)
  unfold sxW
  by_cases h : (tkW t n 42 q).1 = true
  · rw [if_pos h]; exact dg_le h1 (Or.inr rfl) (Or.inr rfl)
  · rw [if_neg h]; exact h1
theorem hn_le (hq : q.1 ≤ n) : (hnW t n q).2.1 ≤ n := by
  have h1 := dg_le (t := t) (lo := 1) (hi := 9) hq (Or.inr rfl) (Or.inl rfl)
  unfold hnW
  by_cases c : (dgW t n 1 9 q).2 = true
  · rw [if_pos c]
    by_cases c2 : inI (gS t n (dgW t n 1 9 q).1) 48 57 = 0
    · rw [if_pos c2]; exact h1
    · rw [if_neg c2]; exact dg_le h1 (Or.inl rfl) (Or.inl rfl)
  · rw [if_neg c]; exact h1
theorem hx_le (hq : q.1 ≤ n) : (hxW t n q).2.1 ≤ n := by
  have h1 := tk_le (t := t) (c := 45) hq (by decide)
  unfold hxW
  by_cases h : (tkW t n 45 q).1 = true
  · rw [if_pos h]; exact hn_le h1
  · rw [if_neg h]; exact h1
theorem pc_le (hq : q.1 ≤ n) : (pcZ t n q).2.1 ≤ n := by
  show (pcW t n q).2.1 ≤ n
  unfold pcW
  exact st_le (st_le (st_le (st_le hq)))
/-- a basket: where it ends, well or not, what is laid -/
theorem t_basket {a : Nat} (h : TT T t n) (ha : a ≤ n) (hk : k ≤ 12) : X 181 12 [.ref 366, .int (nI (4 * k))] [] (H (hT T (a, true) k g) P) = some (none, H (hT T (b3W t n a).2 (if (b3W t n a).2.2 = true then k + 1 else k) (upA (upA (upA (upA g (4 * k) (gS t n a - 48)) (4 * k + 1) (b1W t n a).1) (4 * k + 2) (b2W t n a).1) (4 * k + 3) (b3W t n a).1)) P) := by
  have x1 : nI (4 * k) + 1 = nI (4 * k + 1) := nI_add _ 1
  have x2 : nI (4 * k) + 2 = nI (4 * k + 2) := nI_add _ 2
  have x3 : nI (4 * k) + 3 = nI (4 * k + 3) := nI_add _ 3
  have kk : nI k + 1 = nI (k + 1) := nI_add _ 1
  have k0 : nI k + 0 = nI k := Int32.add_zero _
  obtain ⟨g1, hg1⟩ : ∃ g1, g1 = upA g (4 * k) (gS t n a - 48) := ⟨_, rfl⟩
  obtain ⟨g2, hg2⟩ : ∃ g2, g2 = upA g1 (4 * k + 1) (b1W t n a).1 := ⟨_, rfl⟩
  obtain ⟨g3, hg3⟩ : ∃ g3, g3 = upA g2 (4 * k + 2) (b2W t n a).1 := ⟨_, rfl⟩
  obtain ⟨g4, hg4⟩ : ∃ g4, g4 = upA g3 (4 * k + 3) (b3W t n a).1 := ⟨_, rfl⟩
  have ed := t_digit (P := P) (k := k) (g := g) (q := (a, true)) (lo := 0) (hi := 9) h ha
  have l0 : (dgW t n 0 9 (a, true)).1 ≤ n := dg_le ha (Or.inl rfl) (Or.inl rfl)
  have et := t_takes (P := P) (k := k) (g := g1) (c := 58) h l0
  have l1 : (clW t n a).1 ≤ n := tk_le (t := t) (c := 58) l0 (by decide)
  have ep := t_pieces (P := P) (k := k) (g := g1) h l1
  have l2 : (b1W t n a).2.1 ≤ n := pc_le l1
  have et2 := t_takes (P := P) (k := k) (g := g2) (c := 42) h l2
  have l3 : (tkW t n 42 (b1W t n a).2).2.1 ≤ n := tk_le (t := t) l2 (by decide)
  have ed2 := t_digit (P := P) (k := k) (g := g2) (lo := 1) (hi := 3) h l3
  have l4 : (b2W t n a).2.1 ≤ n := sx_le l2
  have et3 := t_takes (P := P) (k := k) (g := g3) (c := 45) h l4
  have l5 : (tkW t n 45 (b2W t n a).2).2.1 ≤ n := tk_le (t := t) l4 (by decide)
  have eh := t_hangers (P := P) (k := k) (g := g3) h l5
  -- pc 0 to 35: customer and colon
  have sA : X 181 12 [.ref 366, .int (nI (4 * k))] [] (H (hT T (a, true) k g) P) = X 181 35 [.ref 366, .int (nI (4 * k))] [] (H (hT T (clW t n a) k g1) P) := by
    rw [hg1] at et ⊢
    unfold clW
    by_cases c : (tkW t n 58 (dgW t n 0 9 (a, true))).1 = true
    · rw [if_pos c] at et
      rw [c]
      simp +decide only [x181_0, x181_1, x181_2, x181_5, x181_6, x181_7, x181_8, x181_9, x181_12, x181_13, x181_16, x181_17, x181_18, x181_19, x181_21, x181_24, x181_25, x181_26, x181_27, x181_29, x181_32, x181_36, x181_39, x181_40, x181_41, x181_42, x181_43, x181_46, x181_48, x181_51, x181_52, x181_53, x181_54, x181_55, x181_57, x181_60, x181_63, x181_64, x181_65, x181_66, x181_69, x181_72, x181_73, x181_75, x181_78, x181_79, x181_80, x181_81, x181_82, x181_84, x181_87, x181_90, x181_91, x181_94, x181_97, x181_98, x181_100, x181_101, x181_104, x181_105, x181_108, x181_111, x181_112, x181_115, x181_116, x181_117, x181_120, aft_some, aft_void, Option.bind_some, Option.toList_some, Option.toList_none, List.cons_append, List.nil_append, if_true, if_false, ↓reduceIte, eq_self, z366_o, ↓z366_0, ↓z366_0p, ↓z366_1, ↓z366_2, ↓z366_3, ↓z366_4, ↓z366_4p, ↓z366_5, ↓z366_6, ↓z366_6p0, ↓z366_6p1, ↓z366_7, ↓z366_8, ↓z366_8p, ↓z366_9, ↓z366_9p, ↓z366_10, ↓z366_10p0, ↓z366_10p1, ↓z366_11, ↓z366_12, ↓z366_12p, ↓sg0, ↓sg1, ↓sg2, ↓sg3, ↓sg4, ↓sg5, ↓sg6, ↓sg7, ↓sg8, ↓sg9, ↓sg10, ↓sg11, ↓sg12, ↓sg13, ↓sg14, ↓sg15, ↓sg16, ↓sg17, ↓ss0, ↓ss1, ↓ss2, ↓ss3, ↓ss4, ↓ss5, ↓ss6, ↓ss7, ↓ss8, ↓ss9, ↓ss10, ↓ss11, ↓ss12, ↓ss13, ↓ss14, ↓ss15, ↓ss16, ↓ss17, uhT_8, uhT_9, uhT_10, uhT_12, uhT_371, uhT_372, uhT_0, uhT_a, uhT_w0, uhT_w1, uhT_k, uhT_g, ↓aft_of (ed), ↓a372_s (show 4 * k < 64 by omega), ↓aft_of (et)]
    · rw [if_neg c] at et
      have c' : (tkW t n 58 (dgW t n 0 9 (a, true))).1 = false := by
        cases q : (tkW t n 58 (dgW t n 0 9 (a, true))).1
        · rfl
        · exact absurd q c
      rw [c']
      simp +decide only [x181_0, x181_1, x181_2, x181_5, x181_6, x181_7, x181_8, x181_9, x181_12, x181_13, x181_16, x181_17, x181_18, x181_19, x181_21, x181_24, x181_25, x181_26, x181_27, x181_29, x181_32, x181_36, x181_39, x181_40, x181_41, x181_42, x181_43, x181_46, x181_48, x181_51, x181_52, x181_53, x181_54, x181_55, x181_57, x181_60, x181_63, x181_64, x181_65, x181_66, x181_69, x181_72, x181_73, x181_75, x181_78, x181_79, x181_80, x181_81, x181_82, x181_84, x181_87, x181_90, x181_91, x181_94, x181_97, x181_98, x181_100, x181_101, x181_104, x181_105, x181_108, x181_111, x181_112, x181_115, x181_116, x181_117, x181_120, aft_some, aft_void, Option.bind_some, Option.toList_some, Option.toList_none, List.cons_append, List.nil_append, if_true, if_false, ↓reduceIte, eq_self, z366_o, ↓z366_0, ↓z366_0p, ↓z366_1, ↓z366_2, ↓z366_3, ↓z366_4, ↓z366_4p, ↓z366_5, ↓z366_6, ↓z366_6p0, ↓z366_6p1, ↓z366_7, ↓z366_8, ↓z366_8p, ↓z366_9, ↓z366_9p, ↓z366_10, ↓z366_10p0, ↓z366_10p1, ↓z366_11, ↓z366_12, ↓z366_12p, ↓sg0, ↓sg1, ↓sg2, ↓sg3, ↓sg4, ↓sg5, ↓sg6, ↓sg7, ↓sg8, ↓sg9, ↓sg10, ↓sg11, ↓sg12, ↓sg13, ↓sg14, ↓sg15, ↓sg16, ↓sg17, ↓ss0, ↓ss1, ↓ss2, ↓ss3, ↓ss4, ↓ss5, ↓ss6, ↓ss7, ↓ss8, ↓ss9, ↓ss10, ↓ss11, ↓ss12, ↓ss13, ↓ss14, ↓ss15, ↓ss16, ↓ss17, uhT_8, uhT_9, uhT_10, uhT_12, uhT_371, uhT_372, uhT_0, uhT_a, uhT_w0, uhT_w1, uhT_k, uhT_g, ↓aft_of (ed), ↓a372_s (show 4 * k < 64 by omega), ↓aft_of (et)]
  have sB : X 181 35 [.ref 366, .int (nI (4 * k))] [] (H (hT T (clW t n a) k g1) P) = X 181 47 [.ref 366, .int (nI (4 * k))] [] (H (hT T (b1W t n a).2 k g2) P) := by
    rw [x181_35, hg2]
    simp +decide only [x181_0, x181_1, x181_2, x181_5, x181_6, x181_7, x181_8, x181_9, x181_12, x181_13, x181_16, x181_17, x181_18, x181_19, x181_21, x181_24, x181_25, x181_26, x181_27, x181_29, x181_32, x181_36, x181_39, x181_40, x181_41, x181_42, x181_43, x181_46, x181_48, x181_51, x181_52, x181_53, x181_54, x181_55, x181_57, x181_60, x181_63, x181_64, x181_65, x181_66, x181_69, x181_72, x181_73, x181_75, x181_78, x181_79, x181_80, x181_81, x181_82, x181_84, x181_87, x181_90, x181_91, x181_94, x181_97, x181_98, x181_100, x181_101, x181_104, x181_105, x181_108, x181_111, x181_112, x181_115, x181_116, x181_117, x181_120, aft_some, aft_void, Option.bind_some, Option.toList_some, Option.toList_none, List.cons_append, List.nil_append, if_true, if_false, ↓reduceIte, eq_self, z366_o, ↓z366_0, ↓z366_0p, ↓z366_1, ↓z366_2, ↓z366_3, ↓z366_4, ↓z366_4p, ↓z366_5, ↓z366_6, ↓z366_6p0, ↓z366_6p1, ↓z366_7, ↓z366_8, ↓z366_8p, ↓z366_9, ↓z366_9p, ↓z366_10, ↓z366_10p0, ↓z366_10p1, ↓z366_11, ↓z366_12, ↓z366_12p, ↓sg0, ↓sg1, ↓sg2, ↓sg3, ↓sg4, ↓sg5, ↓sg6, ↓sg7, ↓sg8, ↓sg9, ↓sg10, ↓sg11, ↓sg12, ↓sg13, ↓sg14, ↓sg15, ↓sg16, ↓sg17, ↓ss0, ↓ss1, ↓ss2, ↓ss3, ↓ss4, ↓ss5, ↓ss6, ↓ss7, ↓ss8, ↓ss9, ↓ss10, ↓ss11, ↓ss12, ↓ss13, ↓ss14, ↓ss15, ↓ss16, ↓ss17, uhT_8, uhT_9, uhT_10, uhT_12, uhT_371, uhT_372, uhT_0, uhT_a, uhT_w0, uhT_w1, uhT_k, uhT_g, x1, ↓aft_of (ep), ↓a372_s (show 4 * k + 1 < 64 by omega)]
  have sC : X 181 47 [.ref 366, .int (nI (4 * k))] [] (H (hT T (b1W t n a).2 k g2) P) = X 181 74 [.ref 366, .int (nI (4 * k))] [] (H (hT T (b2W t n a).2 k g3) P) := by
    rw [x181_47, hg3]
    unfold b2W sxW
    by_cases c : (tkW t n 42 (b1W t n a).2).1 = true
    · rw [if_pos c] at et2
      rw [if_pos c]
      simp +decide only [x181_0, x181_1, x181_2, x181_5, x181_6, x181_7, x181_8, x181_9, x181_12, x181_13, x181_16, x181_17, x181_18, x181_19, x181_21, x181_24, x181_25, x181_26, x181_27, x181_29, x181_32, x181_36, x181_39, x181_40, x181_41, x181_42, x181_43, x181_46, x181_48, x181_51, x181_52, x181_53, x181_54, x181_55, x181_57, x181_60, x181_63, x181_64, x181_65, x181_66, x181_69, x181_72, x181_73, x181_75, x181_78, x181_79, x181_80, x181_81, x181_82, x181_84, x181_87, x181_90, x181_91, x181_94, x181_97, x181_98, x181_100, x181_101, x181_104, x181_105, x181_108, x181_111, x181_112, x181_115, x181_116, x181_117, x181_120, aft_some, aft_void, Option.bind_some, Option.toList_some, Option.toList_none, List.cons_append, List.nil_append, if_true, if_false, ↓reduceIte, eq_self, z366_o, ↓z366_0, ↓z366_0p, ↓z366_1, ↓z366_2, ↓z366_3, ↓z366_4, ↓z366_4p, ↓z366_5, ↓z366_6, ↓z366_6p0, ↓z366_6p1, ↓z366_7, ↓z366_8, ↓z366_8p, ↓z366_9, ↓z366_9p, ↓z366_10, ↓z366_10p0, ↓z366_10p1, ↓z366_11, ↓z366_12, ↓z366_12p, ↓sg0, ↓sg1, ↓sg2, ↓sg3, ↓sg4, ↓sg5, ↓sg6, ↓sg7, ↓sg8, ↓sg9, ↓sg10, ↓sg11, ↓sg12, ↓sg13, ↓sg14, ↓sg15, ↓sg16, ↓sg17, ↓ss0, ↓ss1, ↓ss2, ↓ss3, ↓ss4, ↓ss5, ↓ss6, ↓ss7, ↓ss8, ↓ss9, ↓ss10, ↓ss11, ↓ss12, ↓ss13, ↓ss14, ↓ss15, ↓ss16, ↓ss17, uhT_8, uhT_9, uhT_10, uhT_12, uhT_371, uhT_372, uhT_0, uhT_a, uhT_w0, uhT_w1, uhT_k, uhT_g, x2, ↓aft_of (et2), ↓aft_of (ed2), ↓a372_s (show 4 * k + 2 < 64 by omega)]
    · rw [if_neg c] at et2
      rw [if_neg c]
      simp +decide only [x181_0, x181_1, x181_2, x181_5, x181_6, x181_7, x181_8, x181_9, x181_12, x181_13, x181_16, x181_17, x181_18, x181_19, x181_21, x181_24, x181_25, x181_26, x181_27, x181_29, x181_32, x181_36, x181_39, x181_40, x181_41, x181_42, x181_43, x181_46, x181_48, x181_51, x181_52, x181_53, x181_54, x181_55, x181_57, x181_60, x181_63, x181_64, x181_65, x181_66, x181_69, x181_72, x181_73, x181_75, x181_78, x181_79, x181_80, x181_81, x181_82, x181_84, x181_87, x181_90, x181_91, x181_94, x181_97, x181_98, x181_100, x181_101, x181_104, x181_105, x181_108, x181_111, x181_112, x181_115, x181_116, x181_117, x181_120, aft_some, aft_void, Option.bind_some, Option.toList_some, Option.toList_none, List.cons_append, List.nil_append, if_true, if_false, ↓reduceIte, eq_self, z366_o, ↓z366_0, ↓z366_0p, ↓z366_1, ↓z366_2, ↓z366_3, ↓z366_4, ↓z366_4p, ↓z366_5, ↓z366_6, ↓z366_6p0, ↓z366_6p1, ↓z366_7, ↓z366_8, ↓z366_8p, ↓z366_9, ↓z366_9p, ↓z366_10, ↓z366_10p0, ↓z366_10p1, ↓z366_11, ↓z366_12, ↓z366_12p, ↓sg0, ↓sg1, ↓sg2, ↓sg3, ↓sg4, ↓sg5, ↓sg6, ↓sg7, ↓sg8, ↓sg9, ↓sg10, ↓sg11, ↓sg12, ↓sg13, ↓sg14, ↓sg15, ↓sg16, ↓sg17, ↓ss0, ↓ss1, ↓ss2, ↓ss3, ↓ss4, ↓ss5, ↓ss6, ↓ss7, ↓ss8, ↓ss9, ↓ss10, ↓ss11, ↓ss12, ↓ss13, ↓ss14, ↓ss15, ↓ss16, ↓ss17, uhT_8, uhT_9, uhT_10, uhT_12, uhT_371, uhT_372, uhT_0, uhT_a, uhT_w0, uhT_w1, uhT_k, uhT_g, x2, ↓aft_of (et2), ↓a372_s (show 4 * k + 2 < 64 by omega)]
  have sD : X 181 74 [.ref 366, .int (nI (4 * k))] [] (H (hT T (b2W t n a).2 k g3) P) = X 181 99 [.ref 366, .int (nI (4 * k))] [] (H (hT T (b3W t n a).2 k g4) P) := by
    rw [x181_74, hg4]
    unfold b3W hxW
    by_cases c : (tkW t n 45 (b2W t n a).2).1 = true
    · rw [if_pos c] at et3
      rw [if_pos c]
      simp +decide only [x181_0, x181_1, x181_2, x181_5, x181_6, x181_7, x181_8, x181_9, x181_12, x181_13, x181_16, x181_17, x181_18, x181_19, x181_21, x181_24, x181_25, x181_26, x181_27, x181_29, x181_32, x181_36, x181_39, x181_40, x181_41, x181_42, x181_43, x181_46, x181_48, x181_51, x181_52, x181_53, x181_54, x181_55, x181_57, x181_60, x181_63, x181_64, x181_65, x181_66, x181_69, x181_72, x181_73, x181_75, x181_78, x181_79, x181_80, x181_81, x181_82, x181_84, x181_87, x181_90, x181_91, x181_94, x181_97, x181_98, x181_100, x181_101, x181_104, x181_105, x181_108, x181_111, x181_112, x181_115, x181_116, x181_117, x181_120, aft_some, aft_void, Option.bind_some, Option.toList_some, Option.toList_none, List.cons_append, List.nil_append, if_true, if_false, ↓reduceIte, eq_self, z366_o, ↓z366_0, ↓z366_0p, ↓z366_1, ↓z366_2, ↓z366_3, ↓z366_4, ↓z366_4p, ↓z366_5, ↓z366_6, ↓z366_6p0, ↓z366_6p1, ↓z366_7, ↓z366_8, ↓z366_8p, ↓z366_9, ↓z366_9p, ↓z366_10, ↓z366_10p0, ↓z366_10p1, ↓z366_11, ↓z366_12, ↓z366_12p, ↓sg0, ↓sg1, ↓sg2, ↓sg3, ↓sg4, ↓sg5, ↓sg6, ↓sg7, ↓sg8, ↓sg9, ↓sg10, ↓sg11, ↓sg12, ↓sg13, ↓sg14, ↓sg15, ↓sg16, ↓sg17, ↓ss0, ↓ss1, ↓ss2, ↓ss3, ↓ss4, ↓ss5, ↓ss6, ↓ss7, ↓ss8, ↓ss9, ↓ss10, ↓ss11, ↓ss12, ↓ss13, ↓ss14, ↓ss15, ↓ss16, ↓ss17, uhT_8, uhT_9, uhT_10, uhT_12, uhT_371, uhT_372, uhT_0, uhT_a, uhT_w0, uhT_w1, uhT_k, uhT_g, x3, ↓aft_of (et3), ↓aft_of (eh), ↓a372_s (show 4 * k + 3 < 64 by omega)]
    · rw [if_neg c] at et3
      rw [if_neg c]
      simp +decide only [x181_0, x181_1, x181_2, x181_5, x181_6, x181_7, x181_8, x181_9, x181_12, x181_13, x181_16, x181_17, x181_18, x181_19, x181_21, x181_24, x181_25, x181_26, x181_27, x181_29, x181_32, x181_36, x181_39, x181_40, x181_41, x181_42, x181_43, x181_46, x181_48, x181_51, x181_52, x181_53, x181_54, x181_55, x181_57, x181_60, x181_63, x181_64, x181_65, x181_66, x181_69, x181_72, x181_73, x181_75, x181_78, x181_79, x181_80, x181_81, x181_82, x181_84, x181_87, x181_90, x181_91, x181_94, x181_97, x181_98, x181_100, x181_101, x181_104, x181_105, x181_108, x181_111, x181_112, x181_115, x181_116, x181_117, x181_120, aft_some, aft_void, Option.bind_some, Option.toList_some, Option.toList_none, List.cons_append, List.nil_append, if_true, if_false, ↓reduceIte, eq_self, z366_o, ↓z366_0, ↓z366_0p, ↓z366_1, ↓z366_2, ↓z366_3, ↓z366_4, ↓z366_4p, ↓z366_5, ↓z366_6, ↓z366_6p0, ↓z366_6p1, ↓z366_7, ↓z366_8, ↓z366_8p, ↓z366_9, ↓z366_9p, ↓z366_10, ↓z366_10p0, ↓z366_10p1, ↓z366_11, ↓z366_12, ↓z366_12p, ↓sg0, ↓sg1, ↓sg2, ↓sg3, ↓sg4, ↓sg5, ↓sg6, ↓sg7, ↓sg8, ↓sg9, ↓sg10, ↓sg11, ↓sg12, ↓sg13, ↓sg14, ↓sg15, ↓sg16, ↓sg17, ↓ss0, ↓ss1, ↓ss2, ↓ss3, ↓ss4, ↓ss5, ↓ss6, ↓ss7, ↓ss8, ↓ss9, ↓ss10, ↓ss11, ↓ss12, ↓ss13, ↓ss14, ↓ss15, ↓ss16, ↓ss17, uhT_8, uhT_9, uhT_10, uhT_12, uhT_371, uhT_372, uhT_0, uhT_a, uhT_w0, uhT_w1, uhT_k, uhT_g, x3, ↓aft_of (et3), ↓a372_s (show 4 * k + 3 < 64 by omega)]
  rw [sA, sB, sC, sD, x181_99, ← hg1, ← hg2, ← hg3, ← hg4]
  by_cases c : (b3W t n a).2.2 = true
  · rw [if_pos c]
    simp +decide only [x181_0, x181_1, x181_2, x181_5, x181_6, x181_7, x181_8, x181_9, x181_12, x181_13, x181_16, x181_17, x181_18, x181_19, x181_21, x181_24, x181_25, x181_26, x181_27, x181_29, x181_32, x181_36, x181_39, x181_40, x181_41, x181_42, x181_43, x181_46, x181_48, x181_51, x181_52, x181_53, x181_54, x181_55, x181_57, x181_60, x181_63, x181_64, x181_65, x181_66, x181_69, x181_72, x181_73, x181_75, x181_78, x181_79, x181_80, x181_81, x181_82, x181_84, x181_87, x181_90, x181_91, x181_94, x181_97, x181_98, x181_100, x181_101, x181_104, x181_105, x181_108, x181_111, x181_112, x181_115, x181_116, x181_117, x181_120, aft_some, aft_void, Option.bind_some, Option.toList_some, Option.toList_none, List.cons_append, List.nil_append, if_true, if_false, ↓reduceIte, eq_self, z366_o, ↓z366_0, ↓z366_0p, ↓z366_1, ↓z366_2, ↓z366_3, ↓z366_4, ↓z366_4p, ↓z366_5, ↓z366_6, ↓z366_6p0, ↓z366_6p1, ↓z366_7, ↓z366_8, ↓z366_8p, ↓z366_9, ↓z366_9p, ↓z366_10, ↓z366_10p0, ↓z366_10p1, ↓z366_11, ↓z366_12, ↓z366_12p, ↓sg0, ↓sg1, ↓sg2, ↓sg3, ↓sg4, ↓sg5, ↓sg6, ↓sg7, ↓sg8, ↓sg9, ↓sg10, ↓sg11, ↓sg12, ↓sg13, ↓sg14, ↓sg15, ↓sg16, ↓sg17, ↓ss0, ↓ss1, ↓ss2, ↓ss3, ↓ss4, ↓ss5, ↓ss6, ↓ss7, ↓ss8, ↓ss9, ↓ss10, ↓ss11, ↓ss12, ↓ss13, ↓ss14, ↓ss15, ↓ss16, ↓ss17, uhT_8, uhT_9, uhT_10, uhT_12, uhT_371, uhT_372, uhT_0, uhT_a, uhT_w0, uhT_w1, uhT_k, uhT_g, c, kk]
  · rw [if_neg c]
    simp +decide only [x181_0, x181_1, x181_2, x181_5, x181_6, x181_7, x181_8, x181_9, x181_12, x181_13, x181_16, x181_17, x181_18, x181_19, x181_21, x181_24, x181_25, x181_26, x181_27, x181_29, x181_32, x181_36, x181_39, x181_40, x181_41, x181_42, x181_43, x181_46, x181_48, x181_51, x181_52, x181_53, x181_54, x181_55, x181_57, x181_60, x181_63, x181_64, x181_65, x181_66, x181_69, x181_72, x181_73, x181_75, x181_78, x181_79, x181_80, x181_81, x181_82, x181_84, x181_87, x181_90, x181_91, x181_94, x181_97, x181_98, x181_100, x181_101, x181_104, x181_105, x181_108, x181_111, x181_112, x181_115, x181_116, x181_117, x181_120, aft_some, aft_void, Option.bind_some, Option.toList_some, Option.toList_none, List.cons_append, List.nil_append, if_true, if_false, ↓reduceIte, eq_self, z366_o, ↓z366_0, ↓z366_0p, ↓z366_1, ↓z366_2, ↓z366_3, ↓z366_4, ↓z366_4p, ↓z366_5, ↓z366_6, ↓z366_6p0, ↓z366_6p1, ↓z366_7, ↓z366_8, ↓z366_8p, ↓z366_9, ↓z366_9p, ↓z366_10, ↓z366_10p0, ↓z366_10p1, ↓z366_11, ↓z366_12, ↓z366_12p, ↓sg0, ↓sg1, ↓sg2, ↓sg3, ↓sg4, ↓sg5, ↓sg6, ↓sg7, ↓sg8, ↓sg9, ↓sg10, ↓sg11, ↓sg12, ↓sg13, ↓sg14, ↓sg15, ↓sg16, ↓sg17, ↓ss0, ↓ss1, ↓ss2, ↓ss3, ↓ss4, ↓ss5, ↓ss6, ↓ss7, ↓ss8, ↓ss9, ↓ss10, ↓ss11, ↓ss12, ↓ss13, ↓ss14, ↓ss15, ↓ss16, ↓ss17, uhT_8, uhT_9, uhT_10, uhT_12, uhT_371, uhT_372, uhT_0, uhT_a, uhT_w0, uhT_w1, uhT_k, uhT_g, c, k0]
/-- the rows that were read -/
def RB (r : rS) (k : Nat) (g : Nat → Int32) : Prop := ∀ j, j < k → r.2.2.2.1 j = g (4 * j) ∧ r.2.2.2.2.1 j = g (4 * j + 1) ∧ r.2.2.2.2.2.1 j = g (4 * j + 2) ∧ r.2.2.2.2.2.2 j = g (4 * j + 3)
/-- what holds where the reference looks for a semicolon -/
def LI (t : Nat → Int32) (n : Nat) (C : Option Nat × rS) (a : Nat) (w : Bool) (k : Nat) (g : Nat → Int32) : Prop := a ≤ n ∧ ((w = false ∧ rdA n C = nI a) ∨ (w = true ∧ ∃ r, C = cl t n a r ∧ r.1 = k ∧ 5 * k ≤ a + 1 ∧ ED t n a r ∧ RB r k g))
theorem b3_le {a : Nat} (ha : a ≤ n) : (b3W t n a).2.1 ≤ n := by
  have l0 : (dgW t n 0 9 (a, true)).1 ≤ n := dg_le ha (Or.inl rfl) (Or.inl rfl)
  have l1 : (clW t n a).1 ≤ n := tk_le (t := t) (c := 58) l0 (by decide)
  exact hx_le (sx_le (pc_le l1))
/-- a basket is read: what holds behind it -/
theorem LI.bk {C : Option Nat × rS} {a : Nat} {r : rS} (hn : n ≤ 60) (hC : C = cl t n a r) (hk : r.1 = k) (h0 : r.2.1 = 0) (ha : a ≤ n) (h5 : 5 * k ≤ a) (hR : RB r k g) :
    LI t n C (b3W t n a).2.1 (b3W t n a).2.2 (if (b3W t n a).2.2 = true then k + 1 else k) (upA (upA (upA (upA g (4 * k) (gS t n a - 48)) (4 * k + 1) (b1W t n a).1) (4 * k + 2) (b2W t n a).1) (4 * k + 3) (b3W t n a).1) := by
  refine ⟨b3_le ha, ?_⟩
  rcases bk_cl (t := t) (n := n) (a := a) (r := r) h0 ha hn (by rw [hk]; exact h5) with ⟨g1, g2⟩ | ⟨g1, g2, r', g3, g4, g5, g6, g7, g8, g9, g10⟩
  · exact Or.inl ⟨g1, by rw [hC]; exact g2⟩
  · rw [if_pos g1]
    rw [hk] at g4 g5 g6 g7 g8 g9
    refine Or.inr ⟨g1, r', by rw [hC]; exact g3, g4, by omega, g10, fun j hj => ?_⟩
    by_cases e : j = k
    · subst e
      refine ⟨?_, ?_, ?_, ?_⟩
      · rw [upA_n _ _ (by omega), upA_n _ _ (by omega), upA_n _ _ (by omega), upA_s]; exact g6
      · rw [upA_n _ _ (by omega), upA_n _ _ (by omega), upA_s]; exact g7
      · rw [upA_n _ _ (by omega), upA_s]; exact g8
      · rw [upA_s]; exact g9
    · obtain ⟨q1, q2, q3, q4⟩ := g5 j e
      obtain ⟨p1, p2, p3, p4⟩ := hR j (by omega)
      refine ⟨?_, ?_, ?_, ?_⟩
      · rw [q1, upA_n _ _ (by omega), upA_n _ _ (by omega), upA_n _ _ (by omega), upA_n _ _ (by omega)]; exact p1
      · rw [q2, upA_n _ _ (by omega), upA_n _ _ (by omega), upA_n _ _ (by omega), upA_n _ _ (by omega)]; exact p2
      · rw [q3, upA_n _ _ (by omega), upA_n _ _ (by omega), upA_n _ _ (by omega), upA_n _ _ (by omega)]; exact p3
      · rw [q4, upA_n _ _ (by omega), upA_n _ _ (by omega), upA_n _ _ (by omega), upA_n _ _ (by omega)]; exact p4
theorem t_loop {C : Option Nat × rS} (h : TT T t n) : ∀ (m a : Nat) (w : Bool) (k : Nat) (g : Nat → Int32), n - a ≤ m → LI t n C a w k g → ∃ q k' g', X 182 14 [.ref 366] [] (H (hT T (a, w) k g) P) = some (some (.int (rdA n C)), H (hT T q k' g') P) ∧ (rdA n C = -5 → k' = C.2.1 ∧ k' ≤ 12 ∧ RB C.2 k' g') := by
  have h60 := h.2.1
  have stop : ∀ (a : Nat) (w : Bool) (k : Nat) (g : Nat → Int32), LI t n C a w k g → (w = false ∨ n ≤ a) → ∃ q k' g', X 182 14 [.ref 366] [] (H (hT T (a, w) k g) P) = some (some (.int (rdA n C)), H (hT T q k' g') P) ∧ (rdA n C = -5 → k' = C.2.1 ∧ k' ≤ 12 ∧ RB C.2 k' g') := by
    intro a w k g ⟨ha, hI⟩ hs
    rcases hI with ⟨hw, hC⟩ | ⟨hw, r, hC, hr, h5, hE, hR⟩
    · subst hw
      refine ⟨(a, false), k, g, ?_, fun e => ?_⟩
      · rw [hC, x182_14]
        simp +decide only [x182_0, x182_1, x182_2, x182_5, x182_6, x182_7, x182_10, x182_11, x182_15, x182_18, x182_21, x182_22, x182_25, x182_26, x182_29, x182_32, x182_33, x182_34, x182_36, x182_39, x182_42, x182_43, x182_46, x182_49, x182_50, x182_53, x182_56, x182_57, x182_60, x182_63, x182_65, x182_68, x182_69, x182_72, aft_some, aft_void, Option.bind_some, Option.toList_some, Option.toList_none, List.cons_append, List.nil_append, if_true, if_false, ↓reduceIte, eq_self, z366_o, ↓z366_0, ↓z366_0p, ↓z366_1, ↓z366_2, ↓z366_3, ↓z366_4, ↓z366_4p, ↓z366_5, ↓z366_6, ↓z366_6p0, ↓z366_6p1, ↓z366_7, ↓z366_8, ↓z366_8p, ↓z366_9, ↓z366_9p, ↓z366_10, ↓z366_10p0, ↓z366_10p1, ↓z366_11, ↓z366_12, ↓z366_12p, ↓sg0, ↓sg1, ↓sg2, ↓sg3, ↓sg4, ↓sg5, ↓sg6, ↓sg7, ↓sg8, ↓sg9, ↓sg10, ↓sg11, ↓sg12, ↓sg13, ↓sg14, ↓sg15, ↓sg16, ↓sg17, ↓ss0, ↓ss1, ↓ss2, ↓ss3, ↓ss4, ↓ss5, ↓ss6, ↓ss7, ↓ss8, ↓ss9, ↓ss10, ↓ss11, ↓ss12, ↓ss13, ↓ss14, ↓ss15, ↓ss16, ↓ss17, uhT_8, uhT_9, uhT_10, uhT_12, uhT_371, uhT_372, uhT_0, uhT_a, uhT_w0, uhT_w1, uhT_k, uhT_g]
      · rw [hC] at e
        have := nI_ne5 (n := a) (by omega)
        rw [this] at e
        exact absurd e id
    · subst hw
      have ha2 : a = n := by
        rcases hs with z | z
        · cases z
        · omega
      have hC2 : C = (none, r) := by rw [hC, cl_e (by omega)]
      have h5' : rdA n C = -5 := by
        rw [hC2]
        show (if meI r.2.1 = 0 then nI n else -5) = _
        rw [hE.2.1, if_neg (by decide)]
      have elt : (nI a < nI n) = False := eq_false (nI_nlt (by omega) (by omega))
      refine ⟨(a, true), k, g, ?_, fun _ => ⟨by rw [hC2]; exact hr.symm, by omega, by rw [hC2]; exact hR⟩⟩
      rw [h5', x182_14]
      simp +decide only [x182_0, x182_1, x182_2, x182_5, x182_6, x182_7, x182_10, x182_11, x182_15, x182_18, x182_21, x182_22, x182_25, x182_26, x182_29, x182_32, x182_33, x182_34, x182_36, x182_39, x182_42, x182_43, x182_46, x182_49, x182_50, x182_53, x182_56, x182_57, x182_60, x182_63, x182_65, x182_68, x182_69, x182_72, aft_some, aft_void, Option.bind_some, Option.toList_some, Option.toList_none, List.cons_append, List.nil_append, if_true, if_false, ↓reduceIte, eq_self, z366_o, ↓z366_0, ↓z366_0p, ↓z366_1, ↓z366_2, ↓z366_3, ↓z366_4, ↓z366_4p, ↓z366_5, ↓z366_6, ↓z366_6p0, ↓z366_6p1, ↓z366_7, ↓z366_8, ↓z366_8p, ↓z366_9, ↓z366_9p, ↓z366_10, ↓z366_10p0, ↓z366_10p1, ↓z366_11, ↓z366_12, ↓z366_12p, ↓sg0, ↓sg1, ↓sg2, ↓sg3, ↓sg4, ↓sg5, ↓sg6, ↓sg7, ↓sg8, ↓sg9, ↓sg10, ↓sg11, ↓sg12, ↓sg13, ↓sg14, ↓sg15, ↓sg16, ↓sg17, ↓ss0, ↓ss1, ↓ss2, ↓ss3, ↓ss4, ↓ss5, ↓ss6, ↓ss7, ↓ss8, ↓ss9, ↓ss10, ↓ss11, ↓ss12, ↓ss13, ↓ss14, ↓ss15, ↓ss16, ↓ss17, uhT_8, uhT_9, uhT_10, uhT_12, uhT_371, uhT_372, uhT_0, uhT_a, uhT_w0, uhT_w1, uhT_k, uhT_g, h.1, elt]
  intro m
  induction m with
  | zero =>
    intro a w k g hm hI
    exact stop a w k g hI (Or.inr (by omega))
  | succ m ih =>
    intro a w k g hm hI
    by_cases hs : w = false ∨ n ≤ a
    · exact stop a w k g hI hs
    have hw : w = true := by
      cases w with
      | true => rfl
      | false => exact absurd (Or.inl rfl) hs
    have hl : a < n := by
      apply Classical.byContradiction
      intro z
      exact hs (Or.inr (by omega))
    subst hw
    obtain ⟨ha, hI'⟩ := id hI
    rcases hI' with ⟨hw, -⟩ | ⟨-, r, hC, hr, h5, hE, hR⟩
    · cases hw
    have elt : (nI a < nI n) = True := eq_true (nI_lt hl (by omega))
    have et := t_takes (P := P) (k := k) (g := g) (q := (a, true)) (c := 59) h ha
    by_cases h59 : t a = 59
    · have hg : gS t n a = 59 := by rw [gS_lt hl]; exact h59
      rw [tk_ok hg] at et
      have et : X 176 0 [.ref 366, .int 59, .long 0] [] (H (hT T (a, true) k g) P) = some (some (.int 1), H (hT T (a + 1, true) k g) P) := et
      have hC2 : C = cl t n (a + 1) (r.1, 0, r.2.2) := by rw [hC, cl_go hl (hE.2.2.1 hl h59)]
      have hB := LI.bk (C := C) (r := (r.1, 0, r.2.2)) h60 hC2 hr rfl (show a + 1 ≤ n by omega) h5 hR
      have eb := t_basket (P := P) (k := k) (g := g) h (show a + 1 ≤ n by omega) (by omega)
      have k4 : 4 * nI k = nI (4 * k) := by rw [show (4 : Int32) = nI 4 from rfl, nI_mul]
      have e0 : X 181 0 [.ref 366, .long 0] [] (H (hT T (a + 1, true) k g) P) = X 181 12 [.ref 366, .int (nI (4 * k))] [] (H (hT T (a + 1, true) k g) P) := by
        simp +decide only [x181_0, x181_1, x181_2, x181_5, x181_6, x181_7, x181_8, x181_9, x181_13, x181_16, x181_17, x181_18, x181_19, x181_21, x181_24, x181_25, x181_26, x181_27, x181_29, x181_32, x181_35, x181_36, x181_39, x181_40, x181_41, x181_42, x181_43, x181_46, x181_47, x181_48, x181_51, x181_52, x181_53, x181_54, x181_55, x181_57, x181_60, x181_63, x181_64, x181_65, x181_66, x181_69, x181_72, x181_73, x181_74, x181_75, x181_78, x181_79, x181_80, x181_81, x181_82, x181_84, x181_87, x181_90, x181_91, x181_94, x181_97, x181_98, x181_99, x181_100, x181_101, x181_104, x181_105, x181_108, x181_111, x181_112, x181_115, x181_116, x181_117, x181_120, aft_some, aft_void, Option.bind_some, Option.toList_some, Option.toList_none, List.cons_append, List.nil_append, if_true, if_false, ↓reduceIte, eq_self, z366_o, ↓z366_0, ↓z366_0p, ↓z366_1, ↓z366_2, ↓z366_3, ↓z366_4, ↓z366_4p, ↓z366_5, ↓z366_6, ↓z366_6p0, ↓z366_6p1, ↓z366_7, ↓z366_8, ↓z366_8p, ↓z366_9, ↓z366_9p, ↓z366_10, ↓z366_10p0, ↓z366_10p1, ↓z366_11, ↓z366_12, ↓z366_12p, ↓sg0, ↓sg1, ↓sg2, ↓sg3, ↓sg4, ↓sg5, ↓sg6, ↓sg7, ↓sg8, ↓sg9, ↓sg10, ↓sg11, ↓sg12, ↓sg13, ↓sg14, ↓sg15, ↓sg16, ↓sg17, ↓ss0, ↓ss1, ↓ss2, ↓ss3, ↓ss4, ↓ss5, ↓ss6, ↓ss7, ↓ss8, ↓ss9, ↓ss10, ↓ss11, ↓ss12, ↓ss13, ↓ss14, ↓ss15, ↓ss16, ↓ss17, uhT_8, uhT_9, uhT_10, uhT_12, uhT_371, uhT_372, uhT_0, uhT_a, uhT_w0, uhT_w1, uhT_k, uhT_g, k4]
      rw [eb] at e0
      have hge : a + 1 ≤ (b3W t n (a + 1)).2.1 ∨ (b3W t n (a + 1)).2.2 = false := by
        rcases bk_cl (t := t) (n := n) (a := a + 1) (r := (r.1, 0, r.2.2)) rfl (by omega) h60 (by show 5 * r.1 ≤ a + 1; rw [hr]; exact h5) with ⟨z, -⟩ | ⟨-, z, -⟩
        · exact Or.inr z
        · exact Or.inl (by omega)
      have nxt : X 182 14 [.ref 366] [] (H (hT T (a, true) k g) P) = X 182 14 [.ref 366] [] (H (hT T (b3W t n (a + 1)).2 (if (b3W t n (a + 1)).2.2 = true then k + 1 else k) (upA (upA (upA (upA g (4 * k) (gS t n (a + 1) - 48)) (4 * k + 1) (b1W t n (a + 1)).1) (4 * k + 2) (b2W t n (a + 1)).1) (4 * k + 3) (b3W t n (a + 1)).1)) P) := by
        rw [x182_14]
        simp +decide only [x182_0, x182_1, x182_2, x182_5, x182_6, x182_7, x182_10, x182_11, x182_15, x182_18, x182_21, x182_22, x182_25, x182_26, x182_29, x182_32, x182_33, x182_34, x182_36, x182_39, x182_42, x182_43, x182_46, x182_49, x182_50, x182_53, x182_56, x182_57, x182_60, x182_63, x182_65, x182_68, x182_69, x182_72, aft_some, aft_void, Option.bind_some, Option.toList_some, Option.toList_none, List.cons_append, List.nil_append, if_true, if_false, ↓reduceIte, eq_self, z366_o, ↓z366_0, ↓z366_0p, ↓z366_1, ↓z366_2, ↓z366_3, ↓z366_4, ↓z366_4p, ↓z366_5, ↓z366_6, ↓z366_6p0, ↓z366_6p1, ↓z366_7, ↓z366_8, ↓z366_8p, ↓z366_9, ↓z366_9p, ↓z366_10, ↓z366_10p0, ↓z366_10p1, ↓z366_11, ↓z366_12, ↓z366_12p, ↓sg0, ↓sg1, ↓sg2, ↓sg3, ↓sg4, ↓sg5, ↓sg6, ↓sg7, ↓sg8, ↓sg9, ↓sg10, ↓sg11, ↓sg12, ↓sg13, ↓sg14, ↓sg15, ↓sg16, ↓sg17, ↓ss0, ↓ss1, ↓ss2, ↓ss3, ↓ss4, ↓ss5, ↓ss6, ↓ss7, ↓ss8, ↓ss9, ↓ss10, ↓ss11, ↓ss12, ↓ss13, ↓ss14, ↓ss15, ↓ss16, ↓ss17, uhT_8, uhT_9, uhT_10, uhT_12, uhT_371, uhT_372, uhT_0, uhT_a, uhT_w0, uhT_w1, uhT_k, uhT_g, h.1, elt, ↓aft_of (et), ↓aft_of (e0)]
      rw [nxt]
      rcases hge with z | z
      · exact ih (b3W t n (a + 1)).2.1 (b3W t n (a + 1)).2.2 _ _ (by omega) hB
      · exact stop _ _ _ _ hB (Or.inl z)
    · have hg : ¬ gS t n a = 59 := by rw [gS_lt hl]; exact h59
      rw [tk_no hg] at et
      have et : X 176 0 [.ref 366, .int 59, .long 0] [] (H (hT T (a, true) k g) P) = some (some (.int 0), H (hT T (a, true) k g) P) := et
      have hC2 : rdA n C = nI a := by rw [hC]; exact cl_bad hl (hE.2.2.2 hl h59)
      have nxt : X 182 14 [.ref 366] [] (H (hT T (a, true) k g) P) = X 182 14 [.ref 366] [] (H (hT T (a, false) k g) P) := by
        rw [x182_14]
        simp +decide only [x182_0, x182_1, x182_2, x182_5, x182_6, x182_7, x182_10, x182_11, x182_15, x182_18, x182_21, x182_22, x182_25, x182_26, x182_29, x182_32, x182_33, x182_34, x182_36, x182_39, x182_42, x182_43, x182_46, x182_49, x182_50, x182_53, x182_56, x182_57, x182_60, x182_63, x182_65, x182_68, x182_69, x182_72, aft_some, aft_void, Option.bind_some, Option.toList_some, Option.toList_none, List.cons_append, List.nil_append, if_true, if_false, ↓reduceIte, eq_self, z366_o, ↓z366_0, ↓z366_0p, ↓z366_1, ↓z366_2, ↓z366_3, ↓z366_4, ↓z366_4p, ↓z366_5, ↓z366_6, ↓z366_6p0, ↓z366_6p1, ↓z366_7, ↓z366_8, ↓z366_8p, ↓z366_9, ↓z366_9p, ↓z366_10, ↓z366_10p0, ↓z366_10p1, ↓z366_11, ↓z366_12, ↓z366_12p, ↓sg0, ↓sg1, ↓sg2, ↓sg3, ↓sg4, ↓sg5, ↓sg6, ↓sg7, ↓sg8, ↓sg9, ↓sg10, ↓sg11, ↓sg12, ↓sg13, ↓sg14, ↓sg15, ↓sg16, ↓sg17, ↓ss0, ↓ss1, ↓ss2, ↓ss3, ↓ss4, ↓ss5, ↓ss6, ↓ss7, ↓ss8, ↓ss9, ↓ss10, ↓ss11, ↓ss12, ↓ss13, ↓ss14, ↓ss15, ↓ss16, ↓ss17, uhT_8, uhT_9, uhT_10, uhT_12, uhT_371, uhT_372, uhT_0, uhT_a, uhT_w0, uhT_w1, uhT_k, uhT_g, h.1, elt, ↓aft_of (et)]
      rw [nxt]
      exact stop a false k g ⟨ha, Or.inl ⟨rfl, hC2⟩⟩ (Or.inl rfl)
theorem t_reads (h : TT T t n) : ∃ q k g, X 182 0 [.ref 366] [] (H T P) = some (some (.int (rdA n (rdG t n 0 r00))), H (hT T q k g) P) ∧ (rdA n (rdG t n 0 r00) = -5 → k = (rdG t n 0 r00).2.1 ∧ k ≤ 12 ∧ RB (rdG t n 0 r00).2 k g) := by
  have h60 := h.2.1
  have hB := LI.bk (t := t) (n := n) (k := 0) (g := T 372) (a := 0) (C := rdG t n 0 r00) (r := r00) h60 rfl rfl rfl (Nat.zero_le _) (Nat.le_refl _) (fun j hj => absurd hj (Nat.not_lt_zero j))
  have eb := t_basket (P := P) (k := 0) (g := T 372) (a := 0) h (Nat.zero_le _) (by decide)
  have hst : up1 (up1 (up1 T 366 9 0) 366 12 0) 366 10 1 = hT T (0, true) 0 (T 372) := by
    refine hT_ext (fun a h6 h7 => by rw [up1_n h6, up1_n h6, up1_n h6, hT_n h6 h7]) (fun j => ?_) (by rw [up1_n (by decide), up1_n (by decide), up1_n (by decide), uhT_372])
    rw [up1_s, up1_s, up1_s]
    by_cases h10 : j = 10
    · subst h10; rw [upA_s, uhT_10]; rfl
    · rw [upA_n _ _ h10]
      by_cases h12 : j = 12
      · subst h12; rw [upA_s, uhT_12]; rfl
      · rw [upA_n _ _ h12]
        by_cases h9 : j = 9
        · subst h9; rw [upA_s, uhT_9]; rfl
        · rw [upA_n _ _ h9, hT_366 h9 h10 h12]
  have e12 : up1 (up1 T 366 9 0) 366 12 0 366 12 = 0 := by rw [up1_s, upA_s]
  have e0 : X 181 0 [.ref 366, .long 0] [] (H (up1 (up1 T 366 9 0) 366 12 0) P) = X 181 12 [.ref 366, .int 0] [] (H (hT T (0, true) 0 (T 372)) P) := by
    simp +decide only [x181_0, x181_1, x181_2, x181_5, x181_6, x181_7, x181_8, x181_9, x181_13, x181_16, x181_17, x181_18, x181_19, x181_21, x181_24, x181_25, x181_26, x181_27, x181_29, x181_32, x181_35, x181_36, x181_39, x181_40, x181_41, x181_42, x181_43, x181_46, x181_47, x181_48, x181_51, x181_52, x181_53, x181_54, x181_55, x181_57, x181_60, x181_63, x181_64, x181_65, x181_66, x181_69, x181_72, x181_73, x181_74, x181_75, x181_78, x181_79, x181_80, x181_81, x181_82, x181_84, x181_87, x181_90, x181_91, x181_94, x181_97, x181_98, x181_99, x181_100, x181_101, x181_104, x181_105, x181_108, x181_111, x181_112, x181_115, x181_116, x181_117, x181_120, aft_some, aft_void, Option.bind_some, Option.toList_some, Option.toList_none, List.cons_append, List.nil_append, if_true, if_false, ↓reduceIte, eq_self, z366_o, ↓z366_0, ↓z366_0p, ↓z366_1, ↓z366_2, ↓z366_3, ↓z366_4, ↓z366_4p, ↓z366_5, ↓z366_6, ↓z366_6p0, ↓z366_6p1, ↓z366_7, ↓z366_8, ↓z366_8p, ↓z366_9, ↓z366_9p, ↓z366_10, ↓z366_10p0, ↓z366_10p1, ↓z366_11, ↓z366_12, ↓z366_12p, ↓sg0, ↓sg1, ↓sg2, ↓sg3, ↓sg4, ↓sg5, ↓sg6, ↓sg7, ↓sg8, ↓sg9, ↓sg10, ↓sg11, ↓sg12, ↓sg13, ↓sg14, ↓sg15, ↓sg16, ↓sg17, ↓ss0, ↓ss1, ↓ss2, ↓ss3, ↓ss4, ↓ss5, ↓ss6, ↓ss7, ↓ss8, ↓ss9, ↓ss10, ↓ss11, ↓ss12, ↓ss13, ↓ss14, ↓ss15, ↓ss16, ↓ss17, e12, hst, Int32.mul_zero]
  have eb : X 181 12 [.ref 366, .int 0] [] (H (hT T (0, true) 0 (T 372)) P) = _ := eb
  rw [eb] at e0
  obtain ⟨q, k, g, el, r⟩ := t_loop (P := P) h n _ _ _ _ (by omega) hB
  refine ⟨q, k, g, ?_, r⟩
  rw [← el]
  simp +decide only [x182_0, x182_1, x182_2, x182_5, x182_6, x182_7, x182_10, x182_11, x182_15, x182_18, x182_21, x182_22, x182_25, x182_26, x182_29, x182_32, x182_33, x182_34, x182_36, x182_39, x182_42, x182_43, x182_46, x182_49, x182_50, x182_53, x182_56, x182_57, x182_60, x182_63, x182_65, x182_68, x182_69, x182_72, aft_some, aft_void, Option.bind_some, Option.toList_some, Option.toList_none, List.cons_append, List.nil_append, if_true, if_false, ↓reduceIte, eq_self, z366_o, ↓z366_0, ↓z366_0p, ↓z366_1, ↓z366_2, ↓z366_3, ↓z366_4, ↓z366_4p, ↓z366_5, ↓z366_6, ↓z366_6p0, ↓z366_6p1, ↓z366_7, ↓z366_8, ↓z366_8p, ↓z366_9, ↓z366_9p, ↓z366_10, ↓z366_10p0, ↓z366_10p1, ↓z366_11, ↓z366_12, ↓z366_12p, ↓sg0, ↓sg1, ↓sg2, ↓sg3, ↓sg4, ↓sg5, ↓sg6, ↓sg7, ↓sg8, ↓sg9, ↓sg10, ↓sg11, ↓sg12, ↓sg13, ↓sg14, ↓sg15, ↓sg16, ↓sg17, ↓ss0, ↓ss1, ↓ss2, ↓ss3, ↓ss4, ↓ss5, ↓ss6, ↓ss7, ↓ss8, ↓ss9, ↓ss10, ↓ss11, ↓ss12, ↓ss13, ↓ss14, ↓ss15, ↓ss16, ↓ss17, ↓aft_of (e0)]
end QR
section QF
variable {T : Nat → Nat → Int32} {P : Nat → Nat → Nat} {f : Nat → Int32} {s : gT} {q : qT} {k : Nat} {g : Nat → Int32}
theorem CF.rdT (h : CF T f s) : CF (hT (upA T 367 f) q k g) ((hT (upA T 367 f) q k g) 367) s := by
  obtain ⟨⟨h0, hk, hh, hx⟩, hs⟩ := h
  have n : ∀ a, a ≠ 366 → a ≠ 372 → a ≠ 367 → hT (upA T 367 f) q k g a = T a := fun a h6 h7 h8 => by rw [hT_n h6 h7, upA_n _ _ h8]
  have n6 : ∀ j, j ≠ 9 → j ≠ 10 → j ≠ 12 → hT (upA T 367 f) q k g 366 j = T 366 j := fun j h1 h2 h3 => by rw [hT_366 h1 h2 h3, upA_n _ _ (by decide)]
  refine ⟨⟨by rw [n6 0 (by decide) (by decide) (by decide)]; exact h0, ?_, ?_, ?_⟩, ?_⟩
  · cases hq : s.2.1 with
    | none => rw [hq] at hk; exact (n6 6 (by decide) (by decide) (by decide)).trans hk
    | some v => rw [hq] at hk; exact ⟨(n6 6 (by decide) (by decide) (by decide)).trans hk.1, by rw [n 370 (by decide) (by decide) (by decide)]; exact hk.2⟩
  · exact hh.same (n6 4 (by decide) (by decide) (by decide)) (n 369 (by decide) (by decide) (by decide))
  · exact hx.same (n6 8 (by decide) (by decide) (by decide)) (n 371 (by decide) (by decide) (by decide))
  · rw [hT_n (by decide) (by decide), upA_s]; exact hs
theorem CF.tt (h : CF T f s) : TT (upA T 367 f) s.2.2.2.2 s.2.2.2.1 := by
  obtain ⟨⟨-, -, -, h8, h60, ht⟩, -⟩ := h
  exact ⟨by rw [upA_n _ _ (by decide)]; exact h8, h60, fun i hi => by rw [upA_n _ _ (by decide)]; exact ht i hi⟩
theorem q_fault (h : CF T f s) : RQ T P f 183 [.ref 366] (gFault s, s) := by
  have t0 := thr (f := f) h.1.1
  obtain ⟨q, k, g, e, -⟩ := t_reads (P := P) h.tt
  refine RQ.of (U := hT (upA T 367 f) q k g) ?_ (fun a ha => by rw [hT_n (by omega) (by omega), upA_n _ _ (by omega)]) h.rdT
  show X 183 0 [.ref 366] [] (H (upA T 367 f) P) = some (some (.int (rdA s.2.2.2.1 (rdG s.2.2.2.2 s.2.2.2.1 0 r00))), H (hT (upA T 367 f) q k g) P)
  simp +decide only [x183_0, x183_1, x183_2, x183_5, x183_6, x183_9, aft_some, aft_void, Option.bind_some, Option.toList_some, Option.toList_none, List.cons_append, List.nil_append, if_true, if_false, ↓reduceIte, eq_self, z366_o, ↓z366_0, ↓z366_0p, ↓z366_1, ↓z366_2, ↓z366_3, ↓z366_4, ↓z366_4p, ↓z366_5, ↓z366_6, ↓z366_6p0, ↓z366_6p1, ↓z366_7, ↓z366_8, ↓z366_8p, ↓z366_9, ↓z366_9p, ↓z366_10, ↓z366_10p0, ↓z366_10p1, ↓z366_11, ↓z366_12, ↓z366_12p, ↓sg0, ↓sg1, ↓sg2, ↓sg3, ↓sg4, ↓sg5, ↓sg6, ↓sg7, ↓sg8, ↓sg9, ↓sg10, ↓sg11, ↓sg12, ↓sg13, ↓sg14, ↓sg15, ↓sg16, ↓sg17, ↓ss0, ↓ss1, ↓ss2, ↓ss3, ↓ss4, ↓ss5, ↓ss6, ↓ss7, ↓ss8, ↓ss9, ↓ss10, ↓ss11, ↓ss12, ↓ss13, ↓ss14, ↓ss15, ↓ss16, ↓ss17, t0, ↓aft_of (e)]
end QF
end
section
/-! baskets, in the reference -/
section QB
variable {T U : Nat → Nat → Int32} {P : Nat → Nat → Nat} {f f' g : Nat → Int32} {s : gT} {u : uT} {L : List uT} {k : Nat}
/-- all baskets read, from the i-th on, m of them -/
theorem r_basks {c p st gg : Nat → Int32} (hk12 : k ≤ 12) (h12 : U 366 12 = nI k) (hc : ∀ j, j < k → U 372 (4 * j) = c j ∧ U 372 (4 * j + 1) = p j ∧ U 372 (4 * j + 2) = st j ∧ U 372 (4 * j + 3) = gg j) :
    ∀ (m i : Nat) (u : uT) (f' : Nat → Int32), i + m = k → sU f' u → WFu u → ∃ f'' v, X 152 29 [.ref 366, .int (-5), .int 0, .int (nI i)] [] (H (upA U 367 f') P) = X 152 137 [.ref 366, .int (-5), .int ((bsF c p st gg m i u).1.getD 0), v] [] (H (upA U 367 f'') P) ∧ ((bsF c p st gg m i u).1 = none → sU f'' (bsF c p st gg m i u).2) ∧ ∀ e, (bsF c p st gg m i u).1 = some e → (e = 0) = False := by
  intro m
  induction m with
  | zero =>
    intro i u f' hi hu hw
    have hi : i = k := by omega
    subst hi
    have nl := nI_nlt (Nat.le_refl i) (show i < 2 ^ 31 by omega)
    exact ⟨f', .int (nI i), by show _ = X 152 137 [.ref 366, .int (-5), .int 0, .int (nI i)] [] (H (upA U 367 f') P); rw [x152_29]; simp +decide only [x152_0, x152_1, x152_2, x152_5, x152_6, x152_9, x152_10, x152_11, x152_13, x152_16, x152_18, x152_19, x152_20, x152_21, x152_22, x152_25, x152_26, x152_27, x152_28, x152_30, x152_31, x152_34, x152_37, x152_38, x152_41, x152_42, x152_43, x152_46, x152_47, x152_48, x152_49, x152_50, x152_51, x152_54, x152_55, x152_56, x152_57, x152_58, x152_59, x152_60, x152_61, x152_64, x152_65, x152_66, x152_67, x152_68, x152_69, x152_70, x152_71, x152_74, x152_75, x152_76, x152_77, x152_78, x152_79, x152_80, x152_83, x152_84, x152_85, x152_88, x152_89, x152_90, x152_93, x152_94, x152_95, x152_96, x152_97, x152_98, x152_101, x152_102, x152_103, x152_104, x152_105, x152_106, x152_107, x152_108, x152_111, x152_112, x152_113, x152_114, x152_115, x152_116, x152_117, x152_118, x152_121, x152_122, x152_123, x152_124, x152_125, x152_126, x152_127, x152_130, x152_131, x152_134, x152_138, x152_141, x152_142, x152_145, x152_146, x152_147, x152_148, x152_151, x152_152, x152_153, x152_154, x152_157, x152_160, x152_161, x152_164, x152_167, x152_168, x152_171, x152_172, x152_173, x152_174, x152_175, x152_176, x152_177, x152_180, x152_181, x152_182, x152_183, x152_186, x152_189, x152_190, x152_193, aft_some, aft_void, Option.bind_some, Option.toList_some, Option.toList_none, List.cons_append, List.nil_append, if_true, if_false, ↓reduceIte, eq_self, z366_o, ↓z366_0, ↓z366_0p, ↓z366_1, ↓z366_2, ↓z366_3, ↓z366_4, ↓z366_4p, ↓z366_5, ↓z366_6, ↓z366_6p0, ↓z366_6p1, ↓z366_7, ↓z366_8, ↓z366_8p, ↓z366_9, ↓z366_9p, ↓z366_10, ↓z366_10p0, ↓z366_10p1, ↓z366_11, ↓z366_12, ↓z366_12p, ↓sg0, ↓sg1, ↓sg2, ↓sg3, ↓sg4, ↓sg5, ↓sg6, ↓sg7, ↓sg8, ↓sg9, ↓sg10, ↓sg11, ↓sg12, ↓sg13, ↓sg14, ↓sg15, ↓sg16, ↓sg17, ↓ss0, ↓ss1, ↓ss2, ↓ss3, ↓ss4, ↓ss5, ↓ss6, ↓ss7, ↓ss8, ↓ss9, ↓ss10, ↓ss11, ↓ss12, ↓ss13, ↓ss14, ↓ss15, ↓ss16, ↓ss17, upA_s, u_n, h12, nl], fun _ => hu, fun e he => nomatch he⟩
  | succ m ih =>
    intro i u f' hi hu hw
    have hlt : nI i < nI k := nI_lt (show i < k by omega) (by omega)
    obtain ⟨w1, w2, w3, w4⟩ := hc i (by omega)
    have m0 : 4 * nI i = nI (4 * i) := nI_mul 4 i
    have m1 : nI (4 * i) + 1 = nI (4 * i + 1) := nI_add _ 1
    have m2 : nI (4 * i) + 2 = nI (4 * i + 2) := nI_add _ 2
    have m3 : nI (4 * i) + 3 = nI (4 * i + 3) := nI_add _ 3
    have ni1 : nI i + 1 = nI (i + 1) := nI_add _ 1
    have er := r_refuses (T := U) (P := P) (x := c i) (y := p i) (z := st i) (w := gg i) hu hw.1
    rw [show rfI (u.1.1 1) u.1.2.2.1 u.2.length (u.1.1 2) (c i) (p i) (st i) (gg i) = rfU u (c i) (p i) (st i) (gg i) from rfl] at er
    by_cases c2 : rfU u (c i) (p i) (st i) (gg i) < 0
    · have hb : bsF c p st gg (m + 1) i u = (some (rfU u (c i) (p i) (st i) (gg i)), u) := if_pos c2
      rw [hb]
      have hne : (rfU u (c i) (p i) (st i) (gg i) = 0) = False := eq_false (fun e => by rw [e] at c2; exact absurd c2 (by decide))
      have hz1 : (some (rfU u (c i) (p i) (st i) (gg i)), u).1 = none → sU f' (some (rfU u (c i) (p i) (st i) (gg i)), u).2 := fun hq => nomatch hq
      have hz2 : ∀ e, (some (rfU u (c i) (p i) (st i) (gg i)), u).1 = some e → (e = 0) = False := fun e he => by rw [← Option.some.inj he]; exact hne
      refine ⟨f', .int (nI (i + 1)), ?_, hz1, hz2⟩
      clear hz1 hz2
      show _ = X 152 137 [.ref 366, .int (-5), .int (rfU u (c i) (p i) (st i) (gg i)), .int (nI (i + 1))] [] (H (upA U 367 f') P)
      obtain ⟨z, hz⟩ : ∃ z, z = rfU u (c i) (p i) (st i) (gg i) := ⟨_, rfl⟩
      rw [← hz] at er hne ⊢
      have e29 : X 152 29 [.ref 366, .int (-5), .int 0, .int (nI i)] [] (H (upA U 367 f') P) = X 152 29 [.ref 366, .int (-5), .int z, .int (nI (i + 1))] [] (H (upA U 367 f') P) := by
        rw [x152_29]
        simp +decide only [x152_0, x152_1, x152_2, x152_5, x152_6, x152_9, x152_10, x152_11, x152_13, x152_16, x152_18, x152_19, x152_20, x152_21, x152_22, x152_25, x152_26, x152_27, x152_28, x152_30, x152_31, x152_34, x152_37, x152_38, x152_41, x152_42, x152_43, x152_46, x152_47, x152_48, x152_49, x152_50, x152_51, x152_54, x152_55, x152_56, x152_57, x152_58, x152_59, x152_60, x152_61, x152_64, x152_65, x152_66, x152_67, x152_68, x152_69, x152_70, x152_71, x152_74, x152_75, x152_76, x152_77, x152_78, x152_79, x152_80, x152_83, x152_84, x152_85, x152_88, x152_89, x152_90, x152_93, x152_94, x152_95, x152_96, x152_97, x152_98, x152_101, x152_102, x152_103, x152_104, x152_105, x152_106, x152_107, x152_108, x152_111, x152_112, x152_113, x152_114, x152_115, x152_116, x152_117, x152_118, x152_121, x152_122, x152_123, x152_124, x152_125, x152_126, x152_127, x152_130, x152_131, x152_134, x152_138, x152_141, x152_142, x152_145, x152_146, x152_147, x152_148, x152_151, x152_152, x152_153, x152_154, x152_157, x152_160, x152_161, x152_164, x152_167, x152_168, x152_171, x152_172, x152_173, x152_174, x152_175, x152_176, x152_177, x152_180, x152_181, x152_182, x152_183, x152_186, x152_189, x152_190, x152_193, aft_some, aft_void, Option.bind_some, Option.toList_some, Option.toList_none, List.cons_append, List.nil_append, if_true, if_false, ↓reduceIte, eq_self, z366_o, ↓z366_0, ↓z366_0p, ↓z366_1, ↓z366_2, ↓z366_3, ↓z366_4, ↓z366_4p, ↓z366_5, ↓z366_6, ↓z366_6p0, ↓z366_6p1, ↓z366_7, ↓z366_8, ↓z366_8p, ↓z366_9, ↓z366_9p, ↓z366_10, ↓z366_10p0, ↓z366_10p1, ↓z366_11, ↓z366_12, ↓z366_12p, ↓sg0, ↓sg1, ↓sg2, ↓sg3, ↓sg4, ↓sg5, ↓sg6, ↓sg7, ↓sg8, ↓sg9, ↓sg10, ↓sg11, ↓sg12, ↓sg13, ↓sg14, ↓sg15, ↓sg16, ↓sg17, ↓ss0, ↓ss1, ↓ss2, ↓ss3, ↓ss4, ↓ss5, ↓ss6, ↓ss7, ↓ss8, ↓ss9, ↓ss10, ↓ss11, ↓ss12, ↓ss13, ↓ss14, ↓ss15, ↓ss16, ↓ss17, upA_s, u_n, h12, hlt, m0, m1, m2, m3, ni1, ↓a372_g (show 4 * i < 64 by omega), ↓a372_g (show 4 * i + 1 < 64 by omega), ↓a372_g (show 4 * i + 2 < 64 by omega), ↓a372_g (show 4 * i + 3 < 64 by omega), w1, w2, w3, w4, ↓aft_of (er), hne]
      rw [e29, x152_29]
      by_cases c3 : nI (i + 1) < nI k
      · simp +decide only [x152_0, x152_1, x152_2, x152_5, x152_6, x152_9, x152_10, x152_11, x152_13, x152_16, x152_18, x152_19, x152_20, x152_21, x152_22, x152_25, x152_26, x152_27, x152_28, x152_30, x152_31, x152_34, x152_37, x152_38, x152_41, x152_42, x152_43, x152_46, x152_47, x152_48, x152_49, x152_50, x152_51, x152_54, x152_55, x152_56, x152_57, x152_58, x152_59, x152_60, x152_61, x152_64, x152_65, x152_66, x152_67, x152_68, x152_69, x152_70, x152_71, x152_74, x152_75, x152_76, x152_77, x152_78, x152_79, x152_80, x152_83, x152_84, x152_85, x152_88, x152_89, x152_90, x152_93, x152_94, x152_95, x152_96, x152_97, x152_98, x152_101, x152_102, x152_103, x152_104, x152_105, x152_106, x152_107, x152_108, x152_111, x152_112, x152_113, x152_114, x152_115, x152_116, x152_117, x152_118, x152_121, x152_122, x152_123, x152_124, x152_125, x152_126, x152_127, x152_130, x152_131, x152_134, x152_138, x152_141, x152_142, x152_145, x152_146, x152_147, x152_148, x152_151, x152_152, x152_153, x152_154, x152_157, x152_160, x152_161, x152_164, x152_167, x152_168, x152_171, x152_172, x152_173, x152_174, x152_175, x152_176, x152_177, x152_180, x152_181, x152_182, x152_183, x152_186, x152_189, x152_190, x152_193, aft_some, aft_void, Option.bind_some, Option.toList_some, Option.toList_none, List.cons_append, List.nil_append, if_true, if_false, ↓reduceIte, eq_self, z366_o, ↓z366_0, ↓z366_0p, ↓z366_1, ↓z366_2, ↓z366_3, ↓z366_4, ↓z366_4p, ↓z366_5, ↓z366_6, ↓z366_6p0, ↓z366_6p1, ↓z366_7, ↓z366_8, ↓z366_8p, ↓z366_9, ↓z366_9p, ↓z366_10, ↓z366_10p0, ↓z366_10p1, ↓z366_11, ↓z366_12, ↓z366_12p, ↓sg0, ↓sg1, ↓sg2, ↓sg3, ↓sg4, ↓sg5, ↓sg6, ↓sg7, ↓sg8, ↓sg9, ↓sg10, ↓sg11, ↓sg12, ↓sg13, ↓sg14, ↓sg15, ↓sg16, ↓sg17, ↓ss0, ↓ss1, ↓ss2, ↓ss3, ↓ss4, ↓ss5, ↓ss6, ↓ss7, ↓ss8, ↓ss9, ↓ss10, ↓ss11, ↓ss12, ↓ss13, ↓ss14, ↓ss15, ↓ss16, ↓ss17, upA_s, u_n, h12, c3, hne]
      · simp +decide only [x152_0, x152_1, x152_2, x152_5, x152_6, x152_9, x152_10, x152_11, x152_13, x152_16, x152_18, x152_19, x152_20, x152_21, x152_22, x152_25, x152_26, x152_27, x152_28, x152_30, x152_31, x152_34, x152_37, x152_38, x152_41, x152_42, x152_43, x152_46, x152_47, x152_48, x152_49, x152_50, x152_51, x152_54, x152_55, x152_56, x152_57, x152_58, x152_59, x152_60, x152_61, x152_64, x152_65, x152_66, x152_67, x152_68, x152_69, x152_70, x152_71, x152_74, x152_75, x152_76, x152_77, x152_78, x152_79, x152_80, x152_83, x152_84, x152_85, x152_88, x152_89, x152_90, x152_93, x152_94, x152_95, x152_96, x152_97, x152_98, x152_101, x152_102, x152_103, x152_104, x152_105, x152_106, x152_107, x152_108, x152_111, x152_112, x152_113, x152_114, x152_115, x152_116, x152_117, x152_118, x152_121, x152_122, x152_123, x152_124, x152_125, x152_126, x152_127, x152_130, x152_131, x152_134, x152_138, x152_141, x152_142, x152_145, x152_146, x152_147, x152_148, x152_151, x152_152, x152_153, x152_154, x152_157, x152_160, x152_161, x152_164, x152_167, x152_168, x152_171, x152_172, x152_173, x152_174, x152_175, x152_176, x152_177, x152_180, x152_181, x152_182, x152_183, x152_186, x152_189, x152_190, x152_193, aft_some, aft_void, Option.bind_some, Option.toList_some, Option.toList_none, List.cons_append, List.nil_append, if_true, if_false, ↓reduceIte, eq_self, z366_o, ↓z366_0, ↓z366_0p, ↓z366_1, ↓z366_2, ↓z366_3, ↓z366_4, ↓z366_4p, ↓z366_5, ↓z366_6, ↓z366_6p0, ↓z366_6p1, ↓z366_7, ↓z366_8, ↓z366_8p, ↓z366_9, ↓z366_9p, ↓z366_10, ↓z366_10p0, ↓z366_10p1, ↓z366_11, ↓z366_12, ↓z366_12p, ↓sg0, ↓sg1, ↓sg2, ↓sg3, ↓sg4, ↓sg5, ↓sg6, ↓sg7, ↓sg8, ↓sg9, ↓sg10, ↓sg11, ↓sg12, ↓sg13, ↓sg14, ↓sg15, ↓sg16, ↓sg17, ↓ss0, ↓ss1, ↓ss2, ↓ss3, ↓ss4, ↓ss5, ↓ss6, ↓ss7, ↓ss8, ↓ss9, ↓ss10, ↓ss11, ↓ss12, ↓ss13, ↓ss14, ↓ss15, ↓ss16, ↓ss17, upA_s, u_n, h12, c3, hne]
    · have hb : bsF c p st gg (m + 1) i u = bsF c p st gg m (i + 1) (bkU u (c i).toNatClampNeg (gg i).toNatClampNeg (p i) (st i)) := if_neg c2
      rw [hb]
      have hwn := bkU_wf hw c2
      obtain ⟨a0, a1, a2, a3, b0, b1, b2, b3⟩ : ∃ x y z w, x = c i ∧ y = p i ∧ z = st i ∧ w = gg i := ⟨_, _, _, _, rfl, rfl, rfl, rfl⟩
      rw [← b0, ← b1, ← b2, ← b3] at er c2 hwn ⊢
      rw [← b0] at w1
      rw [← b1] at w2
      rw [← b2] at w3
      rw [← b3] at w4
      obtain ⟨e0, kk, x, y, z, hk, ek, hx, ex, hy, ey, hz, hzo, ez, h8, h99⟩ := rf_ok hw c2
      rw [e0] at er
      have hN1 := hw.1.1.2.1
      obtain ⟨f1, ec, hs'⟩ := r_comes (T := U) (P := P) (st := nI y) hu hw.1 hx hk h8 h99 hzo
      rw [← ek, ← ex, ← ey, ← ez] at ec
      have hcl1 : a0.toNatClampNeg = kk := by rw [ek, nI_clamp (by omega)]
      have hcl4 : a3.toNatClampNeg = z := by rw [ez, nI_clamp (by omega)]
      have hs2 : sU f1 (bkU u a0.toNatClampNeg a3.toNatClampNeg a1 a2) := by
        rw [hcl1, hcl4, ex, ey]
        exact hs'
      obtain ⟨f2, v, e2, r⟩ := ih (i + 1) _ f1 (by omega) hs2 hwn
      refine ⟨f2, v, ?_, r⟩
      rw [← e2, x152_29]
      simp +decide only [x152_0, x152_1, x152_2, x152_5, x152_6, x152_9, x152_10, x152_11, x152_13, x152_16, x152_18, x152_19, x152_20, x152_21, x152_22, x152_25, x152_26, x152_27, x152_28, x152_30, x152_31, x152_34, x152_37, x152_38, x152_41, x152_42, x152_43, x152_46, x152_47, x152_48, x152_49, x152_50, x152_51, x152_54, x152_55, x152_56, x152_57, x152_58, x152_59, x152_60, x152_61, x152_64, x152_65, x152_66, x152_67, x152_68, x152_69, x152_70, x152_71, x152_74, x152_75, x152_76, x152_77, x152_78, x152_79, x152_80, x152_83, x152_84, x152_85, x152_88, x152_89, x152_90, x152_93, x152_94, x152_95, x152_96, x152_97, x152_98, x152_101, x152_102, x152_103, x152_104, x152_105, x152_106, x152_107, x152_108, x152_111, x152_112, x152_113, x152_114, x152_115, x152_116, x152_117, x152_118, x152_121, x152_122, x152_123, x152_124, x152_125, x152_126, x152_127, x152_130, x152_131, x152_134, x152_138, x152_141, x152_142, x152_145, x152_146, x152_147, x152_148, x152_151, x152_152, x152_153, x152_154, x152_157, x152_160, x152_161, x152_164, x152_167, x152_168, x152_171, x152_172, x152_173, x152_174, x152_175, x152_176, x152_177, x152_180, x152_181, x152_182, x152_183, x152_186, x152_189, x152_190, x152_193, aft_some, aft_void, Option.bind_some, Option.toList_some, Option.toList_none, List.cons_append, List.nil_append, if_true, if_false, ↓reduceIte, eq_self, z366_o, ↓z366_0, ↓z366_0p, ↓z366_1, ↓z366_2, ↓z366_3, ↓z366_4, ↓z366_4p, ↓z366_5, ↓z366_6, ↓z366_6p0, ↓z366_6p1, ↓z366_7, ↓z366_8, ↓z366_8p, ↓z366_9, ↓z366_9p, ↓z366_10, ↓z366_10p0, ↓z366_10p1, ↓z366_11, ↓z366_12, ↓z366_12p, ↓sg0, ↓sg1, ↓sg2, ↓sg3, ↓sg4, ↓sg5, ↓sg6, ↓sg7, ↓sg8, ↓sg9, ↓sg10, ↓sg11, ↓sg12, ↓sg13, ↓sg14, ↓sg15, ↓sg16, ↓sg17, ↓ss0, ↓ss1, ↓ss2, ↓ss3, ↓ss4, ↓ss5, ↓ss6, ↓ss7, ↓ss8, ↓ss9, ↓ss10, ↓ss11, ↓ss12, ↓ss13, ↓ss14, ↓ss15, ↓ss16, ↓ss17, upA_s, u_n, h12, hlt, m0, m1, m2, m3, ni1, ↓a372_g (show 4 * i < 64 by omega), ↓a372_g (show 4 * i + 1 < 64 by omega), ↓a372_g (show 4 * i + 2 < 64 by omega), ↓a372_g (show 4 * i + 3 < 64 by omega), w1, w2, w3, w4, ↓aft_of (er), ↓aft_of (ec)]
/-- the state as it was takes the last place of the history -/
theorem hR.last (h : hR T ((u :: L).take 4)) (hL : ∀ v ∈ L, WFu v) {v : uT} (hv : sU g v) (h4 : U 366 4 = T 366 4) (ha : ∀ k, k < 912 → U 369 (912 * (((u :: L).take 4).length - 1) + k) = g k) (hw : WFu v) (hk : ∀ k, k < 912 * (((u :: L).take 4).length - 1) → U 369 k = T 369 k) : hR U ((v :: L).take 4) := by
  obtain ⟨h1, h2, h3⟩ := h
  have hl : ((v :: L).take 4).length = ((u :: L).take 4).length := by rw [List.length_take, List.length_take]; rfl
  refine ⟨?_, by rw [hl]; exact h2, fun j w hj => ?_⟩
  · rw [h4, hl]; exact h1
  rw [hl]
  cases j with
  | zero =>
    cases hj
    exact sU.same hv hw (fun k hk => by show U 369 (912 * (_ - 1 - 0) + k) = _; exact ha k hk)
  | succ j =>
    have hj : (L.take 3)[j]? = some w := hj
    have hw' : WFu w := hL w (List.mem_of_mem_take (List.mem_of_getElem? hj))
    have hj2 : ((u :: L).take 4)[j + 1]? = some w := hj
    refine sU.same (h3 (j + 1) w hj2) hw' (fun k hk' => hk _ ?_)
    have := (List.getElem?_eq_some_iff.mp hj2).1
    omega
theorem q_bkts (h : CF T f s) (hw : WG s) : RQ T P f 152 [.ref 366, .long 0, .long 0, .long 0] (gBkts s) := by
  have t0 := thr (f := f) h.1.1
  obtain ⟨q, k, g, e, hk⟩ := t_reads (P := P) h.tt
  obtain ⟨n, hn⟩ : ∃ n, n = gFault s := ⟨_, rfl⟩
  have e : X 182 0 [.ref 366] [] (H (upA T 367 f) P) = some (some (.int n), H (hT (upA T 367 f) q k g) P) := by rw [hn]; exact e
  have h1 : CF (hT (upA T 367 f) q k g) ((hT (upA T 367 f) q k g) 367) s := h.rdT
  unfold gBkts
  rw [← hn]
  by_cases c1 : ¬ n = -5
  · rw [if_neg c1]
    refine RQ.of (U := hT (upA T 367 f) q k g) ?_ (fun a ha => by rw [hT_n (by omega) (by omega), upA_n _ _ (by omega)]) h1
    simp +decide only [x152_0, x152_1, x152_2, x152_5, x152_6, x152_9, x152_10, x152_11, x152_13, x152_16, x152_18, x152_19, x152_20, x152_21, x152_22, x152_25, x152_26, x152_27, x152_28, x152_30, x152_31, x152_34, x152_37, x152_38, x152_41, x152_42, x152_43, x152_46, x152_47, x152_48, x152_49, x152_50, x152_51, x152_54, x152_55, x152_56, x152_57, x152_58, x152_59, x152_60, x152_61, x152_64, x152_65, x152_66, x152_67, x152_68, x152_69, x152_70, x152_71, x152_74, x152_75, x152_76, x152_77, x152_78, x152_79, x152_80, x152_83, x152_84, x152_85, x152_88, x152_89, x152_90, x152_93, x152_94, x152_95, x152_96, x152_97, x152_98, x152_101, x152_102, x152_103, x152_104, x152_105, x152_106, x152_107, x152_108, x152_111, x152_112, x152_113, x152_114, x152_115, x152_116, x152_117, x152_118, x152_121, x152_122, x152_123, x152_124, x152_125, x152_126, x152_127, x152_130, x152_131, x152_134, x152_138, x152_141, x152_142, x152_145, x152_146, x152_147, x152_148, x152_151, x152_152, x152_154, x152_157, x152_160, x152_161, x152_164, x152_167, x152_168, x152_171, x152_172, x152_173, x152_174, x152_175, x152_176, x152_177, x152_180, x152_181, x152_182, x152_183, x152_186, x152_189, x152_190, x152_193, aft_some, aft_void, Option.bind_some, Option.toList_some, Option.toList_none, List.cons_append, List.nil_append, if_true, if_false, ↓reduceIte, eq_self, z366_o, ↓z366_0, ↓z366_0p, ↓z366_1, ↓z366_2, ↓z366_3, ↓z366_4, ↓z366_4p, ↓z366_5, ↓z366_6, ↓z366_6p0, ↓z366_6p1, ↓z366_7, ↓z366_8, ↓z366_8p, ↓z366_9, ↓z366_9p, ↓z366_10, ↓z366_10p0, ↓z366_10p1, ↓z366_11, ↓z366_12, ↓z366_12p, ↓sg0, ↓sg1, ↓sg2, ↓sg3, ↓sg4, ↓sg5, ↓sg6, ↓sg7, ↓sg8, ↓sg9, ↓sg10, ↓sg11, ↓sg12, ↓sg13, ↓sg14, ↓sg15, ↓sg16, ↓sg17, ↓ss0, ↓ss1, ↓ss2, ↓ss3, ↓ss4, ↓ss5, ↓ss6, ↓ss7, ↓ss8, ↓ss9, ↓ss10, ↓ss11, ↓ss12, ↓ss13, ↓ss14, ↓ss15, ↓ss16, ↓ss17, t0, ↓aft_of (e), c1]
  have c1 : n = -5 := Decidable.not_not.mp c1
  rw [if_pos c1]
  obtain ⟨ek, hk12, rb⟩ := hk (hn.symm.trans c1)
  rw [c1] at e
  obtain ⟨T1, hT1⟩ : ∃ T1, T1 = hT (upA T 367 f) q k g := ⟨_, rfl⟩
  have g12 : T1 366 12 = nI k := by rw [hT1]; exact uhT_12
  have g372 : T1 372 = g := by rw [hT1]; exact uhT_372
  have fr1 : ∀ a, a < 366 → T1 a = T a := fun a ha => by rw [hT1, hT_n (by omega) (by omega), upA_n _ _ (by omega)]
  rw [← hT1] at e h1
  obtain ⟨U, ea, fa, ga, hU⟩ := q_aside (P := P) h1
  rw [upA_self] at ea
  have hc : ∀ j, j < k → U 372 (4 * j) = (txC s).2.2.2.2.1 j ∧ U 372 (4 * j + 1) = (txC s).2.2.2.2.2.1 j ∧ U 372 (4 * j + 2) = (txC s).2.2.2.2.2.2.1 j ∧ U 372 (4 * j + 3) = (txC s).2.2.2.2.2.2.2 j := by
    rw [fa 372 (by decide), g372]
    intro j hj
    obtain ⟨q1, q2, q3, q4⟩ := rb j hj
    exact ⟨q1.symm, q2.symm, q3.symm, q4.symm⟩
  have u12 : U 366 12 = nI k := by rw [fa 366 (by decide)]; exact g12
  obtain ⟨f2, v, eb, hb, hbe⟩ := r_basks (P := P) hk12 u12 hc k 0 s.1 (T1 367) (by omega) hU.2 hw.1
  have est : X 152 0 [.ref 366, .long 0, .long 0, .long 0] [] (H (upA T 367 f) P) = X 152 137 [.ref 366, .int (-5), .int ((bsF (txC s).2.2.2.2.1 (txC s).2.2.2.2.2.1 (txC s).2.2.2.2.2.2.1 (txC s).2.2.2.2.2.2.2 k 0 s.1).1.getD 0), v] [] (H (upA U 367 f2) P) := by
    have eb : X 152 29 [.ref 366, .int (-5), .int 0, .int 0] [] (H (upA U 367 (T1 367)) P) = _ := eb
    rw [← eb]
    simp +decide only [x152_0, x152_1, x152_2, x152_5, x152_6, x152_9, x152_10, x152_11, x152_13, x152_16, x152_18, x152_19, x152_20, x152_21, x152_22, x152_25, x152_26, x152_27, x152_28, x152_30, x152_31, x152_34, x152_37, x152_38, x152_41, x152_42, x152_43, x152_46, x152_47, x152_48, x152_49, x152_50, x152_51, x152_54, x152_55, x152_56, x152_57, x152_58, x152_59, x152_60, x152_61, x152_64, x152_65, x152_66, x152_67, x152_68, x152_69, x152_70, x152_71, x152_74, x152_75, x152_76, x152_77, x152_78, x152_79, x152_80, x152_83, x152_84, x152_85, x152_88, x152_89, x152_90, x152_93, x152_94, x152_95, x152_96, x152_97, x152_98, x152_101, x152_102, x152_103, x152_104, x152_105, x152_106, x152_107, x152_108, x152_111, x152_112, x152_113, x152_114, x152_115, x152_116, x152_117, x152_118, x152_121, x152_122, x152_123, x152_124, x152_125, x152_126, x152_127, x152_130, x152_131, x152_134, x152_138, x152_141, x152_142, x152_145, x152_146, x152_147, x152_148, x152_151, x152_152, x152_154, x152_157, x152_160, x152_161, x152_164, x152_167, x152_168, x152_171, x152_172, x152_173, x152_174, x152_175, x152_176, x152_177, x152_180, x152_181, x152_182, x152_183, x152_186, x152_189, x152_190, x152_193, aft_some, aft_void, Option.bind_some, Option.toList_some, Option.toList_none, List.cons_append, List.nil_append, if_true, if_false, ↓reduceIte, eq_self, z366_o, ↓z366_0, ↓z366_0p, ↓z366_1, ↓z366_2, ↓z366_3, ↓z366_4, ↓z366_4p, ↓z366_5, ↓z366_6, ↓z366_6p0, ↓z366_6p1, ↓z366_7, ↓z366_8, ↓z366_8p, ↓z366_9, ↓z366_9p, ↓z366_10, ↓z366_10p0, ↓z366_10p1, ↓z366_11, ↓z366_12, ↓z366_12p, ↓sg0, ↓sg1, ↓sg2, ↓sg3, ↓sg4, ↓sg5, ↓sg6, ↓sg7, ↓sg8, ↓sg9, ↓sg10, ↓sg11, ↓sg12, ↓sg13, ↓sg14, ↓sg15, ↓sg16, ↓sg17, ↓ss0, ↓ss1, ↓ss2, ↓ss3, ↓ss4, ↓ss5, ↓ss6, ↓ss7, ↓ss8, ↓ss9, ↓ss10, ↓ss11, ↓ss12, ↓ss13, ↓ss14, ↓ss15, ↓ss16, ↓ss17, t0, ↓aft_of (e), ↓aft_of (ea)]
  rw [ek] at est hb hbe
  have frU : ∀ a, a < 366 → U a = T a := fun a ha => (fa a (by omega)).trans (fr1 a ha)
  cases hbs : (bkS s).1 with
  | some er =>
    have hbs : (bsF (txC s).2.2.2.2.1 (txC s).2.2.2.2.2.1 (txC s).2.2.2.2.2.2.1 (txC s).2.2.2.2.2.2.2 (txC s).2.1 0 s.1).1 = some er := hbs
    rw [hbs] at est
    have est : _ = X 152 137 [.ref 366, .int (-5), .int er, v] [] (H (upA U 367 f2) P) := est
    have hne := hbe er hbs
    obtain ⟨U', f3, e3, fr3, h3⟩ := q_back (P := P) (g := f2) hU hw ga
    refine ⟨U', f3, ?_, fun a ha => (fr3 a ha).trans (frU a ha), h3⟩
    rw [est, x152_137]
    simp +decide only [x152_0, x152_1, x152_2, x152_5, x152_6, x152_9, x152_10, x152_11, x152_13, x152_16, x152_18, x152_19, x152_20, x152_21, x152_22, x152_25, x152_26, x152_27, x152_28, x152_30, x152_31, x152_34, x152_37, x152_38, x152_41, x152_42, x152_43, x152_46, x152_47, x152_48, x152_49, x152_50, x152_51, x152_54, x152_55, x152_56, x152_57, x152_58, x152_59, x152_60, x152_61, x152_64, x152_65, x152_66, x152_67, x152_68, x152_69, x152_70, x152_71, x152_74, x152_75, x152_76, x152_77, x152_78, x152_79, x152_80, x152_83, x152_84, x152_85, x152_88, x152_89, x152_90, x152_93, x152_94, x152_95, x152_96, x152_97, x152_98, x152_101, x152_102, x152_103, x152_104, x152_105, x152_106, x152_107, x152_108, x152_111, x152_112, x152_113, x152_114, x152_115, x152_116, x152_117, x152_118, x152_121, x152_122, x152_123, x152_124, x152_125, x152_126, x152_127, x152_130, x152_131, x152_134, x152_138, x152_141, x152_142, x152_145, x152_146, x152_147, x152_148, x152_151, x152_152, x152_154, x152_157, x152_160, x152_161, x152_164, x152_167, x152_168, x152_171, x152_172, x152_173, x152_174, x152_175, x152_176, x152_177, x152_180, x152_181, x152_182, x152_183, x152_186, x152_189, x152_190, x152_193, aft_some, aft_void, Option.bind_some, Option.toList_some, Option.toList_none, List.cons_append, List.nil_append, if_true, if_false, ↓reduceIte, eq_self, z366_o, ↓z366_0, ↓z366_0p, ↓z366_1, ↓z366_2, ↓z366_3, ↓z366_4, ↓z366_4p, ↓z366_5, ↓z366_6, ↓z366_6p0, ↓z366_6p1, ↓z366_7, ↓z366_8, ↓z366_8p, ↓z366_9, ↓z366_9p, ↓z366_10, ↓z366_10p0, ↓z366_10p1, ↓z366_11, ↓z366_12, ↓z366_12p, ↓sg0, ↓sg1, ↓sg2, ↓sg3, ↓sg4, ↓sg5, ↓sg6, ↓sg7, ↓sg8, ↓sg9, ↓sg10, ↓sg11, ↓sg12, ↓sg13, ↓sg14, ↓sg15, ↓sg16, ↓sg17, ↓ss0, ↓ss1, ↓ss2, ↓ss3, ↓ss4, ↓ss5, ↓ss6, ↓ss7, ↓ss8, ↓ss9, ↓ss10, ↓ss11, ↓ss12, ↓ss13, ↓ss14, ↓ss15, ↓ss16, ↓ss17, hne, ↓aft_of (e3)]
  | none =>
    have hbs : (bsF (txC s).2.2.2.2.1 (txC s).2.2.2.2.2.1 (txC s).2.2.2.2.2.2.1 (txC s).2.2.2.2.2.2.2 (txC s).2.1 0 s.1).1 = none := hbs
    rw [hbs] at est
    have est : _ = X 152 137 [.ref 366, .int (-5), .int 0, v] [] (H (upA U 367 f2) P) := est
    have hs2 : sU f2 (bkS s).2 := hb hbs
    have hwb : WFu (bkS s).2 := bsF_wf hw.1
    have hU2 : CF U f2 ((bkS s).2, s.2) := ⟨hU.1, hs2⟩
    have hw2 : WG ((bkS s).2, s.2) := ⟨hwb, hw.2⟩
    obtain ⟨W, ep, fp, fp6, hW⟩ := hU2.push (P := P) hw2
    obtain ⟨l, hl⟩ : ∃ l, l + 1 = ((((bkS s).2 :: s.2.2.1).take 4)).length := ⟨min 4 (s.2.2.1.length + 1) - 1, by rw [List.length_take, List.length_cons]; omega⟩
    have hl4 : l < 4 := by rw [List.length_take] at hl; omega
    have w4 : W 366 4 = nI (l + 1) := by rw [hl]; exact hW.1.2.2.1.1
    obtain ⟨Y, ec, fc, gc, gk⟩ := cp_bsk (P := P) (v1 := .int (-5)) (v2 := .int 0) (T := upA W 367 f2) (by rw [upA_n _ _ (by decide)]; exact w4) hl4
    have ec : X 152 153 [.ref 366, .int (-5), .int 0, .int 0] [] (H (upA W 367 f2) P) = X 152 153 [.ref 366, .int (-5), .int 0, .int 912] [] (H Y P) := ec
    have yw : ∀ a, a ≠ 369 → a ≠ 367 → Y a = W a := fun a h9 h7 => by rw [fc a h9, upA_n _ _ h7]
    have y12 : Y 366 12 = nI (txC s).2.1 := by rw [yw 366 (by decide) (by decide), fp6 12 (by decide), u12, ek]
    have y368 : ∀ k, k < 912 → W 368 k = T1 367 k := fun k hk => by rw [fp 368 (by decide) (by decide)]; exact ga k hk
    refine RQ.of (U := Y) ?_ (fun a ha => ?_) ⟨⟨?_, ?_, ?_, ?_⟩, ?_⟩
    · rw [est, x152_137]
      have e9 : X 152 153 [.ref 366, .int (-5), .int 0, .int 912] [] (H Y P) = some (some (.int (nI (txC s).2.1)), H Y P) := by
        rw [x152_153]
        simp +decide only [x152_0, x152_1, x152_2, x152_5, x152_6, x152_9, x152_10, x152_11, x152_13, x152_16, x152_18, x152_19, x152_20, x152_21, x152_22, x152_25, x152_26, x152_27, x152_28, x152_30, x152_31, x152_34, x152_37, x152_38, x152_41, x152_42, x152_43, x152_46, x152_47, x152_48, x152_49, x152_50, x152_51, x152_54, x152_55, x152_56, x152_57, x152_58, x152_59, x152_60, x152_61, x152_64, x152_65, x152_66, x152_67, x152_68, x152_69, x152_70, x152_71, x152_74, x152_75, x152_76, x152_77, x152_78, x152_79, x152_80, x152_83, x152_84, x152_85, x152_88, x152_89, x152_90, x152_93, x152_94, x152_95, x152_96, x152_97, x152_98, x152_101, x152_102, x152_103, x152_104, x152_105, x152_106, x152_107, x152_108, x152_111, x152_112, x152_113, x152_114, x152_115, x152_116, x152_117, x152_118, x152_121, x152_122, x152_123, x152_124, x152_125, x152_126, x152_127, x152_130, x152_131, x152_134, x152_138, x152_141, x152_142, x152_145, x152_146, x152_147, x152_148, x152_151, x152_152, x152_154, x152_157, x152_160, x152_161, x152_164, x152_167, x152_168, x152_171, x152_172, x152_173, x152_174, x152_175, x152_176, x152_177, x152_180, x152_181, x152_182, x152_183, x152_186, x152_189, x152_190, x152_193, aft_some, aft_void, Option.bind_some, Option.toList_some, Option.toList_none, List.cons_append, List.nil_append, if_true, if_false, ↓reduceIte, eq_self, z366_o, ↓z366_0, ↓z366_0p, ↓z366_1, ↓z366_2, ↓z366_3, ↓z366_4, ↓z366_4p, ↓z366_5, ↓z366_6, ↓z366_6p0, ↓z366_6p1, ↓z366_7, ↓z366_8, ↓z366_8p, ↓z366_9, ↓z366_9p, ↓z366_10, ↓z366_10p0, ↓z366_10p1, ↓z366_11, ↓z366_12, ↓z366_12p, ↓sg0, ↓sg1, ↓sg2, ↓sg3, ↓sg4, ↓sg5, ↓sg6, ↓sg7, ↓sg8, ↓sg9, ↓sg10, ↓sg11, ↓sg12, ↓sg13, ↓sg14, ↓sg15, ↓sg16, ↓sg17, ↓ss0, ↓ss1, ↓ss2, ↓ss3, ↓ss4, ↓ss5, ↓ss6, ↓ss7, ↓ss8, ↓ss9, ↓ss10, ↓ss11, ↓ss12, ↓ss13, ↓ss14, ↓ss15, ↓ss16, ↓ss17, y12]
      have e10 := ec.trans e9
      simp +decide only [x152_0, x152_1, x152_2, x152_5, x152_6, x152_9, x152_10, x152_11, x152_13, x152_16, x152_18, x152_19, x152_20, x152_21, x152_22, x152_25, x152_26, x152_27, x152_28, x152_30, x152_31, x152_34, x152_37, x152_38, x152_41, x152_42, x152_43, x152_46, x152_47, x152_48, x152_49, x152_50, x152_51, x152_54, x152_55, x152_56, x152_57, x152_58, x152_59, x152_60, x152_61, x152_64, x152_65, x152_66, x152_67, x152_68, x152_69, x152_70, x152_71, x152_74, x152_75, x152_76, x152_77, x152_78, x152_79, x152_80, x152_83, x152_84, x152_85, x152_88, x152_89, x152_90, x152_93, x152_94, x152_95, x152_96, x152_97, x152_98, x152_101, x152_102, x152_103, x152_104, x152_105, x152_106, x152_107, x152_108, x152_111, x152_112, x152_113, x152_114, x152_115, x152_116, x152_117, x152_118, x152_121, x152_122, x152_123, x152_124, x152_125, x152_126, x152_127, x152_130, x152_131, x152_134, x152_138, x152_141, x152_142, x152_145, x152_146, x152_147, x152_148, x152_151, x152_152, x152_154, x152_157, x152_160, x152_161, x152_164, x152_167, x152_168, x152_171, x152_172, x152_173, x152_174, x152_175, x152_176, x152_177, x152_180, x152_181, x152_182, x152_183, x152_186, x152_189, x152_190, x152_193, aft_some, aft_void, Option.bind_some, Option.toList_some, Option.toList_none, List.cons_append, List.nil_append, if_true, if_false, ↓reduceIte, eq_self, z366_o, ↓z366_0, ↓z366_0p, ↓z366_1, ↓z366_2, ↓z366_3, ↓z366_4, ↓z366_4p, ↓z366_5, ↓z366_6, ↓z366_6p0, ↓z366_6p1, ↓z366_7, ↓z366_8, ↓z366_8p, ↓z366_9, ↓z366_9p, ↓z366_10, ↓z366_10p0, ↓z366_10p1, ↓z366_11, ↓z366_12, ↓z366_12p, ↓sg0, ↓sg1, ↓sg2, ↓sg3, ↓sg4, ↓sg5, ↓sg6, ↓sg7, ↓sg8, ↓sg9, ↓sg10, ↓sg11, ↓sg12, ↓sg13, ↓sg14, ↓sg15, ↓sg16, ↓sg17, ↓ss0, ↓ss1, ↓ss2, ↓ss3, ↓ss4, ↓ss5, ↓ss6, ↓ss7, ↓ss8, ↓ss9, ↓ss10, ↓ss11, ↓ss12, ↓ss13, ↓ss14, ↓ss15, ↓ss16, ↓ss17, ↓aft_of (ep), e10]
    · rw [yw a (by omega) (by omega), fp a (by omega) (by omega)]; exact frU a ha
    · rw [yw 366 (by decide) (by decide)]; exact hW.1.1
    · exact hW.1.2.1.same hw.2.2 (by rw [yw 366 (by decide) (by decide)]) (fun j _ => by rw [yw 370 (by decide) (by decide)])
    · refine hR.last (T := W) (u := (bkS s).2) (g := T1 367) hW.1.2.2.1 hw.2.1 h1.2 (by rw [yw 366 (by decide) (by decide)]) ?_ hw.1 ?_
      · rw [← hl]
        intro k hk
        rw [Nat.add_sub_cancel, gc k hk, upA_n _ _ (by decide)]
        exact y368 k hk
      · rw [← hl]
        intro k hk
        rw [Nat.add_sub_cancel] at hk
        rw [gk k (Or.inl hk), upA_n _ _ (by decide)]
    · exact hW.1.2.2.2.same (by rw [yw 366 (by decide) (by decide)]) (yw 371 (by decide) (by decide))
    · have : Y 367 = f2 := by rw [fc 367 (by decide), upA_s]
      rw [this]; exact hs2
end QB
end
section
/-! both objects: each call on the class, then on the reference -/
/-- both stand for s -/
def BG (T : Nat → Nat → Int32) (P : Nat → Nat → Nat) (s : gT) : Prop := CG T T P s ∧ CF T (T 367) s
def TWO (e : Prop) (jc jr : Nat) (A B : List Value) (T : Nat → Nat → Int32) (P : Nat → Nat → Nat) (s' : gT) : Prop := ∃ a b T1 P1 T2, X jc 0 (pad jc A) [] (H T P) = some (some (.int a), H T1 P1) ∧ X jr 0 (pad jr B) [] (H T1 P1) = some (some (.int b), H T2 P1) ∧ BG T2 P1 s' ∧ (e → a = b)
section BO
variable {T U EE : Nat → Nat → Int32} {P : Nat → Nat → Nat} {f : Nat → Int32} {s s' : gT} {e : Prop}
theorem CG.wg (h : CG EE T P s) : WG s := by
  obtain ⟨-, ⟨-, h1⟩, h2, ⟨-, -, l, -, -, h3⟩, -⟩ := h
  refine ⟨h1, fun v hv => ?_, fun v hv => ?_⟩
  · obtain ⟨g, hg⟩ := List.mem_iff_getElem?.mp hv
    exact (h3 g v hg).2
  · rw [hv] at h2; exact h2.2.2
theorem CG.mv (h : CG EE T P s) (hU : ∀ a, a < 366 → U a = T a) : CG U U P s := by
  obtain ⟨hP, ⟨h1, hw⟩, h2, ⟨l4, l1, l, hl, l2, h3⟩, t60, t1, t2, -⟩ := h
  have sm : ∀ {o : Nat} {u : uT}, o + 51 ≤ 366 → CSu o T P u → WFu u → CSu o U P u := fun ho hc hw => CS.same hc hw.1.1.2.2.2.1 (fun a ha hb => hU a (by omega)) rfl
  refine ⟨hP, ⟨sm (by decide) h1 hw, hw⟩, ?_, ⟨l4, by rw [hU 154 (by decide)]; exact l1, l, hl, by rw [hU 154 (by decide)]; exact l2, fun g u hg => ⟨sm (by omega) (h3 g u hg).1 (h3 g u hg).2, (h3 g u hg).2⟩⟩, t60, by rw [hU 360 (by decide)]; exact t1, fun i hi => by rw [hU 361 (by decide)]; exact t2 i hi, fun _ _ => rfl⟩
  cases hq : s.2.1 with
  | none => rw [hq] at h2; show U 0 5 = 0; rw [hU 0 (by decide)]; exact h2
  | some v => rw [hq] at h2; exact ⟨by rw [hU 0 (by decide)]; exact h2.1, sm (by decide) h2.2.1 h2.2.2, h2.2.2⟩
theorem CF.mv (h : CF T f s) (h6 : U 366 = T 366) (h9 : U 369 = T 369) (h0 : U 370 = T 370) (h1 : U 371 = T 371) : CF U f s := by
  obtain ⟨⟨c0, hk, hh, hx⟩, hs⟩ := h
  refine ⟨⟨by rw [h6]; exact c0, ?_, hh.same (by rw [h6]) h9, hx.same (by rw [h6]) h1⟩, hs⟩
  cases hq : s.2.1 with
  | none => rw [hq] at hk; show U 366 6 = 0; rw [h6]; exact hk
  | some v => rw [hq] at hk; exact ⟨by rw [h6]; exact hk.1, by rw [h0]; exact hk.2⟩
theorem TWO.mk {jc jr : Nat} {A B : List Value} {a : Int32} (hb : BG T P s) (hc : ∃ T' P', X jc 0 (pad jc A) [] (H T P) = some (some (.int a), H T' P') ∧ CG T T' P' s') (hr : ∀ (T' : Nat → Nat → Int32) (P' : Nat → Nat → Nat), CF T' (T' 367) s → WG s → ∃ b, RQ T' P' (T' 367) jr (pad jr B) (b, s') ∧ (e → a = b)) : TWO e jc jr A B T P s' := by
  obtain ⟨T1, P1, e1, g1⟩ := hc
  have fe : ∀ a, 366 ≤ a → T1 a = T a := g1.2.2.2.2.2.2.2
  have hf : CF T1 (T1 367) s := by
    rw [fe 367 (by decide)]
    exact hb.2.mv (fe _ (by decide)) (fe _ (by decide)) (fe _ (by decide)) (fe _ (by decide))
  obtain ⟨b, ⟨T2, f2, e2, fr, c2⟩, heq⟩ := hr T1 P1 hf hb.1.wg
  rw [upA_self] at e2
  refine ⟨a, b, T1, P1, upA T2 367 f2, e1, e2, ⟨g1.mv (fun a ha => by rw [upA_n _ _ (by omega)]; exact fr a ha), ?_⟩, heq⟩
  rw [upA_s]
  exact c2.mv (upA_n _ _ (by decide)) (upA_n _ _ (by decide)) (upA_n _ _ (by decide)) (upA_n _ _ (by decide))
theorem two_cust (hb : BG T P s) (d : Int32) : TWO True 90 146 [.ref 0, .int d] [.ref 366, .int d] T P (gCust d s).2 := TWO.mk (a := (gCust d s).1) hb (let ⟨T1, e1, c1⟩ := g_cust rfl hb.1 d; ⟨T1, P, e1, c1⟩) (fun T1 P1 hf hw => ⟨(gCust d s).1, q_cust hf hw d, fun _ => rfl⟩)
theorem two_vis (hb : BG T P s) (d x : Int32) : TWO True 91 147 [.ref 0, .int d, .int x] [.ref 366, .int d, .int x] T P (gVis d x s).2 := TWO.mk (a := (gVis d x s).1) hb (let ⟨T1, e1, c1⟩ := g_vis rfl hb.1 d x; ⟨T1, P, e1, c1⟩) (fun T1 P1 hf hw => ⟨(gVis d x s).1, q_vis hf hw d x, fun _ => rfl⟩)
theorem two_bask (hb : BG T P s) (c p st g : Int32) : TWO True 92 151 [.ref 0, .int c, .int p, .int st, .int g] [.ref 366, .int c, .int p, .int st, .int g] T P (gBask c p st g s).2 := TWO.mk (a := (gBask c p st g s).1) hb (let ⟨T1, e1, c1⟩ := g_bask rfl hb.1 c p st g; ⟨T1, P, e1, c1⟩) (fun T1 P1 hf hw => ⟨(gBask c p st g s).1, q_bask hf hw c p st g, fun _ => rfl⟩)
theorem two_bkts (hb : BG T P s) : TWO True 93 152 [.ref 0] [.ref 366] T P (gBkts s).2 := TWO.mk (a := (gBkts s).1) hb (let ⟨T1, e1, c1⟩ := g_bkts rfl rfl hb.1; ⟨T1, P, e1, c1⟩) (fun T1 P1 hf hw => ⟨(gBkts s).1, q_bkts hf hw, fun _ => rfl⟩)
theorem two_find (hb : BG T P s) (p x : Int32) : TWO True 95 157 [.ref 0, .int p, .int x] [.ref 366, .int p, .int x] T P (gFind p x s).2 := TWO.mk (a := (gFind p x s).1) hb (let ⟨T1, e1, c1⟩ := g_find rfl hb.1 p x; ⟨T1, P, e1, c1⟩) (fun T1 P1 hf hw => ⟨(gFind p x s).1, q_find hf hw p x, fun _ => rfl⟩)
theorem two_iron (hb : BG T P s) (m : Int32) : TWO True 96 163 [.ref 0, .int m] [.ref 366, .int m] T P (gIron m s).2 := TWO.mk (a := (gIron m s).1) hb (let ⟨T1, e1, c1⟩ := g_iron rfl hb.1 m; ⟨T1, P, e1, c1⟩) (fun T1 P1 hf hw => ⟨(gIron m s).1, q_iron hf hw m, fun _ => rfl⟩)
theorem two_pass (hb : BG T P s) (d : Int32) : TWO True 97 167 [.ref 0, .int d] [.ref 366, .int d] T P (gPass d s).2 := TWO.mk (a := (gPass d s).1) hb (g_pass rfl hb.1 d) (fun T1 P1 hf hw => ⟨(gPass d s).1, q_pass hf hw d, fun _ => rfl⟩)
theorem two_buy (hb : BG T P s) (n : Int32) : TWO True 98 168 [.ref 0, .int n] [.ref 366, .int n] T P (gBuy n s).2 := TWO.mk (a := (gBuy n s).1) hb (let ⟨T1, e1, c1⟩ := g_buy rfl hb.1 n; ⟨T1, P, e1, c1⟩) (fun T1 P1 hf hw => ⟨(gBuy n s).1, q_buy hf hw n, fun _ => rfl⟩)
theorem two_pay (hb : BG T P s) (c : Int32) : TWO True 99 169 [.ref 0, .int c] [.ref 366, .int c] T P (gPay c s).2 := TWO.mk (a := (gPay c s).1) hb (let ⟨T1, e1, c1⟩ := g_pay rfl hb.1 c; ⟨T1, P, e1, c1⟩) (fun T1 P1 hf hw => ⟨(gPay c s).1, q_pay hf hw c, fun _ => rfl⟩)
theorem two_set (hb : BG T P s) (w v : Int32) : TWO True 100 171 [.ref 0, .int w, .int v] [.ref 366, .int w, .int v] T P (gSet w v s).2 := TWO.mk (a := (gSet w v s).1) hb (let ⟨T1, e1, c1⟩ := g_set rfl hb.1 w v; ⟨T1, P, e1, c1⟩) (fun T1 P1 hf hw => ⟨(gSet w v s).1, q_set hf hw w v, fun _ => rfl⟩)
theorem two_clear (hb : BG T P s) : TWO True 102 173 [.ref 0] [.ref 366] T P (gClear s).2 := TWO.mk (a := (gClear s).1) hb (let ⟨T1, e1, c1⟩ := g_clear hb.1; ⟨T1, P, e1, c1⟩) (fun T1 P1 hf hw => ⟨(gClear s).1, q_clear hf, fun _ => rfl⟩)
theorem two_fault (hb : BG T P s) : TWO True 103 183 [.ref 0] [.ref 366] T P ((gFault s, s)).2 := TWO.mk (a := ((gFault s, s)).1) hb (let ⟨T1, e1, c1⟩ := g_fault hb.1; ⟨T1, P, e1, c1⟩) (fun T1 P1 hf hw => ⟨((gFault s, s)).1, q_fault hf, fun _ => rfl⟩)
theorem two_undo (hb : BG T P s) : TWO True 104 184 [.ref 0] [.ref 366] T P (gUndo s).2 := TWO.mk (a := (gUndo s).1) hb (let ⟨T1, e1, c1⟩ := g_undo rfl hb.1; ⟨T1, P, e1, c1⟩) (fun T1 P1 hf hw => ⟨(gUndo s).1, q_undo hf hw, fun _ => rfl⟩)
theorem two_keep (hb : BG T P s) : TWO True 105 185 [.ref 0] [.ref 366] T P (gKeep s).2 := TWO.mk (a := (gKeep s).1) hb (let ⟨T1, e1, c1⟩ := g_keep rfl rfl hb.1; ⟨T1, P, e1, c1⟩) (fun T1 P1 hf hw => ⟨(gKeep s).1, q_keep hf hw, fun _ => rfl⟩)
theorem two_rest (hb : BG T P s) : TWO True 106 186 [.ref 0] [.ref 366] T P (gRest s).2 := TWO.mk (a := (gRest s).1) hb (let ⟨T1, e1, c1⟩ := g_rest rfl rfl hb.1; ⟨T1, P, e1, c1⟩) (fun T1 P1 hf hw => ⟨(gRest s).1, q_rest hf hw, fun _ => rfl⟩)
theorem two_cus (hb : BG T P s) (c w : Int32) : TWO True 107 189 [.ref 0, .int c, .int w] [.ref 366, .int c, .int w] T P ((gCus c w s, s)).2 := TWO.mk (a := ((gCus c w s, s)).1) hb ⟨T, P, g_cus rfl hb.1 c w, hb.1⟩ (fun T1 P1 hf hw => ⟨((gCus c w s, s)).1, q_cus hf hw c w, fun _ => rfl⟩)
theorem two_basOf (hb : BG T P s) (x w : Int32) : TWO True 108 191 [.ref 0, .int x, .int w] [.ref 366, .int x, .int w] T P ((gBasOf x w s, s)).2 := TWO.mk (a := ((gBasOf x w s, s)).1) hb ⟨T, P, g_basOf rfl hb.1 x w, hb.1⟩ (fun T1 P1 hf hw => ⟨((gBasOf x w s, s)).1, q_basOf hf hw x w, fun _ => rfl⟩)
theorem two_lost (hb : BG T P s) (p w : Int32) : TWO True 109 194 [.ref 0, .int p, .int w] [.ref 366, .int p, .int w] T P ((gLost p w s, s)).2 := TWO.mk (a := ((gLost p w s, s)).1) hb ⟨T, P, g_lost rfl hb.1 p w, hb.1⟩ (fun T1 P1 hf hw => ⟨((gLost p w s, s)).1, q_lost hf hw p w, fun _ => rfl⟩)
theorem two_ord (hb : BG T P s) (r : Int32) : TWO True 110 195 [.ref 0, .int r] [.ref 366, .int r] T P ((if r < 0 then -2 else gOrd' r s.1, s)).2 := TWO.mk (a := ((if r < 0 then -2 else gOrd' r s.1, s)).1) hb ⟨T, P, g_ord rfl hb.1 r, hb.1⟩ (fun T1 P1 hf hw => ⟨((if r < 0 then -2 else gOrd' r s.1, s)).1, q_ord hf hw r, fun _ => rfl⟩)
theorem two_book (hb : BG T P s) (a w : Int32) : TWO True 111 196 [.ref 0, .int a, .int w] [.ref 366, .int a, .int w] T P ((gBook a w s, s)).2 := TWO.mk (a := ((gBook a w s, s)).1) hb ⟨T, P, g_book rfl hb.1 a w, hb.1⟩ (fun T1 P1 hf hw => ⟨((gBook a w s, s)).1, q_book hf hw a w, fun _ => rfl⟩)
theorem two_count (hb : BG T P s) (w : Int32) : TWO True 112 201 [.ref 0, .int w] [.ref 366, .int w] T P ((gCount w s, s)).2 := TWO.mk (a := ((gCount w s, s)).1) hb ⟨T, P, g_count rfl hb.1 w, hb.1⟩ (fun T1 P1 hf hw => ⟨((gCount w s, s)).1, q_count hf hw w, fun _ => rfl⟩)
theorem two_if (hb : BG T P s) (r m w : Int32) : TWO True 114 204 [.ref 0, .int r, .int m, .int w] [.ref 366, .int r, .int m, .int w] T P ((gIf r m w s, s)).2 := TWO.mk (a := ((gIf r m w s, s)).1) hb (let ⟨T1, e1, c1⟩ := g_if rfl rfl hb.1 r m w; ⟨T1, P, e1, c1⟩) (fun T1 P1 hf hw => ⟨((gIf r m w s, s)).1, q_if hf hw r m w, fun _ => rfl⟩)
theorem two_best (hb : BG T P s) (m : Int32) : TWO True 115 205 [.ref 0, .int m] [.ref 366, .int m] T P ((gBest m s, s)).2 := TWO.mk (a := ((gBest m s, s)).1) hb (let ⟨T1, e1, c1⟩ := g_best rfl rfl hb.1 m; ⟨T1, P, e1, c1⟩) (fun T1 P1 hf hw => ⟨((gBest m s, s)).1, q_best hf hw m, fun _ => rfl⟩)
theorem two_home (hb : BG T P s) (x m : Int32) : TWO True 116 206 [.ref 0, .int x, .int m] [.ref 366, .int x, .int m] T P ((gHome x m s, s)).2 := TWO.mk (a := ((gHome x m s, s)).1) hb (g_home rfl rfl hb.1 x m) (fun T1 P1 hf hw => ⟨((gHome x m s, s)).1, q_home hf hw x m, fun _ => rfl⟩)
theorem two_sure (hb : BG T P s) : TWO True 118 208 [.ref 0] [.ref 366] T P ((gSure s, s)).2 := TWO.mk (a := ((gSure s, s)).1) hb ⟨T, P, g_sure rfl hb.1, hb.1⟩ (fun T1 P1 hf hw => ⟨((gSure s, s)).1, q_sure hf hw, fun _ => rfl⟩)
theorem two_type (hb : BG T P s) {c : Int32} (hcc : vp_nar .char c = c) : TWO True 101 172 [.ref 0, .int c] [.ref 366, .int c] T P (gType c s).2 := TWO.mk (a := (gType c s).1) hb (let ⟨T1, e1, c1⟩ := g_type hb.1 hcc; ⟨T1, P, e1, c1⟩) (fun T1 P1 hf hw => ⟨(gType c s).1, q_type hf c, fun _ => rfl⟩)
theorem two_lose (hb : BG T P s) (x k : Int32) : TWO (s.1.2 = []) 94 154 [.ref 0, .int x, .int k] [.ref 366, .int x, .int k] T P (gLose x k s).2 := TWO.mk (a := (gLose x k s).1) hb (let ⟨T1, e1, c1⟩ := g_lose rfl hb.1 x k; ⟨T1, P, e1, c1⟩) (fun T1 P1 hf hw => ⟨rLose x k s, q_lose hf hw x k, fun hK => by unfold rLose gLose; rw [hK]; rfl⟩)
theorem two_want (hb : BG T P s) {st : Nat} (hst : s.1.1.2.1 0 1 = nI st) (h9 : st ≤ 100000) : TWO True 117 207 [.ref 0] [.ref 366] T P s := TWO.mk (a := gWant s) hb ⟨T, P, g_want rfl hb.1, hb.1⟩ (fun T1 P1 hf hw => ⟨gWant s, q_want hf hw hst h9, fun _ => rfl⟩)
theorem two_want0 (hb : BG T P s) : TWO False 117 207 [.ref 0] [.ref 366] T P s := TWO.mk (a := gWant s) hb ⟨T, P, g_want rfl hb.1, hb.1⟩ (fun T1 P1 hf hw => let ⟨b, hq⟩ := q_want0 (P := P1) hf hw; ⟨b, hq, fun h => h.elim⟩)
end BO
end
