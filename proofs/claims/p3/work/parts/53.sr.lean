/-! the reference's state, and its copies -/
theorem up1_n {T : Nat → Nat → Int32} {a b k : Nat} {v : Int32} (h : b ≠ a) : up1 T a k v b = T b := upA_n _ _ h
theorem up1_s {T : Nat → Nat → Int32} {a k : Nat} {v : Int32} : up1 T a k v a = upA (T a) k v := upA_s _ _ _
def sH (f : Nat → Int32) (N : Nat → Nat) (V : Nat → Nat → Int32) (n : Nat) : Prop :=
  (∀ k, k < 4 → f k = V 1 k) ∧ (f 4 = nI (N 0) ∧ f 5 = nI (N 1) ∧ f 6 = nI (N 2) ∧ f 7 = V 0 1) ∧ (f 8 = smI (V 6) (N 1) ∧ f 9 = V 0 2 ∧ f 10 = nI (N 3)) ∧ (∀ k, k < 4 → f (11 + k) = V 48 k) ∧ (f 15 = V 0 3 ∧ f 16 = nI n ∧ f 17 = nI (N 4)) ∧ (∀ d, d < 5 → f (18 + d) = V 2 d) ∧ V 0 0 = nI (N 0)
def sC (f : Nat → Int32) (N : Nat → Nat) (V : Nat → Nat → Int32) : Prop := ∀ c, c < 10 → (c < N 1 → f (24 + 3 * c + 0) = V 4 c) ∧ f (24 + 3 * c + 1) = (if c < N 1 then V 5 c else 0) ∧ f (24 + 3 * c + 2) = (if c < N 1 then V 6 c else 0)
def sO (f : Nat → Int32) (B : List bT) : Prop := ∀ c, c < 10 → ∀ k, k < 64 → f (54 + 64 * c + k) = nI (rgL c k B)
def sK (f : Nat → Int32) (K : List kT) : Prop := ∀ i, i < K.length → bR f i (gK K i)
def sL (f : Nat → Int32) (n : Nat) (V : Nat → Nat → Int32) : Prop := ∀ i, i < n → f (830 + 2 * i) = V 46 i ∧ f (830 + 2 * i + 1) = V 47 i
def sJ (f : Nat → Int32) (n : Nat) (R : Nat → Nat → Int32) : Prop := ∀ g, g < n → ∀ k, k < 4 → f (870 + 4 * (n - 1 - g) + k) = R g k
def sR (f : Nat → Int32) (N : Nat → Nat) (V : Nat → Nat → Int32) (K : List kT) (B : List bT) (R : Nat → Nat → Int32) : Prop := sH f N V K.length ∧ sC f N V ∧ sO f B ∧ sK f K ∧ sL f (N 3) V ∧ sJ f (N 4) R
abbrev sU (f : Nat → Int32) (u : uT) : Prop := sR f u.1.1 u.1.2.1 u.2 u.1.2.2.1 u.1.2.2.2
section SR
variable {f g : Nat → Int32} {N : Nat → Nat} {V : Nat → Nat → Int32} {K : List kT} {B : List bT} {R : Nat → Nat → Int32} {n i : Nat} {b : kT}
theorem sH.same (h : sH f N V n) (e : ∀ k, k < 23 → g k = f k) : sH g N V n := by
  obtain ⟨h1, ⟨h2, h3, h4, h5⟩, ⟨h6, h7, h8⟩, h9, ⟨h10, h11, h12⟩, h13, h14⟩ := h
  exact ⟨fun k hk => (e k (by omega)).trans (h1 k hk), ⟨(e _ (by decide)).trans h2, (e _ (by decide)).trans h3, (e _ (by decide)).trans h4, (e _ (by decide)).trans h5⟩, ⟨(e _ (by decide)).trans h6, (e _ (by decide)).trans h7, (e _ (by decide)).trans h8⟩, fun k hk => (e _ (by omega)).trans (h9 k hk), ⟨(e _ (by decide)).trans h10, (e _ (by decide)).trans h11, (e _ (by decide)).trans h12⟩, fun d hd => (e _ (by omega)).trans (h13 d hd), h14⟩
theorem sC.same (h : sC f N V) (e : ∀ k, 24 ≤ k → k < 54 → g k = f k) : sC g N V := fun c hc => by
  have := h c hc
  rw [e _ (by omega) (by omega), e (24 + 3 * c + 1) (by omega) (by omega), e (24 + 3 * c + 2) (by omega) (by omega)]
  exact this
theorem sO.same (h : sO f B) (e : ∀ k, 54 ≤ k → k < 694 → g k = f k) : sO g B := fun c hc k hk => (e _ (by omega) (by omega)).trans (h c hc k hk)
theorem bR.same (h : bR f i b) (e : ∀ k, 694 + 17 * i ≤ k → k < 694 + 17 * i + 17 → g k = f k) : bR g i b := by
  obtain ⟨⟨h1, h2, h3, h4, h5⟩, h6⟩ := h
  refine ⟨⟨(e _ (by omega) (by omega)).trans h1, (e _ (by omega) (by omega)).trans h2, (e _ (by omega) (by omega)).trans h3, (e _ (by omega) (by omega)).trans h4, (e _ (by omega) (by omega)).trans h5⟩, fun k hk => ?_⟩
  obtain ⟨g1, g2, g3⟩ := h6 k hk
  exact ⟨(e _ (by omega) (by omega)).trans g1, (e _ (by omega) (by omega)).trans g2, (e _ (by omega) (by omega)).trans g3⟩
theorem sK.same (h : sK f K) (h8 : K.length ≤ 8) (e : ∀ k, 694 ≤ k → k < 830 → g k = f k) : sK g K := fun i hi => (h i hi).same (fun k h1 h2 => e k (by omega) (by omega))
theorem sL.same (h : sL f n V) (h20 : n ≤ 20) (e : ∀ k, 830 ≤ k → k < 870 → g k = f k) : sL g n V := fun i hi => ⟨(e _ (by omega) (by omega)).trans (h i hi).1, (e _ (by omega) (by omega)).trans (h i hi).2⟩
theorem sJ.same (h : sJ f n R) (h10 : n ≤ 10) (e : ∀ k, 870 ≤ k → k < 910 → g k = f k) : sJ g n R := fun j hj k hk => (e _ (by omega) (by omega)).trans (h j hj k hk)
theorem sR.same (h : sR f N V K B R) (h8 : K.length ≤ 8) (h20 : N 3 ≤ 20) (h10 : N 4 ≤ 10) (e : ∀ k, k < 912 → g k = f k) : sR g N V K B R := by
  obtain ⟨h1, h2, h3, h4, h5, h6⟩ := h
  exact ⟨h1.same (fun k hk => e k (by omega)), h2.same (fun k _ hk => e k (by omega)), h3.same (fun k _ hk => e k (by omega)), h4.same h8 (fun k _ hk => e k (by omega)), h5.same h20 (fun k _ hk => e k (by omega)), h6.same h10 (fun k _ hk => e k (by omega))⟩
theorem sU.same {u : uT} (h : sU f u) (hw : WFu u) (e : ∀ k, k < 912 → g k = f k) : sU g u := sR.same h hw.1.1.2.2.2.1 hw.1.1.2.2.2.2.1 hw.1.1.2.2.2.2.2 e
end SR
/-! the whole object of the reference -/
def kR (T : Nat → Nat → Int32) : Option uT → Prop
  | none => T 366 6 = 0
  | some v => T 366 6 = 1 ∧ sU (T 370) v
def hR (T : Nat → Nat → Int32) (L : List uT) : Prop := T 366 4 = nI L.length ∧ L.length ≤ 4 ∧ ∀ (g : Nat) (u : uT), L[g]? = some u → sU (fun k => T 369 (912 * (L.length - 1 - g) + k)) u
def xR (T : Nat → Nat → Int32) (t : Nat × (Nat → Int32)) : Prop := T 366 8 = nI t.1 ∧ t.1 ≤ 60 ∧ ∀ i, i < t.1 → T 371 i = t.2 i
def CR (T : Nat → Nat → Int32) (s : gT) : Prop := T 366 0 = 0 ∧ sU (T 367) s.1 ∧ kR T s.2.1 ∧ hR T s.2.2.1 ∧ xR T s.2.2.2
section AR
variable {T : Nat → Nat → Int32} {P : Nat → Nat → Nat} {G : Int32 → Option (Option Value × List hC)} {i pc k : Nat} {L S : List Value} {y : Int32}
theorem a367_g (hk : k < 912) : (getI (H T P)[367]? 367 0 (nI k)).bind G = G (T 367 k) := by
  rw [z367_g, if_pos (okx_nI hk (by decide)), nI_clamp (by omega)]
theorem a367_s (hk : k < 912) : (putI (H T P)[367]? 0 (nI k) y).bind (fun c => X i pc L S ((H T P).set 367 c)) = X i pc L S (H (up1 T 367 k y) P) := by
  rw [z367_s, if_pos (okx_nI hk (by decide)), nI_clamp (by omega)]
theorem a368_g (hk : k < 912) : (getI (H T P)[368]? 368 0 (nI k)).bind G = G (T 368 k) := by
  rw [z368_g, if_pos (okx_nI hk (by decide)), nI_clamp (by omega)]
theorem a368_s (hk : k < 912) : (putI (H T P)[368]? 0 (nI k) y).bind (fun c => X i pc L S ((H T P).set 368 c)) = X i pc L S (H (up1 T 368 k y) P) := by
  rw [z368_s, if_pos (okx_nI hk (by decide)), nI_clamp (by omega)]
theorem a369_g (hk : k < 3648) : (getI (H T P)[369]? 369 0 (nI k)).bind G = G (T 369 k) := by
  rw [z369_g, if_pos (okx_nI hk (by decide)), nI_clamp (by omega)]
theorem a369_s (hk : k < 3648) : (putI (H T P)[369]? 0 (nI k) y).bind (fun c => X i pc L S ((H T P).set 369 c)) = X i pc L S (H (up1 T 369 k y) P) := by
  rw [z369_s, if_pos (okx_nI hk (by decide)), nI_clamp (by omega)]
theorem a370_g (hk : k < 912) : (getI (H T P)[370]? 370 0 (nI k)).bind G = G (T 370 k) := by
  rw [z370_g, if_pos (okx_nI hk (by decide)), nI_clamp (by omega)]
theorem a370_s (hk : k < 912) : (putI (H T P)[370]? 0 (nI k) y).bind (fun c => X i pc L S ((H T P).set 370 c)) = X i pc L S (H (up1 T 370 k y) P) := by
  rw [z370_s, if_pos (okx_nI hk (by decide)), nI_clamp (by omega)]
theorem a371_g (hk : k < 60) : (getI (H T P)[371]? 371 0 (nI k)).bind G = G (T 371 k) := by
  rw [z371_g, if_pos (okx_nI hk (by decide)), nI_clamp (by omega)]
theorem a371_s (hk : k < 60) : (putI (H T P)[371]? 0 (nI k) y).bind (fun c => X i pc L S ((H T P).set 371 c)) = X i pc L S (H (up1 T 371 k y) P) := by
  rw [z371_s, if_pos (okx_nI hk (by decide)), nI_clamp (by omega)]
theorem a372_g (hk : k < 64) : (getI (H T P)[372]? 372 0 (nI k)).bind G = G (T 372 k) := by
  rw [z372_g, if_pos (okx_nI hk (by decide)), nI_clamp (by omega)]
theorem a372_s (hk : k < 64) : (putI (H T P)[372]? 0 (nI k) y).bind (fun c => X i pc L S ((H T P).set 372 c)) = X i pc L S (H (up1 T 372 k y) P) := by
  rw [z372_s, if_pos (okx_nI hk (by decide)), nI_clamp (by omega)]
end AR
section CP
variable {T : Nat → Nat → Int32} {P : Nat → Nat → Nat}
theorem r_putAside : ∃ U, X 132 0 [.ref 366, .long 0] [] (H T P) = some (none, H U P) ∧ (∀ a, a ≠ 368 → U a = T a) ∧ (∀ k, k < 912 → U 368 k = T 367 k) ∧ ∀ k, 912 ≤ k → U 368 k = T 368 k := by
  obtain ⟨U, e, i1, i2, i3⟩ := loop_ex (fun i U => X 132 2 [.ref 366, .int (nI i)] [] (H U P)) (fun i U => (∀ a, a ≠ 368 → U a = T a) ∧ (∀ k, k < i → U 368 k = T 367 k) ∧ ∀ k, i ≤ k → U 368 k = T 368 k) 912 T ⟨fun _ _ => rfl, fun k hk => absurd hk (Nat.not_lt_zero k), fun _ _ => rfl⟩ (by
    intro i U hi ⟨i1, i2, i3⟩
    refine ⟨up1 U 368 i (T 367 i), ?_, fun a ha => ?_, fun k hk => ?_, fun k hk => ?_⟩
    · have hlt : nI i < 912 := nI_lt hi (by decide)
      have hs : U 367 i = T 367 i := congrFun (i1 367 (by decide)) i
      show X 132 2 [.ref 366, .int (nI i)] [] (H U P) = _
      rw [x132_2]
      simp +decide only [x132_0, x132_1, x132_3, x132_6, x132_9, x132_9N, x132_10, x132_13, x132_14, x132_14N, x132_15, x132_18, x132_19, x132_20, x132_21, x132_24, x132_27, aft_some, aft_void, Option.bind_some, Option.toList_some, Option.toList_none, List.cons_append, List.nil_append, if_true, if_false, ↓reduceIte, eq_self, z366_o, ↓z366_0, ↓z366_0p, ↓z366_1, ↓z366_2, ↓z366_3, ↓z366_4, ↓z366_4p, ↓z366_5, ↓z366_6, ↓z366_6p0, ↓z366_6p1, ↓z366_7, ↓z366_8, ↓z366_8p, ↓z366_9, ↓z366_9p, ↓z366_10, ↓z366_10p0, ↓z366_10p1, ↓z366_11, ↓z366_12, ↓z366_12p, ↓sg0, ↓sg1, ↓sg2, ↓sg3, ↓sg4, ↓sg5, ↓sg6, ↓sg7, ↓sg8, ↓sg9, ↓sg10, ↓sg11, ↓sg12, ↓sg13, ↓sg14, ↓sg15, ↓sg16, ↓sg17, ↓ss0, ↓ss1, ↓ss2, ↓ss3, ↓ss4, ↓ss5, ↓ss6, ↓ss7, ↓ss8, ↓ss9, ↓ss10, ↓ss11, ↓ss12, ↓ss13, ↓ss14, ↓ss15, ↓ss16, ↓ss17, hlt, ↓a367_g hi, ↓a368_s hi, hs, nI_1]
    · rw [up1_n ha]; exact i1 a ha
    · rw [up1_s]
      unfold upA
      by_cases e : k = i
      · rw [if_pos e, e]
      · rw [if_neg e]; exact i2 k (by omega)
    · rw [up1_s, upA_n _ _ (by omega)]; exact i3 k (by omega))
  have e : X 132 2 [.ref 366, .int 0] [] (H T P) = X 132 2 [.ref 366, .int 912] [] (H U P) := e
  refine ⟨U, ?_, i1, i2, i3⟩
  simp +decide only [x132_0, x132_1, x132_3, x132_6, x132_9, x132_9N, x132_10, x132_13, x132_14, x132_14N, x132_15, x132_18, x132_19, x132_20, x132_21, x132_24, x132_27, aft_some, aft_void, Option.bind_some, Option.toList_some, Option.toList_none, List.cons_append, List.nil_append, if_true, if_false, ↓reduceIte, eq_self]
  rw [e, x132_2]
  simp +decide only [x132_0, x132_1, x132_3, x132_6, x132_9, x132_9N, x132_10, x132_13, x132_14, x132_14N, x132_15, x132_18, x132_19, x132_20, x132_21, x132_24, x132_27, aft_some, aft_void, Option.bind_some, Option.toList_some, Option.toList_none, List.cons_append, List.nil_append, if_true, if_false, ↓reduceIte, eq_self, z366_o, ↓z366_0, ↓z366_0p, ↓z366_1, ↓z366_2, ↓z366_3, ↓z366_4, ↓z366_4p, ↓z366_5, ↓z366_6, ↓z366_6p0, ↓z366_6p1, ↓z366_7, ↓z366_8, ↓z366_8p, ↓z366_9, ↓z366_9p, ↓z366_10, ↓z366_10p0, ↓z366_10p1, ↓z366_11, ↓z366_12, ↓z366_12p, ↓sg0, ↓sg1, ↓sg2, ↓sg3, ↓sg4, ↓sg5, ↓sg6, ↓sg7, ↓sg8, ↓sg9, ↓sg10, ↓sg11, ↓sg12, ↓sg13, ↓sg14, ↓sg15, ↓sg16, ↓sg17, ↓ss0, ↓ss1, ↓ss2, ↓ss3, ↓ss4, ↓ss5, ↓ss6, ↓ss7, ↓ss8, ↓ss9, ↓ss10, ↓ss11, ↓ss12, ↓ss13, ↓ss14, ↓ss15, ↓ss16, ↓ss17]
theorem r_takeBack : ∃ U, X 133 0 [.ref 366, .long 0] [] (H T P) = some (none, H U P) ∧ (∀ a, a ≠ 367 → U a = T a) ∧ (∀ k, k < 912 → U 367 k = T 368 k) ∧ ∀ k, 912 ≤ k → U 367 k = T 367 k := by
  obtain ⟨U, e, i1, i2, i3⟩ := loop_ex (fun i U => X 133 2 [.ref 366, .int (nI i)] [] (H U P)) (fun i U => (∀ a, a ≠ 367 → U a = T a) ∧ (∀ k, k < i → U 367 k = T 368 k) ∧ ∀ k, i ≤ k → U 367 k = T 367 k) 912 T ⟨fun _ _ => rfl, fun k hk => absurd hk (Nat.not_lt_zero k), fun _ _ => rfl⟩ (by
    intro i U hi ⟨i1, i2, i3⟩
    refine ⟨up1 U 367 i (T 368 i), ?_, fun a ha => ?_, fun k hk => ?_, fun k hk => ?_⟩
    · have hlt : nI i < 912 := nI_lt hi (by decide)
      have hs : U 368 i = T 368 i := congrFun (i1 368 (by decide)) i
      show X 133 2 [.ref 366, .int (nI i)] [] (H U P) = _
      rw [x133_2]
      simp +decide only [x133_0, x133_1, x133_3, x133_6, x133_9, x133_9N, x133_10, x133_13, x133_14, x133_14N, x133_15, x133_18, x133_19, x133_20, x133_21, x133_24, x133_27, aft_some, aft_void, Option.bind_some, Option.toList_some, Option.toList_none, List.cons_append, List.nil_append, if_true, if_false, ↓reduceIte, eq_self, z366_o, ↓z366_0, ↓z366_0p, ↓z366_1, ↓z366_2, ↓z366_3, ↓z366_4, ↓z366_4p, ↓z366_5, ↓z366_6, ↓z366_6p0, ↓z366_6p1, ↓z366_7, ↓z366_8, ↓z366_8p, ↓z366_9, ↓z366_9p, ↓z366_10, ↓z366_10p0, ↓z366_10p1, ↓z366_11, ↓z366_12, ↓z366_12p, ↓sg0, ↓sg1, ↓sg2, ↓sg3, ↓sg4, ↓sg5, ↓sg6, ↓sg7, ↓sg8, ↓sg9, ↓sg10, ↓sg11, ↓sg12, ↓sg13, ↓sg14, ↓sg15, ↓sg16, ↓sg17, ↓ss0, ↓ss1, ↓ss2, ↓ss3, ↓ss4, ↓ss5, ↓ss6, ↓ss7, ↓ss8, ↓ss9, ↓ss10, ↓ss11, ↓ss12, ↓ss13, ↓ss14, ↓ss15, ↓ss16, ↓ss17, hlt, ↓a368_g hi, ↓a367_s hi, hs, nI_1]
    · rw [up1_n ha]; exact i1 a ha
    · rw [up1_s]
      unfold upA
      by_cases e : k = i
      · rw [if_pos e, e]
      · rw [if_neg e]; exact i2 k (by omega)
    · rw [up1_s, upA_n _ _ (by omega)]; exact i3 k (by omega))
  have e : X 133 2 [.ref 366, .int 0] [] (H T P) = X 133 2 [.ref 366, .int 912] [] (H U P) := e
  refine ⟨U, ?_, i1, i2, i3⟩
  simp +decide only [x133_0, x133_1, x133_3, x133_6, x133_9, x133_9N, x133_10, x133_13, x133_14, x133_14N, x133_15, x133_18, x133_19, x133_20, x133_21, x133_24, x133_27, aft_some, aft_void, Option.bind_some, Option.toList_some, Option.toList_none, List.cons_append, List.nil_append, if_true, if_false, ↓reduceIte, eq_self]
  rw [e, x133_2]
  simp +decide only [x133_0, x133_1, x133_3, x133_6, x133_9, x133_9N, x133_10, x133_13, x133_14, x133_14N, x133_15, x133_18, x133_19, x133_20, x133_21, x133_24, x133_27, aft_some, aft_void, Option.bind_some, Option.toList_some, Option.toList_none, List.cons_append, List.nil_append, if_true, if_false, ↓reduceIte, eq_self, z366_o, ↓z366_0, ↓z366_0p, ↓z366_1, ↓z366_2, ↓z366_3, ↓z366_4, ↓z366_4p, ↓z366_5, ↓z366_6, ↓z366_6p0, ↓z366_6p1, ↓z366_7, ↓z366_8, ↓z366_8p, ↓z366_9, ↓z366_9p, ↓z366_10, ↓z366_10p0, ↓z366_10p1, ↓z366_11, ↓z366_12, ↓z366_12p, ↓sg0, ↓sg1, ↓sg2, ↓sg3, ↓sg4, ↓sg5, ↓sg6, ↓sg7, ↓sg8, ↓sg9, ↓sg10, ↓sg11, ↓sg12, ↓sg13, ↓sg14, ↓sg15, ↓sg16, ↓sg17, ↓ss0, ↓ss1, ↓ss2, ↓ss3, ↓ss4, ↓ss5, ↓ss6, ↓ss7, ↓ss8, ↓ss9, ↓ss10, ↓ss11, ↓ss12, ↓ss13, ↓ss14, ↓ss15, ↓ss16, ↓ss17]
end CP
