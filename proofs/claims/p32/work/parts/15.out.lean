/-! hangers that are out: a list of batches (customer, day, hangers) -/
abbrev bT : Type := Nat × Nat × Nat
/-- the batches of the state o are these -/
def OB (T : Nat → Nat → Int32) (o : Nat) (B : List bT) : Prop := T (o + 41) 3 = nI B.length ∧ B.length ≤ 99 ∧ ∀ i c d n, B[i]? = some (c, d, n) → T (o + 42) i = nI c ∧ T (o + 43) i = nI d ∧ T (o + 44) i = nI n
/-- small numbers, so that machine numbers are numbers -/
def OS (B : List bT) : Prop := ∀ q ∈ B, q.1 < 10 ∧ q.2.1 < 20000 ∧ q.2.2 < 1000
def outL (c : Nat) : List bT → Nat
  | [] => 0
  | q :: B => (if q.1 = c then q.2.2 else 0) + outL c B
def allL : List bT → Nat
  | [] => 0
  | q :: B => q.2.2 + allL B
def tkL (c : Nat) : Nat → List bT → List bT
  | _, [] => []
  | g, q :: B => if q.1 = c then (q.1, q.2.1, q.2.2 - min g q.2.2) :: tkL c (g - min g q.2.2) B else q :: tkL c g B
def tkF (c : Nat) : Nat → List bT → Nat
  | g, [] => g
  | g, q :: B => if q.1 = c then tkF c (g - min g q.2.2) B else tkF c g B
def dropE (B : List bT) : List bT := B.filter (fun q => decide (0 < q.2.2))
def oldL (lim c : Nat) : List bT → Nat
  | [] => 0
  | q :: B => (if q.1 = c ∧ q.2.1 < lim then q.2.2 else 0) + oldL lim c B
def zeroL (lim c : Nat) (B : List bT) : List bT := B.map (fun q => if q.1 = c ∧ q.2.1 < lim then (q.1, q.2.1, 0) else q)
theorem tkL_len (c : Nat) : ∀ (g : Nat) (B : List bT), (tkL c g B).length = B.length
  | _, [] => rfl
  | g, q :: B => by
    unfold tkL
    split <;> simp [tkL_len c]
theorem tkL_app (c : Nat) : ∀ (g : Nat) (A B : List bT), tkL c g (A ++ B) = tkL c g A ++ tkL c (tkF c g A) B
  | _, [], _ => rfl
  | g, q :: A, B => by
    simp only [List.cons_append, tkL, tkF]
    split <;> simp [tkL_app c]
theorem tkF_app (c : Nat) : ∀ (g : Nat) (A B : List bT), tkF c g (A ++ B) = tkF c (tkF c g A) B
  | _, [], _ => rfl
  | g, q :: A, B => by
    simp only [List.cons_append, tkF]
    split <;> simp [tkF_app c]
theorem outL_app (c : Nat) : ∀ (A B : List bT), outL c (A ++ B) = outL c A + outL c B
  | [], B => by simp [outL]
  | q :: A, B => by simp only [List.cons_append, outL, outL_app c A B]; omega
theorem allL_app : ∀ (A B : List bT), allL (A ++ B) = allL A + allL B
  | [], B => by simp [allL]
  | q :: A, B => by simp only [List.cons_append, allL, allL_app A B]; omega
theorem oldL_app (lim c : Nat) : ∀ (A B : List bT), oldL lim c (A ++ B) = oldL lim c A + oldL lim c B
  | [], B => by simp [oldL]
  | q :: A, B => by simp only [List.cons_append, oldL, oldL_app lim c A B]; omega
theorem take_s {α : Type} {B : List α} {i : Nat} {x : α} (h : B[i]? = some x) : B.take (i + 1) = B.take i ++ [x] := by
  rw [List.take_succ, h]; rfl
theorem drop_c {α : Type} {B : List α} {i : Nat} {x : α} (h : B[i]? = some x) : B.drop i = x :: B.drop (i + 1) := by
  obtain ⟨hl, rfl⟩ := List.getElem?_eq_some_iff.mp h
  exact List.drop_eq_getElem_cons hl
theorem at_of {α : Type} {B : List α} {i : Nat} (h : i < B.length) : ∃ x, B[i]? = some x := ⟨_, List.getElem?_eq_getElem h⟩
theorem nI_sub {a b : Nat} (h : b ≤ a) : nI a - nI b = nI (a - b) := by
  have : nI (a - b) + nI b = nI a := by rw [nI_add]; congr 1; omega
  rw [← this]; exact Int32.add_sub_cancel _ _
theorem nI_inj {a b : Nat} (ha : a < 2 ^ 31) (hb : b < 2 ^ 31) : (nI a = nI b) = (a = b) := propext (nI_eq ha hb)
theorem nI_ltp {a b : Nat} (ha : a < 2 ^ 31) (hb : b < 2 ^ 31) : (nI a < nI b) = (a < b) := propext (nI_ltI ha hb)
section OU
variable {T : Nat → Nat → Int32} {P : Nat → Nat → Nat} {o : Nat} {B : List bT}
theorem OB.set {i c d n m : Nat} (h : OB T o B) (hi : B[i]? = some (c, d, n)) : OB (up1 T (o + 44) i (nI m)) o (B.set i (c, d, m)) := by
  obtain ⟨h1, h2, h3⟩ := h
  refine ⟨by simp +decide only [u_oo]; rw [List.length_set]; exact h1, by rw [List.length_set]; exact h2, fun j c' d' n' hj => ?_⟩
  simp +decide only [u_oo, upA_s]
  by_cases hij : i = j
  · subst hij
    rw [List.getElem?_set_self (List.getElem?_eq_some_iff.mp hi).1] at hj
    cases hj
    have := h3 _ _ _ _ hi
    exact ⟨this.1, this.2.1, upA_s _ _ _⟩
  · rw [List.getElem?_set_ne hij] at hj
    have := h3 _ _ _ _ hj
    exact ⟨this.1, this.2.1, by rw [upA_n _ _ (Ne.symm hij)]; exact this.2.2⟩
theorem OB.other {T' : Nat → Nat → Int32} (h : OB T o B) (h1 : T' (o + 41) = T (o + 41)) (h2 : T' (o + 42) = T (o + 42)) (h3 : T' (o + 43) = T (o + 43)) (h4 : T' (o + 44) = T (o + 44)) : OB T' o B := by
  unfold OB at h ⊢
  rw [h1, h2, h3, h4]
  exact h
theorem c_outTo (ho : isB o) (hB : OB T o B) (hs : OS B) {c : Nat} (hc : c < 10) : X 41 0 [.ref (o + 41), .int (nI c), .long 0, .long 0] [] (H T P) = some (some (.int (nI (outL c B))), H T P) := by
  obtain ⟨h1, h2, h3⟩ := hB
  have hstep : ∀ i, i < B.length → X 41 4 [.ref (o + 41), .int (nI c), .int (nI (outL c (B.take i))), .int (nI i)] [] (H T P) = X 41 4 [.ref (o + 41), .int (nI c), .int (nI (outL c (B.take (i + 1)))), .int (nI (i + 1))] [] (H T P) := by
    intro i hi
    obtain ⟨⟨c', d, n⟩, hx⟩ := at_of hi
    obtain ⟨g1, g2, g3⟩ := h3 _ _ _ _ hx
    have hc' : c' < 10 := (hs _ (List.mem_of_getElem? hx)).1
    rw [x41_4, take_s hx, outL_app]
    simp +decide only [x41_0, x41_1, x41_2, x41_3, x41_5, x41_6, x41_9, x41_12, x41_13, x41_16, x41_17, x41_18, x41_19, x41_22, x41_23, x41_24, x41_27, x41_28, x41_29, x41_30, x41_31, x41_34, x41_37, x41_38, aft_some, aft_void, Option.bind_some, Option.toList_some, Option.toList_none, List.cons_append, List.nil_append, if_true, if_false, ↓reduceIte, eq_self, f41_o ho, ↓f41_0 ho, ↓f41_1 ho, ↓f41_2 ho, ↓f41_3 ho, ↓f41_3p ho, ↓f42_g ho, ↓f42_s ho, ↓f43_g ho, ↓f43_s ho, ↓f44_g ho, ↓f44_s ho, h1, g1, g3, nI_lt hi (show B.length < 2 ^ 31 by omega), okx_nI (show i < 99 by omega) (show (99 : Nat) < 2 ^ 31 by decide), nI_clamp (show i < 2 ^ 31 by omega), nI_1, nI_add, nI_inj (show c' < 2 ^ 31 by omega) (show c < 2 ^ 31 by omega)]
    by_cases hcc : c' = c
    · simp only [hcc, if_true, outL, Nat.add_zero]
    · simp only [hcc, if_false, outL, Nat.add_zero]
  simp +decide only [x41_0, x41_1, x41_2, x41_3, x41_5, x41_6, x41_9, x41_12, x41_13, x41_16, x41_17, x41_18, x41_19, x41_22, x41_23, x41_24, x41_27, x41_28, x41_29, x41_30, x41_31, x41_34, x41_37, x41_38, aft_some, aft_void, Option.bind_some, Option.toList_some, Option.toList_none, List.cons_append, List.nil_append, if_true, if_false, ↓reduceIte, eq_self]
  rw [show X 41 4 [.ref (o + 41), .int (nI c), .int 0, .int 0] [] (H T P) = _ from loop_up (fun i => X 41 4 [.ref (o + 41), .int (nI c), .int (nI (outL c (B.take i))), .int (nI i)] [] (H T P)) B.length hstep, x41_4]
  simp +decide only [x41_0, x41_1, x41_2, x41_3, x41_5, x41_6, x41_9, x41_12, x41_13, x41_16, x41_17, x41_18, x41_19, x41_22, x41_23, x41_24, x41_27, x41_28, x41_29, x41_30, x41_31, x41_34, x41_37, x41_38, aft_some, aft_void, Option.bind_some, Option.toList_some, Option.toList_none, List.cons_append, List.nil_append, if_true, if_false, ↓reduceIte, eq_self, f41_o ho, ↓f41_0 ho, ↓f41_1 ho, ↓f41_2 ho, ↓f41_3 ho, ↓f41_3p ho, ↓f42_g ho, ↓f42_s ho, ↓f43_g ho, ↓f43_s ho, ↓f44_g ho, ↓f44_s ho, h1, nI_nlt (Nat.le_refl B.length) (show B.length < 2 ^ 31 by omega), List.take_length]
theorem c_outAll (ho : isB o) (hB : OB T o B) : X 42 0 [.ref (o + 41), .long 0, .long 0] [] (H T P) = some (some (.int (nI (allL B))), H T P) := by
  obtain ⟨h1, h2, h3⟩ := hB
  have hstep : ∀ i, i < B.length → X 42 4 [.ref (o + 41), .int (nI (allL (B.take i))), .int (nI i)] [] (H T P) = X 42 4 [.ref (o + 41), .int (nI (allL (B.take (i + 1)))), .int (nI (i + 1))] [] (H T P) := by
    intro i hi
    obtain ⟨⟨c', d, n⟩, hx⟩ := at_of hi
    obtain ⟨g1, g2, g3⟩ := h3 _ _ _ _ hx
    rw [x42_4, take_s hx, allL_app]
    simp +decide only [x42_0, x42_1, x42_2, x42_3, x42_5, x42_6, x42_9, x42_12, x42_13, x42_14, x42_17, x42_18, x42_19, x42_20, x42_21, x42_24, x42_27, x42_28, aft_some, aft_void, Option.bind_some, Option.toList_some, Option.toList_none, List.cons_append, List.nil_append, if_true, if_false, ↓reduceIte, eq_self, f41_o ho, ↓f41_0 ho, ↓f41_1 ho, ↓f41_2 ho, ↓f41_3 ho, ↓f41_3p ho, ↓f42_g ho, ↓f42_s ho, ↓f43_g ho, ↓f43_s ho, ↓f44_g ho, ↓f44_s ho, h1, g1, g3, nI_lt hi (show B.length < 2 ^ 31 by omega), okx_nI (show i < 99 by omega) (show (99 : Nat) < 2 ^ 31 by decide), nI_clamp (show i < 2 ^ 31 by omega), nI_1, nI_add, allL, Nat.add_zero]
  simp +decide only [x42_0, x42_1, x42_2, x42_3, x42_5, x42_6, x42_9, x42_12, x42_13, x42_14, x42_17, x42_18, x42_19, x42_20, x42_21, x42_24, x42_27, x42_28, aft_some, aft_void, Option.bind_some, Option.toList_some, Option.toList_none, List.cons_append, List.nil_append, if_true, if_false, ↓reduceIte, eq_self]
  rw [show X 42 4 [.ref (o + 41), .int 0, .int 0] [] (H T P) = _ from loop_up (fun i => X 42 4 [.ref (o + 41), .int (nI (allL (B.take i))), .int (nI i)] [] (H T P)) B.length hstep, x42_4]
  simp +decide only [x42_0, x42_1, x42_2, x42_3, x42_5, x42_6, x42_9, x42_12, x42_13, x42_14, x42_17, x42_18, x42_19, x42_20, x42_21, x42_24, x42_27, x42_28, aft_some, aft_void, Option.bind_some, Option.toList_some, Option.toList_none, List.cons_append, List.nil_append, if_true, if_false, ↓reduceIte, eq_self, f41_o ho, ↓f41_0 ho, ↓f41_1 ho, ↓f41_2 ho, ↓f41_3 ho, ↓f41_3p ho, ↓f42_g ho, ↓f42_s ho, ↓f43_g ho, ↓f43_s ho, ↓f44_g ho, ↓f44_s ho, h1, nI_nlt (Nat.le_refl B.length) (show B.length < 2 ^ 31 by omega), List.take_length]
def firstL (c : Nat) : List bT → Int32
  | [] => -5
  | q :: B => if q.1 = c then nI q.2.1 else firstL c B
theorem c_firstDay (ho : isB o) (hB : OB T o B) (hs : OS B) {c : Nat} (hc : c < 10) : X 43 0 [.ref (o + 41), .int (nI c), .long 0] [] (H T P) = some (some (.int (firstL c B)), H T P) := by
  obtain ⟨h1, h2, h3⟩ := hB
  have key : ∀ n i, n + i = B.length → X 43 2 [.ref (o + 41), .int (nI c), .int (nI i)] [] (H T P) = some (some (.int (firstL c (B.drop i))), H T P) := by
    intro n
    induction n with
    | zero =>
      intro i hi
      have hi : i = B.length := by omega
      subst hi
      rw [x43_2]
      simp +decide only [x43_0, x43_1, x43_3, x43_4, x43_7, x43_10, x43_11, x43_14, x43_15, x43_16, x43_17, x43_20, x43_21, x43_24, x43_25, x43_26, x43_27, x43_30, x43_33, x43_35, aft_some, aft_void, Option.bind_some, Option.toList_some, Option.toList_none, List.cons_append, List.nil_append, if_true, if_false, ↓reduceIte, eq_self, f41_o ho, ↓f41_0 ho, ↓f41_1 ho, ↓f41_2 ho, ↓f41_3 ho, ↓f41_3p ho, ↓f42_g ho, ↓f42_s ho, ↓f43_g ho, ↓f43_s ho, ↓f44_g ho, ↓f44_s ho, h1, nI_nlt (Nat.le_refl B.length) (show B.length < 2 ^ 31 by omega), List.drop_length, firstL]
    | succ n ih =>
      intro i hi
      have hi' : i < B.length := by omega
      obtain ⟨⟨c', d, m⟩, hx⟩ := at_of hi'
      obtain ⟨g1, g2, g3⟩ := h3 _ _ _ _ hx
      have hc' : c' < 10 := (hs _ (List.mem_of_getElem? hx)).1
      rw [x43_2, drop_c hx]
      simp +decide only [x43_0, x43_1, x43_3, x43_4, x43_7, x43_10, x43_11, x43_14, x43_15, x43_16, x43_17, x43_20, x43_21, x43_24, x43_25, x43_26, x43_27, x43_30, x43_33, x43_35, aft_some, aft_void, Option.bind_some, Option.toList_some, Option.toList_none, List.cons_append, List.nil_append, if_true, if_false, ↓reduceIte, eq_self, f41_o ho, ↓f41_0 ho, ↓f41_1 ho, ↓f41_2 ho, ↓f41_3 ho, ↓f41_3p ho, ↓f42_g ho, ↓f42_s ho, ↓f43_g ho, ↓f43_s ho, ↓f44_g ho, ↓f44_s ho, h1, g1, g2, nI_lt hi' (show B.length < 2 ^ 31 by omega), okx_nI (show i < 99 by omega) (show (99 : Nat) < 2 ^ 31 by decide), nI_clamp (show i < 2 ^ 31 by omega), nI_1, nI_inj (show c' < 2 ^ 31 by omega) (show c < 2 ^ 31 by omega)]
      by_cases hcc : c' = c
      · simp only [hcc, if_true, firstL]
      · simp only [hcc, if_false, firstL]
        exact ih (i + 1) (by omega)
  simp +decide only [x43_0, x43_1, x43_3, x43_4, x43_7, x43_10, x43_11, x43_14, x43_15, x43_16, x43_17, x43_20, x43_21, x43_24, x43_25, x43_26, x43_27, x43_30, x43_33, x43_35, aft_some, aft_void, Option.bind_some, Option.toList_some, Option.toList_none, List.cons_append, List.nil_append, if_true, if_false, ↓reduceIte, eq_self]
  exact key B.length 0 (by omega)
/-- dropEmptyBatches -/
theorem c_dropE (ho : isB o) (hB : OB T o B) (hs : OS B) : ∃ T', X 47 0 [.ref (o + 41), .long 0, .long 0] [] (H T P) = some (none, H T' P) ∧ (∀ a, a ≠ o + 41 → a ≠ o + 42 → a ≠ o + 43 → a ≠ o + 44 → T' a = T a) ∧ OB T' o (dropE B) := by
  obtain ⟨h1, h2, h3⟩ := hB
  have hfl : ∀ i, (dropE (B.take i)).length ≤ i := fun i => Nat.le_trans (List.length_filter_le _ _) (by rw [List.length_take]; omega)
  obtain ⟨T1, e1, i1, i2, i3, i4⟩ := loop_ex (fun i (U : Nat → Nat → Int32) => X 47 4 [.ref (o + 41), .int (nI (dropE (B.take i)).length), .int (nI i)] [] (H U P))
    (fun i U => (∀ a, a ≠ o + 42 → a ≠ o + 43 → a ≠ o + 44 → U a = T a) ∧ (∀ j c d n, (dropE (B.take i))[j]? = some (c, d, n) → U (o + 42) j = nI c ∧ U (o + 43) j = nI d ∧ U (o + 44) j = nI n) ∧ (∀ j, i ≤ j → U (o + 42) j = T (o + 42) j ∧ U (o + 43) j = T (o + 43) j ∧ U (o + 44) j = T (o + 44) j) ∧ True) B.length T
    ⟨fun _ _ _ _ => rfl, fun j c d n hj => by simp [dropE] at hj, fun _ _ => ⟨rfl, rfl, rfl⟩, trivial⟩ (by
      intro i U hi ⟨j1, j2, j3, _⟩
      obtain ⟨⟨c', d, m⟩, hx⟩ := at_of hi
      obtain ⟨g1, g2, g3⟩ := h3 _ _ _ _ hx
      obtain ⟨k1, k2, k3⟩ := j3 i (Nat.le_refl i)
      have hm : m < 1000 := (hs _ (List.mem_of_getElem? hx)).2.2
      have hb : U (o + 41) 3 = nI B.length := by rw [j1 (o + 41) (by omega) (by omega) (by omega)]; exact h1
      have hf := hfl i
      have e0 : dropE (B.take (i + 1)) = dropE (B.take i) ++ (if 0 < m then [(c', d, m)] else []) := by
        rw [take_s hx]
        unfold dropE
        rw [List.filter_append]
        by_cases hm0 : 0 < m <;> simp [hm0]
      by_cases hm0 : 0 < m
      · refine ⟨_, by
          show X 47 4 _ _ _ = _
          rw [x47_4]
          simp +decide only [x47_0, x47_1, x47_2, x47_3, x47_5, x47_6, x47_9, x47_12, x47_13, x47_16, x47_17, x47_18, x47_21, x47_22, x47_25, x47_26, x47_27, x47_30, x47_31, x47_32, x47_33, x47_34, x47_37, x47_38, x47_39, x47_42, x47_43, x47_44, x47_45, x47_46, x47_49, x47_50, x47_51, x47_54, x47_55, x47_56, x47_57, x47_60, x47_63, x47_66, x47_67, x47_68, x47_71, aft_some, aft_void, Option.bind_some, Option.toList_some, Option.toList_none, List.cons_append, List.nil_append, if_true, if_false, ↓reduceIte, eq_self, f41_o ho, ↓f41_0 ho, ↓f41_1 ho, ↓f41_2 ho, ↓f41_3 ho, ↓f41_3p ho, ↓f42_g ho, ↓f42_s ho, ↓f43_g ho, ↓f43_s ho, ↓f44_g ho, ↓f44_s ho, upA_s, u_oo, u_o0, u_0o, u_n, hb, k1, k2, k3, g1, g2, g3, nI_lt hi (show B.length < 2 ^ 31 by omega), okx_nI (show i < 99 by omega) (show (99 : Nat) < 2 ^ 31 by decide), okx_nI (show (dropE (B.take i)).length < 99 by omega) (show (99 : Nat) < 2 ^ 31 by decide), nI_clamp (show i < 2 ^ 31 by omega), nI_clamp (show (dropE (B.take i)).length < 2 ^ 31 by omega), nI_1, show (0 < nI m) = True from eq_true (nI_lt hm0 (show m < 2 ^ 31 by omega))]
          rw [e0, if_pos hm0, List.length_append]
          rfl, ?_, ?_, ?_, trivial⟩
        · intro a h42 h43 h44
          simp only [upA_n _ _ h44, upA_n _ _ h43, upA_n _ _ h42]
          exact j1 a h42 h43 h44
        · intro j c d' n hj
          rw [e0, if_pos hm0] at hj
          simp +decide only [u_oo, upA_s]
          by_cases hjl : j < (dropE (B.take i)).length
          · rw [List.getElem?_append_left hjl] at hj
            have hne : j ≠ (dropE (B.take i)).length := by omega
            rw [upA_n _ _ hne, upA_n _ _ hne, upA_n _ _ hne]
            exact j2 _ _ _ _ hj
          · rw [List.getElem?_append_right (by omega)] at hj
            have hz : j - (dropE (B.take i)).length < 1 := (List.getElem?_eq_some_iff.mp hj).1
            have hje : j = (dropE (B.take i)).length := by omega
            subst hje
            rw [Nat.sub_self] at hj
            cases hj
            rw [upA_s, upA_s, upA_s]
            exact ⟨rfl, rfl, rfl⟩
        · intro j hj
          have hne : j ≠ (dropE (B.take i)).length := by omega
          simp +decide only [u_oo, upA_s]
          rw [upA_n _ _ hne, upA_n _ _ hne, upA_n _ _ hne]
          exact j3 j (by omega)
      · refine ⟨U, by
          show X 47 4 _ _ _ = _
          rw [x47_4]
          simp +decide only [x47_0, x47_1, x47_2, x47_3, x47_5, x47_6, x47_9, x47_12, x47_13, x47_16, x47_17, x47_18, x47_21, x47_22, x47_25, x47_26, x47_27, x47_30, x47_31, x47_32, x47_33, x47_34, x47_37, x47_38, x47_39, x47_42, x47_43, x47_44, x47_45, x47_46, x47_49, x47_50, x47_51, x47_54, x47_55, x47_56, x47_57, x47_60, x47_63, x47_66, x47_67, x47_68, x47_71, aft_some, aft_void, Option.bind_some, Option.toList_some, Option.toList_none, List.cons_append, List.nil_append, if_true, if_false, ↓reduceIte, eq_self, f41_o ho, ↓f41_0 ho, ↓f41_1 ho, ↓f41_2 ho, ↓f41_3 ho, ↓f41_3p ho, ↓f42_g ho, ↓f42_s ho, ↓f43_g ho, ↓f43_s ho, ↓f44_g ho, ↓f44_s ho, upA_s, u_oo, u_o0, u_0o, u_n, hb, k3, g3, nI_lt hi (show B.length < 2 ^ 31 by omega), okx_nI (show i < 99 by omega) (show (99 : Nat) < 2 ^ 31 by decide), nI_clamp (show i < 2 ^ 31 by omega), nI_1, show (0 < nI m) = False from eq_false (nI_nlt (show m ≤ 0 by omega) (by decide))]
          rw [e0, if_neg hm0, List.append_nil], j1, ?_, fun j hj => j3 j (by omega), trivial⟩
        intro j c d' n hj
        rw [e0, if_neg hm0, List.append_nil] at hj
        exact j2 _ _ _ _ hj)
  have hb : T1 (o + 41) 3 = nI B.length := by rw [i1 (o + 41) (by omega) (by omega) (by omega)]; exact h1
  simp only [List.take_length] at e1 i2
  refine ⟨_, by
    simp +decide only [x47_0, x47_1, x47_2, x47_3, x47_5, x47_6, x47_9, x47_12, x47_13, x47_16, x47_17, x47_18, x47_21, x47_22, x47_25, x47_26, x47_27, x47_30, x47_31, x47_32, x47_33, x47_34, x47_37, x47_38, x47_39, x47_42, x47_43, x47_44, x47_45, x47_46, x47_49, x47_50, x47_51, x47_54, x47_55, x47_56, x47_57, x47_60, x47_63, x47_66, x47_67, x47_68, x47_71, aft_some, aft_void, Option.bind_some, Option.toList_some, Option.toList_none, List.cons_append, List.nil_append, if_true, if_false, ↓reduceIte, eq_self]
    rw [show X 47 4 [.ref (o + 41), .int 0, .int 0] [] (H T P) = _ from e1, x47_4]
    simp +decide only [x47_0, x47_1, x47_2, x47_3, x47_5, x47_6, x47_9, x47_12, x47_13, x47_16, x47_17, x47_18, x47_21, x47_22, x47_25, x47_26, x47_27, x47_30, x47_31, x47_32, x47_33, x47_34, x47_37, x47_38, x47_39, x47_42, x47_43, x47_44, x47_45, x47_46, x47_49, x47_50, x47_51, x47_54, x47_55, x47_56, x47_57, x47_60, x47_63, x47_66, x47_67, x47_68, x47_71, aft_some, aft_void, Option.bind_some, Option.toList_some, Option.toList_none, List.cons_append, List.nil_append, if_true, if_false, ↓reduceIte, eq_self, f41_o ho, ↓f41_0 ho, ↓f41_1 ho, ↓f41_2 ho, ↓f41_3 ho, ↓f41_3p ho, ↓f42_g ho, ↓f42_s ho, ↓f43_g ho, ↓f43_s ho, ↓f44_g ho, ↓f44_s ho, hb, nI_nlt (Nat.le_refl B.length) (show B.length < 2 ^ 31 by omega)]
    rfl, ?_, ?_⟩
  · intro a h41 h42 h43 h44
    simp only [upA_n _ _ h41]
    exact i1 a h42 h43 h44
  · refine ⟨by simp only [upA_s], Nat.le_trans (List.length_filter_le _ _) h2, fun j c d n hj => ?_⟩
    simp +decide only [u_oo]
    exact i2 _ _ _ _ hj
end OU
