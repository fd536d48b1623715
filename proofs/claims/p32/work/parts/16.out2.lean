/-! hangers that are out: batches that change; lost pieces; the book -/
theorem tkL_set {c g i c' d n : Nat} {B : List bT} (h : B[i]? = some (c', d, n)) (hc : c' = c) : (tkL c g (B.take i) ++ B.drop i).set i (c', d, n - min (tkF c g (B.take i)) n) = tkL c g (B.take (i + 1)) ++ B.drop (i + 1) := by
  have hl : (tkL c g (B.take i)).length = i := by
    rw [tkL_len, List.length_take]
    have := (List.getElem?_eq_some_iff.mp h).1
    omega
  rw [drop_c h, List.set_append_right _ _ (by omega), hl, Nat.sub_self, List.set_cons_zero, take_s h, tkL_app]
  simp only [tkL, hc, if_true, List.append_assoc, List.singleton_append, List.cons_append, List.nil_append]
theorem tkL_skip {c g i c' d n : Nat} {B : List bT} (h : B[i]? = some (c', d, n)) (hc : ¬ c' = c) : tkL c g (B.take i) ++ B.drop i = tkL c g (B.take (i + 1)) ++ B.drop (i + 1) := by
  rw [drop_c h, take_s h, tkL_app]
  simp only [tkL, hc, if_false, List.append_assoc, List.singleton_append, List.cons_append, List.nil_append]
theorem tkL_at {c g i : Nat} {B : List bT} {x : bT} (h : B[i]? = some x) : (tkL c g (B.take i) ++ B.drop i)[i]? = some x := by
  have hl : (tkL c g (B.take i)).length = i := by
    rw [tkL_len, List.length_take]
    have := (List.getElem?_eq_some_iff.mp h).1
    omega
  rw [List.getElem?_append_right (by omega), hl, Nat.sub_self, drop_c h]; rfl
theorem tkL_small {c : Nat} : ∀ {g : Nat} {B : List bT}, OS B → OS (tkL c g B)
  | _, [], h => h
  | g, q :: B, h => by
    have hq := h q List.mem_cons_self
    have hB : OS B := fun x hx => h x (List.mem_cons_of_mem _ hx)
    unfold tkL
    split
    · intro x hx
      rcases List.mem_cons.mp hx with rfl | hx
      · exact ⟨hq.1, hq.2.1, by show q.2.2 - _ < 1000; omega⟩
      · exact tkL_small hB x hx
    · intro x hx
      rcases List.mem_cons.mp hx with rfl | hx
      · exact hq
      · exact tkL_small hB x hx
theorem zeroL_at {lim c i c' d n : Nat} {B : List bT} (h : B[i]? = some (c', d, n)) : (zeroL lim c (B.take i) ++ B.drop i)[i]? = some (c', d, n) := by
  have hl : (zeroL lim c (B.take i)).length = i := by
    unfold zeroL
    rw [List.length_map, List.length_take]
    have := (List.getElem?_eq_some_iff.mp h).1
    omega
  rw [List.getElem?_append_right (by omega), hl, Nat.sub_self, drop_c h]; rfl
theorem zeroL_set {lim c i c' d n : Nat} {B : List bT} (h : B[i]? = some (c', d, n)) (hc : c' = c ∧ d < lim) : (zeroL lim c (B.take i) ++ B.drop i).set i (c', d, 0) = zeroL lim c (B.take (i + 1)) ++ B.drop (i + 1) := by
  have hl : (zeroL lim c (B.take i)).length = i := by
    unfold zeroL
    rw [List.length_map, List.length_take]
    have := (List.getElem?_eq_some_iff.mp h).1
    omega
  rw [drop_c h, List.set_append_right _ _ (by omega), hl, Nat.sub_self, List.set_cons_zero, take_s h]
  simp only [zeroL, List.map_append, List.map_cons, List.map_nil, hc, and_self, if_true, List.append_assoc, List.singleton_append]
theorem zeroL_skip {lim c i c' d n : Nat} {B : List bT} (h : B[i]? = some (c', d, n)) (hc : ¬ (c' = c ∧ d < lim)) : zeroL lim c (B.take i) ++ B.drop i = zeroL lim c (B.take (i + 1)) ++ B.drop (i + 1) := by
  rw [drop_c h, take_s h]
  simp only [zeroL, List.map_append, List.map_cons, List.map_nil, hc, if_false, List.append_assoc, List.singleton_append]
theorem zeroL_small {lim c : Nat} {B : List bT} (h : OS B) : OS (zeroL lim c B) := by
  intro x hx
  obtain ⟨q, hq, rfl⟩ := List.mem_map.mp hx
  have := h q hq
  split
  · exact ⟨this.1, this.2.1, show (0 : Nat) < 1000 by decide⟩
  · exact this
theorem min_nI {a b : Nat} (ha : a < 2 ^ 31) (hb : b < 2 ^ 31) : (if nI b < nI a then nI b else nI a) = nI (min a b) := by
  simp only [nI_ltp hb ha]
  by_cases h : b < a
  · rw [if_pos h, Nat.min_eq_right (by omega)]
  · rw [if_neg h, Nat.min_eq_left (by omega)]
section OU2
variable {T : Nat → Nat → Int32} {P : Nat → Nat → Nat} {o : Nat} {B : List bT}
theorem tkF_le (c : Nat) : ∀ (g : Nat) (B : List bT), tkF c g B ≤ g
  | _, [] => Nat.le_refl _
  | g, q :: B => by
    unfold tkF
    split
    · have := tkF_le c (g - min g q.2.2) B; omega
    · exact tkF_le c g B
/-- takeBack -/
theorem c_takeBack (ho : isB o) (hB : OB T o B) (hs : OS B) {c g : Nat} (hc : c < 10) (hg : g < 1000) : ∃ T', X 44 0 [.ref (o + 41), .int (nI c), .int (nI g), .long 0, .long 0, .long 0] [] (H T P) = some (none, H T' P) ∧ (∀ a, a ≠ o + 41 → a ≠ o + 42 → a ≠ o + 43 → a ≠ o + 44 → T' a = T a) ∧ OB T' o (dropE (tkL c g B)) := by
  obtain ⟨⟨T1, w1⟩, e1, i1, i2⟩ := loop_ex (fun i (U : (Nat → Nat → Int32) × Value) => X 44 5 [.ref (o + 41), .int (nI c), .int (nI g), .int (nI (tkF c g (B.take i))), .int (nI i), U.2] [] (H U.1 P))
    (fun i U => (∀ a, a ≠ o + 44 → U.1 a = T a) ∧ OB U.1 o (tkL c g (B.take i) ++ B.drop i)) B.length (T, .long 0)
    ⟨fun _ _ => rfl, by simpa [tkL] using hB⟩ (by
      intro i ⟨U, w⟩ hi ⟨j1, j2⟩
      have j1 : ∀ a, a ≠ o + 44 → U a = T a := j1
      have j2 : OB U o (tkL c g (B.take i) ++ B.drop i) := j2
      obtain ⟨⟨c', d, m⟩, hx⟩ := at_of hi
      have hx2 := tkL_at (c := c) (g := g) hx
      have j3 := j2
      obtain ⟨h1, h2, h3⟩ := j2
      obtain ⟨g1, g2, g3⟩ := h3 _ _ _ _ hx2
      have hq := hs _ (List.mem_of_getElem? hx)
      have hm : m < 1000 := hq.2.2
      have hc' : c' < 10 := hq.1
      have hlen : (tkL c g (B.take i) ++ B.drop i).length = B.length := by
        rw [List.length_append, tkL_len, List.length_take, List.length_drop]; omega
      rw [hlen] at h1 h2
      have hf := tkF_le c g (B.take i)
      by_cases hcc : c' = c
      · refine ⟨(_, _), by
          show X 44 5 _ _ _ = _
          rw [x44_5]
          simp +decide only [x44_0, x44_1, x44_2, x44_3, x44_7, x44_8, x44_11, x44_14, x44_15, x44_18, x44_20, x44_21, x44_22, x44_25, x44_26, x44_27, x44_30, x44_32, x44_33, x44_36, x44_38, x44_39, x44_42, x44_44, x44_45, x44_46, x44_48, x44_49, x44_50, x44_51, x44_53, x44_54, x44_55, x44_58, x44_61, x44_62, x44_65, aft_some, aft_void, Option.bind_some, Option.toList_some, Option.toList_none, List.cons_append, List.nil_append, if_true, if_false, ↓reduceIte, eq_self, f41_o ho, ↓f41_0 ho, ↓f41_1 ho, ↓f41_2 ho, ↓f41_3 ho, ↓f41_3p ho, ↓f42_g ho, ↓f42_s ho, ↓f43_g ho, ↓f43_s ho, ↓f44_g ho, ↓f44_s ho, h1, g1, g3, nI_lt hi (show B.length < 2 ^ 31 by omega), okx_nI (show i < 99 by omega) (show (99 : Nat) < 2 ^ 31 by decide), nI_clamp (show i < 2 ^ 31 by omega), nI_1, hcc, min_nI (show tkF c g (B.take i) < 2 ^ 31 by omega) (show m < 2 ^ 31 by omega), nI_sub (Nat.min_le_right _ _), nI_sub (Nat.min_le_left _ _)]
          rw [show tkF c g (B.take (i + 1)) = tkF c g (B.take i) - min (tkF c g (B.take i)) m by rw [take_s hx, tkF_app]; simp [tkF, hcc]], ?_, ?_⟩
        · intro a h44
          simp only [upA_n _ _ h44]
          exact j1 a h44
        · rw [← tkL_set hx hcc]
          exact j3.set hx2
      · refine ⟨(U, w), by
          show X 44 5 _ _ _ = _
          rw [x44_5]
          simp +decide only [x44_0, x44_1, x44_2, x44_3, x44_7, x44_8, x44_11, x44_14, x44_15, x44_18, x44_20, x44_21, x44_22, x44_25, x44_26, x44_27, x44_30, x44_32, x44_33, x44_36, x44_38, x44_39, x44_42, x44_44, x44_45, x44_46, x44_48, x44_49, x44_50, x44_51, x44_53, x44_54, x44_55, x44_58, x44_61, x44_62, x44_65, aft_some, aft_void, Option.bind_some, Option.toList_some, Option.toList_none, List.cons_append, List.nil_append, if_true, if_false, ↓reduceIte, eq_self, f41_o ho, ↓f41_0 ho, ↓f41_1 ho, ↓f41_2 ho, ↓f41_3 ho, ↓f41_3p ho, ↓f42_g ho, ↓f42_s ho, ↓f43_g ho, ↓f43_s ho, ↓f44_g ho, ↓f44_s ho, h1, g1, g3, nI_lt hi (show B.length < 2 ^ 31 by omega), okx_nI (show i < 99 by omega) (show (99 : Nat) < 2 ^ 31 by decide), nI_clamp (show i < 2 ^ 31 by omega), nI_1, nI_inj (show c' < 2 ^ 31 by omega) (show c < 2 ^ 31 by omega), hcc]
          rw [show tkF c g (B.take (i + 1)) = tkF c g (B.take i) by rw [take_s hx, tkF_app]; simp [tkF, hcc]], j1, ?_⟩
        rw [← tkL_skip hx hcc]
        exact j3)
  have i1 : ∀ a, a ≠ o + 44 → T1 a = T a := i1
  simp only [List.take_length, List.drop_length, List.append_nil] at e1 i2
  have hb : T1 (o + 41) 3 = nI B.length := by have := i2.1; rw [tkL_len] at this; exact this
  have hle : B.length ≤ 99 := hB.2.1
  obtain ⟨T2, e2, f2, b2⟩ := c_dropE (P := P) ho i2 (tkL_small hs)
  refine ⟨T2, by
    simp +decide only [x44_0, x44_1, x44_2, x44_3, x44_7, x44_8, x44_11, x44_14, x44_15, x44_18, x44_20, x44_21, x44_22, x44_25, x44_26, x44_27, x44_30, x44_32, x44_33, x44_36, x44_38, x44_39, x44_42, x44_44, x44_45, x44_46, x44_48, x44_49, x44_50, x44_51, x44_53, x44_54, x44_55, x44_58, x44_61, x44_62, x44_65, aft_some, aft_void, Option.bind_some, Option.toList_some, Option.toList_none, List.cons_append, List.nil_append, if_true, if_false, ↓reduceIte, eq_self]
    rw [show X 44 5 [.ref (o + 41), .int (nI c), .int (nI g), .int (nI g), .int 0, .long 0] [] (H T P) = _ from e1, x44_5]
    simp +decide only [x44_0, x44_1, x44_2, x44_3, x44_7, x44_8, x44_11, x44_14, x44_15, x44_18, x44_20, x44_21, x44_22, x44_25, x44_26, x44_27, x44_30, x44_32, x44_33, x44_36, x44_38, x44_39, x44_42, x44_44, x44_45, x44_46, x44_48, x44_49, x44_50, x44_51, x44_53, x44_54, x44_55, x44_58, x44_61, x44_62, x44_65, aft_some, aft_void, Option.bind_some, Option.toList_some, Option.toList_none, List.cons_append, List.nil_append, if_true, if_false, ↓reduceIte, eq_self, f41_o ho, ↓f41_0 ho, ↓f41_1 ho, ↓f41_2 ho, ↓f41_3 ho, ↓f41_3p ho, ↓f42_g ho, ↓f42_s ho, ↓f43_g ho, ↓f43_s ho, ↓f44_g ho, ↓f44_s ho, hb, nI_nlt (Nat.le_refl B.length) (show B.length < 2 ^ 31 by omega), ↓aft_of (e2)], fun a h41 h42 h43 h44 => ?_, b2⟩
  rw [f2 a h41 h42 h43 h44, i1 a h44]
theorem oldL_le (lim c : Nat) : ∀ (B : List bT), oldL lim c B ≤ allL B
  | [] => Nat.le_refl _
  | q :: B => by
    have := oldL_le lim c B
    simp only [oldL, allL]
    split <;> omega
/-- takeFromBefore -/
theorem c_takeOld (ho : isB o) (hB : OB T o B) (hs : OS B) {lim : Int32} {c l0 : Nat} (hc : c < 10) (hlim : ∀ d : Nat, d < 20000 → (nI d < lim ↔ d < l0)) : ∃ T', X 46 0 [.ref (o + 41), .int lim, .int (nI c), .long 0, .long 0] [] (H T P) = some (some (.int (nI (oldL l0 c B))), H T' P) ∧ (∀ a, a ≠ o + 41 → a ≠ o + 42 → a ≠ o + 43 → a ≠ o + 44 → T' a = T a) ∧ OB T' o (dropE (zeroL l0 c B)) := by
  obtain ⟨T1, e1, i1, i2⟩ := loop_ex (fun i (U : Nat → Nat → Int32) => X 46 5 [.ref (o + 41), .int lim, .int (nI c), .int (nI (oldL l0 c (B.take i))), .int (nI i)] [] (H U P))
    (fun i U => (∀ a, a ≠ o + 44 → U a = T a) ∧ OB U o (zeroL l0 c (B.take i) ++ B.drop i)) B.length T
    ⟨fun _ _ => rfl, by simpa [zeroL] using hB⟩ (by
      intro i U hi ⟨j1, j2⟩
      obtain ⟨⟨c', d, m⟩, hx⟩ := at_of hi
      have hx2 := zeroL_at (lim := l0) (c := c) hx
      have j3 := j2
      obtain ⟨h1, h2, h3⟩ := j2
      obtain ⟨g1, g2, g3⟩ := h3 _ _ _ _ hx2
      have hq := hs _ (List.mem_of_getElem? hx)
      have hm : m < 1000 := hq.2.2
      have hc' : c' < 10 := hq.1
      have hd := hlim d hq.2.1
      have hlen : (zeroL l0 c (B.take i) ++ B.drop i).length = B.length := by
        unfold zeroL
        rw [List.length_append, List.length_map, List.length_take, List.length_drop]; omega
      rw [hlen] at h1 h2
      by_cases hcc : c' = c ∧ d < l0
      · refine ⟨_, by
          show X 46 5 _ _ _ = _
          rw [x46_5]
          simp +decide only [x46_0, x46_1, x46_2, x46_3, x46_7, x46_8, x46_11, x46_14, x46_15, x46_18, x46_20, x46_21, x46_22, x46_25, x46_26, x46_29, x46_31, x46_32, x46_33, x46_36, x46_37, x46_38, x46_41, x46_43, x46_44, x46_45, x46_46, x46_47, x46_50, x46_52, x46_53, x46_54, x46_57, x46_60, x46_61, x46_64, x46_65, aft_some, aft_void, Option.bind_some, Option.toList_some, Option.toList_none, List.cons_append, List.nil_append, if_true, if_false, ↓reduceIte, eq_self, f41_o ho, ↓f41_0 ho, ↓f41_1 ho, ↓f41_2 ho, ↓f41_3 ho, ↓f41_3p ho, ↓f42_g ho, ↓f42_s ho, ↓f43_g ho, ↓f43_s ho, ↓f44_g ho, ↓f44_s ho, h1, g1, g2, g3, nI_lt hi (show B.length < 2 ^ 31 by omega), okx_nI (show i < 99 by omega) (show (99 : Nat) < 2 ^ 31 by decide), nI_clamp (show i < 2 ^ 31 by omega), nI_1, hcc.1, eq_true (hd.mpr hcc.2), nI_add]
          rw [show oldL l0 c (B.take (i + 1)) = oldL l0 c (B.take i) + m by rw [take_s hx, oldL_app]; simp [oldL, hcc]], ?_, ?_⟩
        · intro a h44
          simp only [upA_n _ _ h44]
          exact j1 a h44
        · rw [← zeroL_set hx hcc]
          exact j3.set (m := 0) hx2
      · refine ⟨U, by
          show X 46 5 _ _ _ = _
          rw [x46_5]
          simp +decide only [x46_0, x46_1, x46_2, x46_3, x46_7, x46_8, x46_11, x46_14, x46_15, x46_18, x46_20, x46_21, x46_22, x46_25, x46_26, x46_29, x46_31, x46_32, x46_33, x46_36, x46_37, x46_38, x46_41, x46_43, x46_44, x46_45, x46_46, x46_47, x46_50, x46_52, x46_53, x46_54, x46_57, x46_60, x46_61, x46_64, x46_65, aft_some, aft_void, Option.bind_some, Option.toList_some, Option.toList_none, List.cons_append, List.nil_append, if_true, if_false, ↓reduceIte, eq_self, f41_o ho, ↓f41_0 ho, ↓f41_1 ho, ↓f41_2 ho, ↓f41_3 ho, ↓f41_3p ho, ↓f42_g ho, ↓f42_s ho, ↓f43_g ho, ↓f43_s ho, ↓f44_g ho, ↓f44_s ho, h1, g1, g2, g3, nI_lt hi (show B.length < 2 ^ 31 by omega), okx_nI (show i < 99 by omega) (show (99 : Nat) < 2 ^ 31 by decide), nI_clamp (show i < 2 ^ 31 by omega), nI_1, nI_inj (show c' < 2 ^ 31 by omega) (show c < 2 ^ 31 by omega), propext hd]
          rw [show oldL l0 c (B.take (i + 1)) = oldL l0 c (B.take i) by rw [take_s hx, oldL_app]; simp [oldL, hcc]]
          by_cases h5 : c' = c
          · have h6 : ¬ d < l0 := fun q => hcc ⟨h5, q⟩
            simp only [h5, h6, if_true, if_false]
          · simp only [h5, if_false], j1, ?_⟩
        rw [← zeroL_skip hx hcc]
        exact j3)
  simp only [List.take_length, List.drop_length, List.append_nil] at e1 i2
  have hb : T1 (o + 41) 3 = nI B.length := by
    have := i2.1
    unfold zeroL at this
    rw [List.length_map] at this
    exact this
  have hle : B.length ≤ 99 := hB.2.1
  obtain ⟨T2, e2, f2, b2⟩ := c_dropE (P := P) ho i2 (zeroL_small hs)
  refine ⟨T2, by
    simp +decide only [x46_0, x46_1, x46_2, x46_3, x46_7, x46_8, x46_11, x46_14, x46_15, x46_18, x46_20, x46_21, x46_22, x46_25, x46_26, x46_29, x46_31, x46_32, x46_33, x46_36, x46_37, x46_38, x46_41, x46_43, x46_44, x46_45, x46_46, x46_47, x46_50, x46_52, x46_53, x46_54, x46_57, x46_60, x46_61, x46_64, x46_65, aft_some, aft_void, Option.bind_some, Option.toList_some, Option.toList_none, List.cons_append, List.nil_append, if_true, if_false, ↓reduceIte, eq_self]
    rw [show X 46 5 [.ref (o + 41), .int lim, .int (nI c), .int 0, .int 0] [] (H T P) = _ from e1, x46_5]
    simp +decide only [x46_0, x46_1, x46_2, x46_3, x46_7, x46_8, x46_11, x46_14, x46_15, x46_18, x46_20, x46_21, x46_22, x46_25, x46_26, x46_29, x46_31, x46_32, x46_33, x46_36, x46_37, x46_38, x46_41, x46_43, x46_44, x46_45, x46_46, x46_47, x46_50, x46_52, x46_53, x46_54, x46_57, x46_60, x46_61, x46_64, x46_65, aft_some, aft_void, Option.bind_some, Option.toList_some, Option.toList_none, List.cons_append, List.nil_append, if_true, if_false, ↓reduceIte, eq_self, f41_o ho, ↓f41_0 ho, ↓f41_1 ho, ↓f41_2 ho, ↓f41_3 ho, ↓f41_3p ho, ↓f42_g ho, ↓f42_s ho, ↓f43_g ho, ↓f43_s ho, ↓f44_g ho, ↓f44_s ho, hb, nI_nlt (Nat.le_refl B.length) (show B.length < 2 ^ 31 by omega), ↓aft_of (e2)], fun a h41 h42 h43 h44 => ?_, b2⟩
  rw [f2 a h41 h42 h43 h44, i1 a h44]
/-- send -/
theorem c_send (ho : isB o) (hB : OB T o B) (hl : B.length < 99) {c d n : Nat} (hn : n < 2 ^ 31) : ∃ T', X 40 0 [.ref (o + 41), .int (nI c), .int (nI d), .int (nI n)] [] (H T P) = some (none, H T' P) ∧ (∀ a, a ≠ o + 41 → a ≠ o + 42 → a ≠ o + 43 → a ≠ o + 44 → T' a = T a) ∧ OB T' o (if 0 < n then B ++ [(c, d, n)] else B) := by
  have hB' := hB
  obtain ⟨h1, h2, h3⟩ := hB
  by_cases h0 : 0 < n
  · refine ⟨_, by
      simp +decide only [x40_0, x40_1, x40_4, x40_5, x40_8, x40_10, x40_13, x40_14, x40_15, x40_18, x40_19, x40_22, x40_23, x40_24, x40_25, x40_28, x40_29, x40_32, x40_33, x40_34, x40_35, x40_38, x40_39, x40_42, x40_43, x40_44, x40_45, x40_46, x40_49, x40_50, x40_51, x40_54, aft_some, aft_void, Option.bind_some, Option.toList_some, Option.toList_none, List.cons_append, List.nil_append, if_true, if_false, ↓reduceIte, eq_self, f41_o ho, ↓f41_0 ho, ↓f41_1 ho, ↓f41_2 ho, ↓f41_3 ho, ↓f41_3p ho, ↓f42_g ho, ↓f42_s ho, ↓f43_g ho, ↓f43_s ho, ↓f44_g ho, ↓f44_s ho, upA_s, u_oo, u_o0, u_0o, u_n, h1, nI_1, show (0 < nI n) = True from eq_true (nI_lt h0 hn), nI_lt hl (show 99 < 2 ^ 31 by decide), show (99 : Int32) = nI 99 from rfl, okx_nI hl (show (99 : Nat) < 2 ^ 31 by decide), nI_clamp (show B.length < 2 ^ 31 by omega)]
      rfl, ?_, ?_⟩
    · intro a h41 h42 h43 h44
      simp only [upA_n _ _ h41, upA_n _ _ h42, upA_n _ _ h43, upA_n _ _ h44]
    · rw [if_pos h0]
      refine ⟨by simp only [upA_s, List.length_append, List.length_singleton], by rw [List.length_append, List.length_singleton]; omega, fun j c' d' n' hj => ?_⟩
      simp +decide only [u_oo, upA_s]
      by_cases hjl : j < B.length
      · rw [List.getElem?_append_left hjl] at hj
        have hne : j ≠ B.length := by omega
        rw [upA_n _ _ hne, upA_n _ _ hne, upA_n _ _ hne]
        exact h3 _ _ _ _ hj
      · rw [List.getElem?_append_right (by omega)] at hj
        have hz : j - B.length < 1 := (List.getElem?_eq_some_iff.mp hj).1
        have hje : j = B.length := by omega
        subst hje
        rw [Nat.sub_self] at hj
        cases hj
        rw [upA_s, upA_s, upA_s]
        exact ⟨rfl, rfl, rfl⟩
  · refine ⟨T, by
      simp +decide only [x40_0, x40_1, x40_4, x40_5, x40_8, x40_10, x40_13, x40_14, x40_15, x40_18, x40_19, x40_22, x40_23, x40_24, x40_25, x40_28, x40_29, x40_32, x40_33, x40_34, x40_35, x40_38, x40_39, x40_42, x40_43, x40_44, x40_45, x40_46, x40_49, x40_50, x40_51, x40_54, aft_some, aft_void, Option.bind_some, Option.toList_some, Option.toList_none, List.cons_append, List.nil_append, if_true, if_false, ↓reduceIte, eq_self, show (0 < nI n) = False from eq_false (nI_nlt (show n ≤ 0 by omega) (by decide))], fun _ _ _ _ _ => rfl, ?_⟩
    rw [if_neg h0]
    exact hB'
/-- anyFromBefore -/
theorem c_anyOld (ho : isB o) (hB : OB T o B) {lim : Int32} : X 45 0 [.ref (o + 41), .int lim] [] (H T P) = some (some (.int (if 0 < B.length ∧ T (o + 43) 0 < lim then 1 else 0)), H T P) := by
  obtain ⟨h1, h2, h3⟩ := hB
  by_cases h0 : 0 < B.length
  · simp +decide only [x45_0, x45_1, x45_4, x45_7, x45_8, x45_11, x45_12, x45_13, x45_14, x45_17, x45_18, x45_21, x45_22, aft_some, aft_void, Option.bind_some, Option.toList_some, Option.toList_none, List.cons_append, List.nil_append, if_true, if_false, ↓reduceIte, eq_self, f41_o ho, ↓f41_0 ho, ↓f41_1 ho, ↓f41_2 ho, ↓f41_3 ho, ↓f41_3p ho, ↓f42_g ho, ↓f42_s ho, ↓f43_g ho, ↓f43_s ho, ↓f44_g ho, ↓f44_s ho, h1, show (0 < nI B.length) = True from eq_true (nI_lt h0 (show B.length < 2 ^ 31 by omega)), cl0, h0, true_and, or_true, true_or]
    split <;> rfl
  · simp +decide only [x45_0, x45_1, x45_4, x45_7, x45_8, x45_11, x45_12, x45_13, x45_14, x45_17, x45_18, x45_21, x45_22, aft_some, aft_void, Option.bind_some, Option.toList_some, Option.toList_none, List.cons_append, List.nil_append, if_true, if_false, ↓reduceIte, eq_self, f41_o ho, ↓f41_0 ho, ↓f41_1 ho, ↓f41_2 ho, ↓f41_3 ho, ↓f41_3p ho, ↓f42_g ho, ↓f42_s ho, ↓f43_g ho, ↓f43_s ho, ↓f44_g ho, ↓f44_s ho, h1, show (0 < nI B.length) = False from eq_false (nI_nlt (show B.length ≤ 0 by omega) (by decide)), h0, false_and, or_true, true_or]
end OU2
