/-! how the small machine's world lies in the machine's -/
def ad (b : Nat) (t : Nat → Nat) (k : Nat) : Nat := match sIx k with
  | some j => t j
  | none => b + k
theorem sB_lt : sB < sB1 ∧ sB < sB2 ∧ sB < sB3 := by decide +kernel
theorem sIx_lt {k : Nat} (h : k < sB) : sIx k = none := by
  have := sB_lt
  unfold sIx
  rw [if_neg (by omega), if_neg (by omega), if_neg (by omega), if_neg (by omega)]
theorem sIx_A {k : Nat} (h : k < 4) : sIx (sA k) = some k := by
  match k, h with
  | 0, _ => rfl
  | 1, _ => decide +kernel
  | 2, _ => decide +kernel
  | 3, _ => decide +kernel
def cv (r : Nat → Nat) (v : Value) : Value := match v with
  | .ref k => .ref (r k)
  | v => v
def ce (r : Nat → Nat) (ac : Nat → ClassId) (x : hC) : va_E := match x with
  | .inl (ci, fs) => .inr (ci, fs.map (cv r))
  | .inr (t, n, .inl f) => .inl (ac t, n, .inl f)
  | .inr (t, n, .inr g) => .inl (ac t, n, .inr (.inr (.inr (.inr (fun j => (g j).map r)))))
def wz (r : Nat → Nat) (ac : Nat → ClassId) (h : List hC) : va_W := h.mapIdx (fun k x => (r k, ce r ac x))
theorem wz_at {r : Nat → Nat} {ac : Nat → ClassId} {h : List hC} {k : Nat} {x : hC} (hx : h[k]? = some x) : (wz r ac h)[k]? = some (r k, ce r ac x) := by
  simp [wz, List.getElem?_mapIdx, hx]
theorem wz_of {r : Nat → Nat} {ac : Nat → ClassId} {h : List hC} {k : Nat} {q : Nat × va_E} (hq : (wz r ac h)[k]? = some q) : ∃ x, h[k]? = some x ∧ q = (r k, ce r ac x) := by
  simp only [wz, List.getElem?_mapIdx] at hq
  cases hx : h[k]? with
  | none => rw [hx] at hq; cases hq
  | some x => rw [hx] at hq; cases hq; exact ⟨x, rfl, rfl⟩
theorem wz_set (r : Nat → Nat) (ac : Nat → ClassId) (h : List hC) (k : Nat) (x : hC) : (wz r ac h).set k (r k, ce r ac x) = wz r ac (h.set k x) := by
  apply List.ext_getElem?
  intro j
  by_cases hj : k = j
  · subst hj
    by_cases hl : k < h.length
    · rw [List.getElem?_set_self (by simpa [wz] using hl), wz_at (List.getElem?_set_self hl)]
    · rw [List.getElem?_eq_none (by simpa [wz] using Nat.le_of_not_lt hl), List.getElem?_eq_none (by simpa [wz] using Nat.le_of_not_lt hl)]
  · rw [List.getElem?_set_ne hj]
    simp only [wz, List.getElem?_mapIdx]
    rw [List.getElem?_set_ne hj]
theorem wz_push (r : Nat → Nat) (ac : Nat → ClassId) (h : List hC) (x : hC) : wz r ac (h ++ [x]) = wz r ac h ++ [(r h.length, ce r ac x)] := by
  simp [wz, List.mapIdx_append]
theorem ad_lt {b : Nat} {t : Nat → Nat} {k : Nat} (h : k < sB) : ad b t k = b + k := by
  unfold ad; rw [sIx_lt h]
theorem wz_D {b : Nat} {t : Nat → Nat} {ac : Nat → ClassId} {h : List hC} (hl : h.length ≤ sB) : va_D (fun q => b ≤ q) (wz (ad b t) ac h) := by
  have key : ∀ k q, (wz (ad b t) ac h)[k]? = some q → q.1 = b + k := by
    intro k q hq
    obtain ⟨x, hx, rfl⟩ := wz_of hq
    exact ad_lt (Nat.lt_of_lt_of_le (List.getElem?_eq_some_iff.mp hx).1 hl)
  refine ⟨fun i j p q hp hq he => ?_, fun k q hq => ?_⟩
  · have := key i p hp
    have := key j q hq
    omega
  · show b ≤ q.1
    rw [key k q hq]; omega
abbrev tyl (ac : Nat → ClassId) : List (ClassId × FieldType) := [(ac 0, .int), (ac 1, .char), (ac 2, .object RX0), (ac 3, .object RX9)]
/-- what holds of the tables and of what nobody writes -/
def EV (b : Nat) (t : Nat → Nat) (ac : Nat → ClassId) (D : va_G) (U : State) : Prop :=
  va_K D vwCl (tyl ac) U ∧ (∀ q ∈ ntab, va_Nw (.methodLinkNest q.1 q.2.1 q.2.2.1 q.2.2.2) U) ∧
  (∀ k, k < 4 → va_Z RX0 (sNm k) "[I" (.ref (t k)) (fun q => b ≤ q) U U.heap ∧ va_T .int (t k) 4 (fun j => .int (sArr k j)) (fun q => b ≤ q) U U.heap) ∧ va_AO RX0 U ∧ va_AO RX9 U
theorem EV.to {b : Nat} {t : Nat → Nat} {ac : Nat → ClassId} {D : va_G} {s U : State} {H : Heap} {locs : List Loc} (h : EV b t ac D s) (hS : va_S (fun q => b ≤ q) s.heap H locs) (hW : s.WarmedH U.vm) (hU : U.heap = H) : EV b t ac D U := by
  obtain ⟨h1, h2, h3, h4, h5⟩ := h
  refine ⟨va_K.moved hW.alike h1, fun q hq => va_Nw.warmM hW (h2 q hq), fun k hk => ?_, h4.moved hW.alike, h5.moved hW.alike⟩
  rw [hU]
  exact ⟨((h3 k hk).1.moved hW.alike).kept hS.2.1, ((h3 k hk).2.moved hW.alike).kept hS.2.1⟩
theorem EV.call {b : Nat} {t : Nat → Nat} {ac : Nat → ClassId} {D : va_G} {U : State} {g : JFrame} {mk : MethodId} {a : Array Value} (h : EV b t ac D U) : EV b t ac D (U.calling g mk a) := by
  obtain ⟨h1, h2, h3, h4, h5⟩ := h
  exact ⟨va_K.moved (u := U) (U := U.calling g mk a) (Vm.Alike.refl U.vm) h1, fun q hq => va_Nw.same rfl (u := U) rfl (h2 q hq), fun k hk => ⟨(h3 k hk).1.moved (u := U) (U := U.calling g mk a) (Vm.Alike.refl U.vm), (h3 k hk).2.moved (u := U) (U := U.calling g mk a) (Vm.Alike.refl U.vm)⟩, h4.moved (u := U) (U := U.calling g mk a) (Vm.Alike.refl U.vm), h5.moved (u := U) (U := U.calling g mk a) (Vm.Alike.refl U.vm)⟩
/-- the world is this heap -/
def WH (b : Nat) (t : Nat → Nat) (ac : Nat → ClassId) (D : va_G) (h : List hC) (H : Heap) : Prop := va_P D vwCl (wz (ad b t) ac h) H
/-- the locals are these; a long stands with a double behind it, which marks its second half -/
def LL (ls : Array Slot) (L : List Value) : Prop := ∀ (k : Nat) (x : Int64) (y : UInt64), L[k]? = some (.long x) → L[k + 1]? = some (.double y) → ls[k]? = some (Slot.val (.long x))
def LR (r : Nat → Nat) (ls : Array Slot) (n : Nat) (L : List Value) : Prop := ls.size = n ∧ (lv_wf ls ∧ LL ls L) ∧ L.length = n ∧ ∀ (k : Nat) (v : Value), L[k]? = some v → cat1 v = true → ls[k]? = some (Slot.val (cv r v))
theorem cat1_c {r : Nat → Nat} {v : Value} (h : cat1 v = true) : (cv r v).category = 1 := by
  cases v <;> first | rfl | cases h
theorem cv_c {r : Nat → Nat} (v : Value) : (cv r v).category = v.category := by cases v <;> rfl
/-- what is known of the locals -/
def KN (r : Nat → Nat) (L : List Value) : List (Nat × Value) := (List.range L.length).filterMap (fun (k : Nat) => match (L[k]? : Option Value) with
  | some (.long x) => (match (L[k + 1]? : Option Value) with
    | some (.double _) => some (k, .long x)
    | _ => none)
  | some v => if cat1 v = true then some (k, cv r v) else none
  | none => none)
theorem KN_1 {r : Nat → Nat} {L : List Value} {k : Nat} {v : Value} (h : L[k]? = some v) (hc : cat1 v = true) : (k, cv r v) ∈ KN r L := by
  refine List.mem_filterMap.mpr ⟨k, List.mem_range.mpr (List.getElem?_eq_some_iff.mp h).1, ?_⟩
  first | rw [h] | (dsimp only; rw [h])
  cases v <;> first | rfl | cases hc
theorem KN_2 {r : Nat → Nat} {L : List Value} {k : Nat} {x : Int64} {y : UInt64} (h : L[k]? = some (.long x)) (h2 : L[k + 1]? = some (.double y)) : (k, .long x) ∈ KN r L := by
  refine List.mem_filterMap.mpr ⟨k, List.mem_range.mpr (List.getElem?_eq_some_iff.mp h).1, ?_⟩
  simp only [h, h2]
theorem LR.has {r : Nat → Nat} {ls : Array Slot} {n : Nat} {L : List Value} (h : LR r ls n L) : lv_has ls n (KN r L) := by
  refine ⟨h.1, h.2.1.1, fun q hq => ?_⟩
  obtain ⟨k, -, h2⟩ := List.mem_filterMap.mp hq
  cases hx : L[k]? with
  | none => rw [hx] at h2; cases h2
  | some v =>
    rw [hx] at h2
    cases v
    case long x =>
      cases hy : L[k + 1]? with
      | none => rw [hy] at h2; cases h2
      | some w =>
        rw [hy] at h2
        cases w
        case double y =>
          have h2 : some (k, Value.long x) = some q := h2
          cases h2
          exact h.2.1.2 k x y hx hy
        all_goals
          have h2 : none = some q := h2
          cases h2
    case int x =>
      have h2 : some (k, cv r (.int x)) = some q := h2
      cases h2
      exact h.2.2.2 k _ hx rfl
    case ref x =>
      have h2 : some (k, cv r (.ref x)) = some q := h2
      cases h2
      exact h.2.2.2 k _ hx rfl
    case null =>
      have h2 : some (k, cv r .null) = some q := h2
      cases h2
      exact h.2.2.2 k _ hx rfl
    all_goals
      have h2 : none = some q := h2
      cases h2
/-- one more place is known -/
theorem LR.has1 {r : Nat → Nat} {ls : Array Slot} {n i : Nat} {L : List Value} {v : Value} (h : LR r ls n L) (hv : L[i]? = some v) (hc : cat1 v = true) : lv_has ls n ((i, cv r v) :: KN r L) := by
  refine ⟨h.1, h.2.1.1, fun q hq => ?_⟩
  rcases List.mem_cons.mp hq with rfl | hq
  · exact h.2.2.2 i v hv hc
  · exact h.has.2.2 q hq
theorem LR.put {r : Nat → Nat} {ls ls' : Array Slot} {n i : Nat} {L : List Value} {v : Value} {w : Value} {extra : List (Nat × Value)} (h : LR r ls n L) (hc : cat1 v = true) (hw : w = cv r v)
    (h' : lv_has ls' n ((i, w) :: (extra ++ KN r L).filter (fun q => !(q.1 == i) && !(q.1 + 1 == i && q.2.category == 2)))) : LR r ls' n (L.set i v) := by
  subst hw
  refine ⟨h'.1, ⟨h'.2.1, fun k x y hk hk2 => ?_⟩, by rw [List.length_set]; exact h.2.2.1, fun k x hk hx => ?_⟩
  · have n1 : i ≠ k := by
      intro e
      subst e
      have hl : i < L.length := by
        have := (List.getElem?_eq_some_iff.mp hk).1
        rwa [List.length_set] at this
      rw [List.getElem?_set_self hl] at hk
      cases hk; cases hc
    have n2 : i ≠ k + 1 := by
      intro e
      subst e
      have hl : k + 1 < L.length := by
        have := (List.getElem?_eq_some_iff.mp hk2).1
        rwa [List.length_set] at this
      rw [List.getElem?_set_self hl] at hk2
      cases hk2; cases hc
    rw [List.getElem?_set_ne n1] at hk
    rw [List.getElem?_set_ne n2] at hk2
    refine h'.2.2 (k, .long x) (List.mem_cons_of_mem _ (List.mem_filter.mpr ⟨List.mem_append_right _ (KN_2 hk hk2), ?_⟩))
    simp [Ne.symm n1, Ne.symm n2]
  by_cases hki : i = k
  · subst hki
    have hl : i < L.length := by
      have := (List.getElem?_eq_some_iff.mp hk).1
      rwa [List.length_set] at this
    rw [List.getElem?_set_self hl] at hk
    cases hk
    exact h'.2.2 _ List.mem_cons_self
  · rw [List.getElem?_set_ne hki] at hk
    refine h'.2.2 (k, cv r x) (List.mem_cons_of_mem _ (List.mem_filter.mpr ⟨List.mem_append_right _ (KN_1 hk hx), ?_⟩))
    have := cat1_c (r := r) hx
    simp [this, Ne.symm hki]
theorem LR.put2 {r : Nat → Nat} {ls ls' : Array Slot} {n i : Nat} {L : List Value} {z : Int64} (h : LR r ls n L) (hi : i + 1 < L.length)
    (h' : lv_has ls' n ((i, .long z) :: (KN r L).filter (fun q => !(q.1 == i) && (!(q.1 == i + 1) && !(q.1 + 1 == i && q.2.category == 2))))) : LR r ls' n ((L.set i (.long z)).set (i + 1) (.double 0)) := by
  have g0 : ((L.set i (.long z)).set (i + 1) (.double 0))[i]? = some (.long z) := by
    rw [List.getElem?_set_ne (by omega), List.getElem?_set_self (by omega)]
  have g1 : ((L.set i (.long z)).set (i + 1) (.double 0))[i + 1]? = some (.double 0) := List.getElem?_set_self (by rw [List.length_set]; exact hi)
  have g2 : ∀ k, k ≠ i → k ≠ i + 1 → ((L.set i (.long z)).set (i + 1) (.double 0))[k]? = L[k]? := fun k a b => by
    rw [List.getElem?_set_ne (Ne.symm b), List.getElem?_set_ne (Ne.symm a)]
  refine ⟨h'.1, ⟨h'.2.1, fun k x y hk hk2 => ?_⟩, by rw [List.length_set, List.length_set]; exact h.2.2.1, fun k x hk hx => ?_⟩
  · by_cases e : k = i
    · subst e
      rw [g0] at hk
      cases hk
      exact h'.2.2 _ List.mem_cons_self
    · have e1 : k ≠ i + 1 := by
        intro q; subst q
        rw [g1] at hk; cases hk
      have e2 : k + 1 ≠ i := by
        intro q; subst q
        rw [g0] at hk2; cases hk2
      rw [g2 k e e1] at hk
      rw [g2 (k + 1) e2 (by omega)] at hk2
      refine h'.2.2 (k, .long x) (List.mem_cons_of_mem _ (List.mem_filter.mpr ⟨KN_2 hk hk2, ?_⟩))
      simp [e, e1, e2]
  · have e : k ≠ i := by
      intro q; subst q
      rw [g0] at hk; cases hk; cases hx
    have e1 : k ≠ i + 1 := by
      intro q; subst q
      rw [g1] at hk; cases hk; cases hx
    rw [g2 k e e1] at hk
    refine h'.2.2 (k, cv r x) (List.mem_cons_of_mem _ (List.mem_filter.mpr ⟨KN_1 hk hx, ?_⟩))
    have := cat1_c (r := r) hx
    simp [this, e, e1]
theorem ite_some {α : Type} {c : Prop} [Decidable c] {a : Option α} {r : α} (h : (if c then a else none) = some r) : c ∧ a = some r := by
  by_cases hc : c
  · rw [if_pos hc] at h; exact ⟨hc, h⟩
  · rw [if_neg hc] at h; cases h
def Ctx (b : Nat) (t : Nat → Nat) (ac : Nat → ClassId) (D : va_G) (p : Program) (s : State) (m : MethodId) (args : Array Value) (meth : Method) (c : Code) (R : Room) (i : Nat) : Prop :=
  p.tables.exec = Jvm.exec ∧ c.code = mB i ∧ meth.sig.returnType = mR i ∧ c.maxLocals = mL i ∧ s.vm.findClass (fR (mC i)) = some m.cls ∧ (∀ w ∈ gw, w.before args s = true) ∧ meth.locks = false ∧ ((mN i).name = "<init>" → meth.name = "<init>") ∧ EV b t ac D s ∧ mF i ≤ R.frames ∧ mW i ≤ R.locals ∧ b ≤ s.heap.size
theorem okx_in {i : Int32} {n : Nat} (h : okx i n = true) : vp_in i n := by
  simp only [okx, Bool.and_eq_true, decide_eq_true_eq] at h
  intro q
  rcases q with q | q
  · exact absurd (Int32.lt_iff_toInt_lt.mp q) (by have := Int32.le_iff_toInt_le.mp h.1; omega)
  · omega
theorem okv_n {r : Nat → Nat} {ty : FieldType} {v : Value} (h : okv ty v = true) : narrow ty (cv r v) = cv r v ∧ fits ty (cv r v) = true := by
  cases ty <;> cases v <;> first
    | exact ⟨rfl, rfl⟩
    | (cases h; done)
    | (simp only [okv, Bool.or_eq_true, decide_eq_true_eq] at h
       rcases h with rfl | rfl <;> exact ⟨rfl, rfl⟩)
theorem fty_ok {ci k : Nat} (h1 : ci < 12) (h : k < fN ci) : parseFieldDescriptor (fT ci k).2.2.1 = some (fty ci k) := by
  match ci, h1, h with
  | 0, _, h => exact tyX0_ok k h
  | 1, _, h => exact tyX1_ok k h
  | 2, _, h => exact tyX2_ok k h
  | 3, _, h => exact tyX3_ok k h
  | 4, _, h => exact tyX4_ok k h
  | 5, _, h => exact tyX5_ok k h
  | 6, _, h => exact tyX6_ok k h
  | 7, _, h => exact tyX7_ok k h
  | 8, _, h => exact tyX8_ok k h
  | 9, _, h => exact tyX9_ok k h
  | 10, _, h => exact tyX10_ok k h
  | 11, _, h => exact tyX10_ok k h
theorem fnm_ok {ci : Nat} (h1 : ci < 12) : ∀ a, a < fN ci → ∀ b, b < fN ci → a ≠ b → (fT ci a).2.1 ≠ (fT ci b).2.1 := by
  match ci, h1 with
  | 0, _ => exact nmX0
  | 1, _ => exact nmX1
  | 2, _ => exact nmX2
  | 3, _ => exact nmX3
  | 4, _ => exact nmX4
  | 5, _ => exact nmX5
  | 6, _ => exact nmX6
  | 7, _ => exact nmX7
  | 8, _ => exact nmX8
  | 9, _ => exact nmX9
  | 10, _ => exact nmX10
  | 11, _ => exact nmX10
theorem fdecl_ok : (List.range 12).all (fun ci => (List.range (fN ci)).all (fun k => decide ((fT ci k).1 = fR ci))) = true := by decide +kernel
theorem fdecl {ci k : Nat} (h1 : ci < 12) (h : k < fN ci) : (fT ci k).1 = fR ci := of_decide_eq_true (List.all_eq_true.mp (List.all_eq_true.mp fdecl_ok ci (List.mem_range.mpr h1)) k (List.mem_range.mpr h))
theorem cat_sum {r : Nat → Nat} : ∀ (S : List Value), S.all cat1 = true → ((S.map (cv r)).map fun v => v.category).sum = S.length
  | [], _ => rfl
  | v :: S, h => by
    simp only [List.all_cons, Bool.and_eq_true] at h
    have := cat_sum (r := r) S h.2
    simp only [List.map_cons, List.sum_cons, List.length_cons, cat1_c h.1] at this ⊢
    omega
theorem getF_ok {c : Option hC} {ci k : Nat} {v : Value} (h : getF c ci k = some v) : ∃ fs, c = some (.inl (ci, fs)) ∧ fs[k]? = some v ∧ cat1 v = true := by
  unfold getF at h
  split at h
  · rename_i d fs
    have h' := ite_some h; clear h; obtain ⟨rfl, h⟩ := h'
    cases hk : fs[k]? with
    | none => rw [hk] at h; cases h
    | some w =>
      rw [hk] at h
      have h' := ite_some h; clear h; obtain ⟨h1, h⟩ := h'
      cases h
      exact ⟨fs, rfl, hk, h1⟩
  · cases h
theorem putF_ok {c : Option hC} {ci k : Nat} {v : Value} {x : hC} (h : putF c ci k v = some x) : ∃ fs, c = some (.inl (ci, fs)) ∧ k < fs.length ∧ okv (fty ci k) v = true ∧ x = .inl (ci, fs.set k v) := by
  unfold putF at h
  split at h
  · rename_i d fs
    have h' := ite_some h; clear h; obtain ⟨⟨rfl, h1, h2⟩, h⟩ := h'
    cases h
    exact ⟨fs, rfl, h1, h2, rfl⟩
  · cases h
theorem getI_ok {c : Option hC} {a t : Nat} {i x : Int32} (h : getI c a t i = some x) : (∃ n f, c = some (.inr (t, n, .inl f)) ∧ okx i n = true ∧ x = f i.toNatClampNeg) ∨ (c = none ∧ t = 0 ∧ ∃ j, sIx a = some j ∧ okx i 4 = true ∧ x = sArr j i.toNatClampNeg) := by
  unfold getI at h
  split at h
  · rename_i u n f
    have h' := ite_some h; clear h; obtain ⟨⟨rfl, h1⟩, h⟩ := h'
    cases h
    exact Or.inl ⟨n, f, rfl, h1, rfl⟩
  · cases h
  · split at h
    · rename_i j hj
      have h' := ite_some h; clear h; obtain ⟨⟨h1, h3⟩, h⟩ := h'
      cases h
      exact Or.inr ⟨rfl, h1, j, hj, h3, rfl⟩
    · cases h
theorem putI_ok {c : Option hC} {t : Nat} {i x : Int32} {y : hC} (h : putI c t i x = some y) : ∃ n f, c = some (.inr (t, n, .inl f)) ∧ okx i n = true ∧ y = .inr (t, n, .inl (upd f i.toNatClampNeg x)) := by
  unfold putI at h
  split at h
  · rename_i u n f
    have h' := ite_some h; clear h; obtain ⟨⟨rfl, h1⟩, h⟩ := h'
    cases h
    exact ⟨n, f, rfl, h1, rfl⟩
  · cases h
theorem getQ_ok {c : Option hC} {i : Int32} {v : Value} (h : getQ c i = some v) : ∃ t n g, c = some (.inr (t, n, .inr g)) ∧ (t = 2 ∨ t = 3) ∧ okx i n = true ∧ v = va_rf (g i.toNatClampNeg) := by
  unfold getQ at h
  split at h
  · rename_i u n f
    have h' := ite_some h; clear h; obtain ⟨⟨h0, h1⟩, h⟩ := h'
    cases h
    exact ⟨u, n, f, rfl, h0, h1, rfl⟩
  · cases h
theorem putQ_ok {c d : Option hC} {i : Int32} {v : Nat} {y : hC} (h : putQ c i d v = some y) : ∃ t n g fs, c = some (.inr (t, n, .inr g)) ∧ d = some (.inl (qcl t, fs)) ∧ (t = 2 ∨ t = 3) ∧ okx i n = true ∧ y = .inr (t, n, .inr (va_up g i.toNatClampNeg (some v))) := by
  unfold putQ at h
  split at h
  · rename_i u n f ci fs
    have h' := ite_some h; clear h; obtain ⟨⟨h0, rfl, h1⟩, h⟩ := h'
    cases h
    exact ⟨u, n, f, fs, rfl, rfl, h0, h1, rfl⟩
  · cases h
theorem cpyI_ok {c d : Option hC} {sp dp n : Int32} {y : hC} (h : cpyI c d sp dp n = some y) : ∃ n0 f n1 g, c = some (.inr (0, n0, .inl f)) ∧ d = some (.inr (0, n1, .inl g)) ∧ (¬ sp < 0 ∧ ¬ dp < 0 ∧ ¬ n < 0 ∧ sp.toNatClampNeg + n.toNatClampNeg ≤ n0 ∧ dp.toNatClampNeg + n.toNatClampNeg ≤ n1) ∧ y = .inr (0, n1, .inl (va_cpy f g sp.toNatClampNeg dp.toNatClampNeg n.toNatClampNeg)) := by
  unfold cpyI at h
  split at h
  · rename_i n0 f n1 g
    have h' := ite_some h; clear h; obtain ⟨h0, h⟩ := h'
    cases h
    exact ⟨n0, f, n1, g, rfl, rfl, h0, rfl⟩
  · cases h
theorem cv_rf {b : Nat} {t : Nat → Nat} (o : Option Nat) : cv (ad b t) (va_rf o) = va_rf (o.map (ad b t)) := by
  cases o <;> rfl
theorem s_iload {p : Program} {l : Launch} {e : Env} {R : Room} {s : State} {m : MethodId} {args : Array Value} {below : List Frame} {meth : Method} {c : Code} {H : Heap} {locs : List Loc} {cells slots : Nat} {Q : State → Prop} {b : Nat} {t : Nat → Nat} {ac : Nat → ClassId} {D : va_G} {i pc len : Nat} {ls : Array Slot} {L S : List Value} {h : List hC} {pc' : Nat} {L' S' : List Value} {h' : List hC} {n : Nat} (C : Ctx b t ac D p s m args meth c R i) (hd : decode (mB i) pc = .ok (.iload n, len)) (ha : act i pc (.iload n) len L S h = some (.inl (pc', L', S', h'))) (hL : LR (ad b t) ls (mL i) L) (hW : WH b t ac D h H) (hS : va_S (fun q => b ≤ q) s.heap H locs) (hlen : h.length ≤ sB) (hcs : cells ≤ R.cells ∧ slots ≤ R.slots)
    (k : ∀ (ls' : Array Slot) (H' : Heap) (locs' : List Loc), LR (ad b t) ls' (mL i) L' → WH b t ac D h' H' → va_S (fun q => b ≤ q) s.heap H' locs' → W p l e R s m args below meth c H' locs' cells slots Q (F0 m pc' ls' (S'.map (cv (ad b t))))) : W p l e R s m args below meth c H locs cells slots Q (F0 m pc ls (S.map (cv (ad b t)))) := by
  obtain ⟨hx, hb, hr, hml, hown, hts, hlocks, hin, hE, hfr, hlo, hbs⟩ := C
  have ha' := ite_some ha; clear ha; obtain ⟨rfl, ha⟩ := ha'
  unfold ldi at ha
  split at ha
  · rename_i x hx1
    cases ha
    exact lv_iload hx hb hd (hL.2.2.2 _ _ hx1 rfl) (k _ _ _ hL hW hS)
  · cases ha
theorem s_iload_n {p : Program} {l : Launch} {e : Env} {R : Room} {s : State} {m : MethodId} {args : Array Value} {below : List Frame} {meth : Method} {c : Code} {H : Heap} {locs : List Loc} {cells slots : Nat} {Q : State → Prop} {b : Nat} {t : Nat → Nat} {ac : Nat → ClassId} {D : va_G} {i pc len : Nat} {ls : Array Slot} {L S : List Value} {h : List hC} {pc' : Nat} {L' S' : List Value} {h' : List hC} {n : Fin 4} (C : Ctx b t ac D p s m args meth c R i) (hd : decode (mB i) pc = .ok (.iload_n n, len)) (ha : act i pc (.iload_n n) len L S h = some (.inl (pc', L', S', h'))) (hL : LR (ad b t) ls (mL i) L) (hW : WH b t ac D h H) (hS : va_S (fun q => b ≤ q) s.heap H locs) (hlen : h.length ≤ sB) (hcs : cells ≤ R.cells ∧ slots ≤ R.slots)
    (k : ∀ (ls' : Array Slot) (H' : Heap) (locs' : List Loc), LR (ad b t) ls' (mL i) L' → WH b t ac D h' H' → va_S (fun q => b ≤ q) s.heap H' locs' → W p l e R s m args below meth c H' locs' cells slots Q (F0 m pc' ls' (S'.map (cv (ad b t))))) : W p l e R s m args below meth c H locs cells slots Q (F0 m pc ls (S.map (cv (ad b t)))) := by
  obtain ⟨hx, hb, hr, hml, hown, hts, hlocks, hin, hE, hfr, hlo, hbs⟩ := C
  have ha' := ite_some ha; clear ha; obtain ⟨rfl, ha⟩ := ha'
  unfold ldi at ha
  split at ha
  · rename_i x hx1
    cases ha
    exact lv_iload_n hx hb hd rfl (hL.2.2.2 _ _ hx1 rfl) (k _ _ _ hL hW hS)
  · cases ha
theorem s_aload {p : Program} {l : Launch} {e : Env} {R : Room} {s : State} {m : MethodId} {args : Array Value} {below : List Frame} {meth : Method} {c : Code} {H : Heap} {locs : List Loc} {cells slots : Nat} {Q : State → Prop} {b : Nat} {t : Nat → Nat} {ac : Nat → ClassId} {D : va_G} {i pc len : Nat} {ls : Array Slot} {L S : List Value} {h : List hC} {pc' : Nat} {L' S' : List Value} {h' : List hC} {n : Nat} (C : Ctx b t ac D p s m args meth c R i) (hd : decode (mB i) pc = .ok (.aload n, len)) (ha : act i pc (.aload n) len L S h = some (.inl (pc', L', S', h'))) (hL : LR (ad b t) ls (mL i) L) (hW : WH b t ac D h H) (hS : va_S (fun q => b ≤ q) s.heap H locs) (hlen : h.length ≤ sB) (hcs : cells ≤ R.cells ∧ slots ≤ R.slots)
    (k : ∀ (ls' : Array Slot) (H' : Heap) (locs' : List Loc), LR (ad b t) ls' (mL i) L' → WH b t ac D h' H' → va_S (fun q => b ≤ q) s.heap H' locs' → W p l e R s m args below meth c H' locs' cells slots Q (F0 m pc' ls' (S'.map (cv (ad b t))))) : W p l e R s m args below meth c H locs cells slots Q (F0 m pc ls (S.map (cv (ad b t)))) := by
  obtain ⟨hx, hb, hr, hml, hown, hts, hlocks, hin, hE, hfr, hlo, hbs⟩ := C
  have ha' := ite_some ha; clear ha; obtain ⟨rfl, ha⟩ := ha'
  unfold lda at ha
  split at ha
  · rename_i x hx1
    cases ha
    exact lv_aload hx hb hd (hL.2.2.2 _ _ hx1 rfl) (k _ _ _ hL hW hS)
  · rename_i hx1
    cases ha
    exact lv_aloadN hx hb hd (hL.2.2.2 _ _ hx1 rfl) (k _ _ _ hL hW hS)
  · cases ha
theorem s_aload_n {p : Program} {l : Launch} {e : Env} {R : Room} {s : State} {m : MethodId} {args : Array Value} {below : List Frame} {meth : Method} {c : Code} {H : Heap} {locs : List Loc} {cells slots : Nat} {Q : State → Prop} {b : Nat} {t : Nat → Nat} {ac : Nat → ClassId} {D : va_G} {i pc len : Nat} {ls : Array Slot} {L S : List Value} {h : List hC} {pc' : Nat} {L' S' : List Value} {h' : List hC} {n : Fin 4} (C : Ctx b t ac D p s m args meth c R i) (hd : decode (mB i) pc = .ok (.aload_n n, len)) (ha : act i pc (.aload_n n) len L S h = some (.inl (pc', L', S', h'))) (hL : LR (ad b t) ls (mL i) L) (hW : WH b t ac D h H) (hS : va_S (fun q => b ≤ q) s.heap H locs) (hlen : h.length ≤ sB) (hcs : cells ≤ R.cells ∧ slots ≤ R.slots)
    (k : ∀ (ls' : Array Slot) (H' : Heap) (locs' : List Loc), LR (ad b t) ls' (mL i) L' → WH b t ac D h' H' → va_S (fun q => b ≤ q) s.heap H' locs' → W p l e R s m args below meth c H' locs' cells slots Q (F0 m pc' ls' (S'.map (cv (ad b t))))) : W p l e R s m args below meth c H locs cells slots Q (F0 m pc ls (S.map (cv (ad b t)))) := by
  obtain ⟨hx, hb, hr, hml, hown, hts, hlocks, hin, hE, hfr, hlo, hbs⟩ := C
  have ha' := ite_some ha; clear ha; obtain ⟨rfl, ha⟩ := ha'
  unfold lda at ha
  split at ha
  · rename_i x hx1
    cases ha
    exact lv_aload_n hx hb hd rfl (hL.2.2.2 _ _ hx1 rfl) (k _ _ _ hL hW hS)
  · rename_i hx1
    cases ha
    exact lv_aload_nN hx hb hd rfl (hL.2.2.2 _ _ hx1 rfl) (k _ _ _ hL hW hS)
  · cases ha
theorem s_istore {p : Program} {l : Launch} {e : Env} {R : Room} {s : State} {m : MethodId} {args : Array Value} {below : List Frame} {meth : Method} {c : Code} {H : Heap} {locs : List Loc} {cells slots : Nat} {Q : State → Prop} {b : Nat} {t : Nat → Nat} {ac : Nat → ClassId} {D : va_G} {i pc len : Nat} {ls : Array Slot} {L S : List Value} {h : List hC} {pc' : Nat} {L' S' : List Value} {h' : List hC} {n : Nat} (C : Ctx b t ac D p s m args meth c R i) (hd : decode (mB i) pc = .ok (.istore n, len)) (ha : act i pc (.istore n) len L S h = some (.inl (pc', L', S', h'))) (hL : LR (ad b t) ls (mL i) L) (hW : WH b t ac D h H) (hS : va_S (fun q => b ≤ q) s.heap H locs) (hlen : h.length ≤ sB) (hcs : cells ≤ R.cells ∧ slots ≤ R.slots)
    (k : ∀ (ls' : Array Slot) (H' : Heap) (locs' : List Loc), LR (ad b t) ls' (mL i) L' → WH b t ac D h' H' → va_S (fun q => b ≤ q) s.heap H' locs' → W p l e R s m args below meth c H' locs' cells slots Q (F0 m pc' ls' (S'.map (cv (ad b t))))) : W p l e R s m args below meth c H locs cells slots Q (F0 m pc ls (S.map (cv (ad b t)))) := by
  obtain ⟨hx, hb, hr, hml, hown, hts, hlocks, hin, hE, hfr, hlo, hbs⟩ := C
  have ha' := ite_some ha; clear ha; obtain ⟨rfl, ha⟩ := ha'
  unfold sti at ha
  split at ha
  · rename_i x S0
    have ha' := ite_some ha; clear ha; obtain ⟨hn, ha⟩ := ha'
    cases ha
    exact lv_istore hx hb hd hL.has (by rw [← hL.2.2.1]; exact hn) rfl (fun ls' hl' => k ls' _ _ (LR.put (extra := []) (v := .int x) hL rfl rfl hl') hW hS)
  · cases ha
theorem s_istore_n {p : Program} {l : Launch} {e : Env} {R : Room} {s : State} {m : MethodId} {args : Array Value} {below : List Frame} {meth : Method} {c : Code} {H : Heap} {locs : List Loc} {cells slots : Nat} {Q : State → Prop} {b : Nat} {t : Nat → Nat} {ac : Nat → ClassId} {D : va_G} {i pc len : Nat} {ls : Array Slot} {L S : List Value} {h : List hC} {pc' : Nat} {L' S' : List Value} {h' : List hC} {n : Fin 4} (C : Ctx b t ac D p s m args meth c R i) (hd : decode (mB i) pc = .ok (.istore_n n, len)) (ha : act i pc (.istore_n n) len L S h = some (.inl (pc', L', S', h'))) (hL : LR (ad b t) ls (mL i) L) (hW : WH b t ac D h H) (hS : va_S (fun q => b ≤ q) s.heap H locs) (hlen : h.length ≤ sB) (hcs : cells ≤ R.cells ∧ slots ≤ R.slots)
    (k : ∀ (ls' : Array Slot) (H' : Heap) (locs' : List Loc), LR (ad b t) ls' (mL i) L' → WH b t ac D h' H' → va_S (fun q => b ≤ q) s.heap H' locs' → W p l e R s m args below meth c H' locs' cells slots Q (F0 m pc' ls' (S'.map (cv (ad b t))))) : W p l e R s m args below meth c H locs cells slots Q (F0 m pc ls (S.map (cv (ad b t)))) := by
  obtain ⟨hx, hb, hr, hml, hown, hts, hlocks, hin, hE, hfr, hlo, hbs⟩ := C
  have ha' := ite_some ha; clear ha; obtain ⟨rfl, ha⟩ := ha'
  unfold sti at ha
  split at ha
  · rename_i x S0
    have ha' := ite_some ha; clear ha; obtain ⟨hn, ha⟩ := ha'
    cases ha
    exact lv_istore_n hx hb hd rfl hL.has (by rw [← hL.2.2.1]; exact hn) rfl (fun ls' hl' => k ls' _ _ (LR.put (extra := []) (v := .int x) hL rfl rfl hl') hW hS)
  · cases ha
theorem s_astore {p : Program} {l : Launch} {e : Env} {R : Room} {s : State} {m : MethodId} {args : Array Value} {below : List Frame} {meth : Method} {c : Code} {H : Heap} {locs : List Loc} {cells slots : Nat} {Q : State → Prop} {b : Nat} {t : Nat → Nat} {ac : Nat → ClassId} {D : va_G} {i pc len : Nat} {ls : Array Slot} {L S : List Value} {h : List hC} {pc' : Nat} {L' S' : List Value} {h' : List hC} {n : Nat} (C : Ctx b t ac D p s m args meth c R i) (hd : decode (mB i) pc = .ok (.astore n, len)) (ha : act i pc (.astore n) len L S h = some (.inl (pc', L', S', h'))) (hL : LR (ad b t) ls (mL i) L) (hW : WH b t ac D h H) (hS : va_S (fun q => b ≤ q) s.heap H locs) (hlen : h.length ≤ sB) (hcs : cells ≤ R.cells ∧ slots ≤ R.slots)
    (k : ∀ (ls' : Array Slot) (H' : Heap) (locs' : List Loc), LR (ad b t) ls' (mL i) L' → WH b t ac D h' H' → va_S (fun q => b ≤ q) s.heap H' locs' → W p l e R s m args below meth c H' locs' cells slots Q (F0 m pc' ls' (S'.map (cv (ad b t))))) : W p l e R s m args below meth c H locs cells slots Q (F0 m pc ls (S.map (cv (ad b t)))) := by
  obtain ⟨hx, hb, hr, hml, hown, hts, hlocks, hin, hE, hfr, hlo, hbs⟩ := C
  have ha' := ite_some ha; clear ha; obtain ⟨rfl, ha⟩ := ha'
  unfold sta at ha
  split at ha
  · rename_i x S0
    have ha' := ite_some ha; clear ha; obtain ⟨hn, ha⟩ := ha'
    cases ha
    exact lv_astore hx hb hd hL.has (by rw [← hL.2.2.1]; exact hn) rfl (fun ls' hl' => k ls' _ _ (LR.put (extra := []) (v := .ref x) hL rfl rfl hl') hW hS)
  · rename_i S0
    have ha' := ite_some ha; clear ha; obtain ⟨hn, ha⟩ := ha'
    cases ha
    exact lv_astoreN hx hb hd hL.has (by rw [← hL.2.2.1]; exact hn) rfl (fun ls' hl' => k ls' _ _ (LR.put (extra := []) (v := .null) hL rfl rfl hl') hW hS)
  · cases ha
theorem s_astore_n {p : Program} {l : Launch} {e : Env} {R : Room} {s : State} {m : MethodId} {args : Array Value} {below : List Frame} {meth : Method} {c : Code} {H : Heap} {locs : List Loc} {cells slots : Nat} {Q : State → Prop} {b : Nat} {t : Nat → Nat} {ac : Nat → ClassId} {D : va_G} {i pc len : Nat} {ls : Array Slot} {L S : List Value} {h : List hC} {pc' : Nat} {L' S' : List Value} {h' : List hC} {n : Fin 4} (C : Ctx b t ac D p s m args meth c R i) (hd : decode (mB i) pc = .ok (.astore_n n, len)) (ha : act i pc (.astore_n n) len L S h = some (.inl (pc', L', S', h'))) (hL : LR (ad b t) ls (mL i) L) (hW : WH b t ac D h H) (hS : va_S (fun q => b ≤ q) s.heap H locs) (hlen : h.length ≤ sB) (hcs : cells ≤ R.cells ∧ slots ≤ R.slots)
    (k : ∀ (ls' : Array Slot) (H' : Heap) (locs' : List Loc), LR (ad b t) ls' (mL i) L' → WH b t ac D h' H' → va_S (fun q => b ≤ q) s.heap H' locs' → W p l e R s m args below meth c H' locs' cells slots Q (F0 m pc' ls' (S'.map (cv (ad b t))))) : W p l e R s m args below meth c H locs cells slots Q (F0 m pc ls (S.map (cv (ad b t)))) := by
  obtain ⟨hx, hb, hr, hml, hown, hts, hlocks, hin, hE, hfr, hlo, hbs⟩ := C
  have ha' := ite_some ha; clear ha; obtain ⟨rfl, ha⟩ := ha'
  unfold sta at ha
  split at ha
  · rename_i x S0
    have ha' := ite_some ha; clear ha; obtain ⟨hn, ha⟩ := ha'
    cases ha
    exact lv_astore_n hx hb hd rfl hL.has (by rw [← hL.2.2.1]; exact hn) rfl (fun ls' hl' => k ls' _ _ (LR.put (extra := []) (v := .ref x) hL rfl rfl hl') hW hS)
  · rename_i S0
    have ha' := ite_some ha; clear ha; obtain ⟨hn, ha⟩ := ha'
    cases ha
    exact lv_astore_nN hx hb hd rfl hL.has (by rw [← hL.2.2.1]; exact hn) rfl (fun ls' hl' => k ls' _ _ (LR.put (extra := []) (v := .null) hL rfl rfl hl') hW hS)
  · cases ha
theorem s_iconst {p : Program} {l : Launch} {e : Env} {R : Room} {s : State} {m : MethodId} {args : Array Value} {below : List Frame} {meth : Method} {c : Code} {H : Heap} {locs : List Loc} {cells slots : Nat} {Q : State → Prop} {b : Nat} {t : Nat → Nat} {ac : Nat → ClassId} {D : va_G} {i pc len : Nat} {ls : Array Slot} {L S : List Value} {h : List hC} {pc' : Nat} {L' S' : List Value} {h' : List hC} {n : Int} (C : Ctx b t ac D p s m args meth c R i) (hd : decode (mB i) pc = .ok (.iconst n, len)) (ha : act i pc (.iconst n) len L S h = some (.inl (pc', L', S', h'))) (hL : LR (ad b t) ls (mL i) L) (hW : WH b t ac D h H) (hS : va_S (fun q => b ≤ q) s.heap H locs) (hlen : h.length ≤ sB) (hcs : cells ≤ R.cells ∧ slots ≤ R.slots)
    (k : ∀ (ls' : Array Slot) (H' : Heap) (locs' : List Loc), LR (ad b t) ls' (mL i) L' → WH b t ac D h' H' → va_S (fun q => b ≤ q) s.heap H' locs' → W p l e R s m args below meth c H' locs' cells slots Q (F0 m pc' ls' (S'.map (cv (ad b t))))) : W p l e R s m args below meth c H locs cells slots Q (F0 m pc ls (S.map (cv (ad b t)))) := by
  obtain ⟨hx, hb, hr, hml, hown, hts, hlocks, hin, hE, hfr, hlo, hbs⟩ := C
  have ha' := ite_some ha; clear ha; obtain ⟨rfl, ha⟩ := ha'
  cases ha
  exact lv_iconst hx hb hd rfl (k _ _ _ hL hW hS)
theorem s_bipush {p : Program} {l : Launch} {e : Env} {R : Room} {s : State} {m : MethodId} {args : Array Value} {below : List Frame} {meth : Method} {c : Code} {H : Heap} {locs : List Loc} {cells slots : Nat} {Q : State → Prop} {b : Nat} {t : Nat → Nat} {ac : Nat → ClassId} {D : va_G} {i pc len : Nat} {ls : Array Slot} {L S : List Value} {h : List hC} {pc' : Nat} {L' S' : List Value} {h' : List hC} {n : Int} (C : Ctx b t ac D p s m args meth c R i) (hd : decode (mB i) pc = .ok (.bipush n, len)) (ha : act i pc (.bipush n) len L S h = some (.inl (pc', L', S', h'))) (hL : LR (ad b t) ls (mL i) L) (hW : WH b t ac D h H) (hS : va_S (fun q => b ≤ q) s.heap H locs) (hlen : h.length ≤ sB) (hcs : cells ≤ R.cells ∧ slots ≤ R.slots)
    (k : ∀ (ls' : Array Slot) (H' : Heap) (locs' : List Loc), LR (ad b t) ls' (mL i) L' → WH b t ac D h' H' → va_S (fun q => b ≤ q) s.heap H' locs' → W p l e R s m args below meth c H' locs' cells slots Q (F0 m pc' ls' (S'.map (cv (ad b t))))) : W p l e R s m args below meth c H locs cells slots Q (F0 m pc ls (S.map (cv (ad b t)))) := by
  obtain ⟨hx, hb, hr, hml, hown, hts, hlocks, hin, hE, hfr, hlo, hbs⟩ := C
  have ha' := ite_some ha; clear ha; obtain ⟨rfl, ha⟩ := ha'
  cases ha
  exact lv_bipush hx hb hd rfl (k _ _ _ hL hW hS)
theorem s_sipush {p : Program} {l : Launch} {e : Env} {R : Room} {s : State} {m : MethodId} {args : Array Value} {below : List Frame} {meth : Method} {c : Code} {H : Heap} {locs : List Loc} {cells slots : Nat} {Q : State → Prop} {b : Nat} {t : Nat → Nat} {ac : Nat → ClassId} {D : va_G} {i pc len : Nat} {ls : Array Slot} {L S : List Value} {h : List hC} {pc' : Nat} {L' S' : List Value} {h' : List hC} {n : Int} (C : Ctx b t ac D p s m args meth c R i) (hd : decode (mB i) pc = .ok (.sipush n, len)) (ha : act i pc (.sipush n) len L S h = some (.inl (pc', L', S', h'))) (hL : LR (ad b t) ls (mL i) L) (hW : WH b t ac D h H) (hS : va_S (fun q => b ≤ q) s.heap H locs) (hlen : h.length ≤ sB) (hcs : cells ≤ R.cells ∧ slots ≤ R.slots)
    (k : ∀ (ls' : Array Slot) (H' : Heap) (locs' : List Loc), LR (ad b t) ls' (mL i) L' → WH b t ac D h' H' → va_S (fun q => b ≤ q) s.heap H' locs' → W p l e R s m args below meth c H' locs' cells slots Q (F0 m pc' ls' (S'.map (cv (ad b t))))) : W p l e R s m args below meth c H locs cells slots Q (F0 m pc ls (S.map (cv (ad b t)))) := by
  obtain ⟨hx, hb, hr, hml, hown, hts, hlocks, hin, hE, hfr, hlo, hbs⟩ := C
  have ha' := ite_some ha; clear ha; obtain ⟨rfl, ha⟩ := ha'
  cases ha
  exact lv_sipush hx hb hd rfl (k _ _ _ hL hW hS)
theorem s_null {p : Program} {l : Launch} {e : Env} {R : Room} {s : State} {m : MethodId} {args : Array Value} {below : List Frame} {meth : Method} {c : Code} {H : Heap} {locs : List Loc} {cells slots : Nat} {Q : State → Prop} {b : Nat} {t : Nat → Nat} {ac : Nat → ClassId} {D : va_G} {i pc len : Nat} {ls : Array Slot} {L S : List Value} {h : List hC} {pc' : Nat} {L' S' : List Value} {h' : List hC}  (C : Ctx b t ac D p s m args meth c R i) (hd : decode (mB i) pc = .ok (.aconst_null, len)) (ha : act i pc (.aconst_null) len L S h = some (.inl (pc', L', S', h'))) (hL : LR (ad b t) ls (mL i) L) (hW : WH b t ac D h H) (hS : va_S (fun q => b ≤ q) s.heap H locs) (hlen : h.length ≤ sB) (hcs : cells ≤ R.cells ∧ slots ≤ R.slots)
    (k : ∀ (ls' : Array Slot) (H' : Heap) (locs' : List Loc), LR (ad b t) ls' (mL i) L' → WH b t ac D h' H' → va_S (fun q => b ≤ q) s.heap H' locs' → W p l e R s m args below meth c H' locs' cells slots Q (F0 m pc' ls' (S'.map (cv (ad b t))))) : W p l e R s m args below meth c H locs cells slots Q (F0 m pc ls (S.map (cv (ad b t)))) := by
  obtain ⟨hx, hb, hr, hml, hown, hts, hlocks, hin, hE, hfr, hlo, hbs⟩ := C
  have ha' := ite_some ha; clear ha; obtain ⟨rfl, ha⟩ := ha'
  cases ha
  exact lv_null hx hb hd (k _ _ _ hL hW hS)
theorem s_lload {p : Program} {l : Launch} {e : Env} {R : Room} {s : State} {m : MethodId} {args : Array Value} {below : List Frame} {meth : Method} {c : Code} {H : Heap} {locs : List Loc} {cells slots : Nat} {Q : State → Prop} {b : Nat} {t : Nat → Nat} {ac : Nat → ClassId} {D : va_G} {i pc len : Nat} {ls : Array Slot} {L S : List Value} {h : List hC} {pc' : Nat} {L' S' : List Value} {h' : List hC} {n : Nat} (C : Ctx b t ac D p s m args meth c R i) (hd : decode (mB i) pc = .ok (.lload n, len)) (ha : act i pc (.lload n) len L S h = some (.inl (pc', L', S', h'))) (hL : LR (ad b t) ls (mL i) L) (hW : WH b t ac D h H) (hS : va_S (fun q => b ≤ q) s.heap H locs) (hlen : h.length ≤ sB) (hcs : cells ≤ R.cells ∧ slots ≤ R.slots)
    (k : ∀ (ls' : Array Slot) (H' : Heap) (locs' : List Loc), LR (ad b t) ls' (mL i) L' → WH b t ac D h' H' → va_S (fun q => b ≤ q) s.heap H' locs' → W p l e R s m args below meth c H' locs' cells slots Q (F0 m pc' ls' (S'.map (cv (ad b t))))) : W p l e R s m args below meth c H locs cells slots Q (F0 m pc ls (S.map (cv (ad b t)))) := by
  obtain ⟨hx, hb, hr, hml, hown, hts, hlocks, hin, hE, hfr, hlo, hbs⟩ := C
  have ha' := ite_some ha; clear ha; obtain ⟨rfl, ha⟩ := ha'
  unfold ldl at ha
  split at ha
  · rename_i x y hx1 hx2
    cases ha
    exact lv_lload hx hb hd (hL.2.1.2 _ _ _ hx1 hx2) (k _ _ _ hL hW hS)
  · cases ha
theorem s_lload_n {p : Program} {l : Launch} {e : Env} {R : Room} {s : State} {m : MethodId} {args : Array Value} {below : List Frame} {meth : Method} {c : Code} {H : Heap} {locs : List Loc} {cells slots : Nat} {Q : State → Prop} {b : Nat} {t : Nat → Nat} {ac : Nat → ClassId} {D : va_G} {i pc len : Nat} {ls : Array Slot} {L S : List Value} {h : List hC} {pc' : Nat} {L' S' : List Value} {h' : List hC} {n : Fin 4} (C : Ctx b t ac D p s m args meth c R i) (hd : decode (mB i) pc = .ok (.lload_n n, len)) (ha : act i pc (.lload_n n) len L S h = some (.inl (pc', L', S', h'))) (hL : LR (ad b t) ls (mL i) L) (hW : WH b t ac D h H) (hS : va_S (fun q => b ≤ q) s.heap H locs) (hlen : h.length ≤ sB) (hcs : cells ≤ R.cells ∧ slots ≤ R.slots)
    (k : ∀ (ls' : Array Slot) (H' : Heap) (locs' : List Loc), LR (ad b t) ls' (mL i) L' → WH b t ac D h' H' → va_S (fun q => b ≤ q) s.heap H' locs' → W p l e R s m args below meth c H' locs' cells slots Q (F0 m pc' ls' (S'.map (cv (ad b t))))) : W p l e R s m args below meth c H locs cells slots Q (F0 m pc ls (S.map (cv (ad b t)))) := by
  obtain ⟨hx, hb, hr, hml, hown, hts, hlocks, hin, hE, hfr, hlo, hbs⟩ := C
  have ha' := ite_some ha; clear ha; obtain ⟨rfl, ha⟩ := ha'
  unfold ldl at ha
  split at ha
  · rename_i x y hx1 hx2
    cases ha
    exact lv_lload_n hx hb hd rfl (hL.2.1.2 _ _ _ hx1 hx2) (k _ _ _ hL hW hS)
  · cases ha
theorem s_lstore {p : Program} {l : Launch} {e : Env} {R : Room} {s : State} {m : MethodId} {args : Array Value} {below : List Frame} {meth : Method} {c : Code} {H : Heap} {locs : List Loc} {cells slots : Nat} {Q : State → Prop} {b : Nat} {t : Nat → Nat} {ac : Nat → ClassId} {D : va_G} {i pc len : Nat} {ls : Array Slot} {L S : List Value} {h : List hC} {pc' : Nat} {L' S' : List Value} {h' : List hC} {n : Nat} (C : Ctx b t ac D p s m args meth c R i) (hd : decode (mB i) pc = .ok (.lstore n, len)) (ha : act i pc (.lstore n) len L S h = some (.inl (pc', L', S', h'))) (hL : LR (ad b t) ls (mL i) L) (hW : WH b t ac D h H) (hS : va_S (fun q => b ≤ q) s.heap H locs) (hlen : h.length ≤ sB) (hcs : cells ≤ R.cells ∧ slots ≤ R.slots)
    (k : ∀ (ls' : Array Slot) (H' : Heap) (locs' : List Loc), LR (ad b t) ls' (mL i) L' → WH b t ac D h' H' → va_S (fun q => b ≤ q) s.heap H' locs' → W p l e R s m args below meth c H' locs' cells slots Q (F0 m pc' ls' (S'.map (cv (ad b t))))) : W p l e R s m args below meth c H locs cells slots Q (F0 m pc ls (S.map (cv (ad b t)))) := by
  obtain ⟨hx, hb, hr, hml, hown, hts, hlocks, hin, hE, hfr, hlo, hbs⟩ := C
  have ha' := ite_some ha; clear ha; obtain ⟨rfl, ha⟩ := ha'
  unfold stl at ha
  split at ha
  · rename_i x S0
    have ha' := ite_some ha; clear ha; obtain ⟨hn, ha⟩ := ha'
    cases ha
    exact lv_lstore hx hb hd hL.has (by rw [← hL.2.2.1]; exact hn) rfl (fun ls' hl' => k ls' _ _ (LR.put2 hL hn hl') hW hS)
  · cases ha
theorem s_lstore_n {p : Program} {l : Launch} {e : Env} {R : Room} {s : State} {m : MethodId} {args : Array Value} {below : List Frame} {meth : Method} {c : Code} {H : Heap} {locs : List Loc} {cells slots : Nat} {Q : State → Prop} {b : Nat} {t : Nat → Nat} {ac : Nat → ClassId} {D : va_G} {i pc len : Nat} {ls : Array Slot} {L S : List Value} {h : List hC} {pc' : Nat} {L' S' : List Value} {h' : List hC} {n : Fin 4} (C : Ctx b t ac D p s m args meth c R i) (hd : decode (mB i) pc = .ok (.lstore_n n, len)) (ha : act i pc (.lstore_n n) len L S h = some (.inl (pc', L', S', h'))) (hL : LR (ad b t) ls (mL i) L) (hW : WH b t ac D h H) (hS : va_S (fun q => b ≤ q) s.heap H locs) (hlen : h.length ≤ sB) (hcs : cells ≤ R.cells ∧ slots ≤ R.slots)
    (k : ∀ (ls' : Array Slot) (H' : Heap) (locs' : List Loc), LR (ad b t) ls' (mL i) L' → WH b t ac D h' H' → va_S (fun q => b ≤ q) s.heap H' locs' → W p l e R s m args below meth c H' locs' cells slots Q (F0 m pc' ls' (S'.map (cv (ad b t))))) : W p l e R s m args below meth c H locs cells slots Q (F0 m pc ls (S.map (cv (ad b t)))) := by
  obtain ⟨hx, hb, hr, hml, hown, hts, hlocks, hin, hE, hfr, hlo, hbs⟩ := C
  have ha' := ite_some ha; clear ha; obtain ⟨rfl, ha⟩ := ha'
  unfold stl at ha
  split at ha
  · rename_i x S0
    have ha' := ite_some ha; clear ha; obtain ⟨hn, ha⟩ := ha'
    cases ha
    exact lv_lstore_n hx hb hd rfl hL.has (by rw [← hL.2.2.1]; exact hn) rfl (fun ls' hl' => k ls' _ _ (LR.put2 hL hn hl') hW hS)
  · cases ha
theorem s_ldc2 {p : Program} {l : Launch} {e : Env} {R : Room} {s : State} {m : MethodId} {args : Array Value} {below : List Frame} {meth : Method} {c : Code} {H : Heap} {locs : List Loc} {cells slots : Nat} {Q : State → Prop} {b : Nat} {t : Nat → Nat} {ac : Nat → ClassId} {D : va_G} {i pc len : Nat} {ls : Array Slot} {L S : List Value} {h : List hC} {pc' : Nat} {L' S' : List Value} {h' : List hC} {n : Nat} (C : Ctx b t ac D p s m args meth c R i) (hd : decode (mB i) pc = .ok (.ldc2_w n, len)) (ha : act i pc (.ldc2_w n) len L S h = some (.inl (pc', L', S', h'))) (hL : LR (ad b t) ls (mL i) L) (hW : WH b t ac D h H) (hS : va_S (fun q => b ≤ q) s.heap H locs) (hlen : h.length ≤ sB) (hcs : cells ≤ R.cells ∧ slots ≤ R.slots)
    (k : ∀ (ls' : Array Slot) (H' : Heap) (locs' : List Loc), LR (ad b t) ls' (mL i) L' → WH b t ac D h' H' → va_S (fun q => b ≤ q) s.heap H' locs' → W p l e R s m args below meth c H' locs' cells slots Q (F0 m pc' ls' (S'.map (cv (ad b t))))) : W p l e R s m args below meth c H locs cells slots Q (F0 m pc ls (S.map (cv (ad b t)))) := by
  obtain ⟨hx, hb, hr, hml, hown, hts, hlocks, hin, hE, hfr, hlo, hbs⟩ := C
  have ha' := ite_some ha; clear ha; obtain ⟨rfl, ha⟩ := ha'
  split at ha
  · rename_i v hv
    cases ha
    exact lv_ldc2 hx hb hown (hts _ (k2ref_ok hv)) hd (k _ _ _ hL hW hS)
  · cases ha
theorem s_i2l {p : Program} {l : Launch} {e : Env} {R : Room} {s : State} {m : MethodId} {args : Array Value} {below : List Frame} {meth : Method} {c : Code} {H : Heap} {locs : List Loc} {cells slots : Nat} {Q : State → Prop} {b : Nat} {t : Nat → Nat} {ac : Nat → ClassId} {D : va_G} {i pc len : Nat} {ls : Array Slot} {L S : List Value} {h : List hC} {pc' : Nat} {L' S' : List Value} {h' : List hC}  (C : Ctx b t ac D p s m args meth c R i) (hd : decode (mB i) pc = .ok (.i2l, len)) (ha : act i pc (.i2l) len L S h = some (.inl (pc', L', S', h'))) (hL : LR (ad b t) ls (mL i) L) (hW : WH b t ac D h H) (hS : va_S (fun q => b ≤ q) s.heap H locs) (hlen : h.length ≤ sB) (hcs : cells ≤ R.cells ∧ slots ≤ R.slots)
    (k : ∀ (ls' : Array Slot) (H' : Heap) (locs' : List Loc), LR (ad b t) ls' (mL i) L' → WH b t ac D h' H' → va_S (fun q => b ≤ q) s.heap H' locs' → W p l e R s m args below meth c H' locs' cells slots Q (F0 m pc' ls' (S'.map (cv (ad b t))))) : W p l e R s m args below meth c H locs cells slots Q (F0 m pc ls (S.map (cv (ad b t)))) := by
  obtain ⟨hx, hb, hr, hml, hown, hts, hlocks, hin, hE, hfr, hlo, hbs⟩ := C
  have ha' := ite_some ha; clear ha; obtain ⟨rfl, ha⟩ := ha'
  split at ha
  · cases ha
    exact lv_i2l hx hb hd rfl (k _ _ _ hL hW hS)
  · cases ha
theorem s_ladd {p : Program} {l : Launch} {e : Env} {R : Room} {s : State} {m : MethodId} {args : Array Value} {below : List Frame} {meth : Method} {c : Code} {H : Heap} {locs : List Loc} {cells slots : Nat} {Q : State → Prop} {b : Nat} {t : Nat → Nat} {ac : Nat → ClassId} {D : va_G} {i pc len : Nat} {ls : Array Slot} {L S : List Value} {h : List hC} {pc' : Nat} {L' S' : List Value} {h' : List hC}  (C : Ctx b t ac D p s m args meth c R i) (hd : decode (mB i) pc = .ok (.ladd, len)) (ha : act i pc (.ladd) len L S h = some (.inl (pc', L', S', h'))) (hL : LR (ad b t) ls (mL i) L) (hW : WH b t ac D h H) (hS : va_S (fun q => b ≤ q) s.heap H locs) (hlen : h.length ≤ sB) (hcs : cells ≤ R.cells ∧ slots ≤ R.slots)
    (k : ∀ (ls' : Array Slot) (H' : Heap) (locs' : List Loc), LR (ad b t) ls' (mL i) L' → WH b t ac D h' H' → va_S (fun q => b ≤ q) s.heap H' locs' → W p l e R s m args below meth c H' locs' cells slots Q (F0 m pc' ls' (S'.map (cv (ad b t))))) : W p l e R s m args below meth c H locs cells slots Q (F0 m pc ls (S.map (cv (ad b t)))) := by
  obtain ⟨hx, hb, hr, hml, hown, hts, hlocks, hin, hE, hfr, hlo, hbs⟩ := C
  have ha' := ite_some ha; clear ha; obtain ⟨rfl, ha⟩ := ha'
  split at ha
  · cases ha
    exact lv_ladd hx hb hd (k _ _ _ hL hW hS)
  · cases ha
theorem s_lmul {p : Program} {l : Launch} {e : Env} {R : Room} {s : State} {m : MethodId} {args : Array Value} {below : List Frame} {meth : Method} {c : Code} {H : Heap} {locs : List Loc} {cells slots : Nat} {Q : State → Prop} {b : Nat} {t : Nat → Nat} {ac : Nat → ClassId} {D : va_G} {i pc len : Nat} {ls : Array Slot} {L S : List Value} {h : List hC} {pc' : Nat} {L' S' : List Value} {h' : List hC}  (C : Ctx b t ac D p s m args meth c R i) (hd : decode (mB i) pc = .ok (.lmul, len)) (ha : act i pc (.lmul) len L S h = some (.inl (pc', L', S', h'))) (hL : LR (ad b t) ls (mL i) L) (hW : WH b t ac D h H) (hS : va_S (fun q => b ≤ q) s.heap H locs) (hlen : h.length ≤ sB) (hcs : cells ≤ R.cells ∧ slots ≤ R.slots)
    (k : ∀ (ls' : Array Slot) (H' : Heap) (locs' : List Loc), LR (ad b t) ls' (mL i) L' → WH b t ac D h' H' → va_S (fun q => b ≤ q) s.heap H' locs' → W p l e R s m args below meth c H' locs' cells slots Q (F0 m pc' ls' (S'.map (cv (ad b t))))) : W p l e R s m args below meth c H locs cells slots Q (F0 m pc ls (S.map (cv (ad b t)))) := by
  obtain ⟨hx, hb, hr, hml, hown, hts, hlocks, hin, hE, hfr, hlo, hbs⟩ := C
  have ha' := ite_some ha; clear ha; obtain ⟨rfl, ha⟩ := ha'
  split at ha
  · cases ha
    exact lv_lmul hx hb hd (k _ _ _ hL hW hS)
  · cases ha
theorem s_ldc {p : Program} {l : Launch} {e : Env} {R : Room} {s : State} {m : MethodId} {args : Array Value} {below : List Frame} {meth : Method} {c : Code} {H : Heap} {locs : List Loc} {cells slots : Nat} {Q : State → Prop} {b : Nat} {t : Nat → Nat} {ac : Nat → ClassId} {D : va_G} {i pc len : Nat} {ls : Array Slot} {L S : List Value} {h : List hC} {pc' : Nat} {L' S' : List Value} {h' : List hC} {n : Nat} (C : Ctx b t ac D p s m args meth c R i) (hd : decode (mB i) pc = .ok (.ldc n, len)) (ha : act i pc (.ldc n) len L S h = some (.inl (pc', L', S', h'))) (hL : LR (ad b t) ls (mL i) L) (hW : WH b t ac D h H) (hS : va_S (fun q => b ≤ q) s.heap H locs) (hlen : h.length ≤ sB) (hcs : cells ≤ R.cells ∧ slots ≤ R.slots)
    (k : ∀ (ls' : Array Slot) (H' : Heap) (locs' : List Loc), LR (ad b t) ls' (mL i) L' → WH b t ac D h' H' → va_S (fun q => b ≤ q) s.heap H' locs' → W p l e R s m args below meth c H' locs' cells slots Q (F0 m pc' ls' (S'.map (cv (ad b t))))) : W p l e R s m args below meth c H locs cells slots Q (F0 m pc ls (S.map (cv (ad b t)))) := by
  obtain ⟨hx, hb, hr, hml, hown, hts, hlocks, hin, hE, hfr, hlo, hbs⟩ := C
  have ha' := ite_some ha; clear ha; obtain ⟨rfl, ha⟩ := ha'
  split at ha
  · rename_i v hv
    cases ha
    exact lv_ldc hx hb hown (hts _ (kref_ok hv)) hd (k _ _ _ hL hW hS)
  · cases ha
theorem s_iadd {p : Program} {l : Launch} {e : Env} {R : Room} {s : State} {m : MethodId} {args : Array Value} {below : List Frame} {meth : Method} {c : Code} {H : Heap} {locs : List Loc} {cells slots : Nat} {Q : State → Prop} {b : Nat} {t : Nat → Nat} {ac : Nat → ClassId} {D : va_G} {i pc len : Nat} {ls : Array Slot} {L S : List Value} {h : List hC} {pc' : Nat} {L' S' : List Value} {h' : List hC}  (C : Ctx b t ac D p s m args meth c R i) (hd : decode (mB i) pc = .ok (.iadd, len)) (ha : act i pc (.iadd) len L S h = some (.inl (pc', L', S', h'))) (hL : LR (ad b t) ls (mL i) L) (hW : WH b t ac D h H) (hS : va_S (fun q => b ≤ q) s.heap H locs) (hlen : h.length ≤ sB) (hcs : cells ≤ R.cells ∧ slots ≤ R.slots)
    (k : ∀ (ls' : Array Slot) (H' : Heap) (locs' : List Loc), LR (ad b t) ls' (mL i) L' → WH b t ac D h' H' → va_S (fun q => b ≤ q) s.heap H' locs' → W p l e R s m args below meth c H' locs' cells slots Q (F0 m pc' ls' (S'.map (cv (ad b t))))) : W p l e R s m args below meth c H locs cells slots Q (F0 m pc ls (S.map (cv (ad b t)))) := by
  obtain ⟨hx, hb, hr, hml, hown, hts, hlocks, hin, hE, hfr, hlo, hbs⟩ := C
  have ha' := ite_some ha; clear ha; obtain ⟨rfl, ha⟩ := ha'
  split at ha
  · cases ha
    exact lv_iadd hx hb hd (k _ _ _ hL hW hS)
  · cases ha
theorem s_isub {p : Program} {l : Launch} {e : Env} {R : Room} {s : State} {m : MethodId} {args : Array Value} {below : List Frame} {meth : Method} {c : Code} {H : Heap} {locs : List Loc} {cells slots : Nat} {Q : State → Prop} {b : Nat} {t : Nat → Nat} {ac : Nat → ClassId} {D : va_G} {i pc len : Nat} {ls : Array Slot} {L S : List Value} {h : List hC} {pc' : Nat} {L' S' : List Value} {h' : List hC}  (C : Ctx b t ac D p s m args meth c R i) (hd : decode (mB i) pc = .ok (.isub, len)) (ha : act i pc (.isub) len L S h = some (.inl (pc', L', S', h'))) (hL : LR (ad b t) ls (mL i) L) (hW : WH b t ac D h H) (hS : va_S (fun q => b ≤ q) s.heap H locs) (hlen : h.length ≤ sB) (hcs : cells ≤ R.cells ∧ slots ≤ R.slots)
    (k : ∀ (ls' : Array Slot) (H' : Heap) (locs' : List Loc), LR (ad b t) ls' (mL i) L' → WH b t ac D h' H' → va_S (fun q => b ≤ q) s.heap H' locs' → W p l e R s m args below meth c H' locs' cells slots Q (F0 m pc' ls' (S'.map (cv (ad b t))))) : W p l e R s m args below meth c H locs cells slots Q (F0 m pc ls (S.map (cv (ad b t)))) := by
  obtain ⟨hx, hb, hr, hml, hown, hts, hlocks, hin, hE, hfr, hlo, hbs⟩ := C
  have ha' := ite_some ha; clear ha; obtain ⟨rfl, ha⟩ := ha'
  split at ha
  · cases ha
    exact lv_isub hx hb hd (k _ _ _ hL hW hS)
  · cases ha
theorem s_imul {p : Program} {l : Launch} {e : Env} {R : Room} {s : State} {m : MethodId} {args : Array Value} {below : List Frame} {meth : Method} {c : Code} {H : Heap} {locs : List Loc} {cells slots : Nat} {Q : State → Prop} {b : Nat} {t : Nat → Nat} {ac : Nat → ClassId} {D : va_G} {i pc len : Nat} {ls : Array Slot} {L S : List Value} {h : List hC} {pc' : Nat} {L' S' : List Value} {h' : List hC}  (C : Ctx b t ac D p s m args meth c R i) (hd : decode (mB i) pc = .ok (.imul, len)) (ha : act i pc (.imul) len L S h = some (.inl (pc', L', S', h'))) (hL : LR (ad b t) ls (mL i) L) (hW : WH b t ac D h H) (hS : va_S (fun q => b ≤ q) s.heap H locs) (hlen : h.length ≤ sB) (hcs : cells ≤ R.cells ∧ slots ≤ R.slots)
    (k : ∀ (ls' : Array Slot) (H' : Heap) (locs' : List Loc), LR (ad b t) ls' (mL i) L' → WH b t ac D h' H' → va_S (fun q => b ≤ q) s.heap H' locs' → W p l e R s m args below meth c H' locs' cells slots Q (F0 m pc' ls' (S'.map (cv (ad b t))))) : W p l e R s m args below meth c H locs cells slots Q (F0 m pc ls (S.map (cv (ad b t)))) := by
  obtain ⟨hx, hb, hr, hml, hown, hts, hlocks, hin, hE, hfr, hlo, hbs⟩ := C
  have ha' := ite_some ha; clear ha; obtain ⟨rfl, ha⟩ := ha'
  split at ha
  · cases ha
    exact lv_imul hx hb hd (k _ _ _ hL hW hS)
  · cases ha
theorem s_iand {p : Program} {l : Launch} {e : Env} {R : Room} {s : State} {m : MethodId} {args : Array Value} {below : List Frame} {meth : Method} {c : Code} {H : Heap} {locs : List Loc} {cells slots : Nat} {Q : State → Prop} {b : Nat} {t : Nat → Nat} {ac : Nat → ClassId} {D : va_G} {i pc len : Nat} {ls : Array Slot} {L S : List Value} {h : List hC} {pc' : Nat} {L' S' : List Value} {h' : List hC}  (C : Ctx b t ac D p s m args meth c R i) (hd : decode (mB i) pc = .ok (.iand, len)) (ha : act i pc (.iand) len L S h = some (.inl (pc', L', S', h'))) (hL : LR (ad b t) ls (mL i) L) (hW : WH b t ac D h H) (hS : va_S (fun q => b ≤ q) s.heap H locs) (hlen : h.length ≤ sB) (hcs : cells ≤ R.cells ∧ slots ≤ R.slots)
    (k : ∀ (ls' : Array Slot) (H' : Heap) (locs' : List Loc), LR (ad b t) ls' (mL i) L' → WH b t ac D h' H' → va_S (fun q => b ≤ q) s.heap H' locs' → W p l e R s m args below meth c H' locs' cells slots Q (F0 m pc' ls' (S'.map (cv (ad b t))))) : W p l e R s m args below meth c H locs cells slots Q (F0 m pc ls (S.map (cv (ad b t)))) := by
  obtain ⟨hx, hb, hr, hml, hown, hts, hlocks, hin, hE, hfr, hlo, hbs⟩ := C
  have ha' := ite_some ha; clear ha; obtain ⟨rfl, ha⟩ := ha'
  split at ha
  · cases ha
    exact lv_iand hx hb hd (k _ _ _ hL hW hS)
  · cases ha
theorem s_ior {p : Program} {l : Launch} {e : Env} {R : Room} {s : State} {m : MethodId} {args : Array Value} {below : List Frame} {meth : Method} {c : Code} {H : Heap} {locs : List Loc} {cells slots : Nat} {Q : State → Prop} {b : Nat} {t : Nat → Nat} {ac : Nat → ClassId} {D : va_G} {i pc len : Nat} {ls : Array Slot} {L S : List Value} {h : List hC} {pc' : Nat} {L' S' : List Value} {h' : List hC}  (C : Ctx b t ac D p s m args meth c R i) (hd : decode (mB i) pc = .ok (.ior, len)) (ha : act i pc (.ior) len L S h = some (.inl (pc', L', S', h'))) (hL : LR (ad b t) ls (mL i) L) (hW : WH b t ac D h H) (hS : va_S (fun q => b ≤ q) s.heap H locs) (hlen : h.length ≤ sB) (hcs : cells ≤ R.cells ∧ slots ≤ R.slots)
    (k : ∀ (ls' : Array Slot) (H' : Heap) (locs' : List Loc), LR (ad b t) ls' (mL i) L' → WH b t ac D h' H' → va_S (fun q => b ≤ q) s.heap H' locs' → W p l e R s m args below meth c H' locs' cells slots Q (F0 m pc' ls' (S'.map (cv (ad b t))))) : W p l e R s m args below meth c H locs cells slots Q (F0 m pc ls (S.map (cv (ad b t)))) := by
  obtain ⟨hx, hb, hr, hml, hown, hts, hlocks, hin, hE, hfr, hlo, hbs⟩ := C
  have ha' := ite_some ha; clear ha; obtain ⟨rfl, ha⟩ := ha'
  split at ha
  · cases ha
    exact lv_ior hx hb hd (k _ _ _ hL hW hS)
  · cases ha
theorem s_ishl {p : Program} {l : Launch} {e : Env} {R : Room} {s : State} {m : MethodId} {args : Array Value} {below : List Frame} {meth : Method} {c : Code} {H : Heap} {locs : List Loc} {cells slots : Nat} {Q : State → Prop} {b : Nat} {t : Nat → Nat} {ac : Nat → ClassId} {D : va_G} {i pc len : Nat} {ls : Array Slot} {L S : List Value} {h : List hC} {pc' : Nat} {L' S' : List Value} {h' : List hC}  (C : Ctx b t ac D p s m args meth c R i) (hd : decode (mB i) pc = .ok (.ishl, len)) (ha : act i pc (.ishl) len L S h = some (.inl (pc', L', S', h'))) (hL : LR (ad b t) ls (mL i) L) (hW : WH b t ac D h H) (hS : va_S (fun q => b ≤ q) s.heap H locs) (hlen : h.length ≤ sB) (hcs : cells ≤ R.cells ∧ slots ≤ R.slots)
    (k : ∀ (ls' : Array Slot) (H' : Heap) (locs' : List Loc), LR (ad b t) ls' (mL i) L' → WH b t ac D h' H' → va_S (fun q => b ≤ q) s.heap H' locs' → W p l e R s m args below meth c H' locs' cells slots Q (F0 m pc' ls' (S'.map (cv (ad b t))))) : W p l e R s m args below meth c H locs cells slots Q (F0 m pc ls (S.map (cv (ad b t)))) := by
  obtain ⟨hx, hb, hr, hml, hown, hts, hlocks, hin, hE, hfr, hlo, hbs⟩ := C
  have ha' := ite_some ha; clear ha; obtain ⟨rfl, ha⟩ := ha'
  split at ha
  · cases ha
    exact lv_ishl hx hb hd (k _ _ _ hL hW hS)
  · cases ha
theorem s_ishr {p : Program} {l : Launch} {e : Env} {R : Room} {s : State} {m : MethodId} {args : Array Value} {below : List Frame} {meth : Method} {c : Code} {H : Heap} {locs : List Loc} {cells slots : Nat} {Q : State → Prop} {b : Nat} {t : Nat → Nat} {ac : Nat → ClassId} {D : va_G} {i pc len : Nat} {ls : Array Slot} {L S : List Value} {h : List hC} {pc' : Nat} {L' S' : List Value} {h' : List hC}  (C : Ctx b t ac D p s m args meth c R i) (hd : decode (mB i) pc = .ok (.ishr, len)) (ha : act i pc (.ishr) len L S h = some (.inl (pc', L', S', h'))) (hL : LR (ad b t) ls (mL i) L) (hW : WH b t ac D h H) (hS : va_S (fun q => b ≤ q) s.heap H locs) (hlen : h.length ≤ sB) (hcs : cells ≤ R.cells ∧ slots ≤ R.slots)
    (k : ∀ (ls' : Array Slot) (H' : Heap) (locs' : List Loc), LR (ad b t) ls' (mL i) L' → WH b t ac D h' H' → va_S (fun q => b ≤ q) s.heap H' locs' → W p l e R s m args below meth c H' locs' cells slots Q (F0 m pc' ls' (S'.map (cv (ad b t))))) : W p l e R s m args below meth c H locs cells slots Q (F0 m pc ls (S.map (cv (ad b t)))) := by
  obtain ⟨hx, hb, hr, hml, hown, hts, hlocks, hin, hE, hfr, hlo, hbs⟩ := C
  have ha' := ite_some ha; clear ha; obtain ⟨rfl, ha⟩ := ha'
  split at ha
  · cases ha
    exact lv_ishr hx hb hd (k _ _ _ hL hW hS)
  · cases ha
theorem s_idiv {p : Program} {l : Launch} {e : Env} {R : Room} {s : State} {m : MethodId} {args : Array Value} {below : List Frame} {meth : Method} {c : Code} {H : Heap} {locs : List Loc} {cells slots : Nat} {Q : State → Prop} {b : Nat} {t : Nat → Nat} {ac : Nat → ClassId} {D : va_G} {i pc len : Nat} {ls : Array Slot} {L S : List Value} {h : List hC} {pc' : Nat} {L' S' : List Value} {h' : List hC}  (C : Ctx b t ac D p s m args meth c R i) (hd : decode (mB i) pc = .ok (.idiv, len)) (ha : act i pc (.idiv) len L S h = some (.inl (pc', L', S', h'))) (hL : LR (ad b t) ls (mL i) L) (hW : WH b t ac D h H) (hS : va_S (fun q => b ≤ q) s.heap H locs) (hlen : h.length ≤ sB) (hcs : cells ≤ R.cells ∧ slots ≤ R.slots)
    (k : ∀ (ls' : Array Slot) (H' : Heap) (locs' : List Loc), LR (ad b t) ls' (mL i) L' → WH b t ac D h' H' → va_S (fun q => b ≤ q) s.heap H' locs' → W p l e R s m args below meth c H' locs' cells slots Q (F0 m pc' ls' (S'.map (cv (ad b t))))) : W p l e R s m args below meth c H locs cells slots Q (F0 m pc ls (S.map (cv (ad b t)))) := by
  obtain ⟨hx, hb, hr, hml, hown, hts, hlocks, hin, hE, hfr, hlo, hbs⟩ := C
  have ha' := ite_some ha; clear ha; obtain ⟨rfl, ha⟩ := ha'
  split at ha
  · have ha' := ite_some ha; clear ha; obtain ⟨hne, ha⟩ := ha'
    cases ha
    exact lv_idiv hx hb hd hne (k _ _ _ hL hW hS)
  · cases ha
theorem s_irem {p : Program} {l : Launch} {e : Env} {R : Room} {s : State} {m : MethodId} {args : Array Value} {below : List Frame} {meth : Method} {c : Code} {H : Heap} {locs : List Loc} {cells slots : Nat} {Q : State → Prop} {b : Nat} {t : Nat → Nat} {ac : Nat → ClassId} {D : va_G} {i pc len : Nat} {ls : Array Slot} {L S : List Value} {h : List hC} {pc' : Nat} {L' S' : List Value} {h' : List hC}  (C : Ctx b t ac D p s m args meth c R i) (hd : decode (mB i) pc = .ok (.irem, len)) (ha : act i pc (.irem) len L S h = some (.inl (pc', L', S', h'))) (hL : LR (ad b t) ls (mL i) L) (hW : WH b t ac D h H) (hS : va_S (fun q => b ≤ q) s.heap H locs) (hlen : h.length ≤ sB) (hcs : cells ≤ R.cells ∧ slots ≤ R.slots)
    (k : ∀ (ls' : Array Slot) (H' : Heap) (locs' : List Loc), LR (ad b t) ls' (mL i) L' → WH b t ac D h' H' → va_S (fun q => b ≤ q) s.heap H' locs' → W p l e R s m args below meth c H' locs' cells slots Q (F0 m pc' ls' (S'.map (cv (ad b t))))) : W p l e R s m args below meth c H locs cells slots Q (F0 m pc ls (S.map (cv (ad b t)))) := by
  obtain ⟨hx, hb, hr, hml, hown, hts, hlocks, hin, hE, hfr, hlo, hbs⟩ := C
  have ha' := ite_some ha; clear ha; obtain ⟨rfl, ha⟩ := ha'
  split at ha
  · have ha' := ite_some ha; clear ha; obtain ⟨hne, ha⟩ := ha'
    cases ha
    exact lv_irem hx hb hd hne (k _ _ _ hL hW hS)
  · cases ha
theorem s_i2c {p : Program} {l : Launch} {e : Env} {R : Room} {s : State} {m : MethodId} {args : Array Value} {below : List Frame} {meth : Method} {c : Code} {H : Heap} {locs : List Loc} {cells slots : Nat} {Q : State → Prop} {b : Nat} {t : Nat → Nat} {ac : Nat → ClassId} {D : va_G} {i pc len : Nat} {ls : Array Slot} {L S : List Value} {h : List hC} {pc' : Nat} {L' S' : List Value} {h' : List hC}  (C : Ctx b t ac D p s m args meth c R i) (hd : decode (mB i) pc = .ok (.i2c, len)) (ha : act i pc (.i2c) len L S h = some (.inl (pc', L', S', h'))) (hL : LR (ad b t) ls (mL i) L) (hW : WH b t ac D h H) (hS : va_S (fun q => b ≤ q) s.heap H locs) (hlen : h.length ≤ sB) (hcs : cells ≤ R.cells ∧ slots ≤ R.slots)
    (k : ∀ (ls' : Array Slot) (H' : Heap) (locs' : List Loc), LR (ad b t) ls' (mL i) L' → WH b t ac D h' H' → va_S (fun q => b ≤ q) s.heap H' locs' → W p l e R s m args below meth c H' locs' cells slots Q (F0 m pc' ls' (S'.map (cv (ad b t))))) : W p l e R s m args below meth c H locs cells slots Q (F0 m pc ls (S.map (cv (ad b t)))) := by
  obtain ⟨hx, hb, hr, hml, hown, hts, hlocks, hin, hE, hfr, hlo, hbs⟩ := C
  have ha' := ite_some ha; clear ha; obtain ⟨rfl, ha⟩ := ha'
  split at ha
  · cases ha
    exact lv_i2c hx hb hd rfl (k _ _ _ hL hW hS)
  · cases ha
theorem s_iinc {p : Program} {l : Launch} {e : Env} {R : Room} {s : State} {m : MethodId} {args : Array Value} {below : List Frame} {meth : Method} {c : Code} {H : Heap} {locs : List Loc} {cells slots : Nat} {Q : State → Prop} {b : Nat} {t : Nat → Nat} {ac : Nat → ClassId} {D : va_G} {i pc len : Nat} {ls : Array Slot} {L S : List Value} {h : List hC} {pc' : Nat} {L' S' : List Value} {h' : List hC} {n : Nat} {d : Int} (C : Ctx b t ac D p s m args meth c R i) (hd : decode (mB i) pc = .ok (.iinc n d, len)) (ha : act i pc (.iinc n d) len L S h = some (.inl (pc', L', S', h'))) (hL : LR (ad b t) ls (mL i) L) (hW : WH b t ac D h H) (hS : va_S (fun q => b ≤ q) s.heap H locs) (hlen : h.length ≤ sB) (hcs : cells ≤ R.cells ∧ slots ≤ R.slots)
    (k : ∀ (ls' : Array Slot) (H' : Heap) (locs' : List Loc), LR (ad b t) ls' (mL i) L' → WH b t ac D h' H' → va_S (fun q => b ≤ q) s.heap H' locs' → W p l e R s m args below meth c H' locs' cells slots Q (F0 m pc' ls' (S'.map (cv (ad b t))))) : W p l e R s m args below meth c H locs cells slots Q (F0 m pc ls (S.map (cv (ad b t)))) := by
  obtain ⟨hx, hb, hr, hml, hown, hts, hlocks, hin, hE, hfr, hlo, hbs⟩ := C
  have ha' := ite_some ha; clear ha; obtain ⟨rfl, ha⟩ := ha'
  split at ha
  · rename_i x hx1
    cases ha
    exact lv_iinc (k := 0) hx hb hd (hL.has1 hx1 rfl) rfl rfl (by rw [← hL.2.2.1]; exact (List.getElem?_eq_some_iff.mp hx1).1) rfl (fun ls' hl' => k ls' _ _ (LR.put (extra := [(n, .int x)]) (v := .int (x + Int32.ofInt d)) hL rfl rfl hl') hW hS)
  · cases ha
theorem s_dup {p : Program} {l : Launch} {e : Env} {R : Room} {s : State} {m : MethodId} {args : Array Value} {below : List Frame} {meth : Method} {c : Code} {H : Heap} {locs : List Loc} {cells slots : Nat} {Q : State → Prop} {b : Nat} {t : Nat → Nat} {ac : Nat → ClassId} {D : va_G} {i pc len : Nat} {ls : Array Slot} {L S : List Value} {h : List hC} {pc' : Nat} {L' S' : List Value} {h' : List hC}  (C : Ctx b t ac D p s m args meth c R i) (hd : decode (mB i) pc = .ok (.dup, len)) (ha : act i pc (.dup) len L S h = some (.inl (pc', L', S', h'))) (hL : LR (ad b t) ls (mL i) L) (hW : WH b t ac D h H) (hS : va_S (fun q => b ≤ q) s.heap H locs) (hlen : h.length ≤ sB) (hcs : cells ≤ R.cells ∧ slots ≤ R.slots)
    (k : ∀ (ls' : Array Slot) (H' : Heap) (locs' : List Loc), LR (ad b t) ls' (mL i) L' → WH b t ac D h' H' → va_S (fun q => b ≤ q) s.heap H' locs' → W p l e R s m args below meth c H' locs' cells slots Q (F0 m pc' ls' (S'.map (cv (ad b t))))) : W p l e R s m args below meth c H locs cells slots Q (F0 m pc ls (S.map (cv (ad b t)))) := by
  obtain ⟨hx, hb, hr, hml, hown, hts, hlocks, hin, hE, hfr, hlo, hbs⟩ := C
  have ha' := ite_some ha; clear ha; obtain ⟨rfl, ha⟩ := ha'
  split at ha
  · have ha' := ite_some ha; clear ha; obtain ⟨hc, ha⟩ := ha'
    cases ha
    exact lv_dup hx hb hd (cat1_c hc) (k _ _ _ hL hW hS)
  · cases ha
theorem s_pop {p : Program} {l : Launch} {e : Env} {R : Room} {s : State} {m : MethodId} {args : Array Value} {below : List Frame} {meth : Method} {c : Code} {H : Heap} {locs : List Loc} {cells slots : Nat} {Q : State → Prop} {b : Nat} {t : Nat → Nat} {ac : Nat → ClassId} {D : va_G} {i pc len : Nat} {ls : Array Slot} {L S : List Value} {h : List hC} {pc' : Nat} {L' S' : List Value} {h' : List hC}  (C : Ctx b t ac D p s m args meth c R i) (hd : decode (mB i) pc = .ok (.pop, len)) (ha : act i pc (.pop) len L S h = some (.inl (pc', L', S', h'))) (hL : LR (ad b t) ls (mL i) L) (hW : WH b t ac D h H) (hS : va_S (fun q => b ≤ q) s.heap H locs) (hlen : h.length ≤ sB) (hcs : cells ≤ R.cells ∧ slots ≤ R.slots)
    (k : ∀ (ls' : Array Slot) (H' : Heap) (locs' : List Loc), LR (ad b t) ls' (mL i) L' → WH b t ac D h' H' → va_S (fun q => b ≤ q) s.heap H' locs' → W p l e R s m args below meth c H' locs' cells slots Q (F0 m pc' ls' (S'.map (cv (ad b t))))) : W p l e R s m args below meth c H locs cells slots Q (F0 m pc ls (S.map (cv (ad b t)))) := by
  obtain ⟨hx, hb, hr, hml, hown, hts, hlocks, hin, hE, hfr, hlo, hbs⟩ := C
  have ha' := ite_some ha; clear ha; obtain ⟨rfl, ha⟩ := ha'
  split at ha
  · have ha' := ite_some ha; clear ha; obtain ⟨hc, ha⟩ := ha'
    cases ha
    exact lv_pop hx hb hd (cat1_c hc) (k _ _ _ hL hW hS)
  · cases ha
theorem s_dup2 {p : Program} {l : Launch} {e : Env} {R : Room} {s : State} {m : MethodId} {args : Array Value} {below : List Frame} {meth : Method} {c : Code} {H : Heap} {locs : List Loc} {cells slots : Nat} {Q : State → Prop} {b : Nat} {t : Nat → Nat} {ac : Nat → ClassId} {D : va_G} {i pc len : Nat} {ls : Array Slot} {L S : List Value} {h : List hC} {pc' : Nat} {L' S' : List Value} {h' : List hC}  (C : Ctx b t ac D p s m args meth c R i) (hd : decode (mB i) pc = .ok (.dup2, len)) (ha : act i pc (.dup2) len L S h = some (.inl (pc', L', S', h'))) (hL : LR (ad b t) ls (mL i) L) (hW : WH b t ac D h H) (hS : va_S (fun q => b ≤ q) s.heap H locs) (hlen : h.length ≤ sB) (hcs : cells ≤ R.cells ∧ slots ≤ R.slots)
    (k : ∀ (ls' : Array Slot) (H' : Heap) (locs' : List Loc), LR (ad b t) ls' (mL i) L' → WH b t ac D h' H' → va_S (fun q => b ≤ q) s.heap H' locs' → W p l e R s m args below meth c H' locs' cells slots Q (F0 m pc' ls' (S'.map (cv (ad b t))))) : W p l e R s m args below meth c H locs cells slots Q (F0 m pc ls (S.map (cv (ad b t)))) := by
  obtain ⟨hx, hb, hr, hml, hown, hts, hlocks, hin, hE, hfr, hlo, hbs⟩ := C
  have ha' := ite_some ha; clear ha; obtain ⟨rfl, ha⟩ := ha'
  split at ha
  · have ha' := ite_some ha; clear ha; obtain ⟨hc, ha⟩ := ha'
    rw [Bool.and_eq_true] at hc
    cases ha
    exact lv_dup2_11 hx hb hd (cat1_c hc.1) (cat1_c hc.2) (k _ _ _ hL hW hS)
  · cases ha
theorem s_goto {p : Program} {l : Launch} {e : Env} {R : Room} {s : State} {m : MethodId} {args : Array Value} {below : List Frame} {meth : Method} {c : Code} {H : Heap} {locs : List Loc} {cells slots : Nat} {Q : State → Prop} {b : Nat} {t : Nat → Nat} {ac : Nat → ClassId} {D : va_G} {i pc len : Nat} {ls : Array Slot} {L S : List Value} {h : List hC} {pc' : Nat} {L' S' : List Value} {h' : List hC} {off : Int} (C : Ctx b t ac D p s m args meth c R i) (hd : decode (mB i) pc = .ok (.goto off, len)) (ha : act i pc (.goto off) len L S h = some (.inl (pc', L', S', h'))) (hL : LR (ad b t) ls (mL i) L) (hW : WH b t ac D h H) (hS : va_S (fun q => b ≤ q) s.heap H locs) (hlen : h.length ≤ sB) (hcs : cells ≤ R.cells ∧ slots ≤ R.slots)
    (k : ∀ (ls' : Array Slot) (H' : Heap) (locs' : List Loc), LR (ad b t) ls' (mL i) L' → WH b t ac D h' H' → va_S (fun q => b ≤ q) s.heap H' locs' → W p l e R s m args below meth c H' locs' cells slots Q (F0 m pc' ls' (S'.map (cv (ad b t))))) : W p l e R s m args below meth c H locs cells slots Q (F0 m pc ls (S.map (cv (ad b t)))) := by
  obtain ⟨hx, hb, hr, hml, hown, hts, hlocks, hin, hE, hfr, hlo, hbs⟩ := C
  have ha' := ite_some ha; clear ha; obtain ⟨rfl, ha⟩ := ha'
  unfold jmp at ha
  have ha' := ite_some ha; clear ha; obtain ⟨h0, ha⟩ := ha'
  cases ha
  exact lv_goto hx hb hd (Int.toNat_of_nonneg h0).symm (k _ _ _ hL hW hS)
theorem s_if_eq {p : Program} {l : Launch} {e : Env} {R : Room} {s : State} {m : MethodId} {args : Array Value} {below : List Frame} {meth : Method} {c : Code} {H : Heap} {locs : List Loc} {cells slots : Nat} {Q : State → Prop} {b : Nat} {t : Nat → Nat} {ac : Nat → ClassId} {D : va_G} {i pc len : Nat} {ls : Array Slot} {L S : List Value} {h : List hC} {pc' : Nat} {L' S' : List Value} {h' : List hC} {off : Int} (C : Ctx b t ac D p s m args meth c R i) (hd : decode (mB i) pc = .ok (.ifCond .eq off, len)) (ha : act i pc (.ifCond .eq off) len L S h = some (.inl (pc', L', S', h'))) (hL : LR (ad b t) ls (mL i) L) (hW : WH b t ac D h H) (hS : va_S (fun q => b ≤ q) s.heap H locs) (hlen : h.length ≤ sB) (hcs : cells ≤ R.cells ∧ slots ≤ R.slots)
    (k : ∀ (ls' : Array Slot) (H' : Heap) (locs' : List Loc), LR (ad b t) ls' (mL i) L' → WH b t ac D h' H' → va_S (fun q => b ≤ q) s.heap H' locs' → W p l e R s m args below meth c H' locs' cells slots Q (F0 m pc' ls' (S'.map (cv (ad b t))))) : W p l e R s m args below meth c H locs cells slots Q (F0 m pc ls (S.map (cv (ad b t)))) := by
  obtain ⟨hx, hb, hr, hml, hown, hts, hlocks, hin, hE, hfr, hlo, hbs⟩ := C
  have ha' := ite_some ha; clear ha; obtain ⟨⟨rfl, h0⟩, ha⟩ := ha'
  split at ha
  · cases ha
    refine lv_if_eq hx hb hd (Int.toNat_of_nonneg h0).symm (fun hq => ?_) (fun hq => ?_)
    · have k2 := k _ _ _ hL hW hS
      rw [if_pos (by simpa only [cmpI, decide_eq_true_eq] using hq)] at k2
      exact k2
    · have k2 := k _ _ _ hL hW hS
      rw [if_neg (by simpa only [cmpI, decide_eq_true_eq, Classical.not_not] using hq)] at k2
      exact k2
  · cases ha
theorem s_icmp_eq {p : Program} {l : Launch} {e : Env} {R : Room} {s : State} {m : MethodId} {args : Array Value} {below : List Frame} {meth : Method} {c : Code} {H : Heap} {locs : List Loc} {cells slots : Nat} {Q : State → Prop} {b : Nat} {t : Nat → Nat} {ac : Nat → ClassId} {D : va_G} {i pc len : Nat} {ls : Array Slot} {L S : List Value} {h : List hC} {pc' : Nat} {L' S' : List Value} {h' : List hC} {off : Int} (C : Ctx b t ac D p s m args meth c R i) (hd : decode (mB i) pc = .ok (.if_icmp .eq off, len)) (ha : act i pc (.if_icmp .eq off) len L S h = some (.inl (pc', L', S', h'))) (hL : LR (ad b t) ls (mL i) L) (hW : WH b t ac D h H) (hS : va_S (fun q => b ≤ q) s.heap H locs) (hlen : h.length ≤ sB) (hcs : cells ≤ R.cells ∧ slots ≤ R.slots)
    (k : ∀ (ls' : Array Slot) (H' : Heap) (locs' : List Loc), LR (ad b t) ls' (mL i) L' → WH b t ac D h' H' → va_S (fun q => b ≤ q) s.heap H' locs' → W p l e R s m args below meth c H' locs' cells slots Q (F0 m pc' ls' (S'.map (cv (ad b t))))) : W p l e R s m args below meth c H locs cells slots Q (F0 m pc ls (S.map (cv (ad b t)))) := by
  obtain ⟨hx, hb, hr, hml, hown, hts, hlocks, hin, hE, hfr, hlo, hbs⟩ := C
  have ha' := ite_some ha; clear ha; obtain ⟨⟨rfl, h0⟩, ha⟩ := ha'
  split at ha
  · cases ha
    refine lv_icmp_eq hx hb hd (Int.toNat_of_nonneg h0).symm (fun hq => ?_) (fun hq => ?_)
    · have k2 := k _ _ _ hL hW hS
      rw [if_pos (by simpa only [cmpI, decide_eq_true_eq] using hq)] at k2
      exact k2
    · have k2 := k _ _ _ hL hW hS
      rw [if_neg (by simpa only [cmpI, decide_eq_true_eq, Classical.not_not] using hq)] at k2
      exact k2
  · cases ha
theorem s_if_ne {p : Program} {l : Launch} {e : Env} {R : Room} {s : State} {m : MethodId} {args : Array Value} {below : List Frame} {meth : Method} {c : Code} {H : Heap} {locs : List Loc} {cells slots : Nat} {Q : State → Prop} {b : Nat} {t : Nat → Nat} {ac : Nat → ClassId} {D : va_G} {i pc len : Nat} {ls : Array Slot} {L S : List Value} {h : List hC} {pc' : Nat} {L' S' : List Value} {h' : List hC} {off : Int} (C : Ctx b t ac D p s m args meth c R i) (hd : decode (mB i) pc = .ok (.ifCond .ne off, len)) (ha : act i pc (.ifCond .ne off) len L S h = some (.inl (pc', L', S', h'))) (hL : LR (ad b t) ls (mL i) L) (hW : WH b t ac D h H) (hS : va_S (fun q => b ≤ q) s.heap H locs) (hlen : h.length ≤ sB) (hcs : cells ≤ R.cells ∧ slots ≤ R.slots)
    (k : ∀ (ls' : Array Slot) (H' : Heap) (locs' : List Loc), LR (ad b t) ls' (mL i) L' → WH b t ac D h' H' → va_S (fun q => b ≤ q) s.heap H' locs' → W p l e R s m args below meth c H' locs' cells slots Q (F0 m pc' ls' (S'.map (cv (ad b t))))) : W p l e R s m args below meth c H locs cells slots Q (F0 m pc ls (S.map (cv (ad b t)))) := by
  obtain ⟨hx, hb, hr, hml, hown, hts, hlocks, hin, hE, hfr, hlo, hbs⟩ := C
  have ha' := ite_some ha; clear ha; obtain ⟨⟨rfl, h0⟩, ha⟩ := ha'
  split at ha
  · cases ha
    refine lv_if_ne hx hb hd (Int.toNat_of_nonneg h0).symm (fun hq => ?_) (fun hq => ?_)
    · have k2 := k _ _ _ hL hW hS
      rw [if_pos (by simpa only [cmpI, decide_eq_true_eq] using hq)] at k2
      exact k2
    · have k2 := k _ _ _ hL hW hS
      rw [if_neg (by simpa only [cmpI, decide_eq_true_eq, Classical.not_not] using hq)] at k2
      exact k2
  · cases ha
theorem s_icmp_ne {p : Program} {l : Launch} {e : Env} {R : Room} {s : State} {m : MethodId} {args : Array Value} {below : List Frame} {meth : Method} {c : Code} {H : Heap} {locs : List Loc} {cells slots : Nat} {Q : State → Prop} {b : Nat} {t : Nat → Nat} {ac : Nat → ClassId} {D : va_G} {i pc len : Nat} {ls : Array Slot} {L S : List Value} {h : List hC} {pc' : Nat} {L' S' : List Value} {h' : List hC} {off : Int} (C : Ctx b t ac D p s m args meth c R i) (hd : decode (mB i) pc = .ok (.if_icmp .ne off, len)) (ha : act i pc (.if_icmp .ne off) len L S h = some (.inl (pc', L', S', h'))) (hL : LR (ad b t) ls (mL i) L) (hW : WH b t ac D h H) (hS : va_S (fun q => b ≤ q) s.heap H locs) (hlen : h.length ≤ sB) (hcs : cells ≤ R.cells ∧ slots ≤ R.slots)
    (k : ∀ (ls' : Array Slot) (H' : Heap) (locs' : List Loc), LR (ad b t) ls' (mL i) L' → WH b t ac D h' H' → va_S (fun q => b ≤ q) s.heap H' locs' → W p l e R s m args below meth c H' locs' cells slots Q (F0 m pc' ls' (S'.map (cv (ad b t))))) : W p l e R s m args below meth c H locs cells slots Q (F0 m pc ls (S.map (cv (ad b t)))) := by
  obtain ⟨hx, hb, hr, hml, hown, hts, hlocks, hin, hE, hfr, hlo, hbs⟩ := C
  have ha' := ite_some ha; clear ha; obtain ⟨⟨rfl, h0⟩, ha⟩ := ha'
  split at ha
  · cases ha
    refine lv_icmp_ne hx hb hd (Int.toNat_of_nonneg h0).symm (fun hq => ?_) (fun hq => ?_)
    · have k2 := k _ _ _ hL hW hS
      rw [if_pos (by simpa only [cmpI, decide_eq_true_eq] using hq)] at k2
      exact k2
    · have k2 := k _ _ _ hL hW hS
      rw [if_neg (by simpa only [cmpI, decide_eq_true_eq, Classical.not_not] using hq)] at k2
      exact k2
  · cases ha
theorem s_if_lt {p : Program} {l : Launch} {e : Env} {R : Room} {s : State} {m : MethodId} {args : Array Value} {below : List Frame} {meth : Method} {c : Code} {H : Heap} {locs : List Loc} {cells slots : Nat} {Q : State → Prop} {b : Nat} {t : Nat → Nat} {ac : Nat → ClassId} {D : va_G} {i pc len : Nat} {ls : Array Slot} {L S : List Value} {h : List hC} {pc' : Nat} {L' S' : List Value} {h' : List hC} {off : Int} (C : Ctx b t ac D p s m args meth c R i) (hd : decode (mB i) pc = .ok (.ifCond .lt off, len)) (ha : act i pc (.ifCond .lt off) len L S h = some (.inl (pc', L', S', h'))) (hL : LR (ad b t) ls (mL i) L) (hW : WH b t ac D h H) (hS : va_S (fun q => b ≤ q) s.heap H locs) (hlen : h.length ≤ sB) (hcs : cells ≤ R.cells ∧ slots ≤ R.slots)
    (k : ∀ (ls' : Array Slot) (H' : Heap) (locs' : List Loc), LR (ad b t) ls' (mL i) L' → WH b t ac D h' H' → va_S (fun q => b ≤ q) s.heap H' locs' → W p l e R s m args below meth c H' locs' cells slots Q (F0 m pc' ls' (S'.map (cv (ad b t))))) : W p l e R s m args below meth c H locs cells slots Q (F0 m pc ls (S.map (cv (ad b t)))) := by
  obtain ⟨hx, hb, hr, hml, hown, hts, hlocks, hin, hE, hfr, hlo, hbs⟩ := C
  have ha' := ite_some ha; clear ha; obtain ⟨⟨rfl, h0⟩, ha⟩ := ha'
  split at ha
  · cases ha
    refine lv_if_lt hx hb hd (Int.toNat_of_nonneg h0).symm (fun hq => ?_) (fun hq => ?_)
    · have k2 := k _ _ _ hL hW hS
      rw [if_pos (by simpa only [cmpI, decide_eq_true_eq] using hq)] at k2
      exact k2
    · have k2 := k _ _ _ hL hW hS
      rw [if_neg (by simpa only [cmpI, decide_eq_true_eq, Classical.not_not] using hq)] at k2
      exact k2
  · cases ha
theorem s_icmp_lt {p : Program} {l : Launch} {e : Env} {R : Room} {s : State} {m : MethodId} {args : Array Value} {below : List Frame} {meth : Method} {c : Code} {H : Heap} {locs : List Loc} {cells slots : Nat} {Q : State → Prop} {b : Nat} {t : Nat → Nat} {ac : Nat → ClassId} {D : va_G} {i pc len : Nat} {ls : Array Slot} {L S : List Value} {h : List hC} {pc' : Nat} {L' S' : List Value} {h' : List hC} {off : Int} (C : Ctx b t ac D p s m args meth c R i) (hd : decode (mB i) pc = .ok (.if_icmp .lt off, len)) (ha : act i pc (.if_icmp .lt off) len L S h = some (.inl (pc', L', S', h'))) (hL : LR (ad b t) ls (mL i) L) (hW : WH b t ac D h H) (hS : va_S (fun q => b ≤ q) s.heap H locs) (hlen : h.length ≤ sB) (hcs : cells ≤ R.cells ∧ slots ≤ R.slots)
    (k : ∀ (ls' : Array Slot) (H' : Heap) (locs' : List Loc), LR (ad b t) ls' (mL i) L' → WH b t ac D h' H' → va_S (fun q => b ≤ q) s.heap H' locs' → W p l e R s m args below meth c H' locs' cells slots Q (F0 m pc' ls' (S'.map (cv (ad b t))))) : W p l e R s m args below meth c H locs cells slots Q (F0 m pc ls (S.map (cv (ad b t)))) := by
  obtain ⟨hx, hb, hr, hml, hown, hts, hlocks, hin, hE, hfr, hlo, hbs⟩ := C
  have ha' := ite_some ha; clear ha; obtain ⟨⟨rfl, h0⟩, ha⟩ := ha'
  split at ha
  · cases ha
    refine lv_icmp_lt hx hb hd (Int.toNat_of_nonneg h0).symm (fun hq => ?_) (fun hq => ?_)
    · have k2 := k _ _ _ hL hW hS
      rw [if_pos (by simpa only [cmpI, decide_eq_true_eq] using hq)] at k2
      exact k2
    · have k2 := k _ _ _ hL hW hS
      rw [if_neg (by simpa only [cmpI, decide_eq_true_eq, Classical.not_not] using hq)] at k2
      exact k2
  · cases ha
theorem s_if_ge {p : Program} {l : Launch} {e : Env} {R : Room} {s : State} {m : MethodId} {args : Array Value} {below : List Frame} {meth : Method} {c : Code} {H : Heap} {locs : List Loc} {cells slots : Nat} {Q : State → Prop} {b : Nat} {t : Nat → Nat} {ac : Nat → ClassId} {D : va_G} {i pc len : Nat} {ls : Array Slot} {L S : List Value} {h : List hC} {pc' : Nat} {L' S' : List Value} {h' : List hC} {off : Int} (C : Ctx b t ac D p s m args meth c R i) (hd : decode (mB i) pc = .ok (.ifCond .ge off, len)) (ha : act i pc (.ifCond .ge off) len L S h = some (.inl (pc', L', S', h'))) (hL : LR (ad b t) ls (mL i) L) (hW : WH b t ac D h H) (hS : va_S (fun q => b ≤ q) s.heap H locs) (hlen : h.length ≤ sB) (hcs : cells ≤ R.cells ∧ slots ≤ R.slots)
    (k : ∀ (ls' : Array Slot) (H' : Heap) (locs' : List Loc), LR (ad b t) ls' (mL i) L' → WH b t ac D h' H' → va_S (fun q => b ≤ q) s.heap H' locs' → W p l e R s m args below meth c H' locs' cells slots Q (F0 m pc' ls' (S'.map (cv (ad b t))))) : W p l e R s m args below meth c H locs cells slots Q (F0 m pc ls (S.map (cv (ad b t)))) := by
  obtain ⟨hx, hb, hr, hml, hown, hts, hlocks, hin, hE, hfr, hlo, hbs⟩ := C
  have ha' := ite_some ha; clear ha; obtain ⟨⟨rfl, h0⟩, ha⟩ := ha'
  split at ha
  · cases ha
    refine lv_if_ge hx hb hd (Int.toNat_of_nonneg h0).symm (fun hq => ?_) (fun hq => ?_)
    · have k2 := k _ _ _ hL hW hS
      rw [if_pos (by simpa only [cmpI, decide_eq_true_eq] using hq)] at k2
      exact k2
    · have k2 := k _ _ _ hL hW hS
      rw [if_neg (by simpa only [cmpI, decide_eq_true_eq, Classical.not_not] using hq)] at k2
      exact k2
  · cases ha
theorem s_icmp_ge {p : Program} {l : Launch} {e : Env} {R : Room} {s : State} {m : MethodId} {args : Array Value} {below : List Frame} {meth : Method} {c : Code} {H : Heap} {locs : List Loc} {cells slots : Nat} {Q : State → Prop} {b : Nat} {t : Nat → Nat} {ac : Nat → ClassId} {D : va_G} {i pc len : Nat} {ls : Array Slot} {L S : List Value} {h : List hC} {pc' : Nat} {L' S' : List Value} {h' : List hC} {off : Int} (C : Ctx b t ac D p s m args meth c R i) (hd : decode (mB i) pc = .ok (.if_icmp .ge off, len)) (ha : act i pc (.if_icmp .ge off) len L S h = some (.inl (pc', L', S', h'))) (hL : LR (ad b t) ls (mL i) L) (hW : WH b t ac D h H) (hS : va_S (fun q => b ≤ q) s.heap H locs) (hlen : h.length ≤ sB) (hcs : cells ≤ R.cells ∧ slots ≤ R.slots)
    (k : ∀ (ls' : Array Slot) (H' : Heap) (locs' : List Loc), LR (ad b t) ls' (mL i) L' → WH b t ac D h' H' → va_S (fun q => b ≤ q) s.heap H' locs' → W p l e R s m args below meth c H' locs' cells slots Q (F0 m pc' ls' (S'.map (cv (ad b t))))) : W p l e R s m args below meth c H locs cells slots Q (F0 m pc ls (S.map (cv (ad b t)))) := by
  obtain ⟨hx, hb, hr, hml, hown, hts, hlocks, hin, hE, hfr, hlo, hbs⟩ := C
  have ha' := ite_some ha; clear ha; obtain ⟨⟨rfl, h0⟩, ha⟩ := ha'
  split at ha
  · cases ha
    refine lv_icmp_ge hx hb hd (Int.toNat_of_nonneg h0).symm (fun hq => ?_) (fun hq => ?_)
    · have k2 := k _ _ _ hL hW hS
      rw [if_pos (by simpa only [cmpI, decide_eq_true_eq] using hq)] at k2
      exact k2
    · have k2 := k _ _ _ hL hW hS
      rw [if_neg (by simpa only [cmpI, decide_eq_true_eq, Classical.not_not] using hq)] at k2
      exact k2
  · cases ha
theorem s_if_gt {p : Program} {l : Launch} {e : Env} {R : Room} {s : State} {m : MethodId} {args : Array Value} {below : List Frame} {meth : Method} {c : Code} {H : Heap} {locs : List Loc} {cells slots : Nat} {Q : State → Prop} {b : Nat} {t : Nat → Nat} {ac : Nat → ClassId} {D : va_G} {i pc len : Nat} {ls : Array Slot} {L S : List Value} {h : List hC} {pc' : Nat} {L' S' : List Value} {h' : List hC} {off : Int} (C : Ctx b t ac D p s m args meth c R i) (hd : decode (mB i) pc = .ok (.ifCond .gt off, len)) (ha : act i pc (.ifCond .gt off) len L S h = some (.inl (pc', L', S', h'))) (hL : LR (ad b t) ls (mL i) L) (hW : WH b t ac D h H) (hS : va_S (fun q => b ≤ q) s.heap H locs) (hlen : h.length ≤ sB) (hcs : cells ≤ R.cells ∧ slots ≤ R.slots)
    (k : ∀ (ls' : Array Slot) (H' : Heap) (locs' : List Loc), LR (ad b t) ls' (mL i) L' → WH b t ac D h' H' → va_S (fun q => b ≤ q) s.heap H' locs' → W p l e R s m args below meth c H' locs' cells slots Q (F0 m pc' ls' (S'.map (cv (ad b t))))) : W p l e R s m args below meth c H locs cells slots Q (F0 m pc ls (S.map (cv (ad b t)))) := by
  obtain ⟨hx, hb, hr, hml, hown, hts, hlocks, hin, hE, hfr, hlo, hbs⟩ := C
  have ha' := ite_some ha; clear ha; obtain ⟨⟨rfl, h0⟩, ha⟩ := ha'
  split at ha
  · cases ha
    refine lv_if_gt hx hb hd (Int.toNat_of_nonneg h0).symm (fun hq => ?_) (fun hq => ?_)
    · have k2 := k _ _ _ hL hW hS
      rw [if_pos (by simpa only [cmpI, decide_eq_true_eq] using hq)] at k2
      exact k2
    · have k2 := k _ _ _ hL hW hS
      rw [if_neg (by simpa only [cmpI, decide_eq_true_eq, Classical.not_not] using hq)] at k2
      exact k2
  · cases ha
theorem s_icmp_gt {p : Program} {l : Launch} {e : Env} {R : Room} {s : State} {m : MethodId} {args : Array Value} {below : List Frame} {meth : Method} {c : Code} {H : Heap} {locs : List Loc} {cells slots : Nat} {Q : State → Prop} {b : Nat} {t : Nat → Nat} {ac : Nat → ClassId} {D : va_G} {i pc len : Nat} {ls : Array Slot} {L S : List Value} {h : List hC} {pc' : Nat} {L' S' : List Value} {h' : List hC} {off : Int} (C : Ctx b t ac D p s m args meth c R i) (hd : decode (mB i) pc = .ok (.if_icmp .gt off, len)) (ha : act i pc (.if_icmp .gt off) len L S h = some (.inl (pc', L', S', h'))) (hL : LR (ad b t) ls (mL i) L) (hW : WH b t ac D h H) (hS : va_S (fun q => b ≤ q) s.heap H locs) (hlen : h.length ≤ sB) (hcs : cells ≤ R.cells ∧ slots ≤ R.slots)
    (k : ∀ (ls' : Array Slot) (H' : Heap) (locs' : List Loc), LR (ad b t) ls' (mL i) L' → WH b t ac D h' H' → va_S (fun q => b ≤ q) s.heap H' locs' → W p l e R s m args below meth c H' locs' cells slots Q (F0 m pc' ls' (S'.map (cv (ad b t))))) : W p l e R s m args below meth c H locs cells slots Q (F0 m pc ls (S.map (cv (ad b t)))) := by
  obtain ⟨hx, hb, hr, hml, hown, hts, hlocks, hin, hE, hfr, hlo, hbs⟩ := C
  have ha' := ite_some ha; clear ha; obtain ⟨⟨rfl, h0⟩, ha⟩ := ha'
  split at ha
  · cases ha
    refine lv_icmp_gt hx hb hd (Int.toNat_of_nonneg h0).symm (fun hq => ?_) (fun hq => ?_)
    · have k2 := k _ _ _ hL hW hS
      rw [if_pos (by simpa only [cmpI, decide_eq_true_eq] using hq)] at k2
      exact k2
    · have k2 := k _ _ _ hL hW hS
      rw [if_neg (by simpa only [cmpI, decide_eq_true_eq, Classical.not_not] using hq)] at k2
      exact k2
  · cases ha
theorem s_if_le {p : Program} {l : Launch} {e : Env} {R : Room} {s : State} {m : MethodId} {args : Array Value} {below : List Frame} {meth : Method} {c : Code} {H : Heap} {locs : List Loc} {cells slots : Nat} {Q : State → Prop} {b : Nat} {t : Nat → Nat} {ac : Nat → ClassId} {D : va_G} {i pc len : Nat} {ls : Array Slot} {L S : List Value} {h : List hC} {pc' : Nat} {L' S' : List Value} {h' : List hC} {off : Int} (C : Ctx b t ac D p s m args meth c R i) (hd : decode (mB i) pc = .ok (.ifCond .le off, len)) (ha : act i pc (.ifCond .le off) len L S h = some (.inl (pc', L', S', h'))) (hL : LR (ad b t) ls (mL i) L) (hW : WH b t ac D h H) (hS : va_S (fun q => b ≤ q) s.heap H locs) (hlen : h.length ≤ sB) (hcs : cells ≤ R.cells ∧ slots ≤ R.slots)
    (k : ∀ (ls' : Array Slot) (H' : Heap) (locs' : List Loc), LR (ad b t) ls' (mL i) L' → WH b t ac D h' H' → va_S (fun q => b ≤ q) s.heap H' locs' → W p l e R s m args below meth c H' locs' cells slots Q (F0 m pc' ls' (S'.map (cv (ad b t))))) : W p l e R s m args below meth c H locs cells slots Q (F0 m pc ls (S.map (cv (ad b t)))) := by
  obtain ⟨hx, hb, hr, hml, hown, hts, hlocks, hin, hE, hfr, hlo, hbs⟩ := C
  have ha' := ite_some ha; clear ha; obtain ⟨⟨rfl, h0⟩, ha⟩ := ha'
  split at ha
  · cases ha
    refine lv_if_le hx hb hd (Int.toNat_of_nonneg h0).symm (fun hq => ?_) (fun hq => ?_)
    · have k2 := k _ _ _ hL hW hS
      rw [if_pos (by simpa only [cmpI, decide_eq_true_eq] using hq)] at k2
      exact k2
    · have k2 := k _ _ _ hL hW hS
      rw [if_neg (by simpa only [cmpI, decide_eq_true_eq, Classical.not_not] using hq)] at k2
      exact k2
  · cases ha
theorem s_icmp_le {p : Program} {l : Launch} {e : Env} {R : Room} {s : State} {m : MethodId} {args : Array Value} {below : List Frame} {meth : Method} {c : Code} {H : Heap} {locs : List Loc} {cells slots : Nat} {Q : State → Prop} {b : Nat} {t : Nat → Nat} {ac : Nat → ClassId} {D : va_G} {i pc len : Nat} {ls : Array Slot} {L S : List Value} {h : List hC} {pc' : Nat} {L' S' : List Value} {h' : List hC} {off : Int} (C : Ctx b t ac D p s m args meth c R i) (hd : decode (mB i) pc = .ok (.if_icmp .le off, len)) (ha : act i pc (.if_icmp .le off) len L S h = some (.inl (pc', L', S', h'))) (hL : LR (ad b t) ls (mL i) L) (hW : WH b t ac D h H) (hS : va_S (fun q => b ≤ q) s.heap H locs) (hlen : h.length ≤ sB) (hcs : cells ≤ R.cells ∧ slots ≤ R.slots)
    (k : ∀ (ls' : Array Slot) (H' : Heap) (locs' : List Loc), LR (ad b t) ls' (mL i) L' → WH b t ac D h' H' → va_S (fun q => b ≤ q) s.heap H' locs' → W p l e R s m args below meth c H' locs' cells slots Q (F0 m pc' ls' (S'.map (cv (ad b t))))) : W p l e R s m args below meth c H locs cells slots Q (F0 m pc ls (S.map (cv (ad b t)))) := by
  obtain ⟨hx, hb, hr, hml, hown, hts, hlocks, hin, hE, hfr, hlo, hbs⟩ := C
  have ha' := ite_some ha; clear ha; obtain ⟨⟨rfl, h0⟩, ha⟩ := ha'
  split at ha
  · cases ha
    refine lv_icmp_le hx hb hd (Int.toNat_of_nonneg h0).symm (fun hq => ?_) (fun hq => ?_)
    · have k2 := k _ _ _ hL hW hS
      rw [if_pos (by simpa only [cmpI, decide_eq_true_eq] using hq)] at k2
      exact k2
    · have k2 := k _ _ _ hL hW hS
      rw [if_neg (by simpa only [cmpI, decide_eq_true_eq, Classical.not_not] using hq)] at k2
      exact k2
  · cases ha
theorem s_ifnull {p : Program} {l : Launch} {e : Env} {R : Room} {s : State} {m : MethodId} {args : Array Value} {below : List Frame} {meth : Method} {c : Code} {H : Heap} {locs : List Loc} {cells slots : Nat} {Q : State → Prop} {b : Nat} {t : Nat → Nat} {ac : Nat → ClassId} {D : va_G} {i pc len : Nat} {ls : Array Slot} {L S : List Value} {h : List hC} {pc' : Nat} {L' S' : List Value} {h' : List hC} {off : Int} (C : Ctx b t ac D p s m args meth c R i) (hd : decode (mB i) pc = .ok (.ifnull off, len)) (ha : act i pc (.ifnull off) len L S h = some (.inl (pc', L', S', h'))) (hL : LR (ad b t) ls (mL i) L) (hW : WH b t ac D h H) (hS : va_S (fun q => b ≤ q) s.heap H locs) (hlen : h.length ≤ sB) (hcs : cells ≤ R.cells ∧ slots ≤ R.slots)
    (k : ∀ (ls' : Array Slot) (H' : Heap) (locs' : List Loc), LR (ad b t) ls' (mL i) L' → WH b t ac D h' H' → va_S (fun q => b ≤ q) s.heap H' locs' → W p l e R s m args below meth c H' locs' cells slots Q (F0 m pc' ls' (S'.map (cv (ad b t))))) : W p l e R s m args below meth c H locs cells slots Q (F0 m pc ls (S.map (cv (ad b t)))) := by
  obtain ⟨hx, hb, hr, hml, hown, hts, hlocks, hin, hE, hfr, hlo, hbs⟩ := C
  have ha' := ite_some ha; clear ha; obtain ⟨rfl, ha⟩ := ha'
  split at ha
  · unfold jmp at ha
    have ha' := ite_some ha; clear ha; obtain ⟨h0, ha⟩ := ha'
    cases ha
    exact lv_ifnullN hx hb hd (Int.toNat_of_nonneg h0).symm (k _ _ _ hL hW hS)
  · cases ha
    exact lv_ifnull hx hb hd (k _ _ _ hL hW hS)
  · cases ha
theorem s_ifnonnull {p : Program} {l : Launch} {e : Env} {R : Room} {s : State} {m : MethodId} {args : Array Value} {below : List Frame} {meth : Method} {c : Code} {H : Heap} {locs : List Loc} {cells slots : Nat} {Q : State → Prop} {b : Nat} {t : Nat → Nat} {ac : Nat → ClassId} {D : va_G} {i pc len : Nat} {ls : Array Slot} {L S : List Value} {h : List hC} {pc' : Nat} {L' S' : List Value} {h' : List hC} {off : Int} (C : Ctx b t ac D p s m args meth c R i) (hd : decode (mB i) pc = .ok (.ifnonnull off, len)) (ha : act i pc (.ifnonnull off) len L S h = some (.inl (pc', L', S', h'))) (hL : LR (ad b t) ls (mL i) L) (hW : WH b t ac D h H) (hS : va_S (fun q => b ≤ q) s.heap H locs) (hlen : h.length ≤ sB) (hcs : cells ≤ R.cells ∧ slots ≤ R.slots)
    (k : ∀ (ls' : Array Slot) (H' : Heap) (locs' : List Loc), LR (ad b t) ls' (mL i) L' → WH b t ac D h' H' → va_S (fun q => b ≤ q) s.heap H' locs' → W p l e R s m args below meth c H' locs' cells slots Q (F0 m pc' ls' (S'.map (cv (ad b t))))) : W p l e R s m args below meth c H locs cells slots Q (F0 m pc ls (S.map (cv (ad b t)))) := by
  obtain ⟨hx, hb, hr, hml, hown, hts, hlocks, hin, hE, hfr, hlo, hbs⟩ := C
  have ha' := ite_some ha; clear ha; obtain ⟨rfl, ha⟩ := ha'
  split at ha
  · cases ha
    exact lv_ifnonnullN hx hb hd (k _ _ _ hL hW hS)
  · unfold jmp at ha
    have ha' := ite_some ha; clear ha; obtain ⟨h0, ha⟩ := ha'
    cases ha
    exact lv_ifnonnull hx hb hd (Int.toNat_of_nonneg h0).symm (k _ _ _ hL hW hS)
  · cases ha
theorem s_table {p : Program} {l : Launch} {e : Env} {R : Room} {s : State} {m : MethodId} {args : Array Value} {below : List Frame} {meth : Method} {c : Code} {H : Heap} {locs : List Loc} {cells slots : Nat} {Q : State → Prop} {b : Nat} {t : Nat → Nat} {ac : Nat → ClassId} {D : va_G} {i pc len : Nat} {ls : Array Slot} {L S : List Value} {h : List hC} {pc' : Nat} {L' S' : List Value} {h' : List hC} {d lo hi : Int} {offs : Array Int} (C : Ctx b t ac D p s m args meth c R i) (hd : decode (mB i) pc = .ok (.tableswitch d lo hi offs, len)) (ha : act i pc (.tableswitch d lo hi offs) len L S h = some (.inl (pc', L', S', h'))) (hL : LR (ad b t) ls (mL i) L) (hW : WH b t ac D h H) (hS : va_S (fun q => b ≤ q) s.heap H locs) (hlen : h.length ≤ sB) (hcs : cells ≤ R.cells ∧ slots ≤ R.slots)
    (k : ∀ (ls' : Array Slot) (H' : Heap) (locs' : List Loc), LR (ad b t) ls' (mL i) L' → WH b t ac D h' H' → va_S (fun q => b ≤ q) s.heap H' locs' → W p l e R s m args below meth c H' locs' cells slots Q (F0 m pc' ls' (S'.map (cv (ad b t))))) : W p l e R s m args below meth c H locs cells slots Q (F0 m pc ls (S.map (cv (ad b t)))) := by
  obtain ⟨hx, hb, hr, hml, hown, hts, hlocks, hin, hE, hfr, hlo, hbs⟩ := C
  simp only [act] at ha
  split at ha
  · split at ha
    · rename_i hq
      unfold jmp at ha
      have ha' := ite_some ha; clear ha; obtain ⟨h0, ha⟩ := ha'
      cases ha
      exact lv_tableOut hx hb hd hq (Int.toNat_of_nonneg h0).symm (k _ _ _ hL hW hS)
    · rename_i hq
      split at ha
      · rename_i off hoff
        unfold jmp at ha
        have ha' := ite_some ha; clear ha; obtain ⟨h0, ha⟩ := ha'
        cases ha
        exact lv_tableIn hx hb hd (fun q => hq (Or.inl q)) (fun q => hq (Or.inr q)) hoff (Int.toNat_of_nonneg h0).symm (k _ _ _ hL hW hS)
      · cases ha
  · cases ha
theorem s_lookup {p : Program} {l : Launch} {e : Env} {R : Room} {s : State} {m : MethodId} {args : Array Value} {below : List Frame} {meth : Method} {c : Code} {H : Heap} {locs : List Loc} {cells slots : Nat} {Q : State → Prop} {b : Nat} {t : Nat → Nat} {ac : Nat → ClassId} {D : va_G} {i pc len : Nat} {ls : Array Slot} {L S : List Value} {h : List hC} {pc' : Nat} {L' S' : List Value} {h' : List hC} {d : Int} {ps : Array (Int × Int)} (C : Ctx b t ac D p s m args meth c R i) (hd : decode (mB i) pc = .ok (.lookupswitch d ps, len)) (ha : act i pc (.lookupswitch d ps) len L S h = some (.inl (pc', L', S', h'))) (hL : LR (ad b t) ls (mL i) L) (hW : WH b t ac D h H) (hS : va_S (fun q => b ≤ q) s.heap H locs) (hlen : h.length ≤ sB) (hcs : cells ≤ R.cells ∧ slots ≤ R.slots)
    (k : ∀ (ls' : Array Slot) (H' : Heap) (locs' : List Loc), LR (ad b t) ls' (mL i) L' → WH b t ac D h' H' → va_S (fun q => b ≤ q) s.heap H' locs' → W p l e R s m args below meth c H' locs' cells slots Q (F0 m pc' ls' (S'.map (cv (ad b t))))) : W p l e R s m args below meth c H locs cells slots Q (F0 m pc ls (S.map (cv (ad b t)))) := by
  obtain ⟨hx, hb, hr, hml, hown, hts, hlocks, hin, hE, hfr, hlo, hbs⟩ := C
  simp only [act] at ha
  split at ha
  · have ha' := ite_some ha; clear ha; obtain ⟨hp, ha⟩ := ha'
    unfold jmp at ha
    have ha' := ite_some ha; clear ha; obtain ⟨h0, ha⟩ := ha'
    cases ha
    exact lv_lookup hx hb hd hp rfl (Int.toNat_of_nonneg h0).symm (k _ _ _ hL hW hS)
  · cases ha
theorem s_getfield {p : Program} {l : Launch} {e : Env} {R : Room} {s : State} {m : MethodId} {args : Array Value} {below : List Frame} {meth : Method} {c : Code} {H : Heap} {locs : List Loc} {cells slots : Nat} {Q : State → Prop} {b : Nat} {t : Nat → Nat} {ac : Nat → ClassId} {D : va_G} {i pc len : Nat} {ls : Array Slot} {L S : List Value} {h : List hC} {pc' : Nat} {L' S' : List Value} {h' : List hC} {idx : Nat} (C : Ctx b t ac D p s m args meth c R i) (hd : decode (mB i) pc = .ok (.getfield idx, len)) (ha : act i pc (.getfield idx) len L S h = some (.inl (pc', L', S', h'))) (hL : LR (ad b t) ls (mL i) L) (hW : WH b t ac D h H) (hS : va_S (fun q => b ≤ q) s.heap H locs) (hlen : h.length ≤ sB) (hcs : cells ≤ R.cells ∧ slots ≤ R.slots)
    (k : ∀ (ls' : Array Slot) (H' : Heap) (locs' : List Loc), LR (ad b t) ls' (mL i) L' → WH b t ac D h' H' → va_S (fun q => b ≤ q) s.heap H' locs' → W p l e R s m args below meth c H' locs' cells slots Q (F0 m pc' ls' (S'.map (cv (ad b t))))) : W p l e R s m args below meth c H locs cells slots Q (F0 m pc ls (S.map (cv (ad b t)))) := by
  obtain ⟨hx, hb, hr, hml, hown, hts, hlocks, hin, hE, hfr, hlo, hbs⟩ := C
  have ha' := ite_some ha; clear ha; obtain ⟨rfl, ha⟩ := ha'
  split at ha
  · rename_i a S0
    split at ha
    · rename_i ci kf hf
      obtain ⟨h12, hkN, hlink⟩ := fref_ok hf
      split at ha
      · rename_i v hv
        cases ha
        obtain ⟨fs, hc, hk, -⟩ := getF_ok hv
        exact va_get (D := D) (ci := ci) (v := cv (ad b t) v) hx hb hts (cls_at h12).2.2 hown hE.1 hW a (wz_at hc) (vw_at h12) kf hkN (hts _ hlink) (fun _ q => q) (by rw [List.getElem?_map, hk]; rfl) hd (k _ _ _ hL hW hS)
      · cases ha
    · cases ha
  · cases ha
theorem s_putfield {p : Program} {l : Launch} {e : Env} {R : Room} {s : State} {m : MethodId} {args : Array Value} {below : List Frame} {meth : Method} {c : Code} {H : Heap} {locs : List Loc} {cells slots : Nat} {Q : State → Prop} {b : Nat} {t : Nat → Nat} {ac : Nat → ClassId} {D : va_G} {i pc len : Nat} {ls : Array Slot} {L S : List Value} {h : List hC} {pc' : Nat} {L' S' : List Value} {h' : List hC} {idx : Nat} (C : Ctx b t ac D p s m args meth c R i) (hd : decode (mB i) pc = .ok (.putfield idx, len)) (ha : act i pc (.putfield idx) len L S h = some (.inl (pc', L', S', h'))) (hL : LR (ad b t) ls (mL i) L) (hW : WH b t ac D h H) (hS : va_S (fun q => b ≤ q) s.heap H locs) (hlen : h.length ≤ sB) (hcs : cells ≤ R.cells ∧ slots ≤ R.slots)
    (k : ∀ (ls' : Array Slot) (H' : Heap) (locs' : List Loc), LR (ad b t) ls' (mL i) L' → WH b t ac D h' H' → va_S (fun q => b ≤ q) s.heap H' locs' → W p l e R s m args below meth c H' locs' cells slots Q (F0 m pc' ls' (S'.map (cv (ad b t))))) : W p l e R s m args below meth c H locs cells slots Q (F0 m pc ls (S.map (cv (ad b t)))) := by
  obtain ⟨hx, hb, hr, hml, hown, hts, hlocks, hin, hE, hfr, hlo, hbs⟩ := C
  have ha' := ite_some ha; clear ha; obtain ⟨rfl, ha⟩ := ha'
  split at ha
  · rename_i v a S0
    split at ha
    · rename_i ci kf hf
      obtain ⟨h12, hkN, hlink⟩ := fref_ok hf
      have ha' := ite_some ha; clear ha; obtain ⟨hfin, ha⟩ := ha'
      split at ha
      · rename_i y hy
        cases ha
        obtain ⟨fs, hc, hk, hok, rfl⟩ := putF_ok hy
        have hset : (wz (ad b t) ac h).set a (ad b t a, .inr (ci, (fs.map (cv (ad b t))).set kf (cv (ad b t) v))) = wz (ad b t) ac (h.set a (.inl (ci, fs.set kf v))) := by
          rw [← wz_set]
          simp only [ce, List.map_set]
        by_cases hf2 : (fT ci kf).2.2.2 = false
        · exact va_put (D := D) (ci := ci) (v := cv (ad b t) v) hx hb hts (cls_at h12).2.2 (fty ci) (fun k hk => fty_ok h12 hk) (fnm_ok h12) hown hE.1 hW (wz_D hlen) hS a (wz_at hc) (vw_at h12) kf hkN (hts _ hlink) (fun _ q => q) hf2 (fty_ok h12 hkN) (okv_n hok).1 (okv_n hok).2 (by rw [List.length_map]; exact hk) hd (fun H1 locs1 hP1 _ hS1 => by rw [hset] at hP1; exact k _ _ _ hL hP1 hS1)
        · rcases hfin with q | ⟨hin', hci⟩
          · exact absurd q hf2
          · exact va_putF (D := D) (ci := ci) (v := cv (ad b t) v) hx hb hts (cls_at h12).2.2 (fty ci) (fun k hk => fty_ok h12 hk) (fnm_ok h12) hown hE.1 hW (wz_D hlen) hS a (wz_at hc) (vw_at h12) kf hkN (hts _ hlink) (fun _ q => q) (by simpa using hf2) (hin hin') (by rw [fdecl h12 hkN, hci]) (fty_ok h12 hkN) (okv_n hok).1 (okv_n hok).2 (by rw [List.length_map]; exact hk) hd (fun H1 locs1 hP1 _ hS1 => by rw [hset] at hP1; exact k _ _ _ hL hP1 hS1)
      · cases ha
    · cases ha
  · cases ha
theorem s_getstatic {p : Program} {l : Launch} {e : Env} {R : Room} {s : State} {m : MethodId} {args : Array Value} {below : List Frame} {meth : Method} {c : Code} {H : Heap} {locs : List Loc} {cells slots : Nat} {Q : State → Prop} {b : Nat} {t : Nat → Nat} {ac : Nat → ClassId} {D : va_G} {i pc len : Nat} {ls : Array Slot} {L S : List Value} {h : List hC} {pc' : Nat} {L' S' : List Value} {h' : List hC} {idx : Nat} (C : Ctx b t ac D p s m args meth c R i) (hd : decode (mB i) pc = .ok (.getstatic idx, len)) (ha : act i pc (.getstatic idx) len L S h = some (.inl (pc', L', S', h'))) (hL : LR (ad b t) ls (mL i) L) (hW : WH b t ac D h H) (hS : va_S (fun q => b ≤ q) s.heap H locs) (hlen : h.length ≤ sB) (hcs : cells ≤ R.cells ∧ slots ≤ R.slots)
    (k : ∀ (ls' : Array Slot) (H' : Heap) (locs' : List Loc), LR (ad b t) ls' (mL i) L' → WH b t ac D h' H' → va_S (fun q => b ≤ q) s.heap H' locs' → W p l e R s m args below meth c H' locs' cells slots Q (F0 m pc' ls' (S'.map (cv (ad b t))))) : W p l e R s m args below meth c H locs cells slots Q (F0 m pc ls (S.map (cv (ad b t)))) := by
  obtain ⟨hx, hb, hr, hml, hown, hts, hlocks, hin, hE, hfr, hlo, hbs⟩ := C
  have ha' := ite_some ha; clear ha; obtain ⟨rfl, ha⟩ := ha'
  split at ha
  · rename_i kf hf
    obtain ⟨h2, hlink⟩ := sref_ok hf
    have ha' := ite_some ha; clear ha; obtain ⟨hk2, ha⟩ := ha'
    cases ha
    have e : cv (ad b t) (.ref (sA kf)) = .ref (t kf) := by
      show Value.ref (ad b t (sA kf)) = _
      unfold ad
      rw [sIx_A hk2]
    have k2 := k _ _ _ hL hW hS
    rw [List.map_cons, e] at k2
    exact va_gets hx hb (hE.2.2.1 kf hk2).1 hS hown (hts _ hlink) (fun _ q => q) hd k2
  · cases ha
theorem s_iaload {p : Program} {l : Launch} {e : Env} {R : Room} {s : State} {m : MethodId} {args : Array Value} {below : List Frame} {meth : Method} {c : Code} {H : Heap} {locs : List Loc} {cells slots : Nat} {Q : State → Prop} {b : Nat} {t : Nat → Nat} {ac : Nat → ClassId} {D : va_G} {i pc len : Nat} {ls : Array Slot} {L S : List Value} {h : List hC} {pc' : Nat} {L' S' : List Value} {h' : List hC}  (C : Ctx b t ac D p s m args meth c R i) (hd : decode (mB i) pc = .ok (.iaload, len)) (ha : act i pc (.iaload) len L S h = some (.inl (pc', L', S', h'))) (hL : LR (ad b t) ls (mL i) L) (hW : WH b t ac D h H) (hS : va_S (fun q => b ≤ q) s.heap H locs) (hlen : h.length ≤ sB) (hcs : cells ≤ R.cells ∧ slots ≤ R.slots)
    (k : ∀ (ls' : Array Slot) (H' : Heap) (locs' : List Loc), LR (ad b t) ls' (mL i) L' → WH b t ac D h' H' → va_S (fun q => b ≤ q) s.heap H' locs' → W p l e R s m args below meth c H' locs' cells slots Q (F0 m pc' ls' (S'.map (cv (ad b t))))) : W p l e R s m args below meth c H locs cells slots Q (F0 m pc ls (S.map (cv (ad b t)))) := by
  obtain ⟨hx, hb, hr, hml, hown, hts, hlocks, hin, hE, hfr, hlo, hbs⟩ := C
  have ha' := ite_some ha; clear ha; obtain ⟨rfl, ha⟩ := ha'
  split at ha
  · rename_i j a S0
    split at ha
    · rename_i x hv
      cases ha
      rcases getI_ok hv with ⟨n, f, hc, hin', rfl⟩ | ⟨hn, -, z, hz, hin', rfl⟩
      · exact va_iald hx hb hE.1 hW a 0 (wz_at hc) rfl (okx_in hin') hd (k _ _ _ hL hW hS)
      · have h2 : z < 4 := by
          unfold sIx at hz
          split at hz
          · cases hz; decide
          · split at hz
            · cases hz; decide
            · split at hz
              · cases hz; decide
              · split at hz
                · cases hz; decide
                · cases hz
        have he1 : ad b t a = t z := by
          unfold ad
          rw [hz]
        show W p l e R s m args below meth c H locs cells slots Q (F0 m pc ls (.int j :: .ref (ad b t a) :: S0.map (cv (ad b t))))
        rw [he1]
        exact va_ti hx hb (hE.2.2.1 _ h2).2 hS (okx_in hin') rfl hd (k _ _ _ hL hW hS)
    · cases ha
  · cases ha
theorem s_caload {p : Program} {l : Launch} {e : Env} {R : Room} {s : State} {m : MethodId} {args : Array Value} {below : List Frame} {meth : Method} {c : Code} {H : Heap} {locs : List Loc} {cells slots : Nat} {Q : State → Prop} {b : Nat} {t : Nat → Nat} {ac : Nat → ClassId} {D : va_G} {i pc len : Nat} {ls : Array Slot} {L S : List Value} {h : List hC} {pc' : Nat} {L' S' : List Value} {h' : List hC}  (C : Ctx b t ac D p s m args meth c R i) (hd : decode (mB i) pc = .ok (.caload, len)) (ha : act i pc (.caload) len L S h = some (.inl (pc', L', S', h'))) (hL : LR (ad b t) ls (mL i) L) (hW : WH b t ac D h H) (hS : va_S (fun q => b ≤ q) s.heap H locs) (hlen : h.length ≤ sB) (hcs : cells ≤ R.cells ∧ slots ≤ R.slots)
    (k : ∀ (ls' : Array Slot) (H' : Heap) (locs' : List Loc), LR (ad b t) ls' (mL i) L' → WH b t ac D h' H' → va_S (fun q => b ≤ q) s.heap H' locs' → W p l e R s m args below meth c H' locs' cells slots Q (F0 m pc' ls' (S'.map (cv (ad b t))))) : W p l e R s m args below meth c H locs cells slots Q (F0 m pc ls (S.map (cv (ad b t)))) := by
  obtain ⟨hx, hb, hr, hml, hown, hts, hlocks, hin, hE, hfr, hlo, hbs⟩ := C
  have ha' := ite_some ha; clear ha; obtain ⟨rfl, ha⟩ := ha'
  split at ha
  · rename_i j a S0
    split at ha
    · rename_i x hv
      cases ha
      rcases getI_ok hv with ⟨n, f, hc, hin', rfl⟩ | ⟨hn, h0, -⟩
      · exact va_cald hx hb hE.1 hW a 1 (wz_at hc) rfl (okx_in hin') hd (k _ _ _ hL hW hS)
      · cases h0
    · cases ha
  · cases ha
theorem s_aaload {p : Program} {l : Launch} {e : Env} {R : Room} {s : State} {m : MethodId} {args : Array Value} {below : List Frame} {meth : Method} {c : Code} {H : Heap} {locs : List Loc} {cells slots : Nat} {Q : State → Prop} {b : Nat} {t : Nat → Nat} {ac : Nat → ClassId} {D : va_G} {i pc len : Nat} {ls : Array Slot} {L S : List Value} {h : List hC} {pc' : Nat} {L' S' : List Value} {h' : List hC}  (C : Ctx b t ac D p s m args meth c R i) (hd : decode (mB i) pc = .ok (.aaload, len)) (ha : act i pc (.aaload) len L S h = some (.inl (pc', L', S', h'))) (hL : LR (ad b t) ls (mL i) L) (hW : WH b t ac D h H) (hS : va_S (fun q => b ≤ q) s.heap H locs) (hlen : h.length ≤ sB) (hcs : cells ≤ R.cells ∧ slots ≤ R.slots)
    (k : ∀ (ls' : Array Slot) (H' : Heap) (locs' : List Loc), LR (ad b t) ls' (mL i) L' → WH b t ac D h' H' → va_S (fun q => b ≤ q) s.heap H' locs' → W p l e R s m args below meth c H' locs' cells slots Q (F0 m pc' ls' (S'.map (cv (ad b t))))) : W p l e R s m args below meth c H locs cells slots Q (F0 m pc ls (S.map (cv (ad b t)))) := by
  obtain ⟨hx, hb, hr, hml, hown, hts, hlocks, hin, hE, hfr, hlo, hbs⟩ := C
  have ha' := ite_some ha; clear ha; obtain ⟨rfl, ha⟩ := ha'
  split at ha
  · rename_i j a S0
    split at ha
    · rename_i v hv
      cases ha
      obtain ⟨u, n, g, hc, hu, hin', rfl⟩ := getQ_ok hv
      have k2 := k _ _ _ hL hW hS
      rw [List.map_cons, cv_rf] at k2
      rcases hu with rfl | rfl
      · exact va_aldq (C := RX0) hx hb hE.1 hW a 2 (wz_at hc) rfl (okx_in hin') hd k2
      · exact va_aldq (C := RX9) hx hb hE.1 hW a 3 (wz_at hc) rfl (okx_in hin') hd k2
    · cases ha
  · cases ha
theorem s_iastore {p : Program} {l : Launch} {e : Env} {R : Room} {s : State} {m : MethodId} {args : Array Value} {below : List Frame} {meth : Method} {c : Code} {H : Heap} {locs : List Loc} {cells slots : Nat} {Q : State → Prop} {b : Nat} {t : Nat → Nat} {ac : Nat → ClassId} {D : va_G} {i pc len : Nat} {ls : Array Slot} {L S : List Value} {h : List hC} {pc' : Nat} {L' S' : List Value} {h' : List hC}  (C : Ctx b t ac D p s m args meth c R i) (hd : decode (mB i) pc = .ok (.iastore, len)) (ha : act i pc (.iastore) len L S h = some (.inl (pc', L', S', h'))) (hL : LR (ad b t) ls (mL i) L) (hW : WH b t ac D h H) (hS : va_S (fun q => b ≤ q) s.heap H locs) (hlen : h.length ≤ sB) (hcs : cells ≤ R.cells ∧ slots ≤ R.slots)
    (k : ∀ (ls' : Array Slot) (H' : Heap) (locs' : List Loc), LR (ad b t) ls' (mL i) L' → WH b t ac D h' H' → va_S (fun q => b ≤ q) s.heap H' locs' → W p l e R s m args below meth c H' locs' cells slots Q (F0 m pc' ls' (S'.map (cv (ad b t))))) : W p l e R s m args below meth c H locs cells slots Q (F0 m pc ls (S.map (cv (ad b t)))) := by
  obtain ⟨hx, hb, hr, hml, hown, hts, hlocks, hin, hE, hfr, hlo, hbs⟩ := C
  have ha' := ite_some ha; clear ha; obtain ⟨rfl, ha⟩ := ha'
  split at ha
  · rename_i x j a S0
    split at ha
    · rename_i y hy
      cases ha
      obtain ⟨n, f, hc, hin', rfl⟩ := putI_ok hy
      exact va_iast hx hb hE.1 hW (wz_D hlen) hS a 0 (wz_at hc) rfl (okx_in hin') hd (fun H1 locs1 hP1 _ hS1 => k _ _ _ hL (by
        have e := wz_set (ad b t) ac h a (.inr (0, n, .inl (upd f j.toNatClampNeg x)))
        unfold WH
        rw [← e]
        exact hP1) hS1)
    · cases ha
  · cases ha
theorem s_castore {p : Program} {l : Launch} {e : Env} {R : Room} {s : State} {m : MethodId} {args : Array Value} {below : List Frame} {meth : Method} {c : Code} {H : Heap} {locs : List Loc} {cells slots : Nat} {Q : State → Prop} {b : Nat} {t : Nat → Nat} {ac : Nat → ClassId} {D : va_G} {i pc len : Nat} {ls : Array Slot} {L S : List Value} {h : List hC} {pc' : Nat} {L' S' : List Value} {h' : List hC}  (C : Ctx b t ac D p s m args meth c R i) (hd : decode (mB i) pc = .ok (.castore, len)) (ha : act i pc (.castore) len L S h = some (.inl (pc', L', S', h'))) (hL : LR (ad b t) ls (mL i) L) (hW : WH b t ac D h H) (hS : va_S (fun q => b ≤ q) s.heap H locs) (hlen : h.length ≤ sB) (hcs : cells ≤ R.cells ∧ slots ≤ R.slots)
    (k : ∀ (ls' : Array Slot) (H' : Heap) (locs' : List Loc), LR (ad b t) ls' (mL i) L' → WH b t ac D h' H' → va_S (fun q => b ≤ q) s.heap H' locs' → W p l e R s m args below meth c H' locs' cells slots Q (F0 m pc' ls' (S'.map (cv (ad b t))))) : W p l e R s m args below meth c H locs cells slots Q (F0 m pc ls (S.map (cv (ad b t)))) := by
  obtain ⟨hx, hb, hr, hml, hown, hts, hlocks, hin, hE, hfr, hlo, hbs⟩ := C
  have ha' := ite_some ha; clear ha; obtain ⟨rfl, ha⟩ := ha'
  split at ha
  · rename_i x j a S0
    split at ha
    · rename_i y hy
      cases ha
      obtain ⟨n, f, hc, hin', rfl⟩ := putI_ok hy
      exact va_cast hx hb hE.1 hW (wz_D hlen) hS a 1 (wz_at hc) rfl (okx_in hin') hd (fun H1 locs1 hP1 _ hS1 => k _ _ _ hL (by
        have e := wz_set (ad b t) ac h a (.inr (1, n, .inl (upd f j.toNatClampNeg (vp_nar .char x))))
        unfold WH
        rw [← e]
        exact hP1) hS1)
    · cases ha
  · cases ha
theorem s_aastore {p : Program} {l : Launch} {e : Env} {R : Room} {s : State} {m : MethodId} {args : Array Value} {below : List Frame} {meth : Method} {c : Code} {H : Heap} {locs : List Loc} {cells slots : Nat} {Q : State → Prop} {b : Nat} {t : Nat → Nat} {ac : Nat → ClassId} {D : va_G} {i pc len : Nat} {ls : Array Slot} {L S : List Value} {h : List hC} {pc' : Nat} {L' S' : List Value} {h' : List hC}  (C : Ctx b t ac D p s m args meth c R i) (hd : decode (mB i) pc = .ok (.aastore, len)) (ha : act i pc (.aastore) len L S h = some (.inl (pc', L', S', h'))) (hL : LR (ad b t) ls (mL i) L) (hW : WH b t ac D h H) (hS : va_S (fun q => b ≤ q) s.heap H locs) (hlen : h.length ≤ sB) (hcs : cells ≤ R.cells ∧ slots ≤ R.slots)
    (k : ∀ (ls' : Array Slot) (H' : Heap) (locs' : List Loc), LR (ad b t) ls' (mL i) L' → WH b t ac D h' H' → va_S (fun q => b ≤ q) s.heap H' locs' → W p l e R s m args below meth c H' locs' cells slots Q (F0 m pc' ls' (S'.map (cv (ad b t))))) : W p l e R s m args below meth c H locs cells slots Q (F0 m pc ls (S.map (cv (ad b t)))) := by
  obtain ⟨hx, hb, hr, hml, hown, hts, hlocks, hin, hE, hfr, hlo, hbs⟩ := C
  have ha' := ite_some ha; clear ha; obtain ⟨rfl, ha⟩ := ha'
  split at ha
  · rename_i v j a S0
    split at ha
    · rename_i y hy
      cases ha
      obtain ⟨u, n, g, fs, hc, hv, hu, hin', rfl⟩ := putQ_ok hy
      have e0 := wz_set (ad b t) ac h a (.inr (u, n, .inr (va_up g j.toNatClampNeg (some v))))
      have e1 : ce (ad b t) ac (.inr (u, n, .inr (va_up g j.toNatClampNeg (some v)))) = .inl (ac u, n, .inr (.inr (.inr (.inr (va_up (fun j => (g j).map (ad b t)) j.toNatClampNeg (some (ad b t v))))))) := by
        have hf : (fun z => (va_up g j.toNatClampNeg (some v) z).map (ad b t)) = va_up (fun j => (g j).map (ad b t)) j.toNatClampNeg (some (ad b t v)) := by
          funext z
          unfold va_up
          by_cases hz : z = j.toNatClampNeg
          · rw [if_pos hz, if_pos hz]; rfl
          · rw [if_neg hz, if_neg hz]
        simp only [ce]
        rw [hf]
      rw [e1] at e0
      have k2 : ∀ (H1 : Heap) (locs1 : List Loc), va_P D vwCl ((wz (ad b t) ac h).set a (ad b t a, .inl (ac u, n, .inr (.inr (.inr (.inr (va_up (fun j => (g j).map (ad b t)) j.toNatClampNeg (some (ad b t v))))))))) H1 → va_S (fun q => b ≤ q) s.heap H1 locs1 → W p l e R s m args below meth c H1 locs1 cells slots Q (F0 m (pc + 1) ls (S'.map (cv (ad b t)))) := by
        intro H1 locs1 hP1 hS1
        rw [e0] at hP1
        exact k _ _ _ hL hP1 hS1
      rcases hu with rfl | rfl
      · exact va_astq hx hb hE.1 hW (wz_D hlen) hS a 2 v 0 (r := (RX0, TX0, 8)) (wz_at hc) rfl (wz_at hv) rfl (okx_in hin') hd (fun H1 locs1 hP1 _ hS1 => k2 H1 locs1 hP1 hS1)
      · exact va_astq hx hb hE.1 hW (wz_D hlen) hS a 3 v 9 (r := (RX9, TX9, 12)) (wz_at hc) rfl (wz_at hv) rfl (okx_in hin') hd (fun H1 locs1 hP1 _ hS1 => k2 H1 locs1 hP1 hS1)
    · cases ha
  · cases ha
