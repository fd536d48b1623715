section
/-! the claim's whole heap as a table: T a k is what the cell a holds at k (a field's place, or an array's), P a k the addresses in an array of references -/
abbrev shp : Type := (Nat × List (Option Nat)) ⊕ (Nat × Nat)
def stSh (o : Nat) : List shp := [.inl (9, [none, none, none, none, some (o + 1), some (o + 2), some (o + 3), some (o + 7), some (o + 41), some (o + 45), some (o + 48), some (o + 49)]),
  .inr (0, 4),
  .inr (0, 5),
  .inl (3, [none, some (o + 4), some (o + 5), some (o + 6)]),
  .inr (0, 10),
  .inr (0, 10),
  .inr (0, 10),
  .inl (8, [some (o + 8), none, none]),
  .inr (2, 8),
  .inl (0, [none, none, none, none, none, some (o + 10), some (o + 11), some (o + 12)]),
  .inr (0, 4),
  .inr (0, 4),
  .inr (0, 4),
  .inl (0, [none, none, none, none, none, some (o + 14), some (o + 15), some (o + 16)]),
  .inr (0, 4),
  .inr (0, 4),
  .inr (0, 4),
  .inl (0, [none, none, none, none, none, some (o + 18), some (o + 19), some (o + 20)]),
  .inr (0, 4),
  .inr (0, 4),
  .inr (0, 4),
  .inl (0, [none, none, none, none, none, some (o + 22), some (o + 23), some (o + 24)]),
  .inr (0, 4),
  .inr (0, 4),
  .inr (0, 4),
  .inl (0, [none, none, none, none, none, some (o + 26), some (o + 27), some (o + 28)]),
  .inr (0, 4),
  .inr (0, 4),
  .inr (0, 4),
  .inl (0, [none, none, none, none, none, some (o + 30), some (o + 31), some (o + 32)]),
  .inr (0, 4),
  .inr (0, 4),
  .inr (0, 4),
  .inl (0, [none, none, none, none, none, some (o + 34), some (o + 35), some (o + 36)]),
  .inr (0, 4),
  .inr (0, 4),
  .inr (0, 4),
  .inl (0, [none, none, none, none, none, some (o + 38), some (o + 39), some (o + 40)]),
  .inr (0, 4),
  .inr (0, 4),
  .inr (0, 4),
  .inl (4, [some (o + 42), some (o + 43), some (o + 44), none]),
  .inr (0, 99),
  .inr (0, 99),
  .inr (0, 99),
  .inl (7, [some (o + 46), some (o + 47), none]),
  .inr (0, 20),
  .inr (0, 20),
  .inl (2, [none, none, none, none]),
  .inl (6, [some (o + 50), none, none]),
  .inr (0, 40)]
def shapes : List shp := [.inl (10, [some 1, some 52, some 103, some 154, some 360, none])] ++ (stSh 1 ++ (stSh 52 ++ (stSh 103 ++ ([.inl (5, [some 155, none, none]), .inr (3, 4)] ++ (stSh 156 ++ (stSh 207 ++ (stSh 258 ++ (stSh 309 ++ [.inl (1, [some 361, none, none, some 362, some 363, some 364, some 365, none, none]), .inr (1, 60), .inr (0, 12), .inr (0, 12), .inr (0, 12), .inr (0, 12), .inl (11, [none, some 367, some 368, some 369, none, some 370, none, some 371, none, none, none, some 372, none]), .inr (0, 912), .inr (0, 912), .inr (0, 3648), .inr (0, 912), .inr (0, 60), .inr (0, 64)]))))))))
def mkF (f : Nat → Int32) : Nat → List (Option Nat) → List Value
  | _, [] => []
  | k, some r :: l => .ref r :: mkF f (k + 1) l
  | k, none :: l => .int (f k) :: mkF f (k + 1) l
def mk (s : shp) (f : Nat → Int32) (p : Nat → Nat) : hC := match s with
  | .inl (ci, l) => .inl (ci, mkF f 0 l)
  | .inr (t, n) => if t < 2 then .inr (t, n, .inl f) else .inr (t, n, .inr (fun i => if i < n then some (p i) else none))
def H (T : Nat → Nat → Int32) (P : Nat → Nat → Nat) : List hC := shapes.mapIdx (fun a s => mk s (T a) (P a))
theorem H_at (T : Nat → Nat → Int32) (P : Nat → Nat → Nat) (a : Nat) : (H T P)[a]? = (shapes[a]?).map (fun s => mk s (T a) (P a)) := by
  simp [H, List.getElem?_mapIdx]
theorem shapes_len : shapes.length = 373 := by decide +kernel
theorem H_len (T : Nat → Nat → Int32) (P : Nat → Nat → Nat) : (H T P).length = 373 := by
  simp [H, shapes_len]
def upA {α : Type} (T : Nat → α) (a : Nat) (f : α) : Nat → α := fun b => if b = a then f else T b
theorem upA_s {α : Type} (T : Nat → α) (a : Nat) (f : α) : upA T a f a = f := by simp [upA]
theorem upA_n {α : Type} (T : Nat → α) {a b : Nat} (f : α) (h : b ≠ a) : upA T a f b = T b := by simp [upA, h]
theorem upA_self {α : Type} (T : Nat → α) (a : Nat) : upA T a (T a) = T := by
  funext b
  by_cases h : b = a
  · subst h; exact upA_s _ _ _
  · exact upA_n _ _ h
theorem upA_upA {α : Type} (T : Nat → α) (a : Nat) (f g : α) : upA (upA T a f) a g = upA T a g := by
  funext b
  by_cases h : b = a
  · subst h; rw [upA_s, upA_s]
  · rw [upA_n _ _ h, upA_n _ _ h, upA_n _ _ h]
/-- one place of one cell -/
abbrev up1 (T : Nat → Nat → Int32) (a k : Nat) (v : Int32) : Nat → Nat → Int32 := upA T a (upA (T a) k v)
theorem upd_A (f : Nat → Int32) (k : Nat) (v : Int32) : upd f k v = upA f k v := by
  funext j
  unfold upd upA
  rfl
theorem H_set {T : Nat → Nat → Int32} {P : Nat → Nat → Nat} {a : Nat} {s : shp} (hs : shapes[a]? = some s) (f : Nat → Int32) (p : Nat → Nat) : (H T P).set a (mk s f p) = H (upA T a f) (upA P a p) := by
  apply List.ext_getElem?
  intro j
  by_cases hj : a = j
  · subst hj
    have hl : a < (H T P).length := by
      rw [H_len, ← shapes_len]; exact (List.getElem?_eq_some_iff.mp hs).1
    rw [List.getElem?_set_self hl, H_at, hs, upA_s, upA_s]; rfl
  · rw [List.getElem?_set_ne hj, H_at, H_at, upA_n _ _ (Ne.symm hj), upA_n _ _ (Ne.symm hj)]
theorem H_setT {T : Nat → Nat → Int32} {P : Nat → Nat → Nat} {a : Nat} {s : shp} (hs : shapes[a]? = some s) (f : Nat → Int32) : (H T P).set a (mk s f (P a)) = H (upA T a f) P := by
  rw [H_set hs, upA_self]
theorem H_setP {T : Nat → Nat → Int32} {P : Nat → Nat → Nat} {a : Nat} {s : shp} (hs : shapes[a]? = some s) (p : Nat → Nat) : (H T P).set a (mk s (T a) p) = H T (upA P a p) := by
  rw [H_set hs, upA_self]
theorem mkF_i (f : Nat → Int32) : ∀ (l : List (Option Nat)) (q k : Nat), l[k]? = some none → (mkF f q l)[k]? = some (.int (f (q + k)))
  | [], _, _, h => by simp at h
  | x :: l, q, 0, h => by
    rw [List.getElem?_cons_zero] at h
    cases h
    rfl
  | x :: l, q, k + 1, h => by
    rw [List.getElem?_cons_succ] at h
    have := mkF_i f l (q + 1) k h
    rw [show q + (k + 1) = q + 1 + k by omega]
    cases x <;> exact this
theorem mkF_r (f : Nat → Int32) : ∀ (l : List (Option Nat)) (q k r : Nat), l[k]? = some (some r) → (mkF f q l)[k]? = some (.ref r)
  | [], _, _, _, h => by simp at h
  | x :: l, q, 0, r, h => by
    rw [List.getElem?_cons_zero] at h
    cases h
    rfl
  | x :: l, q, k + 1, r, h => by
    rw [List.getElem?_cons_succ] at h
    have := mkF_r f l (q + 1) k r h
    cases x <;> exact this
theorem mkF_len (f : Nat → Int32) : ∀ (l : List (Option Nat)) (q : Nat), (mkF f q l).length = l.length
  | [], _ => rfl
  | x :: l, q => by
    cases x <;> simp [mkF, mkF_len f l (q + 1)]
theorem mkF_set (f : Nat → Int32) (v : Int32) : ∀ (l : List (Option Nat)) (q k : Nat), l[k]? = some none → (mkF f q l).set k (.int v) = mkF (upA f (q + k) v) q l
  | [], _, _, h => by simp at h
  | x :: l, q, 0, h => by
    rw [List.getElem?_cons_zero] at h
    cases h
    have e : ∀ (l : List (Option Nat)) (q' : Nat), q < q' → mkF f q' l = mkF (upA f q v) q' l := by
      intro l
      induction l with
      | nil => intro _ _; rfl
      | cons y l ih =>
        intro q' hq
        cases y with
        | none => simp only [mkF]; rw [upA_n _ _ (by omega), ih (q' + 1) (by omega)]
        | some r => simp only [mkF]; rw [ih (q' + 1) (by omega)]
    simp only [mkF, Nat.add_zero, List.set_cons_zero, upA_s]
    rw [e l (q + 1) (by omega)]
  | x :: l, q, k + 1, h => by
    rw [List.getElem?_cons_succ] at h
    have := mkF_set f v l (q + 1) k h
    rw [show q + (k + 1) = q + 1 + k by omega]
    cases x with
    | none => simp only [mkF, List.set_cons_succ, this]; rw [upA_n _ _ (by omega)]
    | some r => simp only [mkF, List.set_cons_succ, this]
section HF
variable {T : Nat → Nat → Int32} {P : Nat → Nat → Nat} {a b ci k r t n i pc : Nat} {l : List (Option Nat)} {L S : List Value} {x y v : Int32}
theorem g_fi (hs : shapes[a]? = some (.inl (ci, l))) (hk : l[k]? = some none) : getF (H T P)[a]? ci k = some (.int (T a k)) := by
  rw [H_at, hs]
  simp only [Option.map_some, mk, getF, if_true, mkF_i _ _ _ _ hk, Nat.zero_add]
  rfl
theorem g_fr (hs : shapes[a]? = some (.inl (ci, l))) (hk : l[k]? = some (some r)) : getF (H T P)[a]? ci k = some (.ref r) := by
  rw [H_at, hs]
  simp only [Option.map_some, mk, getF, if_true, mkF_r _ _ _ _ _ hk]
  rfl
theorem g_o (hs : shapes[a]? = some (.inl (ci, l))) : isO (H T P)[a]? ci = true := by
  rw [H_at, hs]
  simp [mk, isO]
theorem g_pi (hs : shapes[a]? = some (.inl (ci, l))) (hk : l[k]? = some none) (hok : okv (fty ci k) (.int v) = true) : (putF (H T P)[a]? ci k (.int v)).bind (fun c => X i pc L S ((H T P).set a c)) = X i pc L S (H (up1 T a k v) P) := by
  have hl : k < (mkF (T a) 0 l).length := by
    rw [mkF_len]; exact (List.getElem?_eq_some_iff.mp hk).1
  rw [H_at, hs]
  simp only [Option.map_some, mk, putF, hl, hok, and_self, if_true, Option.bind_some]
  rw [mkF_set _ _ _ _ _ hk, Nat.zero_add]
  have := H_setT (T := T) (P := P) hs (upA (T a) k v)
  simp only [mk] at this
  rw [this]
theorem g_gi (hs : shapes[a]? = some (.inr (t, n))) (ht : t < 2) : getI (H T P)[a]? a t x = if okx x n = true then some (T a x.toNatClampNeg) else none := by
  rw [H_at, hs]
  simp only [Option.map_some, mk, if_pos ht, getI, true_and]
theorem g_si (hs : shapes[a]? = some (.inr (t, n))) (ht : t < 2) : (putI (H T P)[a]? t x y).bind (fun c => X i pc L S ((H T P).set a c)) = if okx x n = true then X i pc L S (H (up1 T a x.toNatClampNeg y) P) else none := by
  rw [H_at, hs]
  simp only [Option.map_some, mk, if_pos ht, putI, true_and]
  by_cases hx : okx x n = true
  · rw [if_pos hx, if_pos hx, Option.bind_some]
    have := H_setT (T := T) (P := P) hs (upA (T a) x.toNatClampNeg y)
    simp only [mk, if_pos ht] at this
    rw [upd_A, this]
  · rw [if_neg hx, if_neg hx]; rfl
theorem g_q (hs : shapes[a]? = some (.inr (t, n))) (ht : t = 2 ∨ t = 3) (hn : n < 2 ^ 31) : getQ (H T P)[a]? x = if okx x n = true then some (.ref (P a x.toNatClampNeg)) else none := by
  have h2 : ¬ t < 2 := by omega
  rw [H_at, hs]
  simp only [Option.map_some, mk, if_neg h2, getQ]
  by_cases hx : okx x n = true
  · have hx2 : x.toNatClampNeg < n := by simp only [okx, Bool.and_eq_true, decide_eq_true_eq] at hx; exact hx.2
    rw [if_pos ⟨ht, hx⟩, if_pos hx, if_pos hx2]; rfl
  · rw [if_neg (fun q => hx q.2), if_neg hx]
theorem g_sq (hs : shapes[a]? = some (.inr (t, n))) (ht : t = 2 ∨ t = 3) (hb : shapes[b]? = some (.inl (qcl t, l))) : (putQ (H T P)[a]? x (H T P)[b]? b).bind (fun c => X i pc L S ((H T P).set a c)) = if okx x n = true then X i pc L S (H T (upA P a (upA (P a) x.toNatClampNeg b))) else none := by
  have h2 : ¬ t < 2 := by omega
  rw [H_at, H_at, hs, hb]
  simp only [Option.map_some, mk, if_neg h2, putQ, true_and]
  by_cases hx : okx x n = true
  · have hx2 : x.toNatClampNeg < n := by simp only [okx, Bool.and_eq_true, decide_eq_true_eq] at hx; exact hx.2
    rw [if_pos ⟨ht, hx⟩, if_pos hx, Option.bind_some]
    have := H_setP (T := T) (P := P) hs (upA (P a) x.toNatClampNeg b)
    simp only [mk, if_neg h2] at this
    have hf : va_up (fun i => if i < n then some (P a i) else none) x.toNatClampNeg (some b) = (fun i => if i < n then some (upA (P a) x.toNatClampNeg b i) else none) := by
      funext z
      unfold va_up upA
      by_cases hz : z = x.toNatClampNeg
      · subst hz; simp [hx2]
      · simp [hz]
    rw [hf, this]
  · rw [if_neg (fun q => hx q.2), if_neg hx]; rfl
theorem g_cp {n0 n1 : Nat} {sp dp m : Int32} (ha : shapes[a]? = some (.inr (0, n0))) (hb : shapes[b]? = some (.inr (0, n1))) : (cpyI (H T P)[a]? (H T P)[b]? sp dp m).bind (fun c => X i pc L S ((H T P).set b c)) = if ¬ sp < 0 ∧ ¬ dp < 0 ∧ ¬ m < 0 ∧ sp.toNatClampNeg + m.toNatClampNeg ≤ n0 ∧ dp.toNatClampNeg + m.toNatClampNeg ≤ n1 then X i pc L S (H (upA T b (va_cpy (T a) (T b) sp.toNatClampNeg dp.toNatClampNeg m.toNatClampNeg)) P) else none := by
  rw [H_at, H_at, ha, hb]
  simp only [Option.map_some, mk, show (0 : Nat) < 2 by decide, if_true, cpyI]
  by_cases hx : ¬ sp < 0 ∧ ¬ dp < 0 ∧ ¬ m < 0 ∧ sp.toNatClampNeg + m.toNatClampNeg ≤ n0 ∧ dp.toNatClampNeg + m.toNatClampNeg ≤ n1
  · rw [if_pos hx, if_pos hx, Option.bind_some]
    have := H_setT (T := T) (P := P) hb (va_cpy (T a) (T b) sp.toNatClampNeg dp.toNatClampNeg m.toNatClampNeg)
    simp only [mk, show (0 : Nat) < 2 by decide, if_true] at this
    rw [this]
  · rw [if_neg hx, if_neg hx]; rfl
section HB
variable {F : Value → Option (Option Value × List hC)} {G : Int32 → Option (Option Value × List hC)}
theorem b_fi (hs : shapes[a]? = some (.inl (ci, l))) (hk : l[k]? = some none) : (getF (H T P)[a]? ci k).bind F = F (.int (T a k)) := by rw [g_fi hs hk]; rfl
theorem b_fr (hs : shapes[a]? = some (.inl (ci, l))) (hk : l[k]? = some (some r)) : (getF (H T P)[a]? ci k).bind F = F (.ref r) := by rw [g_fr hs hk]; rfl
theorem b_gi (hs : shapes[a]? = some (.inr (t, n))) (ht : t < 2) : (getI (H T P)[a]? a t x).bind G = if okx x n = true then G (T a x.toNatClampNeg) else none := by
  rw [g_gi hs ht]; split <;> rfl
theorem b_q (hs : shapes[a]? = some (.inr (t, n))) (ht : t = 2 ∨ t = 3) (hn : n < 2 ^ 31) : (getQ (H T P)[a]? x).bind F = if okx x n = true then F (.ref (P a x.toNatClampNeg)) else none := by
  rw [g_q hs ht hn]; split <;> rfl
end HB
theorem g_st (hk : k < 4) : getI (H T P)[sA k]? (sA k) 0 x = if okx x 4 = true then some (sArr k x.toNatClampNeg) else none := by
  have h0 : (H T P)[sA k]? = none := by
    apply List.getElem?_eq_none
    rw [H_len]
    match k, hk with
    | 0, _ => exact Nat.le_of_ble_eq_true rfl
    | 1, _ => exact Nat.le_of_ble_eq_true rfl
    | 2, _ => exact Nat.le_of_ble_eq_true rfl
    | 3, _ => exact Nat.le_of_ble_eq_true rfl
  rw [h0]
  simp only [getI, sIx_A hk, true_and]
theorem b_st {G : Int32 → Option (Option Value × List hC)} (hk : k < 4) : (getI (H T P)[sA k]? (sA k) 0 x).bind G = if okx x 4 = true then G (sArr k x.toNatClampNeg) else none := by
  rw [g_st hk]; split <;> rfl
theorem aft_of {j : Nat} {A : List Value} {h0 h1 : List hC} {v : Option Value} {F : List Value → List hC → Option (Option Value × List hC)} (e : X j 0 A [] h0 = some (v, h1)) : aft (X j 0 A [] h0) F = F v.toList h1 := by
  rw [e]; rfl
end HF
/-- the states' addresses -/
def isB (o : Nat) : Prop := o = 1 ∨ o = 52 ∨ o = 103 ∨ o = 156 ∨ o = 207 ∨ o = 258 ∨ o = 309
theorem sh_all : [1, 52, 103, 156, 207, 258, 309].all (fun o => (List.range 51).all (fun k => decide (shapes[o + k]? = (stSh o)[k]?))) = true := by decide +kernel
theorem sh_st {o : Nat} (hb : isB o) {k : Nat} (hk : k < 51) : shapes[o + k]? = (stSh o)[k]? := by
  have hm : o ∈ [1, 52, 103, 156, 207, 258, 309] := by
    rcases hb with rfl | rfl | rfl | rfl | rfl | rfl | rfl <;> decide
  exact of_decide_eq_true (List.all_eq_true.mp (List.all_eq_true.mp sh_all o hm) k (List.mem_range.mpr hk))
theorem isB_apart {o q : Nat} (hb : isB o) (hq : isB q) (h : o ≠ q) {x y : Nat} (hx : x < 51) (hy : y < 51) : q + y ≠ o + x := by
  rcases hb with rfl | rfl | rfl | rfl | rfl | rfl | rfl <;> rcases hq with rfl | rfl | rfl | rfl | rfl | rfl | rfl <;> omega
section UP
variable {α : Type} {T : Nat → α} {f : α} {o q x y : Nat}
theorem u_oo (h : y ≠ x) : upA T (o + x) f (o + y) = T (o + y) := upA_n _ _ (by omega)
theorem u_n (h : y ≠ x) : upA T x f y = T y := upA_n _ _ h
theorem u_o0 (h : 0 < x) : upA T (o + x) f o = T o := upA_n _ _ (by omega)
theorem u_0o (h : 0 < y) : upA T o f (o + y) = T (o + y) := upA_n _ _ (by omega)
theorem u_ap (hb : isB o) (hq : isB q) (h : o ≠ q) (hx : x < 51) (hy : y < 51) : upA T (o + x) f (q + y) = T (q + y) := upA_n _ _ (isB_apart hb hq h hx hy)
theorem u_ap0 (hb : isB o) (hq : isB q) (h : o ≠ q) (hy : y < 51) : upA T o f (q + y) = T (q + y) := u_ap (x := 0) hb hq h (by decide) hy
theorem u_ap1 (hb : isB o) (hq : isB q) (h : o ≠ q) (hx : x < 51) : upA T (o + x) f q = T q := u_ap (y := 0) hb hq h hx (by decide)
theorem u_ap2 (h : o ≠ q) : upA T o f q = T q := upA_n _ _ (Ne.symm h)
end UP
theorem cpy0 {f g : Nat → Int32} {n k : Nat} (h : k < n) : va_cpy f g 0 0 n k = f k := by
  unfold va_cpy
  rw [if_pos ⟨Nat.zero_le _, by omega⟩]
  simp
theorem g_cp0 {T : Nat → Nat → Int32} {P : Nat → Nat → Nat} {a b i pc n n0 n1 : Nat} {L S : List Value} {m : Int32} (ha : shapes[a]? = some (.inr (0, n0))) (hb : shapes[b]? = some (.inr (0, n1))) (hm : m = nI n) (h0 : n ≤ n0) (h1 : n ≤ n1) (h2 : n < 2 ^ 31) : (cpyI (H T P)[a]? (H T P)[b]? 0 0 m).bind (fun c => X i pc L S ((H T P).set b c)) = X i pc L S (H (upA T b (va_cpy (T a) (T b) 0 0 n)) P) := by
  subst hm
  have c0 : (0 : Int32).toNatClampNeg = 0 := by decide
  rw [g_cp ha hb, nI_clamp h2, c0, if_pos ⟨by decide, by decide, nI_pos h2, by omega, by omega⟩]
/-- a loop that carries a state -/
theorem loop_ex {σ α : Type} (F : Nat → σ → α) (I : Nat → σ → Prop) (n : Nat) (s0 : σ) (h0 : I 0 s0) (hs : ∀ i s, i < n → I i s → ∃ s', F i s = F (i + 1) s' ∧ I (i + 1) s') : ∃ s, F 0 s0 = F n s ∧ I n s := by
  induction n with
  | zero => exact ⟨s0, rfl, h0⟩
  | succ n ih =>
    obtain ⟨s, e, hI⟩ := ih (fun i s hi => hs i s (by omega))
    obtain ⟨s', e', hI'⟩ := hs n s (by omega) hI
    exact ⟨s', e.trans e', hI'⟩
/-- the baskets' addresses -/
def isK (b : Nat) : Prop := ∃ o i, isB o ∧ i < 8 ∧ b = o + 9 + 4 * i
theorem sh_k {b : Nat} (hb : isK b) : shapes[b]? = some (.inl (0, [none, none, none, none, none, some (b + 1), some (b + 2), some (b + 3)])) ∧ shapes[b + 1]? = some (.inr (0, 4)) ∧ shapes[b + 2]? = some (.inr (0, 4)) ∧ shapes[b + 3]? = some (.inr (0, 4)) := by
  obtain ⟨o, i, ho, hi, rfl⟩ := hb
  match i, hi with
  | 0, _ => exact ⟨(sh_st (k := 9) ho (by decide)).trans rfl, (sh_st (k := 10) ho (by decide)).trans rfl, (sh_st (k := 11) ho (by decide)).trans rfl, (sh_st (k := 12) ho (by decide)).trans rfl⟩
  | 1, _ => exact ⟨(sh_st (k := 13) ho (by decide)).trans rfl, (sh_st (k := 14) ho (by decide)).trans rfl, (sh_st (k := 15) ho (by decide)).trans rfl, (sh_st (k := 16) ho (by decide)).trans rfl⟩
  | 2, _ => exact ⟨(sh_st (k := 17) ho (by decide)).trans rfl, (sh_st (k := 18) ho (by decide)).trans rfl, (sh_st (k := 19) ho (by decide)).trans rfl, (sh_st (k := 20) ho (by decide)).trans rfl⟩
  | 3, _ => exact ⟨(sh_st (k := 21) ho (by decide)).trans rfl, (sh_st (k := 22) ho (by decide)).trans rfl, (sh_st (k := 23) ho (by decide)).trans rfl, (sh_st (k := 24) ho (by decide)).trans rfl⟩
  | 4, _ => exact ⟨(sh_st (k := 25) ho (by decide)).trans rfl, (sh_st (k := 26) ho (by decide)).trans rfl, (sh_st (k := 27) ho (by decide)).trans rfl, (sh_st (k := 28) ho (by decide)).trans rfl⟩
  | 5, _ => exact ⟨(sh_st (k := 29) ho (by decide)).trans rfl, (sh_st (k := 30) ho (by decide)).trans rfl, (sh_st (k := 31) ho (by decide)).trans rfl, (sh_st (k := 32) ho (by decide)).trans rfl⟩
  | 6, _ => exact ⟨(sh_st (k := 33) ho (by decide)).trans rfl, (sh_st (k := 34) ho (by decide)).trans rfl, (sh_st (k := 35) ho (by decide)).trans rfl, (sh_st (k := 36) ho (by decide)).trans rfl⟩
  | 7, _ => exact ⟨(sh_st (k := 37) ho (by decide)).trans rfl, (sh_st (k := 38) ho (by decide)).trans rfl, (sh_st (k := 39) ho (by decide)).trans rfl, (sh_st (k := 40) ho (by decide)).trans rfl⟩
theorem q0 {o : Nat} (hb : isB o) : shapes[o]? = some (.inl (9, [none, none, none, none, some (o + 1), some (o + 2), some (o + 3), some (o + 7), some (o + 41), some (o + 45), some (o + 48), some (o + 49)])) := (sh_st (k := 0) hb (by decide)).trans rfl
theorem q1 {o : Nat} (hb : isB o) : shapes[o + 1]? = some (.inr (0, 4)) := (sh_st (k := 1) hb (by decide)).trans rfl
theorem q2 {o : Nat} (hb : isB o) : shapes[o + 2]? = some (.inr (0, 5)) := (sh_st (k := 2) hb (by decide)).trans rfl
theorem q3 {o : Nat} (hb : isB o) : shapes[o + 3]? = some (.inl (3, [none, some (o + 4), some (o + 5), some (o + 6)])) := (sh_st (k := 3) hb (by decide)).trans rfl
theorem q4 {o : Nat} (hb : isB o) : shapes[o + 4]? = some (.inr (0, 10)) := (sh_st (k := 4) hb (by decide)).trans rfl
theorem q5 {o : Nat} (hb : isB o) : shapes[o + 5]? = some (.inr (0, 10)) := (sh_st (k := 5) hb (by decide)).trans rfl
theorem q6 {o : Nat} (hb : isB o) : shapes[o + 6]? = some (.inr (0, 10)) := (sh_st (k := 6) hb (by decide)).trans rfl
theorem q7 {o : Nat} (hb : isB o) : shapes[o + 7]? = some (.inl (8, [some (o + 8), none, none])) := (sh_st (k := 7) hb (by decide)).trans rfl
theorem q8 {o : Nat} (hb : isB o) : shapes[o + 8]? = some (.inr (2, 8)) := (sh_st (k := 8) hb (by decide)).trans rfl
theorem q9 {o : Nat} (hb : isB o) : shapes[o + 9]? = some (.inl (0, [none, none, none, none, none, some (o + 10), some (o + 11), some (o + 12)])) := (sh_st (k := 9) hb (by decide)).trans rfl
theorem q10 {o : Nat} (hb : isB o) : shapes[o + 10]? = some (.inr (0, 4)) := (sh_st (k := 10) hb (by decide)).trans rfl
theorem q11 {o : Nat} (hb : isB o) : shapes[o + 11]? = some (.inr (0, 4)) := (sh_st (k := 11) hb (by decide)).trans rfl
theorem q12 {o : Nat} (hb : isB o) : shapes[o + 12]? = some (.inr (0, 4)) := (sh_st (k := 12) hb (by decide)).trans rfl
theorem q13 {o : Nat} (hb : isB o) : shapes[o + 13]? = some (.inl (0, [none, none, none, none, none, some (o + 14), some (o + 15), some (o + 16)])) := (sh_st (k := 13) hb (by decide)).trans rfl
theorem q14 {o : Nat} (hb : isB o) : shapes[o + 14]? = some (.inr (0, 4)) := (sh_st (k := 14) hb (by decide)).trans rfl
theorem q15 {o : Nat} (hb : isB o) : shapes[o + 15]? = some (.inr (0, 4)) := (sh_st (k := 15) hb (by decide)).trans rfl
theorem q16 {o : Nat} (hb : isB o) : shapes[o + 16]? = some (.inr (0, 4)) := (sh_st (k := 16) hb (by decide)).trans rfl
theorem q17 {o : Nat} (hb : isB o) : shapes[o + 17]? = some (.inl (0, [none, none, none, none, none, some (o + 18), some (o + 19), some (o + 20)])) := (sh_st (k := 17) hb (by decide)).trans rfl
theorem q18 {o : Nat} (hb : isB o) : shapes[o + 18]? = some (.inr (0, 4)) := (sh_st (k := 18) hb (by decide)).trans rfl
theorem q19 {o : Nat} (hb : isB o) : shapes[o + 19]? = some (.inr (0, 4)) := (sh_st (k := 19) hb (by decide)).trans rfl
theorem q20 {o : Nat} (hb : isB o) : shapes[o + 20]? = some (.inr (0, 4)) := (sh_st (k := 20) hb (by decide)).trans rfl
theorem q21 {o : Nat} (hb : isB o) : shapes[o + 21]? = some (.inl (0, [none, none, none, none, none, some (o + 22), some (o + 23), some (o + 24)])) := (sh_st (k := 21) hb (by decide)).trans rfl
theorem q22 {o : Nat} (hb : isB o) : shapes[o + 22]? = some (.inr (0, 4)) := (sh_st (k := 22) hb (by decide)).trans rfl
theorem q23 {o : Nat} (hb : isB o) : shapes[o + 23]? = some (.inr (0, 4)) := (sh_st (k := 23) hb (by decide)).trans rfl
theorem q24 {o : Nat} (hb : isB o) : shapes[o + 24]? = some (.inr (0, 4)) := (sh_st (k := 24) hb (by decide)).trans rfl
theorem q25 {o : Nat} (hb : isB o) : shapes[o + 25]? = some (.inl (0, [none, none, none, none, none, some (o + 26), some (o + 27), some (o + 28)])) := (sh_st (k := 25) hb (by decide)).trans rfl
theorem q26 {o : Nat} (hb : isB o) : shapes[o + 26]? = some (.inr (0, 4)) := (sh_st (k := 26) hb (by decide)).trans rfl
theorem q27 {o : Nat} (hb : isB o) : shapes[o + 27]? = some (.inr (0, 4)) := (sh_st (k := 27) hb (by decide)).trans rfl
theorem q28 {o : Nat} (hb : isB o) : shapes[o + 28]? = some (.inr (0, 4)) := (sh_st (k := 28) hb (by decide)).trans rfl
theorem q29 {o : Nat} (hb : isB o) : shapes[o + 29]? = some (.inl (0, [none, none, none, none, none, some (o + 30), some (o + 31), some (o + 32)])) := (sh_st (k := 29) hb (by decide)).trans rfl
theorem q30 {o : Nat} (hb : isB o) : shapes[o + 30]? = some (.inr (0, 4)) := (sh_st (k := 30) hb (by decide)).trans rfl
theorem q31 {o : Nat} (hb : isB o) : shapes[o + 31]? = some (.inr (0, 4)) := (sh_st (k := 31) hb (by decide)).trans rfl
theorem q32 {o : Nat} (hb : isB o) : shapes[o + 32]? = some (.inr (0, 4)) := (sh_st (k := 32) hb (by decide)).trans rfl
theorem q33 {o : Nat} (hb : isB o) : shapes[o + 33]? = some (.inl (0, [none, none, none, none, none, some (o + 34), some (o + 35), some (o + 36)])) := (sh_st (k := 33) hb (by decide)).trans rfl
theorem q34 {o : Nat} (hb : isB o) : shapes[o + 34]? = some (.inr (0, 4)) := (sh_st (k := 34) hb (by decide)).trans rfl
theorem q35 {o : Nat} (hb : isB o) : shapes[o + 35]? = some (.inr (0, 4)) := (sh_st (k := 35) hb (by decide)).trans rfl
theorem q36 {o : Nat} (hb : isB o) : shapes[o + 36]? = some (.inr (0, 4)) := (sh_st (k := 36) hb (by decide)).trans rfl
theorem q37 {o : Nat} (hb : isB o) : shapes[o + 37]? = some (.inl (0, [none, none, none, none, none, some (o + 38), some (o + 39), some (o + 40)])) := (sh_st (k := 37) hb (by decide)).trans rfl
theorem q38 {o : Nat} (hb : isB o) : shapes[o + 38]? = some (.inr (0, 4)) := (sh_st (k := 38) hb (by decide)).trans rfl
theorem q39 {o : Nat} (hb : isB o) : shapes[o + 39]? = some (.inr (0, 4)) := (sh_st (k := 39) hb (by decide)).trans rfl
theorem q40 {o : Nat} (hb : isB o) : shapes[o + 40]? = some (.inr (0, 4)) := (sh_st (k := 40) hb (by decide)).trans rfl
theorem q41 {o : Nat} (hb : isB o) : shapes[o + 41]? = some (.inl (4, [some (o + 42), some (o + 43), some (o + 44), none])) := (sh_st (k := 41) hb (by decide)).trans rfl
theorem q42 {o : Nat} (hb : isB o) : shapes[o + 42]? = some (.inr (0, 99)) := (sh_st (k := 42) hb (by decide)).trans rfl
theorem q43 {o : Nat} (hb : isB o) : shapes[o + 43]? = some (.inr (0, 99)) := (sh_st (k := 43) hb (by decide)).trans rfl
theorem q44 {o : Nat} (hb : isB o) : shapes[o + 44]? = some (.inr (0, 99)) := (sh_st (k := 44) hb (by decide)).trans rfl
theorem q45 {o : Nat} (hb : isB o) : shapes[o + 45]? = some (.inl (7, [some (o + 46), some (o + 47), none])) := (sh_st (k := 45) hb (by decide)).trans rfl
theorem q46 {o : Nat} (hb : isB o) : shapes[o + 46]? = some (.inr (0, 20)) := (sh_st (k := 46) hb (by decide)).trans rfl
theorem q47 {o : Nat} (hb : isB o) : shapes[o + 47]? = some (.inr (0, 20)) := (sh_st (k := 47) hb (by decide)).trans rfl
theorem q48 {o : Nat} (hb : isB o) : shapes[o + 48]? = some (.inl (2, [none, none, none, none])) := (sh_st (k := 48) hb (by decide)).trans rfl
theorem q49 {o : Nat} (hb : isB o) : shapes[o + 49]? = some (.inl (6, [some (o + 50), none, none])) := (sh_st (k := 49) hb (by decide)).trans rfl
theorem q50 {o : Nat} (hb : isB o) : shapes[o + 50]? = some (.inr (0, 40)) := (sh_st (k := 50) hb (by decide)).trans rfl
theorem f0_o {T : Nat → Nat → Int32} {P : Nat → Nat → Nat} {o : Nat} (hb : isB o) : isO (H T P)[o]? 9 = true := g_o ((sh_st (k := 0) hb (by decide)).trans rfl)
theorem f0_0 {T : Nat → Nat → Int32} {P : Nat → Nat → Nat} {o : Nat} (hb : isB o) {F : Value → Option (Option Value × List hC)} : (getF (H T P)[o]? 9 0).bind F = F (.int (T (o) 0)) := b_fi ((sh_st (k := 0) hb (by decide)).trans rfl) rfl
theorem f0_0p {T : Nat → Nat → Int32} {P : Nat → Nat → Nat} {o : Nat} (hb : isB o) {i pc : Nat} {L S : List Value} {v : Int32} : (putF (H T P)[o]? 9 0 (.int v)).bind (fun c => X i pc L S ((H T P).set (o) c)) = X i pc L S (H (up1 T (o) 0 v) P) := g_pi ((sh_st (k := 0) hb (by decide)).trans rfl) rfl rfl
theorem f0_1 {T : Nat → Nat → Int32} {P : Nat → Nat → Nat} {o : Nat} (hb : isB o) {F : Value → Option (Option Value × List hC)} : (getF (H T P)[o]? 9 1).bind F = F (.int (T (o) 1)) := b_fi ((sh_st (k := 0) hb (by decide)).trans rfl) rfl
theorem f0_1p {T : Nat → Nat → Int32} {P : Nat → Nat → Nat} {o : Nat} (hb : isB o) {i pc : Nat} {L S : List Value} {v : Int32} : (putF (H T P)[o]? 9 1 (.int v)).bind (fun c => X i pc L S ((H T P).set (o) c)) = X i pc L S (H (up1 T (o) 1 v) P) := g_pi ((sh_st (k := 0) hb (by decide)).trans rfl) rfl rfl
theorem f0_2 {T : Nat → Nat → Int32} {P : Nat → Nat → Nat} {o : Nat} (hb : isB o) {F : Value → Option (Option Value × List hC)} : (getF (H T P)[o]? 9 2).bind F = F (.int (T (o) 2)) := b_fi ((sh_st (k := 0) hb (by decide)).trans rfl) rfl
theorem f0_2p {T : Nat → Nat → Int32} {P : Nat → Nat → Nat} {o : Nat} (hb : isB o) {i pc : Nat} {L S : List Value} {v : Int32} : (putF (H T P)[o]? 9 2 (.int v)).bind (fun c => X i pc L S ((H T P).set (o) c)) = X i pc L S (H (up1 T (o) 2 v) P) := g_pi ((sh_st (k := 0) hb (by decide)).trans rfl) rfl rfl
theorem f0_3 {T : Nat → Nat → Int32} {P : Nat → Nat → Nat} {o : Nat} (hb : isB o) {F : Value → Option (Option Value × List hC)} : (getF (H T P)[o]? 9 3).bind F = F (.int (T (o) 3)) := b_fi ((sh_st (k := 0) hb (by decide)).trans rfl) rfl
theorem f0_3p {T : Nat → Nat → Int32} {P : Nat → Nat → Nat} {o : Nat} (hb : isB o) {i pc : Nat} {L S : List Value} {v : Int32} : (putF (H T P)[o]? 9 3 (.int v)).bind (fun c => X i pc L S ((H T P).set (o) c)) = X i pc L S (H (up1 T (o) 3 v) P) := g_pi ((sh_st (k := 0) hb (by decide)).trans rfl) rfl rfl
theorem f0_4 {T : Nat → Nat → Int32} {P : Nat → Nat → Nat} {o : Nat} (hb : isB o) {F : Value → Option (Option Value × List hC)} : (getF (H T P)[o]? 9 4).bind F = F (.ref (o + 1)) := b_fr ((sh_st (k := 0) hb (by decide)).trans rfl) rfl
theorem f0_5 {T : Nat → Nat → Int32} {P : Nat → Nat → Nat} {o : Nat} (hb : isB o) {F : Value → Option (Option Value × List hC)} : (getF (H T P)[o]? 9 5).bind F = F (.ref (o + 2)) := b_fr ((sh_st (k := 0) hb (by decide)).trans rfl) rfl
theorem f0_6 {T : Nat → Nat → Int32} {P : Nat → Nat → Nat} {o : Nat} (hb : isB o) {F : Value → Option (Option Value × List hC)} : (getF (H T P)[o]? 9 6).bind F = F (.ref (o + 3)) := b_fr ((sh_st (k := 0) hb (by decide)).trans rfl) rfl
theorem f0_7 {T : Nat → Nat → Int32} {P : Nat → Nat → Nat} {o : Nat} (hb : isB o) {F : Value → Option (Option Value × List hC)} : (getF (H T P)[o]? 9 7).bind F = F (.ref (o + 7)) := b_fr ((sh_st (k := 0) hb (by decide)).trans rfl) rfl
theorem f0_8 {T : Nat → Nat → Int32} {P : Nat → Nat → Nat} {o : Nat} (hb : isB o) {F : Value → Option (Option Value × List hC)} : (getF (H T P)[o]? 9 8).bind F = F (.ref (o + 41)) := b_fr ((sh_st (k := 0) hb (by decide)).trans rfl) rfl
theorem f0_9 {T : Nat → Nat → Int32} {P : Nat → Nat → Nat} {o : Nat} (hb : isB o) {F : Value → Option (Option Value × List hC)} : (getF (H T P)[o]? 9 9).bind F = F (.ref (o + 45)) := b_fr ((sh_st (k := 0) hb (by decide)).trans rfl) rfl
theorem f0_10 {T : Nat → Nat → Int32} {P : Nat → Nat → Nat} {o : Nat} (hb : isB o) {F : Value → Option (Option Value × List hC)} : (getF (H T P)[o]? 9 10).bind F = F (.ref (o + 48)) := b_fr ((sh_st (k := 0) hb (by decide)).trans rfl) rfl
theorem f0_11 {T : Nat → Nat → Int32} {P : Nat → Nat → Nat} {o : Nat} (hb : isB o) {F : Value → Option (Option Value × List hC)} : (getF (H T P)[o]? 9 11).bind F = F (.ref (o + 49)) := b_fr ((sh_st (k := 0) hb (by decide)).trans rfl) rfl
theorem f1_g {T : Nat → Nat → Int32} {P : Nat → Nat → Nat} {o : Nat} (hb : isB o) {x : Int32} {G : Int32 → Option (Option Value × List hC)} : (getI (H T P)[o + 1]? (o + 1) 0 x).bind G = if okx x 4 = true then G (T (o + 1) x.toNatClampNeg) else none := b_gi ((sh_st (k := 1) hb (by decide)).trans rfl) (by decide)
theorem f1_s {T : Nat → Nat → Int32} {P : Nat → Nat → Nat} {o : Nat} (hb : isB o) {i pc : Nat} {L S : List Value} {x y : Int32} : (putI (H T P)[o + 1]? 0 x y).bind (fun c => X i pc L S ((H T P).set (o + 1) c)) = if okx x 4 = true then X i pc L S (H (up1 T (o + 1) x.toNatClampNeg y) P) else none := g_si ((sh_st (k := 1) hb (by decide)).trans rfl) (by decide)
theorem f2_g {T : Nat → Nat → Int32} {P : Nat → Nat → Nat} {o : Nat} (hb : isB o) {x : Int32} {G : Int32 → Option (Option Value × List hC)} : (getI (H T P)[o + 2]? (o + 2) 0 x).bind G = if okx x 5 = true then G (T (o + 2) x.toNatClampNeg) else none := b_gi ((sh_st (k := 2) hb (by decide)).trans rfl) (by decide)
theorem f2_s {T : Nat → Nat → Int32} {P : Nat → Nat → Nat} {o : Nat} (hb : isB o) {i pc : Nat} {L S : List Value} {x y : Int32} : (putI (H T P)[o + 2]? 0 x y).bind (fun c => X i pc L S ((H T P).set (o + 2) c)) = if okx x 5 = true then X i pc L S (H (up1 T (o + 2) x.toNatClampNeg y) P) else none := g_si ((sh_st (k := 2) hb (by decide)).trans rfl) (by decide)
theorem f3_o {T : Nat → Nat → Int32} {P : Nat → Nat → Nat} {o : Nat} (hb : isB o) : isO (H T P)[o + 3]? 3 = true := g_o ((sh_st (k := 3) hb (by decide)).trans rfl)
theorem f3_0 {T : Nat → Nat → Int32} {P : Nat → Nat → Nat} {o : Nat} (hb : isB o) {F : Value → Option (Option Value × List hC)} : (getF (H T P)[o + 3]? 3 0).bind F = F (.int (T (o + 3) 0)) := b_fi ((sh_st (k := 3) hb (by decide)).trans rfl) rfl
theorem f3_0p {T : Nat → Nat → Int32} {P : Nat → Nat → Nat} {o : Nat} (hb : isB o) {i pc : Nat} {L S : List Value} {v : Int32} : (putF (H T P)[o + 3]? 3 0 (.int v)).bind (fun c => X i pc L S ((H T P).set (o + 3) c)) = X i pc L S (H (up1 T (o + 3) 0 v) P) := g_pi ((sh_st (k := 3) hb (by decide)).trans rfl) rfl rfl
theorem f3_1 {T : Nat → Nat → Int32} {P : Nat → Nat → Nat} {o : Nat} (hb : isB o) {F : Value → Option (Option Value × List hC)} : (getF (H T P)[o + 3]? 3 1).bind F = F (.ref (o + 4)) := b_fr ((sh_st (k := 3) hb (by decide)).trans rfl) rfl
theorem f3_2 {T : Nat → Nat → Int32} {P : Nat → Nat → Nat} {o : Nat} (hb : isB o) {F : Value → Option (Option Value × List hC)} : (getF (H T P)[o + 3]? 3 2).bind F = F (.ref (o + 5)) := b_fr ((sh_st (k := 3) hb (by decide)).trans rfl) rfl
theorem f3_3 {T : Nat → Nat → Int32} {P : Nat → Nat → Nat} {o : Nat} (hb : isB o) {F : Value → Option (Option Value × List hC)} : (getF (H T P)[o + 3]? 3 3).bind F = F (.ref (o + 6)) := b_fr ((sh_st (k := 3) hb (by decide)).trans rfl) rfl
theorem f4_g {T : Nat → Nat → Int32} {P : Nat → Nat → Nat} {o : Nat} (hb : isB o) {x : Int32} {G : Int32 → Option (Option Value × List hC)} : (getI (H T P)[o + 4]? (o + 4) 0 x).bind G = if okx x 10 = true then G (T (o + 4) x.toNatClampNeg) else none := b_gi ((sh_st (k := 4) hb (by decide)).trans rfl) (by decide)
theorem f4_s {T : Nat → Nat → Int32} {P : Nat → Nat → Nat} {o : Nat} (hb : isB o) {i pc : Nat} {L S : List Value} {x y : Int32} : (putI (H T P)[o + 4]? 0 x y).bind (fun c => X i pc L S ((H T P).set (o + 4) c)) = if okx x 10 = true then X i pc L S (H (up1 T (o + 4) x.toNatClampNeg y) P) else none := g_si ((sh_st (k := 4) hb (by decide)).trans rfl) (by decide)
theorem f5_g {T : Nat → Nat → Int32} {P : Nat → Nat → Nat} {o : Nat} (hb : isB o) {x : Int32} {G : Int32 → Option (Option Value × List hC)} : (getI (H T P)[o + 5]? (o + 5) 0 x).bind G = if okx x 10 = true then G (T (o + 5) x.toNatClampNeg) else none := b_gi ((sh_st (k := 5) hb (by decide)).trans rfl) (by decide)
theorem f5_s {T : Nat → Nat → Int32} {P : Nat → Nat → Nat} {o : Nat} (hb : isB o) {i pc : Nat} {L S : List Value} {x y : Int32} : (putI (H T P)[o + 5]? 0 x y).bind (fun c => X i pc L S ((H T P).set (o + 5) c)) = if okx x 10 = true then X i pc L S (H (up1 T (o + 5) x.toNatClampNeg y) P) else none := g_si ((sh_st (k := 5) hb (by decide)).trans rfl) (by decide)
theorem f6_g {T : Nat → Nat → Int32} {P : Nat → Nat → Nat} {o : Nat} (hb : isB o) {x : Int32} {G : Int32 → Option (Option Value × List hC)} : (getI (H T P)[o + 6]? (o + 6) 0 x).bind G = if okx x 10 = true then G (T (o + 6) x.toNatClampNeg) else none := b_gi ((sh_st (k := 6) hb (by decide)).trans rfl) (by decide)
theorem f6_s {T : Nat → Nat → Int32} {P : Nat → Nat → Nat} {o : Nat} (hb : isB o) {i pc : Nat} {L S : List Value} {x y : Int32} : (putI (H T P)[o + 6]? 0 x y).bind (fun c => X i pc L S ((H T P).set (o + 6) c)) = if okx x 10 = true then X i pc L S (H (up1 T (o + 6) x.toNatClampNeg y) P) else none := g_si ((sh_st (k := 6) hb (by decide)).trans rfl) (by decide)
theorem f7_o {T : Nat → Nat → Int32} {P : Nat → Nat → Nat} {o : Nat} (hb : isB o) : isO (H T P)[o + 7]? 8 = true := g_o ((sh_st (k := 7) hb (by decide)).trans rfl)
theorem f7_0 {T : Nat → Nat → Int32} {P : Nat → Nat → Nat} {o : Nat} (hb : isB o) {F : Value → Option (Option Value × List hC)} : (getF (H T P)[o + 7]? 8 0).bind F = F (.ref (o + 8)) := b_fr ((sh_st (k := 7) hb (by decide)).trans rfl) rfl
theorem f7_1 {T : Nat → Nat → Int32} {P : Nat → Nat → Nat} {o : Nat} (hb : isB o) {F : Value → Option (Option Value × List hC)} : (getF (H T P)[o + 7]? 8 1).bind F = F (.int (T (o + 7) 1)) := b_fi ((sh_st (k := 7) hb (by decide)).trans rfl) rfl
theorem f7_1p {T : Nat → Nat → Int32} {P : Nat → Nat → Nat} {o : Nat} (hb : isB o) {i pc : Nat} {L S : List Value} {v : Int32} : (putF (H T P)[o + 7]? 8 1 (.int v)).bind (fun c => X i pc L S ((H T P).set (o + 7) c)) = X i pc L S (H (up1 T (o + 7) 1 v) P) := g_pi ((sh_st (k := 7) hb (by decide)).trans rfl) rfl rfl
theorem f7_2 {T : Nat → Nat → Int32} {P : Nat → Nat → Nat} {o : Nat} (hb : isB o) {F : Value → Option (Option Value × List hC)} : (getF (H T P)[o + 7]? 8 2).bind F = F (.int (T (o + 7) 2)) := b_fi ((sh_st (k := 7) hb (by decide)).trans rfl) rfl
theorem f7_2p {T : Nat → Nat → Int32} {P : Nat → Nat → Nat} {o : Nat} (hb : isB o) {i pc : Nat} {L S : List Value} {v : Int32} : (putF (H T P)[o + 7]? 8 2 (.int v)).bind (fun c => X i pc L S ((H T P).set (o + 7) c)) = X i pc L S (H (up1 T (o + 7) 2 v) P) := g_pi ((sh_st (k := 7) hb (by decide)).trans rfl) rfl rfl
theorem f8_g {T : Nat → Nat → Int32} {P : Nat → Nat → Nat} {o : Nat} (hb : isB o) {x : Int32} {F : Value → Option (Option Value × List hC)} : (getQ (H T P)[o + 8]? x).bind F = if okx x 8 = true then F (.ref (P (o + 8) x.toNatClampNeg)) else none := b_q ((sh_st (k := 8) hb (by decide)).trans rfl) (by decide) (by decide)
theorem f41_o {T : Nat → Nat → Int32} {P : Nat → Nat → Nat} {o : Nat} (hb : isB o) : isO (H T P)[o + 41]? 4 = true := g_o ((sh_st (k := 41) hb (by decide)).trans rfl)
theorem f41_0 {T : Nat → Nat → Int32} {P : Nat → Nat → Nat} {o : Nat} (hb : isB o) {F : Value → Option (Option Value × List hC)} : (getF (H T P)[o + 41]? 4 0).bind F = F (.ref (o + 42)) := b_fr ((sh_st (k := 41) hb (by decide)).trans rfl) rfl
theorem f41_1 {T : Nat → Nat → Int32} {P : Nat → Nat → Nat} {o : Nat} (hb : isB o) {F : Value → Option (Option Value × List hC)} : (getF (H T P)[o + 41]? 4 1).bind F = F (.ref (o + 43)) := b_fr ((sh_st (k := 41) hb (by decide)).trans rfl) rfl
theorem f41_2 {T : Nat → Nat → Int32} {P : Nat → Nat → Nat} {o : Nat} (hb : isB o) {F : Value → Option (Option Value × List hC)} : (getF (H T P)[o + 41]? 4 2).bind F = F (.ref (o + 44)) := b_fr ((sh_st (k := 41) hb (by decide)).trans rfl) rfl
theorem f41_3 {T : Nat → Nat → Int32} {P : Nat → Nat → Nat} {o : Nat} (hb : isB o) {F : Value → Option (Option Value × List hC)} : (getF (H T P)[o + 41]? 4 3).bind F = F (.int (T (o + 41) 3)) := b_fi ((sh_st (k := 41) hb (by decide)).trans rfl) rfl
theorem f41_3p {T : Nat → Nat → Int32} {P : Nat → Nat → Nat} {o : Nat} (hb : isB o) {i pc : Nat} {L S : List Value} {v : Int32} : (putF (H T P)[o + 41]? 4 3 (.int v)).bind (fun c => X i pc L S ((H T P).set (o + 41) c)) = X i pc L S (H (up1 T (o + 41) 3 v) P) := g_pi ((sh_st (k := 41) hb (by decide)).trans rfl) rfl rfl
theorem f42_g {T : Nat → Nat → Int32} {P : Nat → Nat → Nat} {o : Nat} (hb : isB o) {x : Int32} {G : Int32 → Option (Option Value × List hC)} : (getI (H T P)[o + 42]? (o + 42) 0 x).bind G = if okx x 99 = true then G (T (o + 42) x.toNatClampNeg) else none := b_gi ((sh_st (k := 42) hb (by decide)).trans rfl) (by decide)
theorem f42_s {T : Nat → Nat → Int32} {P : Nat → Nat → Nat} {o : Nat} (hb : isB o) {i pc : Nat} {L S : List Value} {x y : Int32} : (putI (H T P)[o + 42]? 0 x y).bind (fun c => X i pc L S ((H T P).set (o + 42) c)) = if okx x 99 = true then X i pc L S (H (up1 T (o + 42) x.toNatClampNeg y) P) else none := g_si ((sh_st (k := 42) hb (by decide)).trans rfl) (by decide)
theorem f43_g {T : Nat → Nat → Int32} {P : Nat → Nat → Nat} {o : Nat} (hb : isB o) {x : Int32} {G : Int32 → Option (Option Value × List hC)} : (getI (H T P)[o + 43]? (o + 43) 0 x).bind G = if okx x 99 = true then G (T (o + 43) x.toNatClampNeg) else none := b_gi ((sh_st (k := 43) hb (by decide)).trans rfl) (by decide)
theorem f43_s {T : Nat → Nat → Int32} {P : Nat → Nat → Nat} {o : Nat} (hb : isB o) {i pc : Nat} {L S : List Value} {x y : Int32} : (putI (H T P)[o + 43]? 0 x y).bind (fun c => X i pc L S ((H T P).set (o + 43) c)) = if okx x 99 = true then X i pc L S (H (up1 T (o + 43) x.toNatClampNeg y) P) else none := g_si ((sh_st (k := 43) hb (by decide)).trans rfl) (by decide)
theorem f44_g {T : Nat → Nat → Int32} {P : Nat → Nat → Nat} {o : Nat} (hb : isB o) {x : Int32} {G : Int32 → Option (Option Value × List hC)} : (getI (H T P)[o + 44]? (o + 44) 0 x).bind G = if okx x 99 = true then G (T (o + 44) x.toNatClampNeg) else none := b_gi ((sh_st (k := 44) hb (by decide)).trans rfl) (by decide)
theorem f44_s {T : Nat → Nat → Int32} {P : Nat → Nat → Nat} {o : Nat} (hb : isB o) {i pc : Nat} {L S : List Value} {x y : Int32} : (putI (H T P)[o + 44]? 0 x y).bind (fun c => X i pc L S ((H T P).set (o + 44) c)) = if okx x 99 = true then X i pc L S (H (up1 T (o + 44) x.toNatClampNeg y) P) else none := g_si ((sh_st (k := 44) hb (by decide)).trans rfl) (by decide)
theorem f45_o {T : Nat → Nat → Int32} {P : Nat → Nat → Nat} {o : Nat} (hb : isB o) : isO (H T P)[o + 45]? 7 = true := g_o ((sh_st (k := 45) hb (by decide)).trans rfl)
theorem f45_0 {T : Nat → Nat → Int32} {P : Nat → Nat → Nat} {o : Nat} (hb : isB o) {F : Value → Option (Option Value × List hC)} : (getF (H T P)[o + 45]? 7 0).bind F = F (.ref (o + 46)) := b_fr ((sh_st (k := 45) hb (by decide)).trans rfl) rfl
theorem f45_1 {T : Nat → Nat → Int32} {P : Nat → Nat → Nat} {o : Nat} (hb : isB o) {F : Value → Option (Option Value × List hC)} : (getF (H T P)[o + 45]? 7 1).bind F = F (.ref (o + 47)) := b_fr ((sh_st (k := 45) hb (by decide)).trans rfl) rfl
theorem f45_2 {T : Nat → Nat → Int32} {P : Nat → Nat → Nat} {o : Nat} (hb : isB o) {F : Value → Option (Option Value × List hC)} : (getF (H T P)[o + 45]? 7 2).bind F = F (.int (T (o + 45) 2)) := b_fi ((sh_st (k := 45) hb (by decide)).trans rfl) rfl
theorem f45_2p {T : Nat → Nat → Int32} {P : Nat → Nat → Nat} {o : Nat} (hb : isB o) {i pc : Nat} {L S : List Value} {v : Int32} : (putF (H T P)[o + 45]? 7 2 (.int v)).bind (fun c => X i pc L S ((H T P).set (o + 45) c)) = X i pc L S (H (up1 T (o + 45) 2 v) P) := g_pi ((sh_st (k := 45) hb (by decide)).trans rfl) rfl rfl
theorem f46_g {T : Nat → Nat → Int32} {P : Nat → Nat → Nat} {o : Nat} (hb : isB o) {x : Int32} {G : Int32 → Option (Option Value × List hC)} : (getI (H T P)[o + 46]? (o + 46) 0 x).bind G = if okx x 20 = true then G (T (o + 46) x.toNatClampNeg) else none := b_gi ((sh_st (k := 46) hb (by decide)).trans rfl) (by decide)
theorem f46_s {T : Nat → Nat → Int32} {P : Nat → Nat → Nat} {o : Nat} (hb : isB o) {i pc : Nat} {L S : List Value} {x y : Int32} : (putI (H T P)[o + 46]? 0 x y).bind (fun c => X i pc L S ((H T P).set (o + 46) c)) = if okx x 20 = true then X i pc L S (H (up1 T (o + 46) x.toNatClampNeg y) P) else none := g_si ((sh_st (k := 46) hb (by decide)).trans rfl) (by decide)
theorem f47_g {T : Nat → Nat → Int32} {P : Nat → Nat → Nat} {o : Nat} (hb : isB o) {x : Int32} {G : Int32 → Option (Option Value × List hC)} : (getI (H T P)[o + 47]? (o + 47) 0 x).bind G = if okx x 20 = true then G (T (o + 47) x.toNatClampNeg) else none := b_gi ((sh_st (k := 47) hb (by decide)).trans rfl) (by decide)
theorem f47_s {T : Nat → Nat → Int32} {P : Nat → Nat → Nat} {o : Nat} (hb : isB o) {i pc : Nat} {L S : List Value} {x y : Int32} : (putI (H T P)[o + 47]? 0 x y).bind (fun c => X i pc L S ((H T P).set (o + 47) c)) = if okx x 20 = true then X i pc L S (H (up1 T (o + 47) x.toNatClampNeg y) P) else none := g_si ((sh_st (k := 47) hb (by decide)).trans rfl) (by decide)
theorem f48_o {T : Nat → Nat → Int32} {P : Nat → Nat → Nat} {o : Nat} (hb : isB o) : isO (H T P)[o + 48]? 2 = true := g_o ((sh_st (k := 48) hb (by decide)).trans rfl)
theorem f48_0 {T : Nat → Nat → Int32} {P : Nat → Nat → Nat} {o : Nat} (hb : isB o) {F : Value → Option (Option Value × List hC)} : (getF (H T P)[o + 48]? 2 0).bind F = F (.int (T (o + 48) 0)) := b_fi ((sh_st (k := 48) hb (by decide)).trans rfl) rfl
theorem f48_0p {T : Nat → Nat → Int32} {P : Nat → Nat → Nat} {o : Nat} (hb : isB o) {i pc : Nat} {L S : List Value} {v : Int32} : (putF (H T P)[o + 48]? 2 0 (.int v)).bind (fun c => X i pc L S ((H T P).set (o + 48) c)) = X i pc L S (H (up1 T (o + 48) 0 v) P) := g_pi ((sh_st (k := 48) hb (by decide)).trans rfl) rfl rfl
theorem f48_1 {T : Nat → Nat → Int32} {P : Nat → Nat → Nat} {o : Nat} (hb : isB o) {F : Value → Option (Option Value × List hC)} : (getF (H T P)[o + 48]? 2 1).bind F = F (.int (T (o + 48) 1)) := b_fi ((sh_st (k := 48) hb (by decide)).trans rfl) rfl
theorem f48_1p {T : Nat → Nat → Int32} {P : Nat → Nat → Nat} {o : Nat} (hb : isB o) {i pc : Nat} {L S : List Value} {v : Int32} : (putF (H T P)[o + 48]? 2 1 (.int v)).bind (fun c => X i pc L S ((H T P).set (o + 48) c)) = X i pc L S (H (up1 T (o + 48) 1 v) P) := g_pi ((sh_st (k := 48) hb (by decide)).trans rfl) rfl rfl
theorem f48_2 {T : Nat → Nat → Int32} {P : Nat → Nat → Nat} {o : Nat} (hb : isB o) {F : Value → Option (Option Value × List hC)} : (getF (H T P)[o + 48]? 2 2).bind F = F (.int (T (o + 48) 2)) := b_fi ((sh_st (k := 48) hb (by decide)).trans rfl) rfl
theorem f48_2p {T : Nat → Nat → Int32} {P : Nat → Nat → Nat} {o : Nat} (hb : isB o) {i pc : Nat} {L S : List Value} {v : Int32} : (putF (H T P)[o + 48]? 2 2 (.int v)).bind (fun c => X i pc L S ((H T P).set (o + 48) c)) = X i pc L S (H (up1 T (o + 48) 2 v) P) := g_pi ((sh_st (k := 48) hb (by decide)).trans rfl) rfl rfl
theorem f48_3 {T : Nat → Nat → Int32} {P : Nat → Nat → Nat} {o : Nat} (hb : isB o) {F : Value → Option (Option Value × List hC)} : (getF (H T P)[o + 48]? 2 3).bind F = F (.int (T (o + 48) 3)) := b_fi ((sh_st (k := 48) hb (by decide)).trans rfl) rfl
theorem f48_3p {T : Nat → Nat → Int32} {P : Nat → Nat → Nat} {o : Nat} (hb : isB o) {i pc : Nat} {L S : List Value} {v : Int32} : (putF (H T P)[o + 48]? 2 3 (.int v)).bind (fun c => X i pc L S ((H T P).set (o + 48) c)) = X i pc L S (H (up1 T (o + 48) 3 v) P) := g_pi ((sh_st (k := 48) hb (by decide)).trans rfl) rfl rfl
theorem f49_o {T : Nat → Nat → Int32} {P : Nat → Nat → Nat} {o : Nat} (hb : isB o) : isO (H T P)[o + 49]? 6 = true := g_o ((sh_st (k := 49) hb (by decide)).trans rfl)
theorem f49_0 {T : Nat → Nat → Int32} {P : Nat → Nat → Nat} {o : Nat} (hb : isB o) {F : Value → Option (Option Value × List hC)} : (getF (H T P)[o + 49]? 6 0).bind F = F (.ref (o + 50)) := b_fr ((sh_st (k := 49) hb (by decide)).trans rfl) rfl
theorem f49_1 {T : Nat → Nat → Int32} {P : Nat → Nat → Nat} {o : Nat} (hb : isB o) {F : Value → Option (Option Value × List hC)} : (getF (H T P)[o + 49]? 6 1).bind F = F (.int (T (o + 49) 1)) := b_fi ((sh_st (k := 49) hb (by decide)).trans rfl) rfl
theorem f49_1p {T : Nat → Nat → Int32} {P : Nat → Nat → Nat} {o : Nat} (hb : isB o) {i pc : Nat} {L S : List Value} {v : Int32} : (putF (H T P)[o + 49]? 6 1 (.int v)).bind (fun c => X i pc L S ((H T P).set (o + 49) c)) = X i pc L S (H (up1 T (o + 49) 1 v) P) := g_pi ((sh_st (k := 49) hb (by decide)).trans rfl) rfl rfl
theorem f49_2 {T : Nat → Nat → Int32} {P : Nat → Nat → Nat} {o : Nat} (hb : isB o) {F : Value → Option (Option Value × List hC)} : (getF (H T P)[o + 49]? 6 2).bind F = F (.int (T (o + 49) 2)) := b_fi ((sh_st (k := 49) hb (by decide)).trans rfl) rfl
theorem f49_2p {T : Nat → Nat → Int32} {P : Nat → Nat → Nat} {o : Nat} (hb : isB o) {i pc : Nat} {L S : List Value} {v : Int32} : (putF (H T P)[o + 49]? 6 2 (.int v)).bind (fun c => X i pc L S ((H T P).set (o + 49) c)) = X i pc L S (H (up1 T (o + 49) 2 v) P) := g_pi ((sh_st (k := 49) hb (by decide)).trans rfl) rfl rfl
theorem f50_g {T : Nat → Nat → Int32} {P : Nat → Nat → Nat} {o : Nat} (hb : isB o) {x : Int32} {G : Int32 → Option (Option Value × List hC)} : (getI (H T P)[o + 50]? (o + 50) 0 x).bind G = if okx x 40 = true then G (T (o + 50) x.toNatClampNeg) else none := b_gi ((sh_st (k := 50) hb (by decide)).trans rfl) (by decide)
theorem f50_s {T : Nat → Nat → Int32} {P : Nat → Nat → Nat} {o : Nat} (hb : isB o) {i pc : Nat} {L S : List Value} {x y : Int32} : (putI (H T P)[o + 50]? 0 x y).bind (fun c => X i pc L S ((H T P).set (o + 50) c)) = if okx x 40 = true then X i pc L S (H (up1 T (o + 50) x.toNatClampNeg y) P) else none := g_si ((sh_st (k := 50) hb (by decide)).trans rfl) (by decide)
theorem fK_o {T : Nat → Nat → Int32} {P : Nat → Nat → Nat} {b : Nat} (hb : isK b) : isO (H T P)[b]? 0 = true := g_o (sh_k hb).1
theorem fK_0 {T : Nat → Nat → Int32} {P : Nat → Nat → Nat} {b : Nat} (hb : isK b) {F : Value → Option (Option Value × List hC)} : (getF (H T P)[b]? 0 0).bind F = F (.int (T (b) 0)) := b_fi (sh_k hb).1 rfl
theorem fK_0p {T : Nat → Nat → Int32} {P : Nat → Nat → Nat} {b : Nat} (hb : isK b) {i pc : Nat} {L S : List Value} {v : Int32} : (putF (H T P)[b]? 0 0 (.int v)).bind (fun c => X i pc L S ((H T P).set (b) c)) = X i pc L S (H (up1 T (b) 0 v) P) := g_pi (sh_k hb).1 rfl rfl
theorem fK_1 {T : Nat → Nat → Int32} {P : Nat → Nat → Nat} {b : Nat} (hb : isK b) {F : Value → Option (Option Value × List hC)} : (getF (H T P)[b]? 0 1).bind F = F (.int (T (b) 1)) := b_fi (sh_k hb).1 rfl
theorem fK_1p {T : Nat → Nat → Int32} {P : Nat → Nat → Nat} {b : Nat} (hb : isK b) {i pc : Nat} {L S : List Value} {v : Int32} : (putF (H T P)[b]? 0 1 (.int v)).bind (fun c => X i pc L S ((H T P).set (b) c)) = X i pc L S (H (up1 T (b) 1 v) P) := g_pi (sh_k hb).1 rfl rfl
theorem fK_2 {T : Nat → Nat → Int32} {P : Nat → Nat → Nat} {b : Nat} (hb : isK b) {F : Value → Option (Option Value × List hC)} : (getF (H T P)[b]? 0 2).bind F = F (.int (T (b) 2)) := b_fi (sh_k hb).1 rfl
theorem fK_2p {T : Nat → Nat → Int32} {P : Nat → Nat → Nat} {b : Nat} (hb : isK b) {i pc : Nat} {L S : List Value} {v : Int32} : (putF (H T P)[b]? 0 2 (.int v)).bind (fun c => X i pc L S ((H T P).set (b) c)) = X i pc L S (H (up1 T (b) 2 v) P) := g_pi (sh_k hb).1 rfl rfl
theorem fK_3 {T : Nat → Nat → Int32} {P : Nat → Nat → Nat} {b : Nat} (hb : isK b) {F : Value → Option (Option Value × List hC)} : (getF (H T P)[b]? 0 3).bind F = F (.int (T (b) 3)) := b_fi (sh_k hb).1 rfl
theorem fK_3p {T : Nat → Nat → Int32} {P : Nat → Nat → Nat} {b : Nat} (hb : isK b) {i pc : Nat} {L S : List Value} {v : Int32} : (putF (H T P)[b]? 0 3 (.int v)).bind (fun c => X i pc L S ((H T P).set (b) c)) = X i pc L S (H (up1 T (b) 3 v) P) := g_pi (sh_k hb).1 rfl rfl
theorem fK_4 {T : Nat → Nat → Int32} {P : Nat → Nat → Nat} {b : Nat} (hb : isK b) {F : Value → Option (Option Value × List hC)} : (getF (H T P)[b]? 0 4).bind F = F (.int (T (b) 4)) := b_fi (sh_k hb).1 rfl
theorem fK_4p {T : Nat → Nat → Int32} {P : Nat → Nat → Nat} {b : Nat} (hb : isK b) {i pc : Nat} {L S : List Value} {v : Int32} : (putF (H T P)[b]? 0 4 (.int v)).bind (fun c => X i pc L S ((H T P).set (b) c)) = X i pc L S (H (up1 T (b) 4 v) P) := g_pi (sh_k hb).1 rfl rfl
theorem fK_5 {T : Nat → Nat → Int32} {P : Nat → Nat → Nat} {b : Nat} (hb : isK b) {F : Value → Option (Option Value × List hC)} : (getF (H T P)[b]? 0 5).bind F = F (.ref (b + 1)) := b_fr (sh_k hb).1 rfl
theorem fK_6 {T : Nat → Nat → Int32} {P : Nat → Nat → Nat} {b : Nat} (hb : isK b) {F : Value → Option (Option Value × List hC)} : (getF (H T P)[b]? 0 6).bind F = F (.ref (b + 2)) := b_fr (sh_k hb).1 rfl
theorem fK_7 {T : Nat → Nat → Int32} {P : Nat → Nat → Nat} {b : Nat} (hb : isK b) {F : Value → Option (Option Value × List hC)} : (getF (H T P)[b]? 0 7).bind F = F (.ref (b + 3)) := b_fr (sh_k hb).1 rfl
theorem fK1_g {T : Nat → Nat → Int32} {P : Nat → Nat → Nat} {b : Nat} (hb : isK b) {x : Int32} {G : Int32 → Option (Option Value × List hC)} : (getI (H T P)[b + 1]? (b + 1) 0 x).bind G = if okx x 4 = true then G (T (b + 1) x.toNatClampNeg) else none := b_gi (sh_k hb).2.1 (by decide)
theorem fK1_s {T : Nat → Nat → Int32} {P : Nat → Nat → Nat} {b : Nat} (hb : isK b) {i pc : Nat} {L S : List Value} {x y : Int32} : (putI (H T P)[b + 1]? 0 x y).bind (fun c => X i pc L S ((H T P).set (b + 1) c)) = if okx x 4 = true then X i pc L S (H (up1 T (b + 1) x.toNatClampNeg y) P) else none := g_si (sh_k hb).2.1 (by decide)
theorem fK2_g {T : Nat → Nat → Int32} {P : Nat → Nat → Nat} {b : Nat} (hb : isK b) {x : Int32} {G : Int32 → Option (Option Value × List hC)} : (getI (H T P)[b + 2]? (b + 2) 0 x).bind G = if okx x 4 = true then G (T (b + 2) x.toNatClampNeg) else none := b_gi (sh_k hb).2.2.1 (by decide)
theorem fK2_s {T : Nat → Nat → Int32} {P : Nat → Nat → Nat} {b : Nat} (hb : isK b) {i pc : Nat} {L S : List Value} {x y : Int32} : (putI (H T P)[b + 2]? 0 x y).bind (fun c => X i pc L S ((H T P).set (b + 2) c)) = if okx x 4 = true then X i pc L S (H (up1 T (b + 2) x.toNatClampNeg y) P) else none := g_si (sh_k hb).2.2.1 (by decide)
theorem fK3_g {T : Nat → Nat → Int32} {P : Nat → Nat → Nat} {b : Nat} (hb : isK b) {x : Int32} {G : Int32 → Option (Option Value × List hC)} : (getI (H T P)[b + 3]? (b + 3) 0 x).bind G = if okx x 4 = true then G (T (b + 3) x.toNatClampNeg) else none := b_gi (sh_k hb).2.2.2 (by decide)
theorem fK3_s {T : Nat → Nat → Int32} {P : Nat → Nat → Nat} {b : Nat} (hb : isK b) {i pc : Nat} {L S : List Value} {x y : Int32} : (putI (H T P)[b + 3]? 0 x y).bind (fun c => X i pc L S ((H T P).set (b + 3) c)) = if okx x 4 = true then X i pc L S (H (up1 T (b + 3) x.toNatClampNeg y) P) else none := g_si (sh_k hb).2.2.2 (by decide)
theorem z0_o {T : Nat → Nat → Int32} {P : Nat → Nat → Nat} : isO (H T P)[0]? 10 = true := g_o (show shapes[0]? = some (.inl (10, [some 1, some 52, some 103, some 154, some 360, none])) by decide +kernel)
theorem z0_0 {T : Nat → Nat → Int32} {P : Nat → Nat → Nat} {F : Value → Option (Option Value × List hC)} : (getF (H T P)[0]? 10 0).bind F = F (.ref (1)) := b_fr (show shapes[0]? = some (.inl (10, [some 1, some 52, some 103, some 154, some 360, none])) by decide +kernel) rfl
theorem z0_1 {T : Nat → Nat → Int32} {P : Nat → Nat → Nat} {F : Value → Option (Option Value × List hC)} : (getF (H T P)[0]? 10 1).bind F = F (.ref (52)) := b_fr (show shapes[0]? = some (.inl (10, [some 1, some 52, some 103, some 154, some 360, none])) by decide +kernel) rfl
theorem z0_2 {T : Nat → Nat → Int32} {P : Nat → Nat → Nat} {F : Value → Option (Option Value × List hC)} : (getF (H T P)[0]? 10 2).bind F = F (.ref (103)) := b_fr (show shapes[0]? = some (.inl (10, [some 1, some 52, some 103, some 154, some 360, none])) by decide +kernel) rfl
theorem z0_3 {T : Nat → Nat → Int32} {P : Nat → Nat → Nat} {F : Value → Option (Option Value × List hC)} : (getF (H T P)[0]? 10 3).bind F = F (.ref (154)) := b_fr (show shapes[0]? = some (.inl (10, [some 1, some 52, some 103, some 154, some 360, none])) by decide +kernel) rfl
theorem z0_4 {T : Nat → Nat → Int32} {P : Nat → Nat → Nat} {F : Value → Option (Option Value × List hC)} : (getF (H T P)[0]? 10 4).bind F = F (.ref (360)) := b_fr (show shapes[0]? = some (.inl (10, [some 1, some 52, some 103, some 154, some 360, none])) by decide +kernel) rfl
theorem z0_5 {T : Nat → Nat → Int32} {P : Nat → Nat → Nat} {F : Value → Option (Option Value × List hC)} : (getF (H T P)[0]? 10 5).bind F = F (.int (T (0) 5)) := b_fi (show shapes[0]? = some (.inl (10, [some 1, some 52, some 103, some 154, some 360, none])) by decide +kernel) rfl
theorem z0_5p0 {T : Nat → Nat → Int32} {P : Nat → Nat → Nat} {i pc : Nat} {L S : List Value} : (putF (H T P)[0]? 10 5 (.int 0)).bind (fun c => X i pc L S ((H T P).set (0) c)) = X i pc L S (H (up1 T (0) 5 0) P) := g_pi (show shapes[0]? = some (.inl (10, [some 1, some 52, some 103, some 154, some 360, none])) by decide +kernel) rfl (by decide)
theorem z0_5p1 {T : Nat → Nat → Int32} {P : Nat → Nat → Nat} {i pc : Nat} {L S : List Value} : (putF (H T P)[0]? 10 5 (.int 1)).bind (fun c => X i pc L S ((H T P).set (0) c)) = X i pc L S (H (up1 T (0) 5 1) P) := g_pi (show shapes[0]? = some (.inl (10, [some 1, some 52, some 103, some 154, some 360, none])) by decide +kernel) rfl (by decide)
theorem z154_o {T : Nat → Nat → Int32} {P : Nat → Nat → Nat} : isO (H T P)[154]? 5 = true := g_o (show shapes[154]? = some (.inl (5, [some 155, none, none])) by decide +kernel)
theorem z154_0 {T : Nat → Nat → Int32} {P : Nat → Nat → Nat} {F : Value → Option (Option Value × List hC)} : (getF (H T P)[154]? 5 0).bind F = F (.ref (155)) := b_fr (show shapes[154]? = some (.inl (5, [some 155, none, none])) by decide +kernel) rfl
theorem z154_1 {T : Nat → Nat → Int32} {P : Nat → Nat → Nat} {F : Value → Option (Option Value × List hC)} : (getF (H T P)[154]? 5 1).bind F = F (.int (T (154) 1)) := b_fi (show shapes[154]? = some (.inl (5, [some 155, none, none])) by decide +kernel) rfl
theorem z154_1p {T : Nat → Nat → Int32} {P : Nat → Nat → Nat} {i pc : Nat} {L S : List Value} {v : Int32} : (putF (H T P)[154]? 5 1 (.int v)).bind (fun c => X i pc L S ((H T P).set (154) c)) = X i pc L S (H (up1 T (154) 1 v) P) := g_pi (show shapes[154]? = some (.inl (5, [some 155, none, none])) by decide +kernel) rfl rfl
theorem z154_2 {T : Nat → Nat → Int32} {P : Nat → Nat → Nat} {F : Value → Option (Option Value × List hC)} : (getF (H T P)[154]? 5 2).bind F = F (.int (T (154) 2)) := b_fi (show shapes[154]? = some (.inl (5, [some 155, none, none])) by decide +kernel) rfl
theorem z154_2p {T : Nat → Nat → Int32} {P : Nat → Nat → Nat} {i pc : Nat} {L S : List Value} {v : Int32} : (putF (H T P)[154]? 5 2 (.int v)).bind (fun c => X i pc L S ((H T P).set (154) c)) = X i pc L S (H (up1 T (154) 2 v) P) := g_pi (show shapes[154]? = some (.inl (5, [some 155, none, none])) by decide +kernel) rfl rfl
theorem z155_g {T : Nat → Nat → Int32} {P : Nat → Nat → Nat} {x : Int32} {F : Value → Option (Option Value × List hC)} : (getQ (H T P)[155]? x).bind F = if okx x 4 = true then F (.ref (P (155) x.toNatClampNeg)) else none := b_q (show shapes[155]? = some (.inr (3, 4)) by decide +kernel) (by decide) (by decide)
theorem z360_o {T : Nat → Nat → Int32} {P : Nat → Nat → Nat} : isO (H T P)[360]? 1 = true := g_o (show shapes[360]? = some (.inl (1, [some 361, none, none, some 362, some 363, some 364, some 365, none, none])) by decide +kernel)
theorem z360_0 {T : Nat → Nat → Int32} {P : Nat → Nat → Nat} {F : Value → Option (Option Value × List hC)} : (getF (H T P)[360]? 1 0).bind F = F (.ref (361)) := b_fr (show shapes[360]? = some (.inl (1, [some 361, none, none, some 362, some 363, some 364, some 365, none, none])) by decide +kernel) rfl
theorem z360_1 {T : Nat → Nat → Int32} {P : Nat → Nat → Nat} {F : Value → Option (Option Value × List hC)} : (getF (H T P)[360]? 1 1).bind F = F (.int (T (360) 1)) := b_fi (show shapes[360]? = some (.inl (1, [some 361, none, none, some 362, some 363, some 364, some 365, none, none])) by decide +kernel) rfl
theorem z360_1p {T : Nat → Nat → Int32} {P : Nat → Nat → Nat} {i pc : Nat} {L S : List Value} {v : Int32} : (putF (H T P)[360]? 1 1 (.int v)).bind (fun c => X i pc L S ((H T P).set (360) c)) = X i pc L S (H (up1 T (360) 1 v) P) := g_pi (show shapes[360]? = some (.inl (1, [some 361, none, none, some 362, some 363, some 364, some 365, none, none])) by decide +kernel) rfl rfl
theorem z360_2 {T : Nat → Nat → Int32} {P : Nat → Nat → Nat} {F : Value → Option (Option Value × List hC)} : (getF (H T P)[360]? 1 2).bind F = F (.int (T (360) 2)) := b_fi (show shapes[360]? = some (.inl (1, [some 361, none, none, some 362, some 363, some 364, some 365, none, none])) by decide +kernel) rfl
theorem z360_2p {T : Nat → Nat → Int32} {P : Nat → Nat → Nat} {i pc : Nat} {L S : List Value} {v : Int32} : (putF (H T P)[360]? 1 2 (.int v)).bind (fun c => X i pc L S ((H T P).set (360) c)) = X i pc L S (H (up1 T (360) 2 v) P) := g_pi (show shapes[360]? = some (.inl (1, [some 361, none, none, some 362, some 363, some 364, some 365, none, none])) by decide +kernel) rfl rfl
theorem z360_3 {T : Nat → Nat → Int32} {P : Nat → Nat → Nat} {F : Value → Option (Option Value × List hC)} : (getF (H T P)[360]? 1 3).bind F = F (.ref (362)) := b_fr (show shapes[360]? = some (.inl (1, [some 361, none, none, some 362, some 363, some 364, some 365, none, none])) by decide +kernel) rfl
theorem z360_4 {T : Nat → Nat → Int32} {P : Nat → Nat → Nat} {F : Value → Option (Option Value × List hC)} : (getF (H T P)[360]? 1 4).bind F = F (.ref (363)) := b_fr (show shapes[360]? = some (.inl (1, [some 361, none, none, some 362, some 363, some 364, some 365, none, none])) by decide +kernel) rfl
theorem z360_5 {T : Nat → Nat → Int32} {P : Nat → Nat → Nat} {F : Value → Option (Option Value × List hC)} : (getF (H T P)[360]? 1 5).bind F = F (.ref (364)) := b_fr (show shapes[360]? = some (.inl (1, [some 361, none, none, some 362, some 363, some 364, some 365, none, none])) by decide +kernel) rfl
theorem z360_6 {T : Nat → Nat → Int32} {P : Nat → Nat → Nat} {F : Value → Option (Option Value × List hC)} : (getF (H T P)[360]? 1 6).bind F = F (.ref (365)) := b_fr (show shapes[360]? = some (.inl (1, [some 361, none, none, some 362, some 363, some 364, some 365, none, none])) by decide +kernel) rfl
theorem z360_7 {T : Nat → Nat → Int32} {P : Nat → Nat → Nat} {F : Value → Option (Option Value × List hC)} : (getF (H T P)[360]? 1 7).bind F = F (.int (T (360) 7)) := b_fi (show shapes[360]? = some (.inl (1, [some 361, none, none, some 362, some 363, some 364, some 365, none, none])) by decide +kernel) rfl
theorem z360_7p {T : Nat → Nat → Int32} {P : Nat → Nat → Nat} {i pc : Nat} {L S : List Value} {v : Int32} : (putF (H T P)[360]? 1 7 (.int v)).bind (fun c => X i pc L S ((H T P).set (360) c)) = X i pc L S (H (up1 T (360) 7 v) P) := g_pi (show shapes[360]? = some (.inl (1, [some 361, none, none, some 362, some 363, some 364, some 365, none, none])) by decide +kernel) rfl rfl
theorem z360_8 {T : Nat → Nat → Int32} {P : Nat → Nat → Nat} {F : Value → Option (Option Value × List hC)} : (getF (H T P)[360]? 1 8).bind F = F (.int (T (360) 8)) := b_fi (show shapes[360]? = some (.inl (1, [some 361, none, none, some 362, some 363, some 364, some 365, none, none])) by decide +kernel) rfl
theorem z360_8p {T : Nat → Nat → Int32} {P : Nat → Nat → Nat} {i pc : Nat} {L S : List Value} {v : Int32} : (putF (H T P)[360]? 1 8 (.int v)).bind (fun c => X i pc L S ((H T P).set (360) c)) = X i pc L S (H (up1 T (360) 8 v) P) := g_pi (show shapes[360]? = some (.inl (1, [some 361, none, none, some 362, some 363, some 364, some 365, none, none])) by decide +kernel) rfl rfl
theorem z361_g {T : Nat → Nat → Int32} {P : Nat → Nat → Nat} {x : Int32} {G : Int32 → Option (Option Value × List hC)} : (getI (H T P)[361]? (361) 1 x).bind G = if okx x 60 = true then G (T (361) x.toNatClampNeg) else none := b_gi (show shapes[361]? = some (.inr (1, 60)) by decide +kernel) (by decide)
theorem z361_s {T : Nat → Nat → Int32} {P : Nat → Nat → Nat} {i pc : Nat} {L S : List Value} {x y : Int32} : (putI (H T P)[361]? 1 x y).bind (fun c => X i pc L S ((H T P).set (361) c)) = if okx x 60 = true then X i pc L S (H (up1 T (361) x.toNatClampNeg y) P) else none := g_si (show shapes[361]? = some (.inr (1, 60)) by decide +kernel) (by decide)
theorem z362_g {T : Nat → Nat → Int32} {P : Nat → Nat → Nat} {x : Int32} {G : Int32 → Option (Option Value × List hC)} : (getI (H T P)[362]? (362) 0 x).bind G = if okx x 12 = true then G (T (362) x.toNatClampNeg) else none := b_gi (show shapes[362]? = some (.inr (0, 12)) by decide +kernel) (by decide)
theorem z362_s {T : Nat → Nat → Int32} {P : Nat → Nat → Nat} {i pc : Nat} {L S : List Value} {x y : Int32} : (putI (H T P)[362]? 0 x y).bind (fun c => X i pc L S ((H T P).set (362) c)) = if okx x 12 = true then X i pc L S (H (up1 T (362) x.toNatClampNeg y) P) else none := g_si (show shapes[362]? = some (.inr (0, 12)) by decide +kernel) (by decide)
theorem z363_g {T : Nat → Nat → Int32} {P : Nat → Nat → Nat} {x : Int32} {G : Int32 → Option (Option Value × List hC)} : (getI (H T P)[363]? (363) 0 x).bind G = if okx x 12 = true then G (T (363) x.toNatClampNeg) else none := b_gi (show shapes[363]? = some (.inr (0, 12)) by decide +kernel) (by decide)
theorem z363_s {T : Nat → Nat → Int32} {P : Nat → Nat → Nat} {i pc : Nat} {L S : List Value} {x y : Int32} : (putI (H T P)[363]? 0 x y).bind (fun c => X i pc L S ((H T P).set (363) c)) = if okx x 12 = true then X i pc L S (H (up1 T (363) x.toNatClampNeg y) P) else none := g_si (show shapes[363]? = some (.inr (0, 12)) by decide +kernel) (by decide)
theorem z364_g {T : Nat → Nat → Int32} {P : Nat → Nat → Nat} {x : Int32} {G : Int32 → Option (Option Value × List hC)} : (getI (H T P)[364]? (364) 0 x).bind G = if okx x 12 = true then G (T (364) x.toNatClampNeg) else none := b_gi (show shapes[364]? = some (.inr (0, 12)) by decide +kernel) (by decide)
theorem z364_s {T : Nat → Nat → Int32} {P : Nat → Nat → Nat} {i pc : Nat} {L S : List Value} {x y : Int32} : (putI (H T P)[364]? 0 x y).bind (fun c => X i pc L S ((H T P).set (364) c)) = if okx x 12 = true then X i pc L S (H (up1 T (364) x.toNatClampNeg y) P) else none := g_si (show shapes[364]? = some (.inr (0, 12)) by decide +kernel) (by decide)
theorem z365_g {T : Nat → Nat → Int32} {P : Nat → Nat → Nat} {x : Int32} {G : Int32 → Option (Option Value × List hC)} : (getI (H T P)[365]? (365) 0 x).bind G = if okx x 12 = true then G (T (365) x.toNatClampNeg) else none := b_gi (show shapes[365]? = some (.inr (0, 12)) by decide +kernel) (by decide)
theorem z365_s {T : Nat → Nat → Int32} {P : Nat → Nat → Nat} {i pc : Nat} {L S : List Value} {x y : Int32} : (putI (H T P)[365]? 0 x y).bind (fun c => X i pc L S ((H T P).set (365) c)) = if okx x 12 = true then X i pc L S (H (up1 T (365) x.toNatClampNeg y) P) else none := g_si (show shapes[365]? = some (.inr (0, 12)) by decide +kernel) (by decide)
theorem z366_o {T : Nat → Nat → Int32} {P : Nat → Nat → Nat} : isO (H T P)[366]? 11 = true := g_o (show shapes[366]? = some (.inl (11, [none, some 367, some 368, some 369, none, some 370, none, some 371, none, none, none, some 372, none])) by decide +kernel)
theorem z366_0 {T : Nat → Nat → Int32} {P : Nat → Nat → Nat} {F : Value → Option (Option Value × List hC)} : (getF (H T P)[366]? 11 0).bind F = F (.int (T (366) 0)) := b_fi (show shapes[366]? = some (.inl (11, [none, some 367, some 368, some 369, none, some 370, none, some 371, none, none, none, some 372, none])) by decide +kernel) rfl
theorem z366_0p {T : Nat → Nat → Int32} {P : Nat → Nat → Nat} {i pc : Nat} {L S : List Value} {v : Int32} : (putF (H T P)[366]? 11 0 (.int v)).bind (fun c => X i pc L S ((H T P).set (366) c)) = X i pc L S (H (up1 T (366) 0 v) P) := g_pi (show shapes[366]? = some (.inl (11, [none, some 367, some 368, some 369, none, some 370, none, some 371, none, none, none, some 372, none])) by decide +kernel) rfl rfl
theorem z366_1 {T : Nat → Nat → Int32} {P : Nat → Nat → Nat} {F : Value → Option (Option Value × List hC)} : (getF (H T P)[366]? 11 1).bind F = F (.ref (367)) := b_fr (show shapes[366]? = some (.inl (11, [none, some 367, some 368, some 369, none, some 370, none, some 371, none, none, none, some 372, none])) by decide +kernel) rfl
theorem z366_2 {T : Nat → Nat → Int32} {P : Nat → Nat → Nat} {F : Value → Option (Option Value × List hC)} : (getF (H T P)[366]? 11 2).bind F = F (.ref (368)) := b_fr (show shapes[366]? = some (.inl (11, [none, some 367, some 368, some 369, none, some 370, none, some 371, none, none, none, some 372, none])) by decide +kernel) rfl
theorem z366_3 {T : Nat → Nat → Int32} {P : Nat → Nat → Nat} {F : Value → Option (Option Value × List hC)} : (getF (H T P)[366]? 11 3).bind F = F (.ref (369)) := b_fr (show shapes[366]? = some (.inl (11, [none, some 367, some 368, some 369, none, some 370, none, some 371, none, none, none, some 372, none])) by decide +kernel) rfl
theorem z366_4 {T : Nat → Nat → Int32} {P : Nat → Nat → Nat} {F : Value → Option (Option Value × List hC)} : (getF (H T P)[366]? 11 4).bind F = F (.int (T (366) 4)) := b_fi (show shapes[366]? = some (.inl (11, [none, some 367, some 368, some 369, none, some 370, none, some 371, none, none, none, some 372, none])) by decide +kernel) rfl
theorem z366_4p {T : Nat → Nat → Int32} {P : Nat → Nat → Nat} {i pc : Nat} {L S : List Value} {v : Int32} : (putF (H T P)[366]? 11 4 (.int v)).bind (fun c => X i pc L S ((H T P).set (366) c)) = X i pc L S (H (up1 T (366) 4 v) P) := g_pi (show shapes[366]? = some (.inl (11, [none, some 367, some 368, some 369, none, some 370, none, some 371, none, none, none, some 372, none])) by decide +kernel) rfl rfl
theorem z366_5 {T : Nat → Nat → Int32} {P : Nat → Nat → Nat} {F : Value → Option (Option Value × List hC)} : (getF (H T P)[366]? 11 5).bind F = F (.ref (370)) := b_fr (show shapes[366]? = some (.inl (11, [none, some 367, some 368, some 369, none, some 370, none, some 371, none, none, none, some 372, none])) by decide +kernel) rfl
theorem z366_6 {T : Nat → Nat → Int32} {P : Nat → Nat → Nat} {F : Value → Option (Option Value × List hC)} : (getF (H T P)[366]? 11 6).bind F = F (.int (T (366) 6)) := b_fi (show shapes[366]? = some (.inl (11, [none, some 367, some 368, some 369, none, some 370, none, some 371, none, none, none, some 372, none])) by decide +kernel) rfl
theorem z366_6p0 {T : Nat → Nat → Int32} {P : Nat → Nat → Nat} {i pc : Nat} {L S : List Value} : (putF (H T P)[366]? 11 6 (.int 0)).bind (fun c => X i pc L S ((H T P).set (366) c)) = X i pc L S (H (up1 T (366) 6 0) P) := g_pi (show shapes[366]? = some (.inl (11, [none, some 367, some 368, some 369, none, some 370, none, some 371, none, none, none, some 372, none])) by decide +kernel) rfl (by decide)
theorem z366_6p1 {T : Nat → Nat → Int32} {P : Nat → Nat → Nat} {i pc : Nat} {L S : List Value} : (putF (H T P)[366]? 11 6 (.int 1)).bind (fun c => X i pc L S ((H T P).set (366) c)) = X i pc L S (H (up1 T (366) 6 1) P) := g_pi (show shapes[366]? = some (.inl (11, [none, some 367, some 368, some 369, none, some 370, none, some 371, none, none, none, some 372, none])) by decide +kernel) rfl (by decide)
theorem z366_7 {T : Nat → Nat → Int32} {P : Nat → Nat → Nat} {F : Value → Option (Option Value × List hC)} : (getF (H T P)[366]? 11 7).bind F = F (.ref (371)) := b_fr (show shapes[366]? = some (.inl (11, [none, some 367, some 368, some 369, none, some 370, none, some 371, none, none, none, some 372, none])) by decide +kernel) rfl
theorem z366_8 {T : Nat → Nat → Int32} {P : Nat → Nat → Nat} {F : Value → Option (Option Value × List hC)} : (getF (H T P)[366]? 11 8).bind F = F (.int (T (366) 8)) := b_fi (show shapes[366]? = some (.inl (11, [none, some 367, some 368, some 369, none, some 370, none, some 371, none, none, none, some 372, none])) by decide +kernel) rfl
theorem z366_8p {T : Nat → Nat → Int32} {P : Nat → Nat → Nat} {i pc : Nat} {L S : List Value} {v : Int32} : (putF (H T P)[366]? 11 8 (.int v)).bind (fun c => X i pc L S ((H T P).set (366) c)) = X i pc L S (H (up1 T (366) 8 v) P) := g_pi (show shapes[366]? = some (.inl (11, [none, some 367, some 368, some 369, none, some 370, none, some 371, none, none, none, some 372, none])) by decide +kernel) rfl rfl
theorem z366_9 {T : Nat → Nat → Int32} {P : Nat → Nat → Nat} {F : Value → Option (Option Value × List hC)} : (getF (H T P)[366]? 11 9).bind F = F (.int (T (366) 9)) := b_fi (show shapes[366]? = some (.inl (11, [none, some 367, some 368, some 369, none, some 370, none, some 371, none, none, none, some 372, none])) by decide +kernel) rfl
theorem z366_9p {T : Nat → Nat → Int32} {P : Nat → Nat → Nat} {i pc : Nat} {L S : List Value} {v : Int32} : (putF (H T P)[366]? 11 9 (.int v)).bind (fun c => X i pc L S ((H T P).set (366) c)) = X i pc L S (H (up1 T (366) 9 v) P) := g_pi (show shapes[366]? = some (.inl (11, [none, some 367, some 368, some 369, none, some 370, none, some 371, none, none, none, some 372, none])) by decide +kernel) rfl rfl
theorem z366_10 {T : Nat → Nat → Int32} {P : Nat → Nat → Nat} {F : Value → Option (Option Value × List hC)} : (getF (H T P)[366]? 11 10).bind F = F (.int (T (366) 10)) := b_fi (show shapes[366]? = some (.inl (11, [none, some 367, some 368, some 369, none, some 370, none, some 371, none, none, none, some 372, none])) by decide +kernel) rfl
theorem z366_10p0 {T : Nat → Nat → Int32} {P : Nat → Nat → Nat} {i pc : Nat} {L S : List Value} : (putF (H T P)[366]? 11 10 (.int 0)).bind (fun c => X i pc L S ((H T P).set (366) c)) = X i pc L S (H (up1 T (366) 10 0) P) := g_pi (show shapes[366]? = some (.inl (11, [none, some 367, some 368, some 369, none, some 370, none, some 371, none, none, none, some 372, none])) by decide +kernel) rfl (by decide)
theorem z366_10p1 {T : Nat → Nat → Int32} {P : Nat → Nat → Nat} {i pc : Nat} {L S : List Value} : (putF (H T P)[366]? 11 10 (.int 1)).bind (fun c => X i pc L S ((H T P).set (366) c)) = X i pc L S (H (up1 T (366) 10 1) P) := g_pi (show shapes[366]? = some (.inl (11, [none, some 367, some 368, some 369, none, some 370, none, some 371, none, none, none, some 372, none])) by decide +kernel) rfl (by decide)
theorem z366_11 {T : Nat → Nat → Int32} {P : Nat → Nat → Nat} {F : Value → Option (Option Value × List hC)} : (getF (H T P)[366]? 11 11).bind F = F (.ref (372)) := b_fr (show shapes[366]? = some (.inl (11, [none, some 367, some 368, some 369, none, some 370, none, some 371, none, none, none, some 372, none])) by decide +kernel) rfl
theorem z366_12 {T : Nat → Nat → Int32} {P : Nat → Nat → Nat} {F : Value → Option (Option Value × List hC)} : (getF (H T P)[366]? 11 12).bind F = F (.int (T (366) 12)) := b_fi (show shapes[366]? = some (.inl (11, [none, some 367, some 368, some 369, none, some 370, none, some 371, none, none, none, some 372, none])) by decide +kernel) rfl
theorem z366_12p {T : Nat → Nat → Int32} {P : Nat → Nat → Nat} {i pc : Nat} {L S : List Value} {v : Int32} : (putF (H T P)[366]? 11 12 (.int v)).bind (fun c => X i pc L S ((H T P).set (366) c)) = X i pc L S (H (up1 T (366) 12 v) P) := g_pi (show shapes[366]? = some (.inl (11, [none, some 367, some 368, some 369, none, some 370, none, some 371, none, none, none, some 372, none])) by decide +kernel) rfl rfl
theorem z367_g {T : Nat → Nat → Int32} {P : Nat → Nat → Nat} {x : Int32} {G : Int32 → Option (Option Value × List hC)} : (getI (H T P)[367]? (367) 0 x).bind G = if okx x 912 = true then G (T (367) x.toNatClampNeg) else none := b_gi (show shapes[367]? = some (.inr (0, 912)) by decide +kernel) (by decide)
theorem z367_s {T : Nat → Nat → Int32} {P : Nat → Nat → Nat} {i pc : Nat} {L S : List Value} {x y : Int32} : (putI (H T P)[367]? 0 x y).bind (fun c => X i pc L S ((H T P).set (367) c)) = if okx x 912 = true then X i pc L S (H (up1 T (367) x.toNatClampNeg y) P) else none := g_si (show shapes[367]? = some (.inr (0, 912)) by decide +kernel) (by decide)
theorem z368_g {T : Nat → Nat → Int32} {P : Nat → Nat → Nat} {x : Int32} {G : Int32 → Option (Option Value × List hC)} : (getI (H T P)[368]? (368) 0 x).bind G = if okx x 912 = true then G (T (368) x.toNatClampNeg) else none := b_gi (show shapes[368]? = some (.inr (0, 912)) by decide +kernel) (by decide)
theorem z368_s {T : Nat → Nat → Int32} {P : Nat → Nat → Nat} {i pc : Nat} {L S : List Value} {x y : Int32} : (putI (H T P)[368]? 0 x y).bind (fun c => X i pc L S ((H T P).set (368) c)) = if okx x 912 = true then X i pc L S (H (up1 T (368) x.toNatClampNeg y) P) else none := g_si (show shapes[368]? = some (.inr (0, 912)) by decide +kernel) (by decide)
theorem z369_g {T : Nat → Nat → Int32} {P : Nat → Nat → Nat} {x : Int32} {G : Int32 → Option (Option Value × List hC)} : (getI (H T P)[369]? (369) 0 x).bind G = if okx x 3648 = true then G (T (369) x.toNatClampNeg) else none := b_gi (show shapes[369]? = some (.inr (0, 3648)) by decide +kernel) (by decide)
theorem z369_s {T : Nat → Nat → Int32} {P : Nat → Nat → Nat} {i pc : Nat} {L S : List Value} {x y : Int32} : (putI (H T P)[369]? 0 x y).bind (fun c => X i pc L S ((H T P).set (369) c)) = if okx x 3648 = true then X i pc L S (H (up1 T (369) x.toNatClampNeg y) P) else none := g_si (show shapes[369]? = some (.inr (0, 3648)) by decide +kernel) (by decide)
theorem z370_g {T : Nat → Nat → Int32} {P : Nat → Nat → Nat} {x : Int32} {G : Int32 → Option (Option Value × List hC)} : (getI (H T P)[370]? (370) 0 x).bind G = if okx x 912 = true then G (T (370) x.toNatClampNeg) else none := b_gi (show shapes[370]? = some (.inr (0, 912)) by decide +kernel) (by decide)
theorem z370_s {T : Nat → Nat → Int32} {P : Nat → Nat → Nat} {i pc : Nat} {L S : List Value} {x y : Int32} : (putI (H T P)[370]? 0 x y).bind (fun c => X i pc L S ((H T P).set (370) c)) = if okx x 912 = true then X i pc L S (H (up1 T (370) x.toNatClampNeg y) P) else none := g_si (show shapes[370]? = some (.inr (0, 912)) by decide +kernel) (by decide)
theorem z371_g {T : Nat → Nat → Int32} {P : Nat → Nat → Nat} {x : Int32} {G : Int32 → Option (Option Value × List hC)} : (getI (H T P)[371]? (371) 0 x).bind G = if okx x 60 = true then G (T (371) x.toNatClampNeg) else none := b_gi (show shapes[371]? = some (.inr (0, 60)) by decide +kernel) (by decide)
theorem z371_s {T : Nat → Nat → Int32} {P : Nat → Nat → Nat} {i pc : Nat} {L S : List Value} {x y : Int32} : (putI (H T P)[371]? 0 x y).bind (fun c => X i pc L S ((H T P).set (371) c)) = if okx x 60 = true then X i pc L S (H (up1 T (371) x.toNatClampNeg y) P) else none := g_si (show shapes[371]? = some (.inr (0, 60)) by decide +kernel) (by decide)
theorem z372_g {T : Nat → Nat → Int32} {P : Nat → Nat → Nat} {x : Int32} {G : Int32 → Option (Option Value × List hC)} : (getI (H T P)[372]? (372) 0 x).bind G = if okx x 64 = true then G (T (372) x.toNatClampNeg) else none := b_gi (show shapes[372]? = some (.inr (0, 64)) by decide +kernel) (by decide)
theorem z372_s {T : Nat → Nat → Int32} {P : Nat → Nat → Nat} {i pc : Nat} {L S : List Value} {x y : Int32} : (putI (H T P)[372]? 0 x y).bind (fun c => X i pc L S ((H T P).set (372) c)) = if okx x 64 = true then X i pc L S (H (up1 T (372) x.toNatClampNeg y) P) else none := g_si (show shapes[372]? = some (.inr (0, 64)) by decide +kernel) (by decide)
end
section
/-! small numbers, loops, and the baskets' own methods -/
theorem okx_nI {i n : Nat} (h : i < n) (hn : n < 2 ^ 31) : okx (nI i) n = true := by
  simp only [okx, Bool.and_eq_true, decide_eq_true_eq]
  exact ⟨nI_pos' (by omega), by rw [nI_clamp (by omega)]; exact h⟩
theorem nI_lit (n : Nat) : (OfNat.ofNat n : Int32) = nI n := rfl
theorem cl0 : (0 : Int32).toNatClampNeg = 0 := by decide
theorem cl1 : (1 : Int32).toNatClampNeg = 1 := by decide
theorem cl2 : (2 : Int32).toNatClampNeg = 2 := by decide
theorem cl3 : (3 : Int32).toNatClampNeg = 3 := by decide
theorem cl4 : (4 : Int32).toNatClampNeg = 4 := by decide
/-- a loop whose turns change nothing but the state: its first state has the answer of its last -/
theorem loop_up {α : Type} (F : Nat → α) (k : Nat) (hs : ∀ i, i < k → F i = F (i + 1)) : F 0 = F k := by
  induction k with
  | zero => rfl
  | succ k ih => rw [ih (fun i hi => hs i (by omega)), hs k (by omega)]
theorem loop_at {α : Type} (F : Nat → α) (k j : Nat) (hj : j ≤ k) (hs : ∀ i, i < k → F i = F (i + 1)) : F j = F k := by
  have h1 := loop_up F j (fun i hi => hs i (by omega))
  have h2 := loop_up F k hs
  rw [← h1, h2]
/-- minutes of a piece -/
def mnI (s : Int32) (k : Nat) : Int32 := match k with
  | 0 => 5 + s
  | 1 => 4 + s
  | 2 => 6
  | _ => 8
def dgI (s : Int32) (k : Nat) : Int32 := match k with
  | 0 => s
  | 1 => s
  | _ => 0
section BK
variable {T : Nat → Nat → Int32} {P : Nat → Nat → Nat} {b : Nat}
theorem c_takesStarch (k : Nat) (hk : k < 4) : X 4 0 [.int (nI k)] [] (H T P) = some (some (.int (if k < 2 then 1 else 0)), H T P) := by
  match k, hk with
  | 0, _ => simp +decide only [x4_0, x4_3, x4_4, x4_5, x4_8, x4_9, x4_12, x4_13, aft_some, aft_void, Option.bind_some, Option.toList_some, Option.toList_none, List.cons_append, List.nil_append, if_true, if_false, ↓reduceIte, eq_self, show nI 0 = 0 from rfl, ↓b_st (show (2 : Nat) < 4 by decide), cl0, sArr]
  | 1, _ => simp +decide only [x4_0, x4_3, x4_4, x4_5, x4_8, x4_9, x4_12, x4_13, aft_some, aft_void, Option.bind_some, Option.toList_some, Option.toList_none, List.cons_append, List.nil_append, if_true, if_false, ↓reduceIte, eq_self, show nI 1 = 1 from rfl, ↓b_st (show (2 : Nat) < 4 by decide), cl1, sArr]
  | 2, _ => simp +decide only [x4_0, x4_3, x4_4, x4_5, x4_8, x4_9, x4_12, x4_13, aft_some, aft_void, Option.bind_some, Option.toList_some, Option.toList_none, List.cons_append, List.nil_append, if_true, if_false, ↓reduceIte, eq_self, show nI 2 = 2 from rfl, ↓b_st (show (2 : Nat) < 4 by decide), cl2, sArr]
  | 3, _ => simp +decide only [x4_0, x4_3, x4_4, x4_5, x4_8, x4_9, x4_12, x4_13, aft_some, aft_void, Option.bind_some, Option.toList_some, Option.toList_none, List.cons_append, List.nil_append, if_true, if_false, ↓reduceIte, eq_self, show nI 3 = 3 from rfl, ↓b_st (show (2 : Nat) < 4 by decide), cl3, sArr]
theorem c_takesHanger (k : Nat) (hk : k < 4) : X 5 0 [.int (nI k)] [] (H T P) = some (some (.int (if k < 3 then 1 else 0)), H T P) := by
  match k, hk with
  | 0, _ => simp +decide only [x5_0, x5_3, x5_4, x5_5, x5_8, x5_9, x5_12, x5_13, aft_some, aft_void, Option.bind_some, Option.toList_some, Option.toList_none, List.cons_append, List.nil_append, if_true, if_false, ↓reduceIte, eq_self, show nI 0 = 0 from rfl, ↓b_st (show (3 : Nat) < 4 by decide), cl0, sArr]
  | 1, _ => simp +decide only [x5_0, x5_3, x5_4, x5_5, x5_8, x5_9, x5_12, x5_13, aft_some, aft_void, Option.bind_some, Option.toList_some, Option.toList_none, List.cons_append, List.nil_append, if_true, if_false, ↓reduceIte, eq_self, show nI 1 = 1 from rfl, ↓b_st (show (3 : Nat) < 4 by decide), cl1, sArr]
  | 2, _ => simp +decide only [x5_0, x5_3, x5_4, x5_5, x5_8, x5_9, x5_12, x5_13, aft_some, aft_void, Option.bind_some, Option.toList_some, Option.toList_none, List.cons_append, List.nil_append, if_true, if_false, ↓reduceIte, eq_self, show nI 2 = 2 from rfl, ↓b_st (show (3 : Nat) < 4 by decide), cl2, sArr]
  | 3, _ => simp +decide only [x5_0, x5_3, x5_4, x5_5, x5_8, x5_9, x5_12, x5_13, aft_some, aft_void, Option.bind_some, Option.toList_some, Option.toList_none, List.cons_append, List.nil_append, if_true, if_false, ↓reduceIte, eq_self, show nI 3 = 3 from rfl, ↓b_st (show (3 : Nat) < 4 by decide), cl3, sArr]
theorem c_degree (hb : isK b) (k : Nat) (hk : k < 4) : X 6 0 [.ref b, .int (nI k)] [] (H T P) = some (some (.int (dgI (T b 3) k)), H T P) := by
  match k, hk with
  | 0, hk => simp +decide only [x6_0, x6_1, x6_4, x6_7, x6_8, x6_11, x6_14, x6_15, aft_some, aft_void, Option.bind_some, Option.toList_some, Option.toList_none, List.cons_append, List.nil_append, if_true, if_false, ↓reduceIte, eq_self, c_takesStarch 0 hk, fK_o hb, ↓fK_0 hb, ↓fK_0p hb, ↓fK_1 hb, ↓fK_1p hb, ↓fK_2 hb, ↓fK_2p hb, ↓fK_3 hb, ↓fK_3p hb, ↓fK_4 hb, ↓fK_4p hb, ↓fK_5 hb, ↓fK_6 hb, ↓fK_7 hb, ↓fK1_g hb, ↓fK1_s hb, ↓fK2_g hb, ↓fK2_s hb, ↓fK3_g hb, ↓fK3_s hb, dgI]
  | 1, hk => simp +decide only [x6_0, x6_1, x6_4, x6_7, x6_8, x6_11, x6_14, x6_15, aft_some, aft_void, Option.bind_some, Option.toList_some, Option.toList_none, List.cons_append, List.nil_append, if_true, if_false, ↓reduceIte, eq_self, c_takesStarch 1 hk, fK_o hb, ↓fK_0 hb, ↓fK_0p hb, ↓fK_1 hb, ↓fK_1p hb, ↓fK_2 hb, ↓fK_2p hb, ↓fK_3 hb, ↓fK_3p hb, ↓fK_4 hb, ↓fK_4p hb, ↓fK_5 hb, ↓fK_6 hb, ↓fK_7 hb, ↓fK1_g hb, ↓fK1_s hb, ↓fK2_g hb, ↓fK2_s hb, ↓fK3_g hb, ↓fK3_s hb, dgI]
  | 2, hk => simp +decide only [x6_0, x6_1, x6_4, x6_7, x6_8, x6_11, x6_14, x6_15, aft_some, aft_void, Option.bind_some, Option.toList_some, Option.toList_none, List.cons_append, List.nil_append, if_true, if_false, ↓reduceIte, eq_self, c_takesStarch 2 hk, fK_o hb, ↓fK_0 hb, ↓fK_0p hb, ↓fK_1 hb, ↓fK_1p hb, ↓fK_2 hb, ↓fK_2p hb, ↓fK_3 hb, ↓fK_3p hb, ↓fK_4 hb, ↓fK_4p hb, ↓fK_5 hb, ↓fK_6 hb, ↓fK_7 hb, ↓fK1_g hb, ↓fK1_s hb, ↓fK2_g hb, ↓fK2_s hb, ↓fK3_g hb, ↓fK3_s hb, dgI]
  | 3, hk => simp +decide only [x6_0, x6_1, x6_4, x6_7, x6_8, x6_11, x6_14, x6_15, aft_some, aft_void, Option.bind_some, Option.toList_some, Option.toList_none, List.cons_append, List.nil_append, if_true, if_false, ↓reduceIte, eq_self, c_takesStarch 3 hk, fK_o hb, ↓fK_0 hb, ↓fK_0p hb, ↓fK_1 hb, ↓fK_1p hb, ↓fK_2 hb, ↓fK_2p hb, ↓fK_3 hb, ↓fK_3p hb, ↓fK_4 hb, ↓fK_4p hb, ↓fK_5 hb, ↓fK_6 hb, ↓fK_7 hb, ↓fK1_g hb, ↓fK1_s hb, ↓fK2_g hb, ↓fK2_s hb, ↓fK3_g hb, ↓fK3_s hb, dgI]
theorem c_minutes (hb : isK b) (k : Nat) (hk : k < 4) : X 7 0 [.ref b, .int (nI k)] [] (H T P) = some (some (.int (mnI (T b 3) k)), H T P) := by
  simp only [x7_0, x7_3, x7_4, x7_5, x7_8, x7_9, x7_10, x7_11, x7_14, x7_15, x7_16, aft_some, aft_void, Option.bind_some, Option.toList_some, Option.toList_none, List.cons_append, List.nil_append, if_true, if_false, ↓reduceIte, eq_self, fK_o hb, ↓fK_0 hb, ↓fK_0p hb, ↓fK_1 hb, ↓fK_1p hb, ↓fK_2 hb, ↓fK_2p hb, ↓fK_3 hb, ↓fK_3p hb, ↓fK_4 hb, ↓fK_4p hb, ↓fK_5 hb, ↓fK_6 hb, ↓fK_7 hb, ↓fK1_g hb, ↓fK1_s hb, ↓fK2_g hb, ↓fK2_s hb, ↓fK3_g hb, ↓fK3_s hb, ↓b_st (show (0 : Nat) < 4 by decide), ↓b_st (show (2 : Nat) < 4 by decide), okx_nI hk (show (4 : Nat) < 2 ^ 31 by decide), nI_clamp (show k < 2 ^ 31 by omega)]
  match k, hk with
  | 0, _ => simp only [sArr, mnI, Int32.one_mul]
  | 1, _ => simp only [sArr, mnI, Int32.one_mul]
  | 2, _ => simp only [sArr, mnI, Int32.zero_mul, Int32.add_zero]
  | 3, _ => simp only [sArr, mnI, Int32.zero_mul, Int32.add_zero]
/-- pieces of a kind that are neither ironed nor missed -/
abbrev opI (T : Nat → Nat → Int32) (b k : Nat) : Int32 := T (b + 1) k - T (b + 2) k - T (b + 3) k
theorem c_open (hb : isK b) (k : Nat) (hk : k < 4) : X 8 0 [.ref b, .int (nI k)] [] (H T P) = some (some (.int (opI T b k)), H T P) := by
  simp only [x8_0, x8_1, x8_4, x8_5, x8_6, x8_7, x8_10, x8_11, x8_12, x8_13, x8_14, x8_17, x8_18, x8_19, x8_20, aft_some, aft_void, Option.bind_some, Option.toList_some, Option.toList_none, List.cons_append, List.nil_append, if_true, if_false, ↓reduceIte, eq_self, fK_o hb, ↓fK_0 hb, ↓fK_0p hb, ↓fK_1 hb, ↓fK_1p hb, ↓fK_2 hb, ↓fK_2p hb, ↓fK_3 hb, ↓fK_3p hb, ↓fK_4 hb, ↓fK_4p hb, ↓fK_5 hb, ↓fK_6 hb, ↓fK_7 hb, ↓fK1_g hb, ↓fK1_s hb, ↓fK2_g hb, ↓fK2_s hb, ↓fK3_g hb, ↓fK3_s hb, okx_nI hk (show (4 : Nat) < 2 ^ 31 by decide), nI_clamp (show k < 2 ^ 31 by omega)]
def omI (T : Nat → Nat → Int32) (b : Nat) : Int32 := 0 + opI T b 0 * mnI (T b 3) 0 + opI T b 1 * mnI (T b 3) 1 + opI T b 2 * mnI (T b 3) 2 + opI T b 3 * mnI (T b 3) 3
theorem c_openMinutes (hb : isK b) : X 9 0 [.ref b, .long 0, .long 0] [] (H T P) = some (some (.int (omI T b)), H T P) := by
  have e0 := c_open (T := T) (P := P) hb 0 (by decide)
  have e1 := c_open (T := T) (P := P) hb 1 (by decide)
  have e2 := c_open (T := T) (P := P) hb 2 (by decide)
  have e3 := c_open (T := T) (P := P) hb 3 (by decide)
  have m0 := c_minutes (T := T) (P := P) hb 0 (by decide)
  have m1 := c_minutes (T := T) (P := P) hb 1 (by decide)
  have m2 := c_minutes (T := T) (P := P) hb 2 (by decide)
  have m3 := c_minutes (T := T) (P := P) hb 3 (by decide)
  simp only [show nI 0 = 0 from rfl, show nI 1 = 1 from rfl, show nI 2 = 2 from rfl, show nI 3 = 3 from rfl] at e0 e1 e2 e3 m0 m1 m2 m3
  simp +decide only [x9_0, x9_1, x9_2, x9_3, x9_4, x9_5, x9_6, x9_9, x9_10, x9_11, x9_12, x9_15, x9_16, x9_17, x9_20, x9_21, x9_22, x9_23, x9_26, x9_29, x9_30, aft_some, aft_void, Option.bind_some, Option.toList_some, Option.toList_none, List.cons_append, List.nil_append, if_true, if_false, ↓reduceIte, eq_self, fK_o hb, e0, e1, e2, e3, m0, m1, m2, m3, Int32.reduceAdd]
  rfl
end BK
end
section
/-! the baskets' own methods, the rest -/
theorem nl0 : nI 0 = 0 := rfl
theorem nl1 : nI 1 = 1 := rfl
theorem nl2 : nI 2 = 2 := rfl
theorem nl3 : nI 3 = 3 := rfl
/-- the baskets' cells are apart -/
theorem isK_apart {b c : Nat} (hb : isK b) (hc : isK c) (h : b ≠ c) : ∀ x y : Nat, x < 4 → y < 4 → b + x ≠ c + y := by
  obtain ⟨o, i, ho, hi, rfl⟩ := hb
  obtain ⟨q, j, hq, hj, rfl⟩ := hc
  intro x y hx hy
  rcases ho with rfl | rfl | rfl | rfl | rfl | rfl | rfl <;> rcases hq with rfl | rfl | rfl | rfl | rfl | rfl | rfl <;> omega
def dgt (f : Nat → Int32) : Int32 := (((0 * 10 + f 0) * 10 + f 1) * 10 + f 2) * 10 + f 3
def nhI (f : Nat → Int32) : Int32 := 0 + f 0 + f 1 + f 2
/-- ready: all its pieces are ironed -/
def rdP (T : Nat → Nat → Int32) (b : Nat) : Prop := ¬ T (b + 2) 0 < T (b + 1) 0 ∧ ¬ T (b + 2) 1 < T (b + 1) 1 ∧ ¬ T (b + 2) 2 < T (b + 1) 2 ∧ ¬ T (b + 2) 3 < T (b + 1) 3
noncomputable def rdI (T : Nat → Nat → Int32) (b : Nat) : Int32 := if T (b + 2) 0 < T (b + 1) 0 then 0 else if T (b + 2) 1 < T (b + 1) 1 then 0 else if T (b + 2) 2 < T (b + 1) 2 then 0 else if T (b + 2) 3 < T (b + 1) 3 then 0 else 1
def prI (T : Nat → Nat → Int32) (b : Nat) : Int32 := 0 + T (b + 1) 0 * ((mnI (T b 3) 0 + 1) / 2) + T (b + 1) 1 * ((mnI (T b 3) 1 + 1) / 2) + T (b + 1) 2 * ((mnI (T b 3) 2 + 1) / 2) + T (b + 1) 3 * ((mnI (T b 3) 3 + 1) / 2)
/-- the lowest kind that can be ironed now; g: is a hanger there -/
def lkI (T : Nat → Nat → Int32) (b : Nat) (g : Int32) : Int32 := if 0 < opI T b 0 ∧ ¬ g = 0 then 0 else if 0 < opI T b 1 ∧ ¬ g = 0 then 1 else if 0 < opI T b 2 ∧ ¬ g = 0 then 2 else if 0 < opI T b 3 then 3 else -5
section BK2
variable {T : Nat → Nat → Int32} {P : Nat → Nat → Nat} {a b : Nat} {h : List hC}
theorem c_asDigits (hs : shapes[a]? = some (.inr (0, 4))) : X 3 0 [.ref a, .long 0, .long 0] [] (H T P) = some (some (.int (dgt (T a))), H T P) := by
  simp +decide only [x3_0, x3_1, x3_2, x3_3, x3_4, x3_5, x3_6, x3_9, x3_10, x3_12, x3_13, x3_14, x3_15, x3_16, x3_17, x3_18, x3_21, x3_24, x3_25, aft_some, aft_void, Option.bind_some, Option.toList_some, Option.toList_none, List.cons_append, List.nil_append, if_true, if_false, ↓reduceIte, eq_self, ↓b_gi hs (show 0 < 2 by decide), cl0, cl1, cl2, cl3, Int32.reduceAdd]
  rfl
theorem c_needing (hs : shapes[a]? = some (.inr (0, 4))) : X 14 0 [.ref a, .long 0, .long 0] [] (H T P) = some (some (.int (nhI (T a))), H T P) := by
  simp +decide only [x14_0, x14_1, x14_2, x14_3, x14_4, x14_5, x14_6, x14_9, x14_10, x14_13, x14_14, x14_15, x14_16, x14_17, x14_18, x14_19, x14_20, x14_21, x14_24, x14_27, x14_28, aft_some, aft_void, Option.bind_some, Option.toList_some, Option.toList_none, List.cons_append, List.nil_append, if_true, if_false, ↓reduceIte, eq_self, ↓b_st (show (3 : Nat) < 4 by decide), ↓b_gi hs (show 0 < 2 by decide), cl0, cl1, cl2, cl3, Int32.reduceAdd, sArr]
  simp only [nhI, Int32.one_mul, Int32.zero_mul, Int32.add_zero]
theorem c_isReady (hb : isK b) : X 12 0 [.ref b, .long 0] [] (H T P) = some (some (.int (rdI T b)), H T P) := by
  simp +decide only [x12_0, x12_1, x12_2, x12_3, x12_4, x12_7, x12_8, x12_11, x12_12, x12_13, x12_14, x12_17, x12_18, x12_19, x12_22, x12_23, x12_24, x12_27, x12_30, x12_31, aft_some, aft_void, Option.bind_some, Option.toList_some, Option.toList_none, List.cons_append, List.nil_append, if_true, if_false, ↓reduceIte, eq_self, fK_o hb, ↓fK_0 hb, ↓fK_0p hb, ↓fK_1 hb, ↓fK_1p hb, ↓fK_2 hb, ↓fK_2p hb, ↓fK_3 hb, ↓fK_3p hb, ↓fK_4 hb, ↓fK_4p hb, ↓fK_5 hb, ↓fK_6 hb, ↓fK_7 hb, ↓fK1_g hb, ↓fK1_s hb, ↓fK2_g hb, ↓fK2_s hb, ↓fK3_g hb, ↓fK3_s hb, cl0, cl1, cl2, cl3, Int32.reduceAdd, or_true, true_or]
  unfold rdI
  repeat' split
  all_goals rfl
theorem rdI_1 : rdI T b = 1 ↔ rdP T b := by
  unfold rdI rdP
  repeat' split
  all_goals simp_all
theorem rdI_01 : rdI T b = 0 ∨ rdI T b = 1 := by
  unfold rdI
  repeat' split
  all_goals simp
theorem c_price (hb : isK b) : X 13 0 [.ref b, .long 0, .long 0] [] (H T P) = some (some (.int (prI T b)), H T P) := by
  have m0 := c_minutes (T := T) (P := P) hb 0 (by decide)
  have m1 := c_minutes (T := T) (P := P) hb 1 (by decide)
  have m2 := c_minutes (T := T) (P := P) hb 2 (by decide)
  have m3 := c_minutes (T := T) (P := P) hb 3 (by decide)
  simp only [nl0, nl1, nl2, nl3] at m0 m1 m2 m3
  simp +decide only [x13_0, x13_1, x13_2, x13_3, x13_4, x13_5, x13_6, x13_9, x13_10, x13_11, x13_14, x13_15, x13_16, x13_17, x13_18, x13_21, x13_22, x13_23, x13_24, x13_25, x13_26, x13_27, x13_28, x13_31, x13_34, x13_35, aft_some, aft_void, Option.bind_some, Option.toList_some, Option.toList_none, List.cons_append, List.nil_append, if_true, if_false, ↓reduceIte, eq_self, fK_o hb, ↓fK_0 hb, ↓fK_0p hb, ↓fK_1 hb, ↓fK_1p hb, ↓fK_2 hb, ↓fK_2p hb, ↓fK_3 hb, ↓fK_3p hb, ↓fK_4 hb, ↓fK_4p hb, ↓fK_5 hb, ↓fK_6 hb, ↓fK_7 hb, ↓fK1_g hb, ↓fK1_s hb, ↓fK2_g hb, ↓fK2_s hb, ↓fK3_g hb, ↓fK3_s hb, m0, m1, m2, m3, cl0, cl1, cl2, cl3, Int32.reduceAdd]
  rfl
theorem c_lowest (hb : isK b) (g : Int32) : X 10 0 [.ref b, .int g, .long 0] [] (H T P) = some (some (.int (lkI T b g)), H T P) := by
  have e0 := c_open (T := T) (P := P) hb 0 (by decide)
  have e1 := c_open (T := T) (P := P) hb 1 (by decide)
  have e2 := c_open (T := T) (P := P) hb 2 (by decide)
  have e3 := c_open (T := T) (P := P) hb 3 (by decide)
  have t0 := c_takesHanger (T := T) (P := P) 0 (by decide)
  have t1 := c_takesHanger (T := T) (P := P) 1 (by decide)
  have t2 := c_takesHanger (T := T) (P := P) 2 (by decide)
  have t3 := c_takesHanger (T := T) (P := P) 3 (by decide)
  simp only [nl0, nl1, nl2, nl3] at e0 e1 e2 e3 t0 t1 t2 t3
  simp +decide only [x10_0, x10_1, x10_2, x10_3, x10_4, x10_7, x10_8, x10_9, x10_12, x10_15, x10_16, x10_19, x10_20, x10_23, x10_26, x10_27, x10_28, x10_31, x10_34, x10_36, aft_some, aft_void, Option.bind_some, Option.toList_some, Option.toList_none, List.cons_append, List.nil_append, if_true, if_false, ↓reduceIte, eq_self, fK_o hb, e0, e1, e2, e3, t0, t1, t2, t3, Int32.reduceAdd]
  unfold lkI
  by_cases hg : g = 0
  · simp only [hg, not_true_eq_false, and_false, if_false, if_true]
    by_cases h0 : 0 < opI T b 0 <;> by_cases h1 : 0 < opI T b 1 <;> by_cases h2 : 0 < opI T b 2 <;> by_cases h3 : 0 < opI T b 3 <;> simp only [h0, h1, h2, h3, if_true, if_false]
  · simp only [hg, not_false_eq_true, and_true, if_false]
    by_cases h0 : 0 < opI T b 0 <;> by_cases h1 : 0 < opI T b 1 <;> by_cases h2 : 0 < opI T b 2 <;> by_cases h3 : 0 < opI T b 3 <;> simp only [h0, h1, h2, h3, if_true, if_false]
theorem c_misses (hb : isK b) (k : Nat) (hk : k < 4) (d : Int32) : X 11 0 [.ref b, .int (nI k), .int d] [] (H T P) = some (some (.int (if 0 < T (b + 3) k ∧ dgI (T b 3) k = d then 1 else 0)), H T P) := by
  simp +decide only [x11_0, x11_1, x11_4, x11_5, x11_6, x11_9, x11_10, x11_11, x11_14, x11_15, x11_18, x11_19, x11_22, x11_23, aft_some, aft_void, Option.bind_some, Option.toList_some, Option.toList_none, List.cons_append, List.nil_append, if_true, if_false, ↓reduceIte, eq_self, fK_o hb, ↓fK_0 hb, ↓fK_0p hb, ↓fK_1 hb, ↓fK_1p hb, ↓fK_2 hb, ↓fK_2p hb, ↓fK_3 hb, ↓fK_3p hb, ↓fK_4 hb, ↓fK_4p hb, ↓fK_5 hb, ↓fK_6 hb, ↓fK_7 hb, ↓fK1_g hb, ↓fK1_s hb, ↓fK2_g hb, ↓fK2_s hb, ↓fK3_g hb, ↓fK3_s hb, c_degree hb k hk, okx_nI hk (show (4 : Nat) < 2 ^ 31 by decide), nI_clamp (show k < 2 ^ 31 by omega), or_true, true_or]
  by_cases h1 : 0 < T (b + 3) k <;> by_cases h2 : dgI (T b 3) k = d <;> simp [h1, h2]
/-- a decimal digit as the machine takes it -/
def digI (d : Int32) (k : Nat) : Int32 := match k with
  | 0 => d / 1000 - d / 1000 / 10 * 10
  | 1 => d / 100 - d / 100 / 10 * 10
  | 2 => d / 10 - d / 10 / 10 * 10
  | _ => d / 1 - d / 1 / 10 * 10
theorem c_fill (hb : isK b) (d : Int32) : ∃ T', X 2 0 [.ref b, .int d, .long 0] [] (H T P) = some (none, H T' P) ∧ (∀ q, q ≠ b + 1 → q ≠ b + 2 → q ≠ b + 3 → T' q = T q) ∧ ∀ k, k < 4 → T' (b + 1) k = digI d k ∧ T' (b + 2) k = 0 ∧ T' (b + 3) k = 0 := by
  refine ⟨_, by
    simp +decide only [x2_0, x2_1, x2_2, x2_3, x2_4, x2_7, x2_8, x2_11, x2_12, x2_13, x2_16, x2_17, x2_18, x2_19, x2_21, x2_22, x2_23, x2_24, x2_27, x2_28, x2_29, x2_30, x2_31, x2_34, x2_35, x2_36, x2_37, x2_40, x2_43, aft_some, aft_void, Option.bind_some, Option.toList_some, Option.toList_none, List.cons_append, List.nil_append, if_true, if_false, ↓reduceIte, eq_self, fK_o hb, ↓fK_0 hb, ↓fK_0p hb, ↓fK_1 hb, ↓fK_1p hb, ↓fK_2 hb, ↓fK_2p hb, ↓fK_3 hb, ↓fK_3p hb, ↓fK_4 hb, ↓fK_4p hb, ↓fK_5 hb, ↓fK_6 hb, ↓fK_7 hb, ↓fK1_g hb, ↓fK1_s hb, ↓fK2_g hb, ↓fK2_s hb, ↓fK3_g hb, ↓fK3_s hb, ↓b_st (show (1 : Nat) < 4 by decide), cl0, cl1, cl2, cl3, Int32.reduceAdd, sArr]
    rfl, ?_, ?_⟩
  · intro q h1 h2 h3
    simp only [upA, h1, h2, h3, if_false]
  · intro k hk
    match k, hk with
    | 0, _ => simp [upA, digI]
    | 1, _ => simp [upA, digI]
    | 2, _ => simp [upA, digI]
    | 3, _ => simp [upA, digI]
end BK2
end
section
/-! the parts of a state: customers, hangers out, lost pieces, board, book: their small methods -/
section PT
variable {T : Nat → Nat → Int32} {P : Nat → Nat → Nat} {o q n : Nat} {x y z : Int32}
/-- Customers.copyFrom -/
theorem c_cuCopy (ho : isB o) (hq : isB q) (hne : o ≠ q) (hn : T (q + 3) 0 = nI n) (h10 : n ≤ 10) : ∃ T', X 32 0 [.ref (o + 3), .ref (q + 3)] [] (H T P) = some (none, H T' P) ∧
    (∀ a, a ≠ o + 3 → a ≠ o + 4 → a ≠ o + 5 → a ≠ o + 6 → T' a = T a) ∧ T' (o + 3) 0 = nI n ∧ ∀ i, i < n → T' (o + 4) i = T (q + 4) i ∧ T' (o + 5) i = T (q + 5) i ∧ T' (o + 6) i = T (q + 6) i := by
  refine ⟨_, by
    simp +decide only [x32_0, x32_1, x32_1N, x32_2, x32_5, x32_8, x32_8N, x32_9, x32_12, x32_13, x32_14, x32_17, x32_18, x32_19, x32_22, x32_25, x32_25N, x32_26, x32_29, x32_30, x32_31, x32_34, x32_35, x32_36, x32_39, x32_42, x32_42N, x32_43, x32_46, x32_47, x32_48, x32_51, x32_52, x32_53, x32_56, x32_59, aft_some, aft_void, Option.bind_some, Option.toList_some, Option.toList_none, List.cons_append, List.nil_append, if_true, if_false, ↓reduceIte, eq_self, f3_o ho, ↓f3_0 ho, ↓f3_0p ho, ↓f3_1 ho, ↓f3_2 ho, ↓f3_3 ho, ↓f4_g ho, ↓f4_s ho, ↓f5_g ho, ↓f5_s ho, ↓f6_g ho, ↓f6_s ho, f3_o hq, ↓f3_0 hq, ↓f3_0p hq, ↓f3_1 hq, ↓f3_2 hq, ↓f3_3 hq, ↓f4_g hq, ↓f4_s hq, ↓f5_g hq, ↓f5_s hq, ↓f6_g hq, ↓f6_s hq, upA_s, u_oo, u_o0, u_0o, u_n, u_ap ho hq hne, hn, ↓g_cp0 (q4 hq) (q4 ho) (show nI n = nI n from rfl) h10 h10 (by omega), ↓g_cp0 (q5 hq) (q5 ho) (show nI n = nI n from rfl) h10 h10 (by omega), ↓g_cp0 (q6 hq) (q6 ho) (show nI n = nI n from rfl) h10 h10 (by omega)]
    rfl, ?_, ?_, ?_⟩
  · intro a h3 h4 h5 h6
    simp only [upA_n _ _ h3, upA_n _ _ h4, upA_n _ _ h5, upA_n _ _ h6]
  · simp +decide only [upA_s, u_oo]
  · intro i hi
    simp +decide only [upA_s, u_oo, cpy0 hi, and_self]
/-- HangersOut.copyFrom -/
theorem c_ouCopy (ho : isB o) (hq : isB q) (hne : o ≠ q) (hn : T (q + 41) 3 = nI n) (h10 : n ≤ 99) : ∃ T', X 39 0 [.ref (o + 41), .ref (q + 41)] [] (H T P) = some (none, H T' P) ∧
    (∀ a, a ≠ o + 41 → a ≠ o + 42 → a ≠ o + 43 → a ≠ o + 44 → T' a = T a) ∧ T' (o + 41) 3 = nI n ∧ ∀ i, i < n → T' (o + 42) i = T (q + 42) i ∧ T' (o + 43) i = T (q + 43) i ∧ T' (o + 44) i = T (q + 44) i := by
  refine ⟨_, by
    simp +decide only [x39_0, x39_1, x39_1N, x39_2, x39_5, x39_8, x39_8N, x39_9, x39_12, x39_13, x39_14, x39_17, x39_18, x39_19, x39_22, x39_25, x39_25N, x39_26, x39_29, x39_30, x39_31, x39_34, x39_35, x39_36, x39_39, x39_42, x39_42N, x39_43, x39_46, x39_47, x39_48, x39_51, x39_52, x39_53, x39_56, x39_59, aft_some, aft_void, Option.bind_some, Option.toList_some, Option.toList_none, List.cons_append, List.nil_append, if_true, if_false, ↓reduceIte, eq_self, f41_o ho, ↓f41_0 ho, ↓f41_1 ho, ↓f41_2 ho, ↓f41_3 ho, ↓f41_3p ho, ↓f42_g ho, ↓f42_s ho, ↓f43_g ho, ↓f43_s ho, ↓f44_g ho, ↓f44_s ho, f41_o hq, ↓f41_0 hq, ↓f41_1 hq, ↓f41_2 hq, ↓f41_3 hq, ↓f41_3p hq, ↓f42_g hq, ↓f42_s hq, ↓f43_g hq, ↓f43_s hq, ↓f44_g hq, ↓f44_s hq, upA_s, u_oo, u_o0, u_0o, u_n, u_ap ho hq hne, hn, ↓g_cp0 (q42 hq) (q42 ho) (show nI n = nI n from rfl) h10 h10 (by omega), ↓g_cp0 (q43 hq) (q43 ho) (show nI n = nI n from rfl) h10 h10 (by omega), ↓g_cp0 (q44 hq) (q44 ho) (show nI n = nI n from rfl) h10 h10 (by omega)]
    rfl, ?_, ?_, ?_⟩
  · intro a h3 h4 h5 h6
    simp only [upA_n _ _ h3, upA_n _ _ h4, upA_n _ _ h5, upA_n _ _ h6]
  · simp +decide only [upA_s, u_oo]
  · intro i hi
    simp +decide only [upA_s, u_oo, cpy0 hi, and_self]
/-- PinlessPieces.copyFrom -/
theorem c_piCopy (ho : isB o) (hq : isB q) (hne : o ≠ q) (hn : T (q + 45) 2 = nI n) (h10 : n ≤ 20) : ∃ T', X 56 0 [.ref (o + 45), .ref (q + 45)] [] (H T P) = some (none, H T' P) ∧
    (∀ a, a ≠ o + 45 → a ≠ o + 46 → a ≠ o + 47 → T' a = T a) ∧ T' (o + 45) 2 = nI n ∧ ∀ i, i < n → T' (o + 46) i = T (q + 46) i ∧ T' (o + 47) i = T (q + 47) i := by
  refine ⟨_, by
    simp +decide only [x56_0, x56_1, x56_1N, x56_2, x56_5, x56_8, x56_8N, x56_9, x56_12, x56_13, x56_14, x56_17, x56_18, x56_19, x56_22, x56_25, x56_25N, x56_26, x56_29, x56_30, x56_31, x56_34, x56_35, x56_36, x56_39, x56_42, aft_some, aft_void, Option.bind_some, Option.toList_some, Option.toList_none, List.cons_append, List.nil_append, if_true, if_false, ↓reduceIte, eq_self, f45_o ho, ↓f45_0 ho, ↓f45_1 ho, ↓f45_2 ho, ↓f45_2p ho, ↓f46_g ho, ↓f46_s ho, ↓f47_g ho, ↓f47_s ho, f45_o hq, ↓f45_0 hq, ↓f45_1 hq, ↓f45_2 hq, ↓f45_2p hq, ↓f46_g hq, ↓f46_s hq, ↓f47_g hq, ↓f47_s hq, upA_s, u_oo, u_o0, u_0o, u_n, u_ap ho hq hne, hn, ↓g_cp0 (q46 hq) (q46 ho) (show nI n = nI n from rfl) h10 h10 (by omega), ↓g_cp0 (q47 hq) (q47 ho) (show nI n = nI n from rfl) h10 h10 (by omega)]
    rfl, ?_, ?_, ?_⟩
  · intro a h3 h4 h5
    simp only [upA_n _ _ h3, upA_n _ _ h4, upA_n _ _ h5]
  · simp +decide only [upA_s, u_oo]
  · intro i hi
    simp +decide only [upA_s, u_oo, cpy0 hi, and_self]
/-- Board.copyFrom -/
theorem c_boCopy (ho : isB o) (hq : isB q) (hne : o ≠ q) : ∃ T', X 30 0 [.ref (o + 48), .ref (q + 48)] [] (H T P) = some (none, H T' P) ∧
    (∀ a, a ≠ o + 48 → T' a = T a) ∧ ∀ k, k < 4 → T' (o + 48) k = T (q + 48) k := by
  refine ⟨_, by
    simp +decide only [x30_0, x30_1, x30_1N, x30_2, x30_5, x30_8, x30_9, x30_9N, x30_10, x30_13, x30_16, x30_17, x30_17N, x30_18, x30_21, x30_24, x30_25, x30_25N, x30_26, x30_29, x30_32, aft_some, aft_void, Option.bind_some, Option.toList_some, Option.toList_none, List.cons_append, List.nil_append, if_true, if_false, ↓reduceIte, eq_self, f48_o ho, ↓f48_0 ho, ↓f48_0p ho, ↓f48_1 ho, ↓f48_1p ho, ↓f48_2 ho, ↓f48_2p ho, ↓f48_3 ho, ↓f48_3p ho, f48_o hq, ↓f48_0 hq, ↓f48_0p hq, ↓f48_1 hq, ↓f48_1p hq, ↓f48_2 hq, ↓f48_2p hq, ↓f48_3 hq, ↓f48_3p hq, upA_s, u_oo, u_o0, u_0o, u_n, u_ap ho hq hne]
    rfl, ?_, ?_⟩
  · intro a h3
    simp only [upA_n _ _ h3]
  · intro k hk
    match k, hk with
    | 0, _ => simp [upA]
    | 1, _ => simp [upA]
    | 2, _ => simp [upA]
    | 3, _ => simp [upA]
/-- Journal.copyFrom -/
theorem c_joCopy (ho : isB o) (hq : isB q) (hne : o ≠ q) : ∃ T', X 52 0 [.ref (o + 49), .ref (q + 49)] [] (H T P) = some (none, H T' P) ∧
    (∀ a, a ≠ o + 49 → a ≠ o + 50 → T' a = T a) ∧ T' (o + 49) 1 = T (q + 49) 1 ∧ T' (o + 49) 2 = T (q + 49) 2 ∧ ∀ k, k < 40 → T' (o + 50) k = T (q + 50) k := by
  refine ⟨_, by
    simp +decide only [x52_0, x52_1, x52_1N, x52_2, x52_5, x52_8, x52_9, x52_9N, x52_10, x52_13, x52_16, x52_16N, x52_17, x52_20, x52_21, x52_22, x52_25, x52_26, x52_28, x52_31, aft_some, aft_void, Option.bind_some, Option.toList_some, Option.toList_none, List.cons_append, List.nil_append, if_true, if_false, ↓reduceIte, eq_self, f49_o ho, ↓f49_0 ho, ↓f49_1 ho, ↓f49_1p ho, ↓f49_2 ho, ↓f49_2p ho, ↓f50_g ho, ↓f50_s ho, f49_o hq, ↓f49_0 hq, ↓f49_1 hq, ↓f49_1p hq, ↓f49_2 hq, ↓f49_2p hq, ↓f50_g hq, ↓f50_s hq, upA_s, u_oo, u_o0, u_0o, u_n, u_ap ho hq hne, ↓g_cp0 (q50 hq) (q50 ho) (show (40 : Int32) = nI 40 from rfl) (Nat.le_refl 40) (Nat.le_refl 40) (by decide)]
    rfl, ?_, ?_, ?_, ?_⟩
  · intro a h3 h4
    simp only [upA_n _ _ h3, upA_n _ _ h4]
  · simp +decide [upA]
  · simp +decide [upA]
  · intro k hk
    simp +decide only [upA_s, u_oo, cpy0 hk]
/-- Customers: has, enter, the sums -/
theorem c_has (ho : isB o) : X 33 0 [.ref (o + 3), .int x] [] (H T P) = some (some (.int (if x < 0 then 0 else if x < T (o + 3) 0 then 1 else 0)), H T P) := by
  simp +decide only [x33_0, x33_1, x33_4, x33_5, x33_6, x33_9, x33_12, x33_13, x33_16, x33_17, aft_some, aft_void, Option.bind_some, Option.toList_some, Option.toList_none, List.cons_append, List.nil_append, if_true, if_false, ↓reduceIte, eq_self, f3_o ho, ↓f3_0 ho, ↓f3_0p ho, ↓f3_1 ho, ↓f3_2 ho, ↓f3_3 ho, ↓f4_g ho, ↓f4_s ho, ↓f5_g ho, ↓f5_s ho, ↓f6_g ho, ↓f6_s ho, or_true, true_or]
  repeat' split
  all_goals rfl
theorem c_enter (ho : isB o) (hn : T (o + 3) 0 = nI n) (h10 : n < 10) : ∃ T', X 34 0 [.ref (o + 3), .int x, .long 0] [] (H T P) = some (some (.int (nI n)), H T' P) ∧
    (∀ a, a ≠ o + 3 → a ≠ o + 4 → a ≠ o + 5 → a ≠ o + 6 → T' a = T a) ∧ T' (o + 3) 0 = nI (n + 1) ∧ (∀ i, i < n → T' (o + 4) i = T (o + 4) i ∧ T' (o + 5) i = T (o + 5) i ∧ T' (o + 6) i = T (o + 6) i) ∧ T' (o + 4) n = x ∧ T' (o + 5) n = 0 ∧ T' (o + 6) n = 0 := by
  refine ⟨_, by
    simp +decide only [x34_0, x34_1, x34_4, x34_5, x34_6, x34_9, x34_10, x34_11, x34_12, x34_13, x34_16, x34_17, x34_18, x34_19, x34_20, x34_23, x34_24, x34_25, x34_26, x34_27, x34_28, x34_31, x34_32, x34_33, x34_36, x34_37, aft_some, aft_void, Option.bind_some, Option.toList_some, Option.toList_none, List.cons_append, List.nil_append, if_true, if_false, ↓reduceIte, eq_self, f3_o ho, ↓f3_0 ho, ↓f3_0p ho, ↓f3_1 ho, ↓f3_2 ho, ↓f3_3 ho, ↓f4_g ho, ↓f4_s ho, ↓f5_g ho, ↓f5_s ho, ↓f6_g ho, ↓f6_s ho, upA_s, u_oo, u_o0, u_0o, u_n, hn, okx_nI h10 (show (10 : Nat) < 2 ^ 31 by decide), nI_clamp (show n < 2 ^ 31 by omega), nI_1]
    rfl, ?_, ?_, ?_, ?_⟩
  · intro a h3 h4 h5 h6
    simp only [upA_n _ _ h3, upA_n _ _ h4, upA_n _ _ h5, upA_n _ _ h6]
  · simp +decide only [upA_s, u_oo]
  · intro i hi
    have hin : i ≠ n := by omega
    simp +decide only [upA_s, u_oo, upA_n _ _ hin, and_self]
  · simp +decide only [upA_s, u_oo, and_self]
def smI (f : Nat → Int32) : Nat → Int32
  | 0 => 0
  | n + 1 => smI f n + f n
theorem c_sumOf {a : Nat} (ho : isB o) (hs : shapes[a]? = some (.inr (0, 10))) (hn : T (o + 3) 0 = nI n) (h10 : n ≤ 10) : X 37 0 [.ref (o + 3), .ref a, .long 0, .long 0] [] (H T P) = some (some (.int (smI (T a) n)), H T P) := by
  have hstep : ∀ i, i < n → X 37 4 [.ref (o + 3), .ref a, .int (smI (T a) i), .int (nI i)] [] (H T P) = X 37 4 [.ref (o + 3), .ref a, .int (smI (T a) (i + 1)), .int (nI (i + 1))] [] (H T P) := by
    intro i hi
    rw [x37_4]
    simp +decide only [x37_0, x37_1, x37_2, x37_3, x37_5, x37_6, x37_9, x37_12, x37_13, x37_13N, x37_14, x37_15, x37_16, x37_17, x37_18, x37_21, x37_24, x37_25, aft_some, aft_void, Option.bind_some, Option.toList_some, Option.toList_none, List.cons_append, List.nil_append, if_true, if_false, ↓reduceIte, eq_self, f3_o ho, ↓f3_0 ho, ↓f3_0p ho, ↓f3_1 ho, ↓f3_2 ho, ↓f3_3 ho, ↓f4_g ho, ↓f4_s ho, ↓f5_g ho, ↓f5_s ho, ↓f6_g ho, ↓f6_s ho, hn, nI_lt hi (show n < 2 ^ 31 by omega), ↓b_gi hs (show 0 < 2 by decide), okx_nI (show i < 10 by omega) (show (10 : Nat) < 2 ^ 31 by decide), nI_clamp (show i < 2 ^ 31 by omega), nI_1, smI]
  simp +decide only [x37_0, x37_1, x37_2, x37_3, x37_5, x37_6, x37_9, x37_12, x37_13, x37_13N, x37_14, x37_15, x37_16, x37_17, x37_18, x37_21, x37_24, x37_25, aft_some, aft_void, Option.bind_some, Option.toList_some, Option.toList_none, List.cons_append, List.nil_append, if_true, if_false, ↓reduceIte, eq_self]
  rw [show X 37 4 [.ref (o + 3), .ref a, .int 0, .int 0] [] (H T P) = _ from loop_up (fun i => X 37 4 [.ref (o + 3), .ref a, .int (smI (T a) i), .int (nI i)] [] (H T P)) n hstep, x37_4]
  simp +decide only [x37_0, x37_1, x37_2, x37_3, x37_5, x37_6, x37_9, x37_12, x37_13, x37_13N, x37_14, x37_15, x37_16, x37_17, x37_18, x37_21, x37_24, x37_25, aft_some, aft_void, Option.bind_some, Option.toList_some, Option.toList_none, List.cons_append, List.nil_append, if_true, if_false, ↓reduceIte, eq_self, f3_o ho, ↓f3_0 ho, ↓f3_0p ho, ↓f3_1 ho, ↓f3_2 ho, ↓f3_3 ho, ↓f4_g ho, ↓f4_s ho, ↓f5_g ho, ↓f5_s ho, ↓f6_g ho, ↓f6_s ho, hn, nI_nlt (Nat.le_refl n) (show n < 2 ^ 31 by omega)]
theorem c_owed (ho : isB o) (hn : T (o + 3) 0 = nI n) (h10 : n ≤ 10) : X 35 0 [.ref (o + 3)] [] (H T P) = some (some (.int (smI (T (o + 5)) n)), H T P) := by
  simp +decide only [x35_0, x35_1, x35_2, x35_5, x35_8, aft_some, aft_void, Option.bind_some, Option.toList_some, Option.toList_none, List.cons_append, List.nil_append, if_true, if_false, ↓reduceIte, eq_self, f3_o ho, ↓f3_0 ho, ↓f3_0p ho, ↓f3_1 ho, ↓f3_2 ho, ↓f3_3 ho, ↓f4_g ho, ↓f4_s ho, ↓f5_g ho, ↓f5_s ho, ↓f6_g ho, ↓f6_s ho, ↓aft_of (c_sumOf ho (q5 ho) hn h10)]
theorem c_paidAll (ho : isB o) (hn : T (o + 3) 0 = nI n) (h10 : n ≤ 10) : X 36 0 [.ref (o + 3)] [] (H T P) = some (some (.int (smI (T (o + 6)) n)), H T P) := by
  simp +decide only [x36_0, x36_1, x36_2, x36_5, x36_8, aft_some, aft_void, Option.bind_some, Option.toList_some, Option.toList_none, List.cons_append, List.nil_append, if_true, if_false, ↓reduceIte, eq_self, f3_o ho, ↓f3_0 ho, ↓f3_0p ho, ↓f3_1 ho, ↓f3_2 ho, ↓f3_3 ho, ↓f4_g ho, ↓f4_s ho, ↓f5_g ho, ↓f5_s ho, ↓f6_g ho, ↓f6_s ho, ↓aft_of (c_sumOf ho (q6 ho) hn h10)]
end PT
end
section
/-! hangers that are out: a list of batches (customer, day, hangers) -/
abbrev bT : Type := Nat × Nat × Nat
/-- the batches of the state o are these -/
def OB (T : Nat → Nat → Int32) (o : Nat) (B : List bT) : Prop := T (o + 41) 3 = nI B.length ∧ B.length ≤ 99 ∧ ∀ i c d n, B[i]? = some (c, d, n) → T (o + 42) i = nI c ∧ T (o + 43) i = nI d ∧ T (o + 44) i = nI n
/-- small numbers, so that machine numbers are numbers -/
def OS (B : List bT) : Prop := ∀ q ∈ B, q.1 < 10 ∧ q.2.1 < 20000 ∧ q.2.2 < 1000
def outL (c : Nat) : List bT → Nat
  | [] => 0
  | q :: B => (if q.1 = c then q.2.2 else 0) + outL c B
def allL : List bT → Nat
  | [] => 0
  | q :: B => q.2.2 + allL B
def tkL (c : Nat) : Nat → List bT → List bT
  | _, [] => []
  | g, q :: B => if q.1 = c then (q.1, q.2.1, q.2.2 - min g q.2.2) :: tkL c (g - min g q.2.2) B else q :: tkL c g B
def tkF (c : Nat) : Nat → List bT → Nat
  | g, [] => g
  | g, q :: B => if q.1 = c then tkF c (g - min g q.2.2) B else tkF c g B
def dropE (B : List bT) : List bT := B.filter (fun q => decide (0 < q.2.2))
def oldL (lim c : Nat) : List bT → Nat
  | [] => 0
  | q :: B => (if q.1 = c ∧ q.2.1 < lim then q.2.2 else 0) + oldL lim c B
def zeroL (lim c : Nat) (B : List bT) : List bT := B.map (fun q => if q.1 = c ∧ q.2.1 < lim then (q.1, q.2.1, 0) else q)
theorem tkL_len (c : Nat) : ∀ (g : Nat) (B : List bT), (tkL c g B).length = B.length
  | _, [] => rfl
  | g, q :: B => by
    unfold tkL
    split <;> simp [tkL_len c]
theorem tkL_app (c : Nat) : ∀ (g : Nat) (A B : List bT), tkL c g (A ++ B) = tkL c g A ++ tkL c (tkF c g A) B
  | _, [], _ => rfl
  | g, q :: A, B => by
    simp only [List.cons_append, tkL, tkF]
    split <;> simp [tkL_app c]
theorem tkF_app (c : Nat) : ∀ (g : Nat) (A B : List bT), tkF c g (A ++ B) = tkF c (tkF c g A) B
  | _, [], _ => rfl
  | g, q :: A, B => by
    simp only [List.cons_append, tkF]
    split <;> simp [tkF_app c]
theorem outL_app (c : Nat) : ∀ (A B : List bT), outL c (A ++ B) = outL c A + outL c B
  | [], B => by simp [outL]
  | q :: A, B => by simp only [List.cons_append, outL, outL_app c A B]; omega
theorem allL_app : ∀ (A B : List bT), allL (A ++ B) = allL A + allL B
  | [], B => by simp [allL]
  | q :: A, B => by simp only [List.cons_append, allL, allL_app A B]; omega
theorem oldL_app (lim c : Nat) : ∀ (A B : List bT), oldL lim c (A ++ B) = oldL lim c A + oldL lim c B
  | [], B => by simp [oldL]
  | q :: A, B => by simp only [List.cons_append, oldL, oldL_app lim c A B]; omega
theorem take_s {α : Type} {B : List α} {i : Nat} {x : α} (h : B[i]? = some x) : B.take (i + 1) = B.take i ++ [x] := by
  rw [List.take_succ, h]; rfl
theorem drop_c {α : Type} {B : List α} {i : Nat} {x : α} (h : B[i]? = some x) : B.drop i = x :: B.drop (i + 1) := by
  obtain ⟨hl, rfl⟩ := List.getElem?_eq_some_iff.mp h
  exact List.drop_eq_getElem_cons hl
theorem at_of {α : Type} {B : List α} {i : Nat} (h : i < B.length) : ∃ x, B[i]? = some x := ⟨_, List.getElem?_eq_getElem h⟩
theorem nI_sub {a b : Nat} (h : b ≤ a) : nI a - nI b = nI (a - b) := by
  have : nI (a - b) + nI b = nI a := by rw [nI_add]; congr 1; omega
  rw [← this]; exact Int32.add_sub_cancel _ _
theorem nI_inj {a b : Nat} (ha : a < 2 ^ 31) (hb : b < 2 ^ 31) : (nI a = nI b) = (a = b) := propext (nI_eq ha hb)
theorem nI_ltp {a b : Nat} (ha : a < 2 ^ 31) (hb : b < 2 ^ 31) : (nI a < nI b) = (a < b) := propext (nI_ltI ha hb)
section OU
variable {T : Nat → Nat → Int32} {P : Nat → Nat → Nat} {o : Nat} {B : List bT}
theorem OB.set {i c d n m : Nat} (h : OB T o B) (hi : B[i]? = some (c, d, n)) : OB (up1 T (o + 44) i (nI m)) o (B.set i (c, d, m)) := by
  obtain ⟨h1, h2, h3⟩ := h
  refine ⟨by simp +decide only [u_oo]; rw [List.length_set]; exact h1, by rw [List.length_set]; exact h2, fun j c' d' n' hj => ?_⟩
  simp +decide only [u_oo, upA_s]
  by_cases hij : i = j
  · subst hij
    rw [List.getElem?_set_self (List.getElem?_eq_some_iff.mp hi).1] at hj
    cases hj
    have := h3 _ _ _ _ hi
    exact ⟨this.1, this.2.1, upA_s _ _ _⟩
  · rw [List.getElem?_set_ne hij] at hj
    have := h3 _ _ _ _ hj
    exact ⟨this.1, this.2.1, by rw [upA_n _ _ (Ne.symm hij)]; exact this.2.2⟩
theorem OB.other {T' : Nat → Nat → Int32} (h : OB T o B) (h1 : T' (o + 41) = T (o + 41)) (h2 : T' (o + 42) = T (o + 42)) (h3 : T' (o + 43) = T (o + 43)) (h4 : T' (o + 44) = T (o + 44)) : OB T' o B := by
  unfold OB at h ⊢
  rw [h1, h2, h3, h4]
  exact h
theorem c_outTo (ho : isB o) (hB : OB T o B) (hs : OS B) {c : Nat} (hc : c < 10) : X 41 0 [.ref (o + 41), .int (nI c), .long 0, .long 0] [] (H T P) = some (some (.int (nI (outL c B))), H T P) := by
  obtain ⟨h1, h2, h3⟩ := hB
  have hstep : ∀ i, i < B.length → X 41 4 [.ref (o + 41), .int (nI c), .int (nI (outL c (B.take i))), .int (nI i)] [] (H T P) = X 41 4 [.ref (o + 41), .int (nI c), .int (nI (outL c (B.take (i + 1)))), .int (nI (i + 1))] [] (H T P) := by
    intro i hi
    obtain ⟨⟨c', d, n⟩, hx⟩ := at_of hi
    obtain ⟨g1, g2, g3⟩ := h3 _ _ _ _ hx
    have hc' : c' < 10 := (hs _ (List.mem_of_getElem? hx)).1
    rw [x41_4, take_s hx, outL_app]
    simp +decide only [x41_0, x41_1, x41_2, x41_3, x41_5, x41_6, x41_9, x41_12, x41_13, x41_16, x41_17, x41_18, x41_19, x41_22, x41_23, x41_24, x41_27, x41_28, x41_29, x41_30, x41_31, x41_34, x41_37, x41_38, aft_some, aft_void, Option.bind_some, Option.toList_some, Option.toList_none, List.cons_append, List.nil_append, if_true, if_false, ↓reduceIte, eq_self, f41_o ho, ↓f41_0 ho, ↓f41_1 ho, ↓f41_2 ho, ↓f41_3 ho, ↓f41_3p ho, ↓f42_g ho, ↓f42_s ho, ↓f43_g ho, ↓f43_s ho, ↓f44_g ho, ↓f44_s ho, h1, g1, g3, nI_lt hi (show B.length < 2 ^ 31 by omega), okx_nI (show i < 99 by omega) (show (99 : Nat) < 2 ^ 31 by decide), nI_clamp (show i < 2 ^ 31 by omega), nI_1, nI_add, nI_inj (show c' < 2 ^ 31 by omega) (show c < 2 ^ 31 by omega)]
    by_cases hcc : c' = c
    · simp only [hcc, if_true, outL, Nat.add_zero]
    · simp only [hcc, if_false, outL, Nat.add_zero]
  simp +decide only [x41_0, x41_1, x41_2, x41_3, x41_5, x41_6, x41_9, x41_12, x41_13, x41_16, x41_17, x41_18, x41_19, x41_22, x41_23, x41_24, x41_27, x41_28, x41_29, x41_30, x41_31, x41_34, x41_37, x41_38, aft_some, aft_void, Option.bind_some, Option.toList_some, Option.toList_none, List.cons_append, List.nil_append, if_true, if_false, ↓reduceIte, eq_self]
  rw [show X 41 4 [.ref (o + 41), .int (nI c), .int 0, .int 0] [] (H T P) = _ from loop_up (fun i => X 41 4 [.ref (o + 41), .int (nI c), .int (nI (outL c (B.take i))), .int (nI i)] [] (H T P)) B.length hstep, x41_4]
  simp +decide only [x41_0, x41_1, x41_2, x41_3, x41_5, x41_6, x41_9, x41_12, x41_13, x41_16, x41_17, x41_18, x41_19, x41_22, x41_23, x41_24, x41_27, x41_28, x41_29, x41_30, x41_31, x41_34, x41_37, x41_38, aft_some, aft_void, Option.bind_some, Option.toList_some, Option.toList_none, List.cons_append, List.nil_append, if_true, if_false, ↓reduceIte, eq_self, f41_o ho, ↓f41_0 ho, ↓f41_1 ho, ↓f41_2 ho, ↓f41_3 ho, ↓f41_3p ho, ↓f42_g ho, ↓f42_s ho, ↓f43_g ho, ↓f43_s ho, ↓f44_g ho, ↓f44_s ho, h1, nI_nlt (Nat.le_refl B.length) (show B.length < 2 ^ 31 by omega), List.take_length]
theorem c_outAll (ho : isB o) (hB : OB T o B) : X 42 0 [.ref (o + 41), .long 0, .long 0] [] (H T P) = some (some (.int (nI (allL B))), H T P) := by
  obtain ⟨h1, h2, h3⟩ := hB
  have hstep : ∀ i, i < B.length → X 42 4 [.ref (o + 41), .int (nI (allL (B.take i))), .int (nI i)] [] (H T P) = X 42 4 [.ref (o + 41), .int (nI (allL (B.take (i + 1)))), .int (nI (i + 1))] [] (H T P) := by
    intro i hi
    obtain ⟨⟨c', d, n⟩, hx⟩ := at_of hi
    obtain ⟨g1, g2, g3⟩ := h3 _ _ _ _ hx
    rw [x42_4, take_s hx, allL_app]
    simp +decide only [x42_0, x42_1, x42_2, x42_3, x42_5, x42_6, x42_9, x42_12, x42_13, x42_14, x42_17, x42_18, x42_19, x42_20, x42_21, x42_24, x42_27, x42_28, aft_some, aft_void, Option.bind_some, Option.toList_some, Option.toList_none, List.cons_append, List.nil_append, if_true, if_false, ↓reduceIte, eq_self, f41_o ho, ↓f41_0 ho, ↓f41_1 ho, ↓f41_2 ho, ↓f41_3 ho, ↓f41_3p ho, ↓f42_g ho, ↓f42_s ho, ↓f43_g ho, ↓f43_s ho, ↓f44_g ho, ↓f44_s ho, h1, g1, g3, nI_lt hi (show B.length < 2 ^ 31 by omega), okx_nI (show i < 99 by omega) (show (99 : Nat) < 2 ^ 31 by decide), nI_clamp (show i < 2 ^ 31 by omega), nI_1, nI_add, allL, Nat.add_zero]
  simp +decide only [x42_0, x42_1, x42_2, x42_3, x42_5, x42_6, x42_9, x42_12, x42_13, x42_14, x42_17, x42_18, x42_19, x42_20, x42_21, x42_24, x42_27, x42_28, aft_some, aft_void, Option.bind_some, Option.toList_some, Option.toList_none, List.cons_append, List.nil_append, if_true, if_false, ↓reduceIte, eq_self]
  rw [show X 42 4 [.ref (o + 41), .int 0, .int 0] [] (H T P) = _ from loop_up (fun i => X 42 4 [.ref (o + 41), .int (nI (allL (B.take i))), .int (nI i)] [] (H T P)) B.length hstep, x42_4]
  simp +decide only [x42_0, x42_1, x42_2, x42_3, x42_5, x42_6, x42_9, x42_12, x42_13, x42_14, x42_17, x42_18, x42_19, x42_20, x42_21, x42_24, x42_27, x42_28, aft_some, aft_void, Option.bind_some, Option.toList_some, Option.toList_none, List.cons_append, List.nil_append, if_true, if_false, ↓reduceIte, eq_self, f41_o ho, ↓f41_0 ho, ↓f41_1 ho, ↓f41_2 ho, ↓f41_3 ho, ↓f41_3p ho, ↓f42_g ho, ↓f42_s ho, ↓f43_g ho, ↓f43_s ho, ↓f44_g ho, ↓f44_s ho, h1, nI_nlt (Nat.le_refl B.length) (show B.length < 2 ^ 31 by omega), List.take_length]
def firstL (c : Nat) : List bT → Int32
  | [] => -5
  | q :: B => if q.1 = c then nI q.2.1 else firstL c B
theorem c_firstDay (ho : isB o) (hB : OB T o B) (hs : OS B) {c : Nat} (hc : c < 10) : X 43 0 [.ref (o + 41), .int (nI c), .long 0] [] (H T P) = some (some (.int (firstL c B)), H T P) := by
  obtain ⟨h1, h2, h3⟩ := hB
  have key : ∀ n i, n + i = B.length → X 43 2 [.ref (o + 41), .int (nI c), .int (nI i)] [] (H T P) = some (some (.int (firstL c (B.drop i))), H T P) := by
    intro n
    induction n with
    | zero =>
      intro i hi
      have hi : i = B.length := by omega
      subst hi
      rw [x43_2]
      simp +decide only [x43_0, x43_1, x43_3, x43_4, x43_7, x43_10, x43_11, x43_14, x43_15, x43_16, x43_17, x43_20, x43_21, x43_24, x43_25, x43_26, x43_27, x43_30, x43_33, x43_35, aft_some, aft_void, Option.bind_some, Option.toList_some, Option.toList_none, List.cons_append, List.nil_append, if_true, if_false, ↓reduceIte, eq_self, f41_o ho, ↓f41_0 ho, ↓f41_1 ho, ↓f41_2 ho, ↓f41_3 ho, ↓f41_3p ho, ↓f42_g ho, ↓f42_s ho, ↓f43_g ho, ↓f43_s ho, ↓f44_g ho, ↓f44_s ho, h1, nI_nlt (Nat.le_refl B.length) (show B.length < 2 ^ 31 by omega), List.drop_length, firstL]
    | succ n ih =>
      intro i hi
      have hi' : i < B.length := by omega
      obtain ⟨⟨c', d, m⟩, hx⟩ := at_of hi'
      obtain ⟨g1, g2, g3⟩ := h3 _ _ _ _ hx
      have hc' : c' < 10 := (hs _ (List.mem_of_getElem? hx)).1
      rw [x43_2, drop_c hx]
      simp +decide only [x43_0, x43_1, x43_3, x43_4, x43_7, x43_10, x43_11, x43_14, x43_15, x43_16, x43_17, x43_20, x43_21, x43_24, x43_25, x43_26, x43_27, x43_30, x43_33, x43_35, aft_some, aft_void, Option.bind_some, Option.toList_some, Option.toList_none, List.cons_append, List.nil_append, if_true, if_false, ↓reduceIte, eq_self, f41_o ho, ↓f41_0 ho, ↓f41_1 ho, ↓f41_2 ho, ↓f41_3 ho, ↓f41_3p ho, ↓f42_g ho, ↓f42_s ho, ↓f43_g ho, ↓f43_s ho, ↓f44_g ho, ↓f44_s ho, h1, g1, g2, nI_lt hi' (show B.length < 2 ^ 31 by omega), okx_nI (show i < 99 by omega) (show (99 : Nat) < 2 ^ 31 by decide), nI_clamp (show i < 2 ^ 31 by omega), nI_1, nI_inj (show c' < 2 ^ 31 by omega) (show c < 2 ^ 31 by omega)]
      by_cases hcc : c' = c
      · simp only [hcc, if_true, firstL]
      · simp only [hcc, if_false, firstL]
        exact ih (i + 1) (by omega)
  simp +decide only [x43_0, x43_1, x43_3, x43_4, x43_7, x43_10, x43_11, x43_14, x43_15, x43_16, x43_17, x43_20, x43_21, x43_24, x43_25, x43_26, x43_27, x43_30, x43_33, x43_35, aft_some, aft_void, Option.bind_some, Option.toList_some, Option.toList_none, List.cons_append, List.nil_append, if_true, if_false, ↓reduceIte, eq_self]
  exact key B.length 0 (by omega)
/-- dropEmptyBatches -/
theorem c_dropE (ho : isB o) (hB : OB T o B) (hs : OS B) : ∃ T', X 47 0 [.ref (o + 41), .long 0, .long 0] [] (H T P) = some (none, H T' P) ∧ (∀ a, a ≠ o + 41 → a ≠ o + 42 → a ≠ o + 43 → a ≠ o + 44 → T' a = T a) ∧ OB T' o (dropE B) := by
  obtain ⟨h1, h2, h3⟩ := hB
  have hfl : ∀ i, (dropE (B.take i)).length ≤ i := fun i => Nat.le_trans (List.length_filter_le _ _) (by rw [List.length_take]; omega)
  obtain ⟨T1, e1, i1, i2, i3, i4⟩ := loop_ex (fun i (U : Nat → Nat → Int32) => X 47 4 [.ref (o + 41), .int (nI (dropE (B.take i)).length), .int (nI i)] [] (H U P))
    (fun i U => (∀ a, a ≠ o + 42 → a ≠ o + 43 → a ≠ o + 44 → U a = T a) ∧ (∀ j c d n, (dropE (B.take i))[j]? = some (c, d, n) → U (o + 42) j = nI c ∧ U (o + 43) j = nI d ∧ U (o + 44) j = nI n) ∧ (∀ j, i ≤ j → U (o + 42) j = T (o + 42) j ∧ U (o + 43) j = T (o + 43) j ∧ U (o + 44) j = T (o + 44) j) ∧ True) B.length T
    ⟨fun _ _ _ _ => rfl, fun j c d n hj => by simp [dropE] at hj, fun _ _ => ⟨rfl, rfl, rfl⟩, trivial⟩ (by
      intro i U hi ⟨j1, j2, j3, _⟩
      obtain ⟨⟨c', d, m⟩, hx⟩ := at_of hi
      obtain ⟨g1, g2, g3⟩ := h3 _ _ _ _ hx
      obtain ⟨k1, k2, k3⟩ := j3 i (Nat.le_refl i)
      have hm : m < 1000 := (hs _ (List.mem_of_getElem? hx)).2.2
      have hb : U (o + 41) 3 = nI B.length := by rw [j1 (o + 41) (by omega) (by omega) (by omega)]; exact h1
      have hf := hfl i
      have e0 : dropE (B.take (i + 1)) = dropE (B.take i) ++ (if 0 < m then [(c', d, m)] else []) := by
        rw [take_s hx]
        unfold dropE
        rw [List.filter_append]
        by_cases hm0 : 0 < m <;> simp [hm0]
      by_cases hm0 : 0 < m
      · refine ⟨_, by
          show X 47 4 _ _ _ = _
          rw [x47_4]
          simp +decide only [x47_0, x47_1, x47_2, x47_3, x47_5, x47_6, x47_9, x47_12, x47_13, x47_16, x47_17, x47_18, x47_21, x47_22, x47_25, x47_26, x47_27, x47_30, x47_31, x47_32, x47_33, x47_34, x47_37, x47_38, x47_39, x47_42, x47_43, x47_44, x47_45, x47_46, x47_49, x47_50, x47_51, x47_54, x47_55, x47_56, x47_57, x47_60, x47_63, x47_66, x47_67, x47_68, x47_71, aft_some, aft_void, Option.bind_some, Option.toList_some, Option.toList_none, List.cons_append, List.nil_append, if_true, if_false, ↓reduceIte, eq_self, f41_o ho, ↓f41_0 ho, ↓f41_1 ho, ↓f41_2 ho, ↓f41_3 ho, ↓f41_3p ho, ↓f42_g ho, ↓f42_s ho, ↓f43_g ho, ↓f43_s ho, ↓f44_g ho, ↓f44_s ho, upA_s, u_oo, u_o0, u_0o, u_n, hb, k1, k2, k3, g1, g2, g3, nI_lt hi (show B.length < 2 ^ 31 by omega), okx_nI (show i < 99 by omega) (show (99 : Nat) < 2 ^ 31 by decide), okx_nI (show (dropE (B.take i)).length < 99 by omega) (show (99 : Nat) < 2 ^ 31 by decide), nI_clamp (show i < 2 ^ 31 by omega), nI_clamp (show (dropE (B.take i)).length < 2 ^ 31 by omega), nI_1, show (0 < nI m) = True from eq_true (nI_lt hm0 (show m < 2 ^ 31 by omega))]
          rw [e0, if_pos hm0, List.length_append]
          rfl, ?_, ?_, ?_, trivial⟩
        · intro a h42 h43 h44
          simp only [upA_n _ _ h44, upA_n _ _ h43, upA_n _ _ h42]
          exact j1 a h42 h43 h44
        · intro j c d' n hj
          rw [e0, if_pos hm0] at hj
          simp +decide only [u_oo, upA_s]
          by_cases hjl : j < (dropE (B.take i)).length
          · rw [List.getElem?_append_left hjl] at hj
            have hne : j ≠ (dropE (B.take i)).length := by omega
            rw [upA_n _ _ hne, upA_n _ _ hne, upA_n _ _ hne]
            exact j2 _ _ _ _ hj
          · rw [List.getElem?_append_right (by omega)] at hj
            have hz : j - (dropE (B.take i)).length < 1 := (List.getElem?_eq_some_iff.mp hj).1
            have hje : j = (dropE (B.take i)).length := by omega
            subst hje
            rw [Nat.sub_self] at hj
            cases hj
            rw [upA_s, upA_s, upA_s]
            exact ⟨rfl, rfl, rfl⟩
        · intro j hj
          have hne : j ≠ (dropE (B.take i)).length := by omega
          simp +decide only [u_oo, upA_s]
          rw [upA_n _ _ hne, upA_n _ _ hne, upA_n _ _ hne]
          exact j3 j (by omega)
      · refine ⟨U, by
          show X 47 4 _ _ _ = _
          rw [x47_4]
          simp +decide only [x47_0, x47_1, x47_2, x47_3, x47_5, x47_6, x47_9, x47_12, x47_13, x47_16, x47_17, x47_18, x47_21, x47_22, x47_25, x47_26, x47_27, x47_30, x47_31, x47_32, x47_33, x47_34, x47_37, x47_38, x47_39, x47_42, x47_43, x47_44, x47_45, x47_46, x47_49, x47_50, x47_51, x47_54, x47_55, x47_56, x47_57, x47_60, x47_63, x47_66, x47_67, x47_68, x47_71, aft_some, aft_void, Option.bind_some, Option.toList_some, Option.toList_none, List.cons_append, List.nil_append, if_true, if_false, ↓reduceIte, eq_self, f41_o ho, ↓f41_0 ho, ↓f41_1 ho, ↓f41_2 ho, ↓f41_3 ho, ↓f41_3p ho, ↓f42_g ho, ↓f42_s ho, ↓f43_g ho, ↓f43_s ho, ↓f44_g ho, ↓f44_s ho, upA_s, u_oo, u_o0, u_0o, u_n, hb, k3, g3, nI_lt hi (show B.length < 2 ^ 31 by omega), okx_nI (show i < 99 by omega) (show (99 : Nat) < 2 ^ 31 by decide), nI_clamp (show i < 2 ^ 31 by omega), nI_1, show (0 < nI m) = False from eq_false (nI_nlt (show m ≤ 0 by omega) (by decide))]
          rw [e0, if_neg hm0, List.append_nil], j1, ?_, fun j hj => j3 j (by omega), trivial⟩
        intro j c d' n hj
        rw [e0, if_neg hm0, List.append_nil] at hj
        exact j2 _ _ _ _ hj)
  have hb : T1 (o + 41) 3 = nI B.length := by rw [i1 (o + 41) (by omega) (by omega) (by omega)]; exact h1
  simp only [List.take_length] at e1 i2
  refine ⟨_, by
    simp +decide only [x47_0, x47_1, x47_2, x47_3, x47_5, x47_6, x47_9, x47_12, x47_13, x47_16, x47_17, x47_18, x47_21, x47_22, x47_25, x47_26, x47_27, x47_30, x47_31, x47_32, x47_33, x47_34, x47_37, x47_38, x47_39, x47_42, x47_43, x47_44, x47_45, x47_46, x47_49, x47_50, x47_51, x47_54, x47_55, x47_56, x47_57, x47_60, x47_63, x47_66, x47_67, x47_68, x47_71, aft_some, aft_void, Option.bind_some, Option.toList_some, Option.toList_none, List.cons_append, List.nil_append, if_true, if_false, ↓reduceIte, eq_self]
    rw [show X 47 4 [.ref (o + 41), .int 0, .int 0] [] (H T P) = _ from e1, x47_4]
    simp +decide only [x47_0, x47_1, x47_2, x47_3, x47_5, x47_6, x47_9, x47_12, x47_13, x47_16, x47_17, x47_18, x47_21, x47_22, x47_25, x47_26, x47_27, x47_30, x47_31, x47_32, x47_33, x47_34, x47_37, x47_38, x47_39, x47_42, x47_43, x47_44, x47_45, x47_46, x47_49, x47_50, x47_51, x47_54, x47_55, x47_56, x47_57, x47_60, x47_63, x47_66, x47_67, x47_68, x47_71, aft_some, aft_void, Option.bind_some, Option.toList_some, Option.toList_none, List.cons_append, List.nil_append, if_true, if_false, ↓reduceIte, eq_self, f41_o ho, ↓f41_0 ho, ↓f41_1 ho, ↓f41_2 ho, ↓f41_3 ho, ↓f41_3p ho, ↓f42_g ho, ↓f42_s ho, ↓f43_g ho, ↓f43_s ho, ↓f44_g ho, ↓f44_s ho, hb, nI_nlt (Nat.le_refl B.length) (show B.length < 2 ^ 31 by omega)]
    rfl, ?_, ?_⟩
  · intro a h41 h42 h43 h44
    simp only [upA_n _ _ h41]
    exact i1 a h42 h43 h44
  · refine ⟨by simp only [upA_s], Nat.le_trans (List.length_filter_le _ _) h2, fun j c d n hj => ?_⟩
    simp +decide only [u_oo]
    exact i2 _ _ _ _ hj
end OU
end
section
/-! hangers that are out: batches that change; lost pieces; the book -/
theorem tkL_set {c g i c' d n : Nat} {B : List bT} (h : B[i]? = some (c', d, n)) (hc : c' = c) : (tkL c g (B.take i) ++ B.drop i).set i (c', d, n - min (tkF c g (B.take i)) n) = tkL c g (B.take (i + 1)) ++ B.drop (i + 1) := by
  have hl : (tkL c g (B.take i)).length = i := by
    rw [tkL_len, List.length_take]
    have := (List.getElem?_eq_some_iff.mp h).1
    omega
  rw [drop_c h, List.set_append_right _ _ (by omega), hl, Nat.sub_self, List.set_cons_zero, take_s h, tkL_app]
  simp only [tkL, hc, if_true, List.append_assoc, List.singleton_append, List.cons_append, List.nil_append]
theorem tkL_skip {c g i c' d n : Nat} {B : List bT} (h : B[i]? = some (c', d, n)) (hc : ¬ c' = c) : tkL c g (B.take i) ++ B.drop i = tkL c g (B.take (i + 1)) ++ B.drop (i + 1) := by
  rw [drop_c h, take_s h, tkL_app]
  simp only [tkL, hc, if_false, List.append_assoc, List.singleton_append, List.cons_append, List.nil_append]
theorem tkL_at {c g i : Nat} {B : List bT} {x : bT} (h : B[i]? = some x) : (tkL c g (B.take i) ++ B.drop i)[i]? = some x := by
  have hl : (tkL c g (B.take i)).length = i := by
    rw [tkL_len, List.length_take]
    have := (List.getElem?_eq_some_iff.mp h).1
    omega
  rw [List.getElem?_append_right (by omega), hl, Nat.sub_self, drop_c h]; rfl
theorem tkL_small {c : Nat} : ∀ {g : Nat} {B : List bT}, OS B → OS (tkL c g B)
  | _, [], h => h
  | g, q :: B, h => by
    have hq := h q List.mem_cons_self
    have hB : OS B := fun x hx => h x (List.mem_cons_of_mem _ hx)
    unfold tkL
    split
    · intro x hx
      rcases List.mem_cons.mp hx with rfl | hx
      · exact ⟨hq.1, hq.2.1, by show q.2.2 - _ < 1000; omega⟩
      · exact tkL_small hB x hx
    · intro x hx
      rcases List.mem_cons.mp hx with rfl | hx
      · exact hq
      · exact tkL_small hB x hx
theorem zeroL_at {lim c i c' d n : Nat} {B : List bT} (h : B[i]? = some (c', d, n)) : (zeroL lim c (B.take i) ++ B.drop i)[i]? = some (c', d, n) := by
  have hl : (zeroL lim c (B.take i)).length = i := by
    unfold zeroL
    rw [List.length_map, List.length_take]
    have := (List.getElem?_eq_some_iff.mp h).1
    omega
  rw [List.getElem?_append_right (by omega), hl, Nat.sub_self, drop_c h]; rfl
theorem zeroL_set {lim c i c' d n : Nat} {B : List bT} (h : B[i]? = some (c', d, n)) (hc : c' = c ∧ d < lim) : (zeroL lim c (B.take i) ++ B.drop i).set i (c', d, 0) = zeroL lim c (B.take (i + 1)) ++ B.drop (i + 1) := by
  have hl : (zeroL lim c (B.take i)).length = i := by
    unfold zeroL
    rw [List.length_map, List.length_take]
    have := (List.getElem?_eq_some_iff.mp h).1
    omega
  rw [drop_c h, List.set_append_right _ _ (by omega), hl, Nat.sub_self, List.set_cons_zero, take_s h]
  simp only [zeroL, List.map_append, List.map_cons, List.map_nil, hc, and_self, if_true, List.append_assoc, List.singleton_append]
theorem zeroL_skip {lim c i c' d n : Nat} {B : List bT} (h : B[i]? = some (c', d, n)) (hc : ¬ (c' = c ∧ d < lim)) : zeroL lim c (B.take i) ++ B.drop i = zeroL lim c (B.take (i + 1)) ++ B.drop (i + 1) := by
  rw [drop_c h, take_s h]
  simp only [zeroL, List.map_append, List.map_cons, List.map_nil, hc, if_false, List.append_assoc, List.singleton_append]
theorem zeroL_small {lim c : Nat} {B : List bT} (h : OS B) : OS (zeroL lim c B) := by
  intro x hx
  obtain ⟨q, hq, rfl⟩ := List.mem_map.mp hx
  have := h q hq
  split
  · exact ⟨this.1, this.2.1, show (0 : Nat) < 1000 by decide⟩
  · exact this
theorem min_nI {a b : Nat} (ha : a < 2 ^ 31) (hb : b < 2 ^ 31) : (if nI b < nI a then nI b else nI a) = nI (min a b) := by
  simp only [nI_ltp hb ha]
  by_cases h : b < a
  · rw [if_pos h, Nat.min_eq_right (by omega)]
  · rw [if_neg h, Nat.min_eq_left (by omega)]
section OU2
variable {T : Nat → Nat → Int32} {P : Nat → Nat → Nat} {o : Nat} {B : List bT}
theorem tkF_le (c : Nat) : ∀ (g : Nat) (B : List bT), tkF c g B ≤ g
  | _, [] => Nat.le_refl _
  | g, q :: B => by
    unfold tkF
    split
    · have := tkF_le c (g - min g q.2.2) B; omega
    · exact tkF_le c g B
/-- takeBack -/
theorem c_takeBack (ho : isB o) (hB : OB T o B) (hs : OS B) {c g : Nat} (hc : c < 10) (hg : g < 1000) : ∃ T', X 44 0 [.ref (o + 41), .int (nI c), .int (nI g), .long 0, .long 0, .long 0] [] (H T P) = some (none, H T' P) ∧ (∀ a, a ≠ o + 41 → a ≠ o + 42 → a ≠ o + 43 → a ≠ o + 44 → T' a = T a) ∧ OB T' o (dropE (tkL c g B)) := by
  obtain ⟨⟨T1, w1⟩, e1, i1, i2⟩ := loop_ex (fun i (U : (Nat → Nat → Int32) × Value) => X 44 5 [.ref (o + 41), .int (nI c), .int (nI g), .int (nI (tkF c g (B.take i))), .int (nI i), U.2] [] (H U.1 P))
    (fun i U => (∀ a, a ≠ o + 44 → U.1 a = T a) ∧ OB U.1 o (tkL c g (B.take i) ++ B.drop i)) B.length (T, .long 0)
    ⟨fun _ _ => rfl, by simpa [tkL] using hB⟩ (by
      intro i ⟨U, w⟩ hi ⟨j1, j2⟩
      have j1 : ∀ a, a ≠ o + 44 → U a = T a := j1
      have j2 : OB U o (tkL c g (B.take i) ++ B.drop i) := j2
      obtain ⟨⟨c', d, m⟩, hx⟩ := at_of hi
      have hx2 := tkL_at (c := c) (g := g) hx
      have j3 := j2
      obtain ⟨h1, h2, h3⟩ := j2
      obtain ⟨g1, g2, g3⟩ := h3 _ _ _ _ hx2
      have hq := hs _ (List.mem_of_getElem? hx)
      have hm : m < 1000 := hq.2.2
      have hc' : c' < 10 := hq.1
      have hlen : (tkL c g (B.take i) ++ B.drop i).length = B.length := by
        rw [List.length_append, tkL_len, List.length_take, List.length_drop]; omega
      rw [hlen] at h1 h2
      have hf := tkF_le c g (B.take i)
      by_cases hcc : c' = c
      · refine ⟨(_, _), by
          show X 44 5 _ _ _ = _
          rw [x44_5]
          simp +decide only [x44_0, x44_1, x44_2, x44_3, x44_7, x44_8, x44_11, x44_14, x44_15, x44_18, x44_20, x44_21, x44_22, x44_25, x44_26, x44_27, x44_30, x44_32, x44_33, x44_36, x44_38, x44_39, x44_42, x44_44, x44_45, x44_46, x44_48, x44_49, x44_50, x44_51, x44_53, x44_54, x44_55, x44_58, x44_61, x44_62, x44_65, aft_some, aft_void, Option.bind_some, Option.toList_some, Option.toList_none, List.cons_append, List.nil_append, if_true, if_false, ↓reduceIte, eq_self, f41_o ho, ↓f41_0 ho, ↓f41_1 ho, ↓f41_2 ho, ↓f41_3 ho, ↓f41_3p ho, ↓f42_g ho, ↓f42_s ho, ↓f43_g ho, ↓f43_s ho, ↓f44_g ho, ↓f44_s ho, h1, g1, g3, nI_lt hi (show B.length < 2 ^ 31 by omega), okx_nI (show i < 99 by omega) (show (99 : Nat) < 2 ^ 31 by decide), nI_clamp (show i < 2 ^ 31 by omega), nI_1, hcc, min_nI (show tkF c g (B.take i) < 2 ^ 31 by omega) (show m < 2 ^ 31 by omega), nI_sub (Nat.min_le_right _ _), nI_sub (Nat.min_le_left _ _)]
          rw [show tkF c g (B.take (i + 1)) = tkF c g (B.take i) - min (tkF c g (B.take i)) m by rw [take_s hx, tkF_app]; simp [tkF, hcc]], ?_, ?_⟩
        · intro a h44
          simp only [upA_n _ _ h44]
          exact j1 a h44
        · rw [← tkL_set hx hcc]
          exact j3.set hx2
      · refine ⟨(U, w), by
          show X 44 5 _ _ _ = _
          rw [x44_5]
          simp +decide only [x44_0, x44_1, x44_2, x44_3, x44_7, x44_8, x44_11, x44_14, x44_15, x44_18, x44_20, x44_21, x44_22, x44_25, x44_26, x44_27, x44_30, x44_32, x44_33, x44_36, x44_38, x44_39, x44_42, x44_44, x44_45, x44_46, x44_48, x44_49, x44_50, x44_51, x44_53, x44_54, x44_55, x44_58, x44_61, x44_62, x44_65, aft_some, aft_void, Option.bind_some, Option.toList_some, Option.toList_none, List.cons_append, List.nil_append, if_true, if_false, ↓reduceIte, eq_self, f41_o ho, ↓f41_0 ho, ↓f41_1 ho, ↓f41_2 ho, ↓f41_3 ho, ↓f41_3p ho, ↓f42_g ho, ↓f42_s ho, ↓f43_g ho, ↓f43_s ho, ↓f44_g ho, ↓f44_s ho, h1, g1, g3, nI_lt hi (show B.length < 2 ^ 31 by omega), okx_nI (show i < 99 by omega) (show (99 : Nat) < 2 ^ 31 by decide), nI_clamp (show i < 2 ^ 31 by omega), nI_1, nI_inj (show c' < 2 ^ 31 by omega) (show c < 2 ^ 31 by omega), hcc]
          rw [show tkF c g (B.take (i + 1)) = tkF c g (B.take i) by rw [take_s hx, tkF_app]; simp [tkF, hcc]], j1, ?_⟩
        rw [← tkL_skip hx hcc]
        exact j3)
  have i1 : ∀ a, a ≠ o + 44 → T1 a = T a := i1
  simp only [List.take_length, List.drop_length, List.append_nil] at e1 i2
  have hb : T1 (o + 41) 3 = nI B.length := by have := i2.1; rw [tkL_len] at this; exact this
  have hle : B.length ≤ 99 := hB.2.1
  obtain ⟨T2, e2, f2, b2⟩ := c_dropE (P := P) ho i2 (tkL_small hs)
  refine ⟨T2, by
    simp +decide only [x44_0, x44_1, x44_2, x44_3, x44_7, x44_8, x44_11, x44_14, x44_15, x44_18, x44_20, x44_21, x44_22, x44_25, x44_26, x44_27, x44_30, x44_32, x44_33, x44_36, x44_38, x44_39, x44_42, x44_44, x44_45, x44_46, x44_48, x44_49, x44_50, x44_51, x44_53, x44_54, x44_55, x44_58, x44_61, x44_62, x44_65, aft_some, aft_void, Option.bind_some, Option.toList_some, Option.toList_none, List.cons_append, List.nil_append, if_true, if_false, ↓reduceIte, eq_self]
    rw [show X 44 5 [.ref (o + 41), .int (nI c), .int (nI g), .int (nI g), .int 0, .long 0] [] (H T P) = _ from e1, x44_5]
    simp +decide only [x44_0, x44_1, x44_2, x44_3, x44_7, x44_8, x44_11, x44_14, x44_15, x44_18, x44_20, x44_21, x44_22, x44_25, x44_26, x44_27, x44_30, x44_32, x44_33, x44_36, x44_38, x44_39, x44_42, x44_44, x44_45, x44_46, x44_48, x44_49, x44_50, x44_51, x44_53, x44_54, x44_55, x44_58, x44_61, x44_62, x44_65, aft_some, aft_void, Option.bind_some, Option.toList_some, Option.toList_none, List.cons_append, List.nil_append, if_true, if_false, ↓reduceIte, eq_self, f41_o ho, ↓f41_0 ho, ↓f41_1 ho, ↓f41_2 ho, ↓f41_3 ho, ↓f41_3p ho, ↓f42_g ho, ↓f42_s ho, ↓f43_g ho, ↓f43_s ho, ↓f44_g ho, ↓f44_s ho, hb, nI_nlt (Nat.le_refl B.length) (show B.length < 2 ^ 31 by omega), ↓aft_of (e2)], fun a h41 h42 h43 h44 => ?_, b2⟩
  rw [f2 a h41 h42 h43 h44, i1 a h44]
theorem oldL_le (lim c : Nat) : ∀ (B : List bT), oldL lim c B ≤ allL B
  | [] => Nat.le_refl _
  | q :: B => by
    have := oldL_le lim c B
    simp only [oldL, allL]
    split <;> omega
/-- takeFromBefore -/
theorem c_takeOld (ho : isB o) (hB : OB T o B) (hs : OS B) {lim : Int32} {c l0 : Nat} (hc : c < 10) (hlim : ∀ d : Nat, d < 20000 → (nI d < lim ↔ d < l0)) : ∃ T', X 46 0 [.ref (o + 41), .int lim, .int (nI c), .long 0, .long 0] [] (H T P) = some (some (.int (nI (oldL l0 c B))), H T' P) ∧ (∀ a, a ≠ o + 41 → a ≠ o + 42 → a ≠ o + 43 → a ≠ o + 44 → T' a = T a) ∧ OB T' o (dropE (zeroL l0 c B)) := by
  obtain ⟨T1, e1, i1, i2⟩ := loop_ex (fun i (U : Nat → Nat → Int32) => X 46 5 [.ref (o + 41), .int lim, .int (nI c), .int (nI (oldL l0 c (B.take i))), .int (nI i)] [] (H U P))
    (fun i U => (∀ a, a ≠ o + 44 → U a = T a) ∧ OB U o (zeroL l0 c (B.take i) ++ B.drop i)) B.length T
    ⟨fun _ _ => rfl, by simpa [zeroL] using hB⟩ (by
      intro i U hi ⟨j1, j2⟩
      obtain ⟨⟨c', d, m⟩, hx⟩ := at_of hi
      have hx2 := zeroL_at (lim := l0) (c := c) hx
      have j3 := j2
      obtain ⟨h1, h2, h3⟩ := j2
      obtain ⟨g1, g2, g3⟩ := h3 _ _ _ _ hx2
      have hq := hs _ (List.mem_of_getElem? hx)
      have hm : m < 1000 := hq.2.2
      have hc' : c' < 10 := hq.1
      have hd := hlim d hq.2.1
      have hlen : (zeroL l0 c (B.take i) ++ B.drop i).length = B.length := by
        unfold zeroL
        rw [List.length_append, List.length_map, List.length_take, List.length_drop]; omega
      rw [hlen] at h1 h2
      by_cases hcc : c' = c ∧ d < l0
      · refine ⟨_, by
          show X 46 5 _ _ _ = _
          rw [x46_5]
          simp +decide only [x46_0, x46_1, x46_2, x46_3, x46_7, x46_8, x46_11, x46_14, x46_15, x46_18, x46_20, x46_21, x46_22, x46_25, x46_26, x46_29, x46_31, x46_32, x46_33, x46_36, x46_37, x46_38, x46_41, x46_43, x46_44, x46_45, x46_46, x46_47, x46_50, x46_52, x46_53, x46_54, x46_57, x46_60, x46_61, x46_64, x46_65, aft_some, aft_void, Option.bind_some, Option.toList_some, Option.toList_none, List.cons_append, List.nil_append, if_true, if_false, ↓reduceIte, eq_self, f41_o ho, ↓f41_0 ho, ↓f41_1 ho, ↓f41_2 ho, ↓f41_3 ho, ↓f41_3p ho, ↓f42_g ho, ↓f42_s ho, ↓f43_g ho, ↓f43_s ho, ↓f44_g ho, ↓f44_s ho, h1, g1, g2, g3, nI_lt hi (show B.length < 2 ^ 31 by omega), okx_nI (show i < 99 by omega) (show (99 : Nat) < 2 ^ 31 by decide), nI_clamp (show i < 2 ^ 31 by omega), nI_1, hcc.1, eq_true (hd.mpr hcc.2), nI_add]
          rw [show oldL l0 c (B.take (i + 1)) = oldL l0 c (B.take i) + m by rw [take_s hx, oldL_app]; simp [oldL, hcc]], ?_, ?_⟩
        · intro a h44
          simp only [upA_n _ _ h44]
          exact j1 a h44
        · rw [← zeroL_set hx hcc]
          exact j3.set (m := 0) hx2
      · refine ⟨U, by
          show X 46 5 _ _ _ = _
          rw [x46_5]
          simp +decide only [x46_0, x46_1, x46_2, x46_3, x46_7, x46_8, x46_11, x46_14, x46_15, x46_18, x46_20, x46_21, x46_22, x46_25, x46_26, x46_29, x46_31, x46_32, x46_33, x46_36, x46_37, x46_38, x46_41, x46_43, x46_44, x46_45, x46_46, x46_47, x46_50, x46_52, x46_53, x46_54, x46_57, x46_60, x46_61, x46_64, x46_65, aft_some, aft_void, Option.bind_some, Option.toList_some, Option.toList_none, List.cons_append, List.nil_append, if_true, if_false, ↓reduceIte, eq_self, f41_o ho, ↓f41_0 ho, ↓f41_1 ho, ↓f41_2 ho, ↓f41_3 ho, ↓f41_3p ho, ↓f42_g ho, ↓f42_s ho, ↓f43_g ho, ↓f43_s ho, ↓f44_g ho, ↓f44_s ho, h1, g1, g2, g3, nI_lt hi (show B.length < 2 ^ 31 by omega), okx_nI (show i < 99 by omega) (show (99 : Nat) < 2 ^ 31 by decide), nI_clamp (show i < 2 ^ 31 by omega), nI_1, nI_inj (show c' < 2 ^ 31 by omega) (show c < 2 ^ 31 by omega), propext hd]
          rw [show oldL l0 c (B.take (i + 1)) = oldL l0 c (B.take i) by rw [take_s hx, oldL_app]; simp [oldL, hcc]]
          by_cases h5 : c' = c
          · have h6 : ¬ d < l0 := fun q => hcc ⟨h5, q⟩
            simp only [h5, h6, if_true, if_false]
          · simp only [h5, if_false], j1, ?_⟩
        rw [← zeroL_skip hx hcc]
        exact j3)
  simp only [List.take_length, List.drop_length, List.append_nil] at e1 i2
  have hb : T1 (o + 41) 3 = nI B.length := by
    have := i2.1
    unfold zeroL at this
    rw [List.length_map] at this
    exact this
  have hle : B.length ≤ 99 := hB.2.1
  obtain ⟨T2, e2, f2, b2⟩ := c_dropE (P := P) ho i2 (zeroL_small hs)
  refine ⟨T2, by
    simp +decide only [x46_0, x46_1, x46_2, x46_3, x46_7, x46_8, x46_11, x46_14, x46_15, x46_18, x46_20, x46_21, x46_22, x46_25, x46_26, x46_29, x46_31, x46_32, x46_33, x46_36, x46_37, x46_38, x46_41, x46_43, x46_44, x46_45, x46_46, x46_47, x46_50, x46_52, x46_53, x46_54, x46_57, x46_60, x46_61, x46_64, x46_65, aft_some, aft_void, Option.bind_some, Option.toList_some, Option.toList_none, List.cons_append, List.nil_append, if_true, if_false, ↓reduceIte, eq_self]
    rw [show X 46 5 [.ref (o + 41), .int lim, .int (nI c), .int 0, .int 0] [] (H T P) = _ from e1, x46_5]
    simp +decide only [x46_0, x46_1, x46_2, x46_3, x46_7, x46_8, x46_11, x46_14, x46_15, x46_18, x46_20, x46_21, x46_22, x46_25, x46_26, x46_29, x46_31, x46_32, x46_33, x46_36, x46_37, x46_38, x46_41, x46_43, x46_44, x46_45, x46_46, x46_47, x46_50, x46_52, x46_53, x46_54, x46_57, x46_60, x46_61, x46_64, x46_65, aft_some, aft_void, Option.bind_some, Option.toList_some, Option.toList_none, List.cons_append, List.nil_append, if_true, if_false, ↓reduceIte, eq_self, f41_o ho, ↓f41_0 ho, ↓f41_1 ho, ↓f41_2 ho, ↓f41_3 ho, ↓f41_3p ho, ↓f42_g ho, ↓f42_s ho, ↓f43_g ho, ↓f43_s ho, ↓f44_g ho, ↓f44_s ho, hb, nI_nlt (Nat.le_refl B.length) (show B.length < 2 ^ 31 by omega), ↓aft_of (e2)], fun a h41 h42 h43 h44 => ?_, b2⟩
  rw [f2 a h41 h42 h43 h44, i1 a h44]
/-- send -/
theorem c_send (ho : isB o) (hB : OB T o B) (hl : B.length < 99) {c d n : Nat} (hn : n < 2 ^ 31) : ∃ T', X 40 0 [.ref (o + 41), .int (nI c), .int (nI d), .int (nI n)] [] (H T P) = some (none, H T' P) ∧ (∀ a, a ≠ o + 41 → a ≠ o + 42 → a ≠ o + 43 → a ≠ o + 44 → T' a = T a) ∧ OB T' o (if 0 < n then B ++ [(c, d, n)] else B) := by
  have hB' := hB
  obtain ⟨h1, h2, h3⟩ := hB
  by_cases h0 : 0 < n
  · refine ⟨_, by
      simp +decide only [x40_0, x40_1, x40_4, x40_5, x40_8, x40_10, x40_13, x40_14, x40_15, x40_18, x40_19, x40_22, x40_23, x40_24, x40_25, x40_28, x40_29, x40_32, x40_33, x40_34, x40_35, x40_38, x40_39, x40_42, x40_43, x40_44, x40_45, x40_46, x40_49, x40_50, x40_51, x40_54, aft_some, aft_void, Option.bind_some, Option.toList_some, Option.toList_none, List.cons_append, List.nil_append, if_true, if_false, ↓reduceIte, eq_self, f41_o ho, ↓f41_0 ho, ↓f41_1 ho, ↓f41_2 ho, ↓f41_3 ho, ↓f41_3p ho, ↓f42_g ho, ↓f42_s ho, ↓f43_g ho, ↓f43_s ho, ↓f44_g ho, ↓f44_s ho, upA_s, u_oo, u_o0, u_0o, u_n, h1, nI_1, show (0 < nI n) = True from eq_true (nI_lt h0 hn), nI_lt hl (show 99 < 2 ^ 31 by decide), show (99 : Int32) = nI 99 from rfl, okx_nI hl (show (99 : Nat) < 2 ^ 31 by decide), nI_clamp (show B.length < 2 ^ 31 by omega)]
      rfl, ?_, ?_⟩
    · intro a h41 h42 h43 h44
      simp only [upA_n _ _ h41, upA_n _ _ h42, upA_n _ _ h43, upA_n _ _ h44]
    · rw [if_pos h0]
      refine ⟨by simp only [upA_s, List.length_append, List.length_singleton], by rw [List.length_append, List.length_singleton]; omega, fun j c' d' n' hj => ?_⟩
      simp +decide only [u_oo, upA_s]
      by_cases hjl : j < B.length
      · rw [List.getElem?_append_left hjl] at hj
        have hne : j ≠ B.length := by omega
        rw [upA_n _ _ hne, upA_n _ _ hne, upA_n _ _ hne]
        exact h3 _ _ _ _ hj
      · rw [List.getElem?_append_right (by omega)] at hj
        have hz : j - B.length < 1 := (List.getElem?_eq_some_iff.mp hj).1
        have hje : j = B.length := by omega
        subst hje
        rw [Nat.sub_self] at hj
        cases hj
        rw [upA_s, upA_s, upA_s]
        exact ⟨rfl, rfl, rfl⟩
  · refine ⟨T, by
      simp +decide only [x40_0, x40_1, x40_4, x40_5, x40_8, x40_10, x40_13, x40_14, x40_15, x40_18, x40_19, x40_22, x40_23, x40_24, x40_25, x40_28, x40_29, x40_32, x40_33, x40_34, x40_35, x40_38, x40_39, x40_42, x40_43, x40_44, x40_45, x40_46, x40_49, x40_50, x40_51, x40_54, aft_some, aft_void, Option.bind_some, Option.toList_some, Option.toList_none, List.cons_append, List.nil_append, if_true, if_false, ↓reduceIte, eq_self, show (0 < nI n) = False from eq_false (nI_nlt (show n ≤ 0 by omega) (by decide))], fun _ _ _ _ _ => rfl, ?_⟩
    rw [if_neg h0]
    exact hB'
/-- anyFromBefore -/
theorem c_anyOld (ho : isB o) (hB : OB T o B) {lim : Int32} : X 45 0 [.ref (o + 41), .int lim] [] (H T P) = some (some (.int (if 0 < B.length ∧ T (o + 43) 0 < lim then 1 else 0)), H T P) := by
  obtain ⟨h1, h2, h3⟩ := hB
  by_cases h0 : 0 < B.length
  · simp +decide only [x45_0, x45_1, x45_4, x45_7, x45_8, x45_11, x45_12, x45_13, x45_14, x45_17, x45_18, x45_21, x45_22, aft_some, aft_void, Option.bind_some, Option.toList_some, Option.toList_none, List.cons_append, List.nil_append, if_true, if_false, ↓reduceIte, eq_self, f41_o ho, ↓f41_0 ho, ↓f41_1 ho, ↓f41_2 ho, ↓f41_3 ho, ↓f41_3p ho, ↓f42_g ho, ↓f42_s ho, ↓f43_g ho, ↓f43_s ho, ↓f44_g ho, ↓f44_s ho, h1, show (0 < nI B.length) = True from eq_true (nI_lt h0 (show B.length < 2 ^ 31 by omega)), cl0, h0, true_and, or_true, true_or]
    split <;> rfl
  · simp +decide only [x45_0, x45_1, x45_4, x45_7, x45_8, x45_11, x45_12, x45_13, x45_14, x45_17, x45_18, x45_21, x45_22, aft_some, aft_void, Option.bind_some, Option.toList_some, Option.toList_none, List.cons_append, List.nil_append, if_true, if_false, ↓reduceIte, eq_self, f41_o ho, ↓f41_0 ho, ↓f41_1 ho, ↓f41_2 ho, ↓f41_3 ho, ↓f41_3p ho, ↓f42_g ho, ↓f42_s ho, ↓f43_g ho, ↓f43_s ho, ↓f44_g ho, ↓f44_s ho, h1, show (0 < nI B.length) = False from eq_false (nI_nlt (show B.length ≤ 0 by omega) (by decide)), h0, false_and, or_true, true_or]
end OU2
end
section
/-! lost pieces, and the book -/
/-- the lost pieces of the state o are these: kind and degree -/
def LO (T : Nat → Nat → Int32) (o : Nat) (n : Nat) (kd dg : Nat → Int32) : Prop := T (o + 45) 2 = nI n ∧ n ≤ 20 ∧ ∀ i, i < n → T (o + 46) i = kd i ∧ T (o + 47) i = dg i
/-- the book of the state o: how many it knows, and the row of the one so many ago -/
def JO (T : Nat → Nat → Int32) (o : Nat) (n : Nat) (R : Nat → Nat → Int32) : Prop := n ≤ 10 ∧ T (o + 49) 1 = nI n ∧ ∃ l, l < 10 ∧ T (o + 49) 2 = nI l ∧ ∀ g, g < n → ∀ k, k < 4 → T (o + 50) (((l + 10 - g) % 10) * 4 + k) = R g k
theorem nI_divp {a b : Nat} (ha : a < 2 ^ 31) (hb : b < 2 ^ 31) (h0 : 0 < b) : nI a / nI b = nI (a / b) := by
  apply Int32.toInt_inj.mp
  rw [nI_toInt (Nat.lt_of_le_of_lt (Nat.div_le_self _ _) ha), Int32.toInt_div_of_ne_right _ _ (by
    intro q
    have := congrArg Int32.toInt q
    rw [nI_toInt hb] at this
    simp at this
    first | omega | done), nI_toInt ha, nI_toInt hb]
  rfl
theorem nI_modp {a b : Nat} (ha : a < 2 ^ 31) (hb : b < 2 ^ 31) (h0 : 0 < b) : nI a - nI a / nI b * nI b = nI (a % b) := by
  rw [nI_divp ha hb h0]
  have e1 : nI (a / b) * nI b = nI (a / b * b) := by
    unfold nI; exact (Int32.ofNat_mul _ _).symm
  rw [e1, nI_sub (Nat.div_mul_le_self a b)]
  congr 1
  have := Nat.div_add_mod a b
  rw [Nat.mul_comm] at this
  omega
section LB
variable {T : Nat → Nat → Int32} {P : Nat → Nat → Nat} {o n : Nat} {kd dg : Nat → Int32} {R : Nat → Nat → Int32} {x y : Int32}
theorem c_lhas (ho : isB o) : X 57 0 [.ref (o + 45), .int x] [] (H T P) = some (some (.int (if x < 0 then 0 else if x < T (o + 45) 2 then 1 else 0)), H T P) := by
  simp +decide only [x57_0, x57_1, x57_4, x57_5, x57_6, x57_9, x57_12, x57_13, x57_16, x57_17, aft_some, aft_void, Option.bind_some, Option.toList_some, Option.toList_none, List.cons_append, List.nil_append, if_true, if_false, ↓reduceIte, eq_self, f45_o ho, ↓f45_0 ho, ↓f45_1 ho, ↓f45_2 ho, ↓f45_2p ho, ↓f46_g ho, ↓f46_s ho, ↓f47_g ho, ↓f47_s ho, or_true, true_or]
  repeat' split
  all_goals rfl
theorem c_lappend (ho : isB o) (hL : LO T o n kd dg) (hn : n < 20) : ∃ T', X 58 0 [.ref (o + 45), .int x, .int y] [] (H T P) = some (none, H T' P) ∧ (∀ a, a ≠ o + 45 → a ≠ o + 46 → a ≠ o + 47 → T' a = T a) ∧ LO T' o (n + 1) (fun i => if i < n then kd i else x) (fun i => if i < n then dg i else y) := by
  obtain ⟨h1, h2, h3⟩ := hL
  refine ⟨_, by
    simp +decide only [x58_0, x58_1, x58_4, x58_5, x58_8, x58_9, x58_10, x58_11, x58_14, x58_15, x58_18, x58_19, x58_20, x58_21, x58_22, x58_25, x58_26, x58_27, x58_30, aft_some, aft_void, Option.bind_some, Option.toList_some, Option.toList_none, List.cons_append, List.nil_append, if_true, if_false, ↓reduceIte, eq_self, f45_o ho, ↓f45_0 ho, ↓f45_1 ho, ↓f45_2 ho, ↓f45_2p ho, ↓f46_g ho, ↓f46_s ho, ↓f47_g ho, ↓f47_s ho, upA_s, u_oo, u_o0, u_0o, u_n, h1, nI_1, okx_nI hn (show (20 : Nat) < 2 ^ 31 by decide), nI_clamp (show n < 2 ^ 31 by omega)]
    rfl, ?_, ?_⟩
  · intro a h45 h46 h47
    simp only [upA_n _ _ h45, upA_n _ _ h46, upA_n _ _ h47]
  · refine ⟨by simp only [upA_s], by omega, fun i hi => ?_⟩
    simp +decide only [u_oo, upA_s]
    by_cases hin : i < n
    · have hne : i ≠ n := by omega
      rw [if_pos hin, if_pos hin, upA_n _ _ hne, upA_n _ _ hne]
      exact h3 i hin
    · have hie : i = n := by omega
      subst hie
      rw [if_neg hin, if_neg hin, upA_s, upA_s]
      exact ⟨rfl, rfl⟩
theorem c_lremove (ho : isB o) (hL : LO T o n kd dg) {p : Nat} (hp : p < n) : ∃ T', X 59 0 [.ref (o + 45), .int (nI p), .long 0] [] (H T P) = some (none, H T' P) ∧ (∀ a, a ≠ o + 45 → a ≠ o + 46 → a ≠ o + 47 → T' a = T a) ∧ LO T' o (n - 1) (fun i => if i < p then kd i else kd (i + 1)) (fun i => if i < p then dg i else dg (i + 1)) := by
  obtain ⟨h1, h2, h3⟩ := hL
  obtain ⟨T1, e1, i1, i2⟩ := loop_ex (fun j (U : Nat → Nat → Int32) => X 59 4 [.ref (o + 45), .int (nI p), .int (nI (p + 1 + j))] [] (H U P))
    (fun j U => (∀ a, a ≠ o + 46 → a ≠ o + 47 → U a = T a) ∧ (∀ i, i < n → U (o + 46) i = (if p ≤ i ∧ i < p + j then kd (i + 1) else kd i) ∧ U (o + 47) i = (if p ≤ i ∧ i < p + j then dg (i + 1) else dg i))) (n - (p + 1)) T
    ⟨fun _ _ _ => rfl, fun i hi => by
      rw [if_neg (by omega), if_neg (by omega)]; exact h3 i hi⟩ (by
      intro j U hj ⟨j1, j2⟩
      have hb : U (o + 45) 2 = nI n := by rw [j1 (o + 45) (by omega) (by omega)]; exact h1
      refine ⟨_, by
        show X 59 4 _ _ _ = _
        rw [x59_4]
        simp +decide only [x59_0, x59_1, x59_2, x59_3, x59_5, x59_6, x59_9, x59_12, x59_13, x59_16, x59_17, x59_18, x59_19, x59_20, x59_23, x59_24, x59_25, x59_26, x59_27, x59_30, x59_31, x59_32, x59_33, x59_34, x59_37, x59_38, x59_39, x59_40, x59_43, x59_46, x59_47, x59_48, x59_51, x59_52, x59_53, x59_56, aft_some, aft_void, Option.bind_some, Option.toList_some, Option.toList_none, List.cons_append, List.nil_append, if_true, if_false, ↓reduceIte, eq_self, f45_o ho, ↓f45_0 ho, ↓f45_1 ho, ↓f45_2 ho, ↓f45_2p ho, ↓f46_g ho, ↓f46_s ho, ↓f47_g ho, ↓f47_s ho, upA_s, u_oo, u_o0, u_0o, u_n, hb, nI_lt (show p + 1 + j < n by omega) (show n < 2 ^ 31 by omega), nI_1, show nI (p + 1 + j) - 1 = nI (p + j) from by rw [show (1 : Int32) = nI 1 from rfl, nI_sub (by omega)]; congr 1; omega, okx_nI (show p + 1 + j < 20 by omega) (show (20 : Nat) < 2 ^ 31 by decide), okx_nI (show p + j < 20 by omega) (show (20 : Nat) < 2 ^ 31 by decide), nI_clamp (show p + 1 + j < 2 ^ 31 by omega), nI_clamp (show p + j < 2 ^ 31 by omega)]
        rfl, ?_, ?_⟩
      · intro a h46 h47
        simp only [upA_n _ _ h46, upA_n _ _ h47]
        exact j1 a h46 h47
      · intro i hi
        simp +decide only [u_oo, upA_s]
        have g1 := j2 (p + 1 + j) (by omega)
        rw [if_neg (by omega), if_neg (by omega)] at g1
        by_cases hie : i = p + j
        · subst hie
          rw [upA_s, upA_s, if_pos ⟨by omega, by omega⟩, if_pos ⟨by omega, by omega⟩, g1.1, g1.2, show p + 1 + j = p + j + 1 by omega]
          exact ⟨rfl, rfl⟩
        · rw [upA_n _ _ hie, upA_n _ _ hie]
          have g2 := j2 i hi
          rw [g2.1, g2.2]
          by_cases hq : p ≤ i ∧ i < p + j
          · rw [if_pos hq, if_pos hq, if_pos ⟨hq.1, by omega⟩, if_pos ⟨hq.1, by omega⟩]; exact ⟨rfl, rfl⟩
          · rw [if_neg hq, if_neg hq, if_neg (by omega), if_neg (by omega)]; exact ⟨rfl, rfl⟩)
  have hb : T1 (o + 45) 2 = nI n := by rw [i1 (o + 45) (by omega) (by omega)]; exact h1
  rw [show p + 1 + (n - (p + 1)) = n by omega] at e1
  refine ⟨_, by
    simp +decide only [x59_0, x59_1, x59_2, x59_3, x59_5, x59_6, x59_9, x59_12, x59_13, x59_16, x59_17, x59_18, x59_19, x59_20, x59_23, x59_24, x59_25, x59_26, x59_27, x59_30, x59_31, x59_32, x59_33, x59_34, x59_37, x59_38, x59_39, x59_40, x59_43, x59_46, x59_47, x59_48, x59_51, x59_52, x59_53, x59_56, aft_some, aft_void, Option.bind_some, Option.toList_some, Option.toList_none, List.cons_append, List.nil_append, if_true, if_false, ↓reduceIte, eq_self, nI_1]
    rw [show X 59 4 [.ref (o + 45), .int (nI p), .int (nI (p + 1))] [] (H T P) = _ from e1, x59_4]
    simp +decide only [x59_0, x59_1, x59_2, x59_3, x59_5, x59_6, x59_9, x59_12, x59_13, x59_16, x59_17, x59_18, x59_19, x59_20, x59_23, x59_24, x59_25, x59_26, x59_27, x59_30, x59_31, x59_32, x59_33, x59_34, x59_37, x59_38, x59_39, x59_40, x59_43, x59_46, x59_47, x59_48, x59_51, x59_52, x59_53, x59_56, aft_some, aft_void, Option.bind_some, Option.toList_some, Option.toList_none, List.cons_append, List.nil_append, if_true, if_false, ↓reduceIte, eq_self, f45_o ho, ↓f45_0 ho, ↓f45_1 ho, ↓f45_2 ho, ↓f45_2p ho, ↓f46_g ho, ↓f46_s ho, ↓f47_g ho, ↓f47_s ho, hb, nI_nlt (Nat.le_refl n) (show n < 2 ^ 31 by omega), show nI n - 1 = nI (n - 1) from by rw [show (1 : Int32) = nI 1 from rfl, nI_sub (by omega)]]
    rfl, ?_, ?_⟩
  · intro a h45 h46 h47
    simp only [upA_n _ _ h45]
    exact i1 a h46 h47
  · refine ⟨by simp only [upA_s], by omega, fun i hi => ?_⟩
    simp +decide only [u_oo]
    have g := i2 i (by omega)
    rw [g.1, g.2]
    by_cases hq : i < p
    · have q1 : ¬ (p ≤ i ∧ i < p + (n - (p + 1))) := by omega
      simp only [q1, hq, if_true, if_false, and_self]
    · have q1 : p ≤ i ∧ i < p + (n - (p + 1)) := by omega
      simp only [q1, hq, if_true, if_false, and_self]
/-- what the book says behind one more event -/
def wrB (R : Nat → Nat → Int32) (e d x y : Int32) : Nat → Nat → Int32 := fun g k => match g with
  | 0 => (match k with | 0 => e | 1 => d | 2 => x | _ => y)
  | g + 1 => R g k
theorem c_write (ho : isB o) (hJ : JO T o n R) {e d : Int32} : ∃ T', X 53 0 [.ref (o + 49), .int e, .int d, .int x, .int y, .long 0] [] (H T P) = some (none, H T' P) ∧ (∀ a, a ≠ o + 49 → a ≠ o + 50 → T' a = T a) ∧ JO T' o (min (n + 1) 10) (wrB R e d x y) := by
  obtain ⟨h1, h2, l, hl, h3, h4⟩ := hJ
  have e1 : nI (l + 1) - nI (l + 1) / 10 * 10 = nI ((l + 1) % 10) := nI_modp (by omega) (by decide) (by decide)
  have hm : (l + 1) % 10 < 10 := Nat.mod_lt _ (by decide)
  have e2 : nI ((l + 1) % 10) * 4 = nI ((l + 1) % 10 * 4) := by unfold nI; exact (Int32.ofNat_mul _ _).symm
  have ek : ∀ k : Nat, nI ((l + 1) % 10 * 4) + nI k = nI ((l + 1) % 10 * 4 + k) := fun k => nI_add _ _
  have e5 := ek 1
  have e6 := ek 2
  have e7 := ek 3
  simp only [nl1, nl2, nl3] at e5 e6 e7
  have m1 : (if 10 < nI (n + 1) then (10 : Int32) else nI (n + 1)) = nI (min (n + 1) 10) := min_nI (a := n + 1) (b := 10) (by omega) (by decide)
  refine ⟨_, by
    simp +decide only [x53_0, x53_1, x53_2, x53_5, x53_6, x53_7, x53_9, x53_10, x53_13, x53_14, x53_15, x53_18, x53_19, x53_20, x53_22, x53_25, x53_28, x53_29, x53_32, x53_33, x53_34, x53_36, x53_37, x53_40, x53_42, x53_43, x53_44, x53_45, x53_48, x53_50, x53_51, x53_52, x53_53, x53_54, x53_55, x53_58, x53_60, x53_61, x53_62, x53_63, x53_64, x53_65, x53_68, x53_70, x53_71, x53_72, x53_74, x53_75, aft_some, aft_void, Option.bind_some, Option.toList_some, Option.toList_none, List.cons_append, List.nil_append, if_true, if_false, ↓reduceIte, eq_self, f49_o ho, ↓f49_0 ho, ↓f49_1 ho, ↓f49_1p ho, ↓f49_2 ho, ↓f49_2p ho, ↓f50_g ho, ↓f50_s ho, upA_s, u_oo, u_o0, u_0o, u_n, h2, h3, nI_1, e1, e2, e5, e6, e7, m1, okx_nI (show (l + 1) % 10 * 4 < 40 by omega) (show (40 : Nat) < 2 ^ 31 by decide), okx_nI (show (l + 1) % 10 * 4 + 1 < 40 by omega) (show (40 : Nat) < 2 ^ 31 by decide), okx_nI (show (l + 1) % 10 * 4 + 2 < 40 by omega) (show (40 : Nat) < 2 ^ 31 by decide), okx_nI (show (l + 1) % 10 * 4 + 3 < 40 by omega) (show (40 : Nat) < 2 ^ 31 by decide), nI_clamp (show (l + 1) % 10 * 4 < 2 ^ 31 by omega), nI_clamp (show (l + 1) % 10 * 4 + 1 < 2 ^ 31 by omega), nI_clamp (show (l + 1) % 10 * 4 + 2 < 2 ^ 31 by omega), nI_clamp (show (l + 1) % 10 * 4 + 3 < 2 ^ 31 by omega)]
    rfl, ?_, ?_⟩
  · intro a h49 h50
    simp only [upA_n _ _ h49, upA_n _ _ h50]
  · refine ⟨Nat.min_le_right _ _, by simp +decide only [upA_s, u_oo], (l + 1) % 10, hm, by simp +decide only [upA_s, u_oo, upA_n], fun g hg k hk => ?_⟩
    simp +decide only [upA_s, u_oo]
    cases g with
    | zero =>
      rw [show ((l + 1) % 10 + 10 - 0) % 10 * 4 + k = (l + 1) % 10 * 4 + k by omega]
      match k, hk with
      | 0, _ => simp [upA, wrB]
      | 1, _ => simp [upA, wrB]
      | 2, _ => simp [upA, wrB]
      | 3, _ => simp [upA, wrB]
    | succ g =>
      have hg' : g < n := by omega
      have hr : ((l + 1) % 10 + 10 - (g + 1)) % 10 = (l + 10 - g) % 10 := by omega
      have hne : (l + 10 - g) % 10 ≠ (l + 1) % 10 := by omega
      rw [hr]
      simp only [upA]
      rw [if_neg (by omega), if_neg (by omega), if_neg (by omega), if_neg (by omega)]
      exact h4 g hg' k hk
theorem c_tell (ho : isB o) (hJ : JO T o n R) {g k : Nat} (hg : g < 10) (hk : k < 4) : X 54 0 [.ref (o + 49), .int (nI g), .int (nI k)] [] (H T P) = some (some (.int (if g < n then R g k else -5)), H T P) := by
  obtain ⟨h1, h2, l, hl, h3, h4⟩ := hJ
  have c1 : (nI g < 0) = False := eq_false (nI_pos (by omega))
  have c2 : (nI k < 0) = False := eq_false (nI_pos (by omega))
  have c3 : (nI k < 4) = True := eq_true (nI_lt hk (show 4 < 2 ^ 31 by decide))
  by_cases hgn : g < n
  · have e0 : nI l - nI g + 10 = nI (l + 10 - g) := by
      rw [show (10 : Int32) = nI 10 from rfl, show nI l - nI g + nI 10 = nI l + nI 10 - nI g by
        rw [Int32.sub_eq_add_neg, Int32.sub_eq_add_neg, Int32.add_assoc, Int32.add_comm (-nI g), ← Int32.add_assoc], nI_add, nI_sub (by omega)]
    have e1 : nI (l + 10 - g) - nI (l + 10 - g) / 10 * 10 = nI ((l + 10 - g) % 10) := nI_modp (by omega) (by decide) (by decide)
    have e2 : nI ((l + 10 - g) % 10) * 4 = nI ((l + 10 - g) % 10 * 4) := by unfold nI; exact (Int32.ofNat_mul _ _).symm
    have hm : (l + 10 - g) % 10 < 10 := Nat.mod_lt _ (by decide)
    simp +decide only [x54_0, x54_1, x54_4, x54_5, x54_6, x54_9, x54_12, x54_13, x54_16, x54_17, x54_18, x54_21, x54_23, x54_24, x54_25, x54_28, x54_29, x54_32, x54_33, x54_34, x54_36, x54_37, x54_39, x54_40, x54_41, x54_42, x54_43, x54_44, x54_45, aft_some, aft_void, Option.bind_some, Option.toList_some, Option.toList_none, List.cons_append, List.nil_append, if_true, if_false, ↓reduceIte, eq_self, f49_o ho, ↓f49_0 ho, ↓f49_1 ho, ↓f49_1p ho, ↓f49_2 ho, ↓f49_2p ho, ↓f50_g ho, ↓f50_s ho, h2, h3, c1, c2, c3, nI_lt hgn (show n < 2 ^ 31 by omega), e0, e1, e2, nI_add, okx_nI (show (l + 10 - g) % 10 * 4 + k < 40 by omega) (show (40 : Nat) < 2 ^ 31 by decide), nI_clamp (show (l + 10 - g) % 10 * 4 + k < 2 ^ 31 by omega), h4 g hgn k hk, hgn]
  · simp +decide only [x54_0, x54_1, x54_4, x54_5, x54_6, x54_9, x54_12, x54_13, x54_16, x54_17, x54_18, x54_21, x54_23, x54_24, x54_25, x54_28, x54_29, x54_32, x54_33, x54_34, x54_36, x54_37, x54_39, x54_40, x54_41, x54_42, x54_43, x54_44, x54_45, aft_some, aft_void, Option.bind_some, Option.toList_some, Option.toList_none, List.cons_append, List.nil_append, if_true, if_false, ↓reduceIte, eq_self, f49_o ho, ↓f49_0 ho, ↓f49_1 ho, ↓f49_1p ho, ↓f49_2 ho, ↓f49_2p ho, ↓f50_g ho, ↓f50_s ho, h2, h3, c1, c2, c3, nI_nlt (show n ≤ g by omega) (show g < 2 ^ 31 by omega), hgn]
end LB
end
section
/-! the shelf -/
/-- the shelf's places hold the state's own baskets, each once -/
def PK (P : Nat → Nat → Nat) (o : Nat) : Prop := (∀ i, i < 8 → ∃ j, j < 8 ∧ P (o + 8) i = o + 9 + 4 * j) ∧ ∀ i, i < 8 → ∀ j, j < 8 → P (o + 8) i = P (o + 8) j → i = j
theorem PK.k {P : Nat → Nat → Nat} {o i : Nat} (h : PK P o) (ho : isB o) (hi : i < 8) : isK (P (o + 8) i) := by
  obtain ⟨j, hj, e⟩ := h.1 i hi
  exact ⟨o, j, ho, hj, e⟩
theorem PK.rg {P : Nat → Nat → Nat} {o i : Nat} (h : PK P o) (hi : i < 8) : o + 9 ≤ P (o + 8) i ∧ P (o + 8) i + 3 < o + 41 := by
  obtain ⟨j, hj, e⟩ := h.1 i hi
  omega
theorem PK.ap {P : Nat → Nat → Nat} {o i j : Nat} (h : PK P o) (hi : i < 8) (hj : j < 8) (hne : i ≠ j) : ∀ x y : Nat, x < 4 → y < 4 → P (o + 8) i + x ≠ P (o + 8) j + y := by
  intro x y hx hy
  obtain ⟨a, ha, e1⟩ := h.1 i hi
  obtain ⟨b, hb, e2⟩ := h.1 j hj
  have hab : a ≠ b := fun q => hne (h.2 i hi j hj (by rw [e1, e2, q]))
  omega
theorem isB_far {o q : Nat} (hb : isB o) (hq : isB q) (h : o ≠ q) : o + 51 ≤ q ∨ q + 51 ≤ o := by
  rcases hb with rfl | rfl | rfl | rfl | rfl | rfl | rfl <;> rcases hq with rfl | rfl | rfl | rfl | rfl | rfl | rfl <;> omega
/-- the basket at b is as that at c -/
def BE (T : Nat → Nat → Int32) (b : Nat) (U : Nat → Nat → Int32) (c : Nat) : Prop := (∀ k, k < 5 → T b k = U c k) ∧ ∀ k, k < 4 → T (b + 1) k = U (c + 1) k ∧ T (b + 2) k = U (c + 2) k ∧ T (b + 3) k = U (c + 3) k
section SH
variable {T : Nat → Nat → Int32} {P : Nat → Nat → Nat} {o q n : Nat} {x y : Int32} {b c : Nat}
theorem c_bcopy (hb : isK b) (hc : isK c) (hne : b ≠ c) : ∃ T', X 1 0 [.ref b, .ref c] [] (H T P) = some (none, H T' P) ∧ (∀ a, (a < b ∨ b + 3 < a) → T' a = T a) ∧ BE T' b T c := by
  have ap : ∀ x y : Nat, x < 4 → y < 4 → c + y ≠ b + x := fun x y hx hy h => isK_apart hb hc hne x y hx hy h.symm
  have a00 : c ≠ b := fun h => ap 0 0 (by decide) (by decide) h
  have a1 : ∀ y, y < 4 → c + y ≠ b := fun y hy h => ap 0 y (by decide) hy h
  have a2 : ∀ x, x < 4 → c ≠ b + x := fun x hx h => ap x 0 hx (by decide) h
  have f0 : ∀ (U : Nat → Nat → Int32) f, upA U b f c = U c := fun U f => upA_n _ _ a00
  have f1 : ∀ (U : Nat → Nat → Int32) f, upA U b f (c + 1) = U (c + 1) := fun U f => upA_n _ _ (a1 1 (by decide))
  have f2 : ∀ (U : Nat → Nat → Int32) f, upA U b f (c + 2) = U (c + 2) := fun U f => upA_n _ _ (a1 2 (by decide))
  have f3 : ∀ (U : Nat → Nat → Int32) f, upA U b f (c + 3) = U (c + 3) := fun U f => upA_n _ _ (a1 3 (by decide))
  have g : ∀ (x y : Nat) (hx : x < 4) (hy : y < 4) (U : Nat → Nat → Int32) f, upA U (b + x) f (c + y) = U (c + y) := fun x y hx hy U f => upA_n _ _ (ap x y hx hy)
  refine ⟨_, by
    simp +decide only [x1_0, x1_1, x1_1N, x1_2, x1_5, x1_8, x1_9, x1_9N, x1_10, x1_13, x1_16, x1_17, x1_17N, x1_18, x1_21, x1_24, x1_25, x1_25N, x1_26, x1_29, x1_32, x1_33, x1_33N, x1_34, x1_37, x1_40, x1_40N, x1_41, x1_44, x1_45, x1_46, x1_49, x1_50, x1_51, x1_54, x1_54N, x1_55, x1_58, x1_59, x1_60, x1_63, x1_64, x1_65, x1_68, x1_68N, x1_69, x1_72, x1_73, x1_74, x1_77, x1_78, x1_79, x1_82, aft_some, aft_void, Option.bind_some, Option.toList_some, Option.toList_none, List.cons_append, List.nil_append, if_true, if_false, ↓reduceIte, eq_self, fK_o hb, ↓fK_0 hb, ↓fK_0p hb, ↓fK_1 hb, ↓fK_1p hb, ↓fK_2 hb, ↓fK_2p hb, ↓fK_3 hb, ↓fK_3p hb, ↓fK_4 hb, ↓fK_4p hb, ↓fK_5 hb, ↓fK_6 hb, ↓fK_7 hb, ↓fK1_g hb, ↓fK1_s hb, ↓fK2_g hb, ↓fK2_s hb, ↓fK3_g hb, ↓fK3_s hb, fK_o hc, ↓fK_0 hc, ↓fK_0p hc, ↓fK_1 hc, ↓fK_1p hc, ↓fK_2 hc, ↓fK_2p hc, ↓fK_3 hc, ↓fK_3p hc, ↓fK_4 hc, ↓fK_4p hc, ↓fK_5 hc, ↓fK_6 hc, ↓fK_7 hc, ↓fK1_g hc, ↓fK1_s hc, ↓fK2_g hc, ↓fK2_s hc, ↓fK3_g hc, ↓fK3_s hc, upA_s, u_oo, u_o0, u_0o, u_n, f0, f1, f2, f3, g 1 2 (by decide) (by decide), g 1 3 (by decide) (by decide), g 2 3 (by decide) (by decide), ↓g_cp0 (sh_k hc).2.1 (sh_k hb).2.1 (show (4 : Int32) = nI 4 from rfl) (Nat.le_refl 4) (Nat.le_refl 4) (by decide), ↓g_cp0 (sh_k hc).2.2.1 (sh_k hb).2.2.1 (show (4 : Int32) = nI 4 from rfl) (Nat.le_refl 4) (Nat.le_refl 4) (by decide), ↓g_cp0 (sh_k hc).2.2.2 (sh_k hb).2.2.2 (show (4 : Int32) = nI 4 from rfl) (Nat.le_refl 4) (Nat.le_refl 4) (by decide)]
    rfl, ?_, ?_, ?_⟩
  · intro a ha
    simp only [upA_n _ _ (show a ≠ b by omega), upA_n _ _ (show a ≠ b + 1 by omega), upA_n _ _ (show a ≠ b + 2 by omega), upA_n _ _ (show a ≠ b + 3 by omega)]
  · intro k hk
    match k, hk with
    | 0, _ => simp [upA]
    | 1, _ => simp [upA]
    | 2, _ => simp [upA]
    | 3, _ => simp [upA]
    | 4, _ => simp [upA]
  · intro k hk
    simp +decide only [upA_s, u_oo, u_0o, cpy0 hk, and_self]
theorem c_shCopy (ho : isB o) (hq : isB q) (hne : o ≠ q) (hPo : PK P o) (hPq : PK P q) (hn : T (q + 7) 1 = nI n) (h8 : n ≤ 8) : ∃ T', X 61 0 [.ref (o + 7), .ref (q + 7), .long 0] [] (H T P) = some (none, H T' P) ∧
    (∀ a, a ≠ o + 7 → (a < o + 9 ∨ o + 41 ≤ a) → T' a = T a) ∧ T' (o + 7) 1 = nI n ∧ T' (o + 7) 2 = T (q + 7) 2 ∧ ∀ i, i < n → BE T' (P (o + 8) i) T (P (q + 8) i) := by
  have hfar := isB_far ho hq hne
  obtain ⟨T1, e1, i1, hb, i3, i2⟩ := loop_ex (fun i (U : Nat → Nat → Int32) => X 61 18 [.ref (o + 7), .ref (q + 7), .int (nI i)] [] (H U P))
    (fun i U => (∀ a, a ≠ o + 7 → (a < o + 9 ∨ o + 41 ≤ a) → U a = T a) ∧ U (o + 7) 1 = nI n ∧ U (o + 7) 2 = T (q + 7) 2 ∧ ∀ j, j < i → BE U (P (o + 8) j) T (P (q + 8) j)) n (up1 (up1 T (o + 7) 1 (nI n)) (o + 7) 2 (T (q + 7) 2))
    ⟨fun a h7 _ => by simp only [upA_n _ _ h7], by simp +decide only [upA_s, u_n], by simp only [upA_s], fun j hj => absurd hj (Nat.not_lt_zero _)⟩ (by
      intro i U hi ⟨j1, hU1, hU2, j2⟩
      have hbo := hPo.k ho (show i < 8 by omega)
      have hbq := hPq.k hq (show i < 8 by omega)
      have r1 := hPo.rg (show i < 8 by omega)
      have r2 := hPq.rg (show i < 8 by omega)
      obtain ⟨U', e, f1, f2⟩ := c_bcopy (T := U) (P := P) hbo hbq (by omega)
      refine ⟨U', by
        show X 61 18 _ _ _ = _
        rw [x61_18]
        simp +decide only [x61_0, x61_1, x61_1N, x61_2, x61_5, x61_8, x61_9, x61_9N, x61_10, x61_13, x61_16, x61_17, x61_19, x61_20, x61_23, x61_26, x61_27, x61_30, x61_31, x61_32, x61_32N, x61_33, x61_36, x61_37, x61_38, x61_41, x61_44, x61_47, aft_some, aft_void, Option.bind_some, Option.toList_some, Option.toList_none, List.cons_append, List.nil_append, if_true, if_false, ↓reduceIte, eq_self, f7_o ho, ↓f7_0 ho, ↓f7_1 ho, ↓f7_1p ho, ↓f7_2 ho, ↓f7_2p ho, ↓f8_g ho, f7_o hq, ↓f7_0 hq, ↓f7_1 hq, ↓f7_1p hq, ↓f7_2 hq, ↓f7_2p hq, ↓f8_g hq, fK_o hbo, hU1, nI_lt hi (show n < 2 ^ 31 by omega), okx_nI (show i < 8 by omega) (show (8 : Nat) < 2 ^ 31 by decide), nI_clamp (show i < 2 ^ 31 by omega), ↓aft_of (e), nI_1], ?_, ?_, ?_, ?_⟩
      · intro a h7 ha
        rw [f1 a (by omega)]
        exact j1 a h7 ha
      · rw [f1 _ (by omega)]; exact hU1
      · rw [f1 _ (by omega)]; exact hU2
      · intro j hj
        by_cases hji : j = i
        · subst hji
          refine ⟨fun k hk => ?_, fun k hk => ?_⟩
          · rw [f2.1 k hk, j1 _ (by omega) (by omega)]
          · have := f2.2 k hk
            rw [this.1, this.2.1, this.2.2, j1 _ (by omega) (by omega), j1 _ (by omega) (by omega), j1 _ (by omega) (by omega)]
            exact ⟨rfl, rfl, rfl⟩
        · have g := j2 j (by omega)
          have ap := hPo.ap (show j < 8 by omega) (show i < 8 by omega) hji
          have hz : ∀ x, x < 4 → U' (P (o + 8) j + x) = U (P (o + 8) j + x) := fun x hx => f1 _ (by
            have h0 := ap x 0 hx (by decide)
            have h1 := ap x 1 hx (by decide)
            have h2 := ap x 2 hx (by decide)
            have h3 := ap x 3 hx (by decide)
            omega)
          have hz0 := hz 0 (by decide)
          refine ⟨fun k hk => ?_, fun k hk => ?_⟩
          · rw [show P (o + 8) j = P (o + 8) j + 0 from rfl, hz0]; exact g.1 k hk
          · rw [hz 1 (by decide), hz 2 (by decide), hz 3 (by decide)]; exact g.2 k hk)
  refine ⟨T1, by
    simp +decide only [x61_0, x61_1, x61_1N, x61_2, x61_5, x61_8, x61_9, x61_9N, x61_10, x61_13, x61_16, x61_17, x61_19, x61_20, x61_23, x61_26, x61_27, x61_30, x61_31, x61_32, x61_32N, x61_33, x61_36, x61_37, x61_38, x61_41, x61_44, x61_47, aft_some, aft_void, Option.bind_some, Option.toList_some, Option.toList_none, List.cons_append, List.nil_append, if_true, if_false, ↓reduceIte, eq_self, f7_o ho, ↓f7_0 ho, ↓f7_1 ho, ↓f7_1p ho, ↓f7_2 ho, ↓f7_2p ho, ↓f8_g ho, f7_o hq, ↓f7_0 hq, ↓f7_1 hq, ↓f7_1p hq, ↓f7_2 hq, ↓f7_2p hq, ↓f8_g hq, upA_s, u_oo, u_o0, u_0o, u_n, u_ap ho hq hne, hn]
    rw [show X 61 18 [.ref (o + 7), .ref (q + 7), .int 0] [] (H (up1 (up1 T (o + 7) 1 (nI n)) (o + 7) 2 (T (q + 7) 2)) P) = _ from e1, x61_18]
    simp +decide only [x61_0, x61_1, x61_1N, x61_2, x61_5, x61_8, x61_9, x61_9N, x61_10, x61_13, x61_16, x61_17, x61_19, x61_20, x61_23, x61_26, x61_27, x61_30, x61_31, x61_32, x61_32N, x61_33, x61_36, x61_37, x61_38, x61_41, x61_44, x61_47, aft_some, aft_void, Option.bind_some, Option.toList_some, Option.toList_none, List.cons_append, List.nil_append, if_true, if_false, ↓reduceIte, eq_self, f7_o ho, ↓f7_0 ho, ↓f7_1 ho, ↓f7_1p ho, ↓f7_2 ho, ↓f7_2p ho, ↓f8_g ho, hb, nI_nlt (Nat.le_refl n) (show n < 2 ^ 31 by omega)], i1, hb, i3, i2⟩
theorem c_isFull (ho : isB o) : X 62 0 [.ref (o + 7)] [] (H T P) = some (some (.int (if T (o + 7) 1 < 8 then (if T (o + 7) 2 < 99 then 0 else 1) else 1)), H T P) := by
  simp +decide only [x62_0, x62_1, x62_4, x62_6, x62_9, x62_10, x62_13, x62_15, x62_18, x62_19, x62_22, x62_23, aft_some, aft_void, Option.bind_some, Option.toList_some, Option.toList_none, List.cons_append, List.nil_append, if_true, if_false, ↓reduceIte, eq_self, f7_o ho, ↓f7_0 ho, ↓f7_1 ho, ↓f7_1p ho, ↓f7_2 ho, ↓f7_2p ho, ↓f8_g ho, or_true, true_or]
  repeat' split
  all_goals rfl
/-- the pins in use, as bits -/
def usI (f : Nat → Int32) : Nat → Int32
  | 0 => 0
  | i + 1 => usI f i ||| ((1 : Int32) <<< (f i &&& 31))
def fpI (u : Int32) : Int32 := if u >>> ((0 : Int32) &&& 31) &&& 1 = 0 then 0 else if u >>> ((1 : Int32) &&& 31) &&& 1 = 0 then 1 else if u >>> ((2 : Int32) &&& 31) &&& 1 = 0 then 2 else if u >>> ((3 : Int32) &&& 31) &&& 1 = 0 then 3 else if u >>> ((4 : Int32) &&& 31) &&& 1 = 0 then 4 else if u >>> ((5 : Int32) &&& 31) &&& 1 = 0 then 5 else if u >>> ((6 : Int32) &&& 31) &&& 1 = 0 then 6 else if u >>> ((7 : Int32) &&& 31) &&& 1 = 0 then 7 else 8
theorem c_freePin (ho : isB o) (hP : PK P o) (hn : T (o + 7) 1 = nI n) (h8 : n ≤ 8) : X 64 0 [.ref (o + 7), .long 0, .long 0] [] (H T P) = some (some (.int (fpI (usI (fun i => T (P (o + 8) i) 2) n))), H T P) := by
  have hstep : ∀ i, i < n → X 64 4 [.ref (o + 7), .int (usI (fun i => T (P (o + 8) i) 2) i), .int (nI i)] [] (H T P) = X 64 4 [.ref (o + 7), .int (usI (fun i => T (P (o + 8) i) 2) (i + 1)), .int (nI (i + 1))] [] (H T P) := by
    intro i hi
    have hk := hP.k ho (show i < 8 by omega)
    rw [x64_4]
    simp +decide only [x64_0, x64_1, x64_2, x64_3, x64_5, x64_6, x64_9, x64_12, x64_13, x64_14, x64_15, x64_18, x64_19, x64_20, x64_23, x64_24, x64_25, x64_26, x64_29, x64_32, x64_33, x64_34, x64_35, x64_37, x64_40, x64_41, x64_42, x64_43, x64_44, x64_45, x64_48, x64_51, x64_54, x64_55, aft_some, aft_void, Option.bind_some, Option.toList_some, Option.toList_none, List.cons_append, List.nil_append, if_true, if_false, ↓reduceIte, eq_self, f7_o ho, ↓f7_0 ho, ↓f7_1 ho, ↓f7_1p ho, ↓f7_2 ho, ↓f7_2p ho, ↓f8_g ho, fK_o hk, ↓fK_0 hk, ↓fK_0p hk, ↓fK_1 hk, ↓fK_1p hk, ↓fK_2 hk, ↓fK_2p hk, ↓fK_3 hk, ↓fK_3p hk, ↓fK_4 hk, ↓fK_4p hk, ↓fK_5 hk, ↓fK_6 hk, ↓fK_7 hk, ↓fK1_g hk, ↓fK1_s hk, ↓fK2_g hk, ↓fK2_s hk, ↓fK3_g hk, ↓fK3_s hk, hn, nI_lt hi (show n < 2 ^ 31 by omega), okx_nI (show i < 8 by omega) (show (8 : Nat) < 2 ^ 31 by decide), nI_clamp (show i < 2 ^ 31 by omega), nI_1, usI]
  simp +decide only [x64_0, x64_1, x64_2, x64_3, x64_5, x64_6, x64_9, x64_12, x64_13, x64_14, x64_15, x64_18, x64_19, x64_20, x64_23, x64_24, x64_25, x64_26, x64_29, x64_32, x64_33, x64_34, x64_35, x64_37, x64_40, x64_41, x64_42, x64_43, x64_44, x64_45, x64_48, x64_51, x64_54, x64_55, aft_some, aft_void, Option.bind_some, Option.toList_some, Option.toList_none, List.cons_append, List.nil_append, if_true, if_false, ↓reduceIte, eq_self]
  rw [show X 64 4 [.ref (o + 7), .int 0, .int 0] [] (H T P) = _ from loop_up (fun i => X 64 4 [.ref (o + 7), .int (usI (fun i => T (P (o + 8) i) 2) i), .int (nI i)] [] (H T P)) n hstep, x64_4]
  generalize usI (fun i => T (P (o + 8) i) 2) n = u
  simp +decide only [x64_0, x64_1, x64_2, x64_3, x64_5, x64_6, x64_9, x64_12, x64_13, x64_14, x64_15, x64_18, x64_19, x64_20, x64_23, x64_24, x64_25, x64_26, x64_29, x64_32, x64_33, x64_34, x64_35, x64_37, x64_40, x64_41, x64_42, x64_43, x64_44, x64_45, x64_48, x64_51, x64_54, x64_55, aft_some, aft_void, Option.bind_some, Option.toList_some, Option.toList_none, List.cons_append, List.nil_append, if_true, if_false, ↓reduceIte, eq_self, f7_o ho, ↓f7_0 ho, ↓f7_1 ho, ↓f7_1p ho, ↓f7_2 ho, ↓f7_2p ho, ↓f8_g ho, hn, nI_nlt (Nat.le_refl n) (show n < 2 ^ 31 by omega), Int32.reduceAdd]
  unfold fpI
  repeat' split
  all_goals first | rfl | contradiction
/-- the first place with a property -/
noncomputable def fstN (p : Nat → Prop) : Nat → Nat → Option Nat
  | _, 0 => none
  | i, n + 1 => (@ite _ (p i) (Classical.propDecidable _) (some i) (fstN p (i + 1) n))
theorem c_withNumber (ho : isB o) (hP : PK P o) (hn : T (o + 7) 1 = nI n) (h8 : n ≤ 8) : X 65 0 [.ref (o + 7), .int x, .long 0] [] (H T P) = some (some (match fstN (fun i => T (P (o + 8) i) 0 = x) 0 n with
    | some i => .ref (P (o + 8) i)
    | none => .null), H T P) := by
  have key : ∀ m i, i + m = n → X 65 2 [.ref (o + 7), .int x, .int (nI i)] [] (H T P) = some (some (match fstN (fun i => T (P (o + 8) i) 0 = x) i m with
    | some i => .ref (P (o + 8) i)
    | none => .null), H T P) := by
    intro m
    induction m with
    | zero =>
      intro i hi
      have hi : i = n := by omega
      subst hi
      rw [x65_2]
      simp +decide only [x65_0, x65_1, x65_3, x65_4, x65_7, x65_10, x65_11, x65_14, x65_15, x65_16, x65_19, x65_20, x65_23, x65_24, x65_27, x65_28, x65_29, x65_29N, x65_30, x65_33, x65_36, x65_37, x65_37N, aft_some, aft_void, Option.bind_some, Option.toList_some, Option.toList_none, List.cons_append, List.nil_append, if_true, if_false, ↓reduceIte, eq_self, f7_o ho, ↓f7_0 ho, ↓f7_1 ho, ↓f7_1p ho, ↓f7_2 ho, ↓f7_2p ho, ↓f8_g ho, hn, nI_nlt (Nat.le_refl i) (show i < 2 ^ 31 by omega), fstN]
    | succ m ih =>
      intro i hi
      have hk := hP.k ho (show i < 8 by omega)
      rw [x65_2]
      simp +decide only [x65_0, x65_1, x65_3, x65_4, x65_7, x65_10, x65_11, x65_14, x65_15, x65_16, x65_19, x65_20, x65_23, x65_24, x65_27, x65_28, x65_29, x65_29N, x65_30, x65_33, x65_36, x65_37, x65_37N, aft_some, aft_void, Option.bind_some, Option.toList_some, Option.toList_none, List.cons_append, List.nil_append, if_true, if_false, ↓reduceIte, eq_self, f7_o ho, ↓f7_0 ho, ↓f7_1 ho, ↓f7_1p ho, ↓f7_2 ho, ↓f7_2p ho, ↓f8_g ho, fK_o hk, ↓fK_0 hk, ↓fK_0p hk, ↓fK_1 hk, ↓fK_1p hk, ↓fK_2 hk, ↓fK_2p hk, ↓fK_3 hk, ↓fK_3p hk, ↓fK_4 hk, ↓fK_4p hk, ↓fK_5 hk, ↓fK_6 hk, ↓fK_7 hk, ↓fK1_g hk, ↓fK1_s hk, ↓fK2_g hk, ↓fK2_s hk, ↓fK3_g hk, ↓fK3_s hk, hn, nI_lt (show i < n by omega) (show n < 2 ^ 31 by omega), okx_nI (show i < 8 by omega) (show (8 : Nat) < 2 ^ 31 by decide), nI_clamp (show i < 2 ^ 31 by omega), nI_1, fstN]
      by_cases hx : T (P (o + 8) i) 0 = x
      · simp only [hx, if_true]
      · simp only [hx, if_false]
        exact ih (i + 1) (by omega)
  simp +decide only [x65_0, x65_1, x65_3, x65_4, x65_7, x65_10, x65_11, x65_14, x65_15, x65_16, x65_19, x65_20, x65_23, x65_24, x65_27, x65_28, x65_29, x65_29N, x65_30, x65_33, x65_36, x65_37, x65_37N, aft_some, aft_void, Option.bind_some, Option.toList_some, Option.toList_none, List.cons_append, List.nil_append, if_true, if_false, ↓reduceIte, eq_self]
  exact key n 0 (by omega)
/-- a sum over the shelf -/
theorem c_numberFrom (ho : isB o) (hP : PK P o) (hn : T (o + 7) 1 = nI n) (h8 : n ≤ 8) : X 66 0 [.ref (o + 7), .int x, .long 0, .long 0] [] (H T P) = some (some (.int (smI (fun i => if T (P (o + 8) i) 1 = x then 1 else 0) n)), H T P) := by
  have hstep : ∀ i, i < n → X 66 4 [.ref (o + 7), .int x, .int (smI (fun i => if T (P (o + 8) i) 1 = x then 1 else 0) i), .int (nI i)] [] (H T P) = X 66 4 [.ref (o + 7), .int x, .int (smI (fun i => if T (P (o + 8) i) 1 = x then 1 else 0) (i + 1)), .int (nI (i + 1))] [] (H T P) := by
    intro i hi
    have hk := hP.k ho (show i < 8 by omega)
    rw [x66_4]
    simp +decide only [x66_0, x66_1, x66_2, x66_3, x66_5, x66_6, x66_9, x66_12, x66_13, x66_16, x66_17, x66_18, x66_21, x66_22, x66_25, x66_28, x66_31, x66_34, x66_35, aft_some, aft_void, Option.bind_some, Option.toList_some, Option.toList_none, List.cons_append, List.nil_append, if_true, if_false, ↓reduceIte, eq_self, f7_o ho, ↓f7_0 ho, ↓f7_1 ho, ↓f7_1p ho, ↓f7_2 ho, ↓f7_2p ho, ↓f8_g ho, fK_o hk, ↓fK_0 hk, ↓fK_0p hk, ↓fK_1 hk, ↓fK_1p hk, ↓fK_2 hk, ↓fK_2p hk, ↓fK_3 hk, ↓fK_3p hk, ↓fK_4 hk, ↓fK_4p hk, ↓fK_5 hk, ↓fK_6 hk, ↓fK_7 hk, ↓fK1_g hk, ↓fK1_s hk, ↓fK2_g hk, ↓fK2_s hk, ↓fK3_g hk, ↓fK3_s hk, hn, nI_lt hi (show n < 2 ^ 31 by omega), okx_nI (show i < 8 by omega) (show (8 : Nat) < 2 ^ 31 by decide), nI_clamp (show i < 2 ^ 31 by omega), nI_1, smI]
    by_cases hx : T (P (o + 8) i) 1 = x
    · simp only [hx, if_true]
    · simp only [hx, if_false, Int32.add_zero]
  simp +decide only [x66_0, x66_1, x66_2, x66_3, x66_5, x66_6, x66_9, x66_12, x66_13, x66_16, x66_17, x66_18, x66_21, x66_22, x66_25, x66_28, x66_31, x66_34, x66_35, aft_some, aft_void, Option.bind_some, Option.toList_some, Option.toList_none, List.cons_append, List.nil_append, if_true, if_false, ↓reduceIte, eq_self]
  rw [show X 66 4 [.ref (o + 7), .int x, .int 0, .int 0] [] (H T P) = _ from loop_up (fun i => X 66 4 [.ref (o + 7), .int x, .int (smI (fun i => if T (P (o + 8) i) 1 = x then 1 else 0) i), .int (nI i)] [] (H T P)) n hstep, x66_4]
  simp +decide only [x66_0, x66_1, x66_2, x66_3, x66_5, x66_6, x66_9, x66_12, x66_13, x66_16, x66_17, x66_18, x66_21, x66_22, x66_25, x66_28, x66_31, x66_34, x66_35, aft_some, aft_void, Option.bind_some, Option.toList_some, Option.toList_none, List.cons_append, List.nil_append, if_true, if_false, ↓reduceIte, eq_self, f7_o ho, ↓f7_0 ho, ↓f7_1 ho, ↓f7_1p ho, ↓f7_2 ho, ↓f7_2p ho, ↓f8_g ho, hn, nI_nlt (Nat.le_refl n) (show n < 2 ^ 31 by omega)]
theorem c_numberReady (ho : isB o) (hP : PK P o) (hn : T (o + 7) 1 = nI n) (h8 : n ≤ 8) : X 67 0 [.ref (o + 7), .long 0, .long 0] [] (H T P) = some (some (.int (smI (fun i => rdI T (P (o + 8) i)) n)), H T P) := by
  have hstep : ∀ i, i < n → X 67 4 [.ref (o + 7), .int (smI (fun i => rdI T (P (o + 8) i)) i), .int (nI i)] [] (H T P) = X 67 4 [.ref (o + 7), .int (smI (fun i => rdI T (P (o + 8) i)) (i + 1)), .int (nI (i + 1))] [] (H T P) := by
    intro i hi
    have hk := hP.k ho (show i < 8 by omega)
    rw [x67_4]
    simp +decide only [x67_0, x67_1, x67_2, x67_3, x67_5, x67_6, x67_9, x67_12, x67_13, x67_16, x67_17, x67_18, x67_21, x67_24, x67_27, x67_30, x67_33, x67_34, aft_some, aft_void, Option.bind_some, Option.toList_some, Option.toList_none, List.cons_append, List.nil_append, if_true, if_false, ↓reduceIte, eq_self, f7_o ho, ↓f7_0 ho, ↓f7_1 ho, ↓f7_1p ho, ↓f7_2 ho, ↓f7_2p ho, ↓f8_g ho, fK_o hk, hn, nI_lt hi (show n < 2 ^ 31 by omega), okx_nI (show i < 8 by omega) (show (8 : Nat) < 2 ^ 31 by decide), nI_clamp (show i < 2 ^ 31 by omega), nI_1, smI, ↓aft_of (c_isReady hk)]
    rcases rdI_01 (T := T) (b := P (o + 8) i) with hx | hx
    · simp only [hx, if_true, Int32.add_zero]
    · simp +decide only [hx, if_false]
  simp +decide only [x67_0, x67_1, x67_2, x67_3, x67_5, x67_6, x67_9, x67_12, x67_13, x67_16, x67_17, x67_18, x67_21, x67_24, x67_27, x67_30, x67_33, x67_34, aft_some, aft_void, Option.bind_some, Option.toList_some, Option.toList_none, List.cons_append, List.nil_append, if_true, if_false, ↓reduceIte, eq_self]
  rw [show X 67 4 [.ref (o + 7), .int 0, .int 0] [] (H T P) = _ from loop_up (fun i => X 67 4 [.ref (o + 7), .int (smI (fun i => rdI T (P (o + 8) i)) i), .int (nI i)] [] (H T P)) n hstep, x67_4]
  simp +decide only [x67_0, x67_1, x67_2, x67_3, x67_5, x67_6, x67_9, x67_12, x67_13, x67_16, x67_17, x67_18, x67_21, x67_24, x67_27, x67_30, x67_33, x67_34, aft_some, aft_void, Option.bind_some, Option.toList_some, Option.toList_none, List.cons_append, List.nil_append, if_true, if_false, ↓reduceIte, eq_self, f7_o ho, ↓f7_0 ho, ↓f7_1 ho, ↓f7_1p ho, ↓f7_2 ho, ↓f7_2p ho, ↓f8_g ho, hn, nI_nlt (Nat.le_refl n) (show n < 2 ^ 31 by omega)]
/-- does the basket miss such a piece -/
def msI (T : Nat → Nat → Int32) (k : Nat) (d : Int32) (b : Nat) : Int32 := if 0 < T (b + 3) k ∧ dgI (T b 3) k = d then 1 else 0
theorem msI_01 {k : Nat} {d : Int32} : msI T k d b = 0 ∨ msI T k d b = 1 := by
  unfold msI; split <;> simp
theorem c_numberMissing (ho : isB o) (hP : PK P o) (hn : T (o + 7) 1 = nI n) (h8 : n ≤ 8) {k : Nat} (hk4 : k < 4) (d : Int32) : X 68 0 [.ref (o + 7), .int (nI k), .int d, .long 0, .long 0] [] (H T P) = some (some (.int (smI (fun i => msI T k d (P (o + 8) i)) n)), H T P) := by
  have hstep : ∀ i, i < n → X 68 5 [.ref (o + 7), .int (nI k), .int d, .int (smI (fun i => msI T k d (P (o + 8) i)) i), .int (nI i)] [] (H T P) = X 68 5 [.ref (o + 7), .int (nI k), .int d, .int (smI (fun i => msI T k d (P (o + 8) i)) (i + 1)), .int (nI (i + 1))] [] (H T P) := by
    intro i hi
    have hk := hP.k ho (show i < 8 by omega)
    have hm := c_misses (T := T) (P := P) hk k hk4 d
    have hms := msI_01 (T := T) (b := P (o + 8) i) (k := k) (d := d)
    have e : (if 0 < T (P (o + 8) i + 3) k ∧ dgI (T (P (o + 8) i) 3) k = d then (1 : Int32) else 0) = msI T k d (P (o + 8) i) := rfl
    rw [e] at hm
    rw [x68_5]
    simp +decide only [x68_0, x68_1, x68_2, x68_3, x68_7, x68_8, x68_11, x68_14, x68_15, x68_18, x68_20, x68_21, x68_22, x68_23, x68_26, x68_29, x68_32, x68_35, x68_38, x68_39, aft_some, aft_void, Option.bind_some, Option.toList_some, Option.toList_none, List.cons_append, List.nil_append, if_true, if_false, ↓reduceIte, eq_self, f7_o ho, ↓f7_0 ho, ↓f7_1 ho, ↓f7_1p ho, ↓f7_2 ho, ↓f7_2p ho, ↓f8_g ho, fK_o hk, hn, nI_lt hi (show n < 2 ^ 31 by omega), okx_nI (show i < 8 by omega) (show (8 : Nat) < 2 ^ 31 by decide), nI_clamp (show i < 2 ^ 31 by omega), nI_1, smI, ↓aft_of (hm)]
    rcases hms with hx | hx
    · simp only [hx, if_true, Int32.add_zero]
    · simp +decide only [hx, if_false]
  simp +decide only [x68_0, x68_1, x68_2, x68_3, x68_7, x68_8, x68_11, x68_14, x68_15, x68_18, x68_20, x68_21, x68_22, x68_23, x68_26, x68_29, x68_32, x68_35, x68_38, x68_39, aft_some, aft_void, Option.bind_some, Option.toList_some, Option.toList_none, List.cons_append, List.nil_append, if_true, if_false, ↓reduceIte, eq_self]
  rw [show X 68 5 [.ref (o + 7), .int (nI k), .int d, .int 0, .int 0] [] (H T P) = _ from loop_up (fun i => X 68 5 [.ref (o + 7), .int (nI k), .int d, .int (smI (fun i => msI T k d (P (o + 8) i)) i), .int (nI i)] [] (H T P)) n hstep, x68_5]
  simp +decide only [x68_0, x68_1, x68_2, x68_3, x68_7, x68_8, x68_11, x68_14, x68_15, x68_18, x68_20, x68_21, x68_22, x68_23, x68_26, x68_29, x68_32, x68_35, x68_38, x68_39, aft_some, aft_void, Option.bind_some, Option.toList_some, Option.toList_none, List.cons_append, List.nil_append, if_true, if_false, ↓reduceIte, eq_self, f7_o ho, ↓f7_0 ho, ↓f7_1 ho, ↓f7_1p ho, ↓f7_2 ho, ↓f7_2p ho, ↓f8_g ho, hn, nI_nlt (Nat.le_refl n) (show n < 2 ^ 31 by omega)]
theorem c_lowestMissing (ho : isB o) (hP : PK P o) (hn : T (o + 7) 1 = nI n) (h8 : n ≤ 8) {k : Nat} (hk4 : k < 4) (d : Int32) : X 69 0 [.ref (o + 7), .int (nI k), .int d, .long 0] [] (H T P) = some (some (.int (match fstN (fun i => msI T k d (P (o + 8) i) = 1) 0 n with
    | some i => T (P (o + 8) i) 0
    | none => -5)), H T P) := by
  have key : ∀ m i, i + m = n → X 69 2 [.ref (o + 7), .int (nI k), .int d, .int (nI i)] [] (H T P) = some (some (.int (match fstN (fun i => msI T k d (P (o + 8) i) = 1) i m with
    | some i => T (P (o + 8) i) 0
    | none => -5)), H T P) := by
    intro m
    induction m with
    | zero =>
      intro i hi
      have hi : i = n := by omega
      subst hi
      rw [x69_2]
      simp +decide only [x69_0, x69_1, x69_3, x69_4, x69_7, x69_10, x69_11, x69_14, x69_15, x69_16, x69_17, x69_18, x69_21, x69_24, x69_25, x69_28, x69_29, x69_30, x69_33, x69_34, x69_37, x69_40, x69_42, aft_some, aft_void, Option.bind_some, Option.toList_some, Option.toList_none, List.cons_append, List.nil_append, if_true, if_false, ↓reduceIte, eq_self, f7_o ho, ↓f7_0 ho, ↓f7_1 ho, ↓f7_1p ho, ↓f7_2 ho, ↓f7_2p ho, ↓f8_g ho, hn, nI_nlt (Nat.le_refl i) (show i < 2 ^ 31 by omega), fstN]
    | succ m ih =>
      intro i hi
      have hk := hP.k ho (show i < 8 by omega)
      have hm := c_misses (T := T) (P := P) hk k hk4 d
      have hms := msI_01 (T := T) (b := P (o + 8) i) (k := k) (d := d)
      have e : (if 0 < T (P (o + 8) i + 3) k ∧ dgI (T (P (o + 8) i) 3) k = d then (1 : Int32) else 0) = msI T k d (P (o + 8) i) := rfl
      rw [e] at hm
      rw [x69_2]
      simp +decide only [x69_0, x69_1, x69_3, x69_4, x69_7, x69_10, x69_11, x69_14, x69_15, x69_16, x69_17, x69_18, x69_21, x69_24, x69_25, x69_28, x69_29, x69_30, x69_33, x69_34, x69_37, x69_40, x69_42, aft_some, aft_void, Option.bind_some, Option.toList_some, Option.toList_none, List.cons_append, List.nil_append, if_true, if_false, ↓reduceIte, eq_self, f7_o ho, ↓f7_0 ho, ↓f7_1 ho, ↓f7_1p ho, ↓f7_2 ho, ↓f7_2p ho, ↓f8_g ho, fK_o hk, ↓fK_0 hk, ↓fK_0p hk, ↓fK_1 hk, ↓fK_1p hk, ↓fK_2 hk, ↓fK_2p hk, ↓fK_3 hk, ↓fK_3p hk, ↓fK_4 hk, ↓fK_4p hk, ↓fK_5 hk, ↓fK_6 hk, ↓fK_7 hk, ↓fK1_g hk, ↓fK1_s hk, ↓fK2_g hk, ↓fK2_s hk, ↓fK3_g hk, ↓fK3_s hk, hn, nI_lt (show i < n by omega) (show n < 2 ^ 31 by omega), okx_nI (show i < 8 by omega) (show (8 : Nat) < 2 ^ 31 by decide), nI_clamp (show i < 2 ^ 31 by omega), nI_1, fstN, ↓aft_of (hm)]
      rcases hms with hx | hx
      · simp +decide only [hx, if_true, if_false]
        exact ih (i + 1) (by omega)
      · simp +decide only [hx, if_true, if_false]
  simp +decide only [x69_0, x69_1, x69_3, x69_4, x69_7, x69_10, x69_11, x69_14, x69_15, x69_16, x69_17, x69_18, x69_21, x69_24, x69_25, x69_28, x69_29, x69_30, x69_33, x69_34, x69_37, x69_40, x69_42, aft_some, aft_void, Option.bind_some, Option.toList_some, Option.toList_none, List.cons_append, List.nil_append, if_true, if_false, ↓reduceIte, eq_self]
  exact key n 0 (by omega)
theorem c_onPieces (ho : isB o) (hP : PK P o) (hn : T (o + 7) 1 = nI n) (h8 : n ≤ 8) : X 70 0 [.ref (o + 7), .long 0, .long 0] [] (H T P) = some (some (.int (smI (fun i => nhI (T (P (o + 8) i + 2))) n)), H T P) := by
  have hstep : ∀ i, i < n → X 70 4 [.ref (o + 7), .int (smI (fun i => nhI (T (P (o + 8) i + 2))) i), .int (nI i)] [] (H T P) = X 70 4 [.ref (o + 7), .int (smI (fun i => nhI (T (P (o + 8) i + 2))) (i + 1)), .int (nI (i + 1))] [] (H T P) := by
    intro i hi
    have hk := hP.k ho (show i < 8 by omega)
    rw [x70_4]
    simp +decide only [x70_0, x70_1, x70_2, x70_3, x70_5, x70_6, x70_9, x70_12, x70_13, x70_14, x70_17, x70_18, x70_19, x70_22, x70_25, x70_26, x70_27, x70_30, x70_33, x70_34, aft_some, aft_void, Option.bind_some, Option.toList_some, Option.toList_none, List.cons_append, List.nil_append, if_true, if_false, ↓reduceIte, eq_self, f7_o ho, ↓f7_0 ho, ↓f7_1 ho, ↓f7_1p ho, ↓f7_2 ho, ↓f7_2p ho, ↓f8_g ho, fK_o hk, ↓fK_0 hk, ↓fK_0p hk, ↓fK_1 hk, ↓fK_1p hk, ↓fK_2 hk, ↓fK_2p hk, ↓fK_3 hk, ↓fK_3p hk, ↓fK_4 hk, ↓fK_4p hk, ↓fK_5 hk, ↓fK_6 hk, ↓fK_7 hk, ↓fK1_g hk, ↓fK1_s hk, ↓fK2_g hk, ↓fK2_s hk, ↓fK3_g hk, ↓fK3_s hk, hn, nI_lt hi (show n < 2 ^ 31 by omega), okx_nI (show i < 8 by omega) (show (8 : Nat) < 2 ^ 31 by decide), nI_clamp (show i < 2 ^ 31 by omega), nI_1, smI, ↓aft_of (c_needing (sh_k hk).2.2.1)]
  simp +decide only [x70_0, x70_1, x70_2, x70_3, x70_5, x70_6, x70_9, x70_12, x70_13, x70_14, x70_17, x70_18, x70_19, x70_22, x70_25, x70_26, x70_27, x70_30, x70_33, x70_34, aft_some, aft_void, Option.bind_some, Option.toList_some, Option.toList_none, List.cons_append, List.nil_append, if_true, if_false, ↓reduceIte, eq_self]
  rw [show X 70 4 [.ref (o + 7), .int 0, .int 0] [] (H T P) = _ from loop_up (fun i => X 70 4 [.ref (o + 7), .int (smI (fun i => nhI (T (P (o + 8) i + 2))) i), .int (nI i)] [] (H T P)) n hstep, x70_4]
  simp +decide only [x70_0, x70_1, x70_2, x70_3, x70_5, x70_6, x70_9, x70_12, x70_13, x70_14, x70_17, x70_18, x70_19, x70_22, x70_25, x70_26, x70_27, x70_30, x70_33, x70_34, aft_some, aft_void, Option.bind_some, Option.toList_some, Option.toList_none, List.cons_append, List.nil_append, if_true, if_false, ↓reduceIte, eq_self, f7_o ho, ↓f7_0 ho, ↓f7_1 ho, ↓f7_1p ho, ↓f7_2 ho, ↓f7_2p ho, ↓f8_g ho, hn, nI_nlt (Nat.le_refl n) (show n < 2 ^ 31 by omega)]
theorem c_toCome (ho : isB o) (hP : PK P o) (hn : T (o + 7) 1 = nI n) (h8 : n ≤ 8) : X 71 0 [.ref (o + 7), .long 0, .long 0] [] (H T P) = some (some (.int (smI (fun i => nhI (T (P (o + 8) i + 1)) - nhI (T (P (o + 8) i + 2))) n)), H T P) := by
  have hstep : ∀ i, i < n → X 71 4 [.ref (o + 7), .int (smI (fun i => nhI (T (P (o + 8) i + 1)) - nhI (T (P (o + 8) i + 2))) i), .int (nI i)] [] (H T P) = X 71 4 [.ref (o + 7), .int (smI (fun i => nhI (T (P (o + 8) i + 1)) - nhI (T (P (o + 8) i + 2))) (i + 1)), .int (nI (i + 1))] [] (H T P) := by
    intro i hi
    have hk := hP.k ho (show i < 8 by omega)
    rw [x71_4]
    simp +decide only [x71_0, x71_1, x71_2, x71_3, x71_5, x71_6, x71_9, x71_12, x71_13, x71_14, x71_17, x71_18, x71_19, x71_22, x71_25, x71_26, x71_29, x71_30, x71_31, x71_34, x71_37, x71_38, x71_39, x71_40, x71_43, x71_46, x71_47, aft_some, aft_void, Option.bind_some, Option.toList_some, Option.toList_none, List.cons_append, List.nil_append, if_true, if_false, ↓reduceIte, eq_self, f7_o ho, ↓f7_0 ho, ↓f7_1 ho, ↓f7_1p ho, ↓f7_2 ho, ↓f7_2p ho, ↓f8_g ho, fK_o hk, ↓fK_0 hk, ↓fK_0p hk, ↓fK_1 hk, ↓fK_1p hk, ↓fK_2 hk, ↓fK_2p hk, ↓fK_3 hk, ↓fK_3p hk, ↓fK_4 hk, ↓fK_4p hk, ↓fK_5 hk, ↓fK_6 hk, ↓fK_7 hk, ↓fK1_g hk, ↓fK1_s hk, ↓fK2_g hk, ↓fK2_s hk, ↓fK3_g hk, ↓fK3_s hk, hn, nI_lt hi (show n < 2 ^ 31 by omega), okx_nI (show i < 8 by omega) (show (8 : Nat) < 2 ^ 31 by decide), nI_clamp (show i < 2 ^ 31 by omega), nI_1, smI, ↓aft_of (c_needing (sh_k hk).2.2.1), ↓aft_of (c_needing (sh_k hk).2.1)]
  simp +decide only [x71_0, x71_1, x71_2, x71_3, x71_5, x71_6, x71_9, x71_12, x71_13, x71_14, x71_17, x71_18, x71_19, x71_22, x71_25, x71_26, x71_29, x71_30, x71_31, x71_34, x71_37, x71_38, x71_39, x71_40, x71_43, x71_46, x71_47, aft_some, aft_void, Option.bind_some, Option.toList_some, Option.toList_none, List.cons_append, List.nil_append, if_true, if_false, ↓reduceIte, eq_self]
  rw [show X 71 4 [.ref (o + 7), .int 0, .int 0] [] (H T P) = _ from loop_up (fun i => X 71 4 [.ref (o + 7), .int (smI (fun i => nhI (T (P (o + 8) i + 1)) - nhI (T (P (o + 8) i + 2))) i), .int (nI i)] [] (H T P)) n hstep, x71_4]
  simp +decide only [x71_0, x71_1, x71_2, x71_3, x71_5, x71_6, x71_9, x71_12, x71_13, x71_14, x71_17, x71_18, x71_19, x71_22, x71_25, x71_26, x71_29, x71_30, x71_31, x71_34, x71_37, x71_38, x71_39, x71_40, x71_43, x71_46, x71_47, aft_some, aft_void, Option.bind_some, Option.toList_some, Option.toList_none, List.cons_append, List.nil_append, if_true, if_false, ↓reduceIte, eq_self, f7_o ho, ↓f7_0 ho, ↓f7_1 ho, ↓f7_1p ho, ↓f7_2 ho, ↓f7_2p ho, ↓f8_g ho, hn, nI_nlt (Nat.le_refl n) (show n < 2 ^ 31 by omega)]
/-- a basket's place is taken -/
theorem c_add (ho : isB o) (hP : PK P o) (hn : T (o + 7) 1 = nI n) (h8 : n < 8) : ∃ T', X 63 0 [.ref (o + 7), .long 0, .long 0] [] (H T P) = some (some (.ref (P (o + 8) n)), H T' P) ∧
    (∀ a, a ≠ o + 7 → a ≠ P (o + 8) n → T' a = T a) ∧ T' (o + 7) 1 = nI (n + 1) ∧ T' (o + 7) 2 = T (o + 7) 2 + 1 ∧ T' (P (o + 8) n) 0 = T (o + 7) 2 ∧ T' (P (o + 8) n) 2 = fpI (usI (fun i => T (P (o + 8) i) 2) n) := by
  have hk := hP.k ho h8
  have hr := hP.rg h8
  have hp := c_freePin (T := T) (P := P) ho hP hn (by omega)
  have hne : P (o + 8) n ≠ o + 7 := by omega
  have g1 : ∀ (U : Nat → Nat → Int32) f, upA U (P (o + 8) n) f (o + 7) = U (o + 7) := fun U f => upA_n _ _ hne.symm
  have g2 : ∀ (U : Nat → Nat → Int32) f, upA U (o + 7) f (P (o + 8) n) = U (P (o + 8) n) := fun U f => upA_n _ _ hne
  refine ⟨_, by
    simp +decide only [x63_0, x63_1, x63_4, x63_5, x63_6, x63_9, x63_10, x63_13, x63_14, x63_14N, x63_15, x63_15N, x63_16, x63_17, x63_20, x63_23, x63_23N, x63_24, x63_25, x63_28, x63_29, x63_30, x63_33, x63_34, x63_35, x63_38, x63_39, x63_40, x63_43, x63_44, x63_45, x63_48, x63_48N, x63_49, x63_49N, aft_some, aft_void, Option.bind_some, Option.toList_some, Option.toList_none, List.cons_append, List.nil_append, if_true, if_false, ↓reduceIte, eq_self, f7_o ho, ↓f7_0 ho, ↓f7_1 ho, ↓f7_1p ho, ↓f7_2 ho, ↓f7_2p ho, ↓f8_g ho, fK_o hk, ↓fK_0 hk, ↓fK_0p hk, ↓fK_1 hk, ↓fK_1p hk, ↓fK_2 hk, ↓fK_2p hk, ↓fK_3 hk, ↓fK_3p hk, ↓fK_4 hk, ↓fK_4p hk, ↓fK_5 hk, ↓fK_6 hk, ↓fK_7 hk, ↓fK1_g hk, ↓fK1_s hk, ↓fK2_g hk, ↓fK2_s hk, ↓fK3_g hk, ↓fK3_s hk, ↓aft_of (hp), hn, okx_nI h8 (show (8 : Nat) < 2 ^ 31 by decide), nI_clamp (show n < 2 ^ 31 by omega), nI_1, upA_s, u_oo, u_o0, u_0o, u_n, g1, g2]
    rfl, ?_, ?_, ?_, ?_, ?_⟩
  · intro a h7 hb
    simp only [upA_n _ _ h7, upA_n _ _ hb]
  · simp +decide only [upA_s, u_n]
  · simp +decide only [upA_s, u_n]
  · simp +decide only [upA_s, u_n, g2]
  · simp +decide only [upA_s, u_n, g2]
end SH
end
section
/-! a state as mathematics: numbers N (0 the day, 1 customers, 2 came, 3 lost, 4 known to the book), rows V, baskets K, batches B, the book's rows R -/
abbrev kT : Type := Nat → Nat → Int32
def kz : kT := fun _ _ => 0
abbrev gK (K : List kT) (i : Nat) : kT := K.getD i kz
def opK (b : kT) (k : Nat) : Int32 := b 1 k - b 2 k - b 3 k
def omK (b : kT) : Int32 := 0 + opK b 0 * mnI (b 0 3) 0 + opK b 1 * mnI (b 0 3) 1 + opK b 2 * mnI (b 0 3) 2 + opK b 3 * mnI (b 0 3) 3
noncomputable def rdK (b : kT) : Int32 := if b 2 0 < b 1 0 then 0 else if b 2 1 < b 1 1 then 0 else if b 2 2 < b 1 2 then 0 else if b 2 3 < b 1 3 then 0 else 1
def prK (b : kT) : Int32 := 0 + b 1 0 * ((mnI (b 0 3) 0 + 1) / 2) + b 1 1 * ((mnI (b 0 3) 1 + 1) / 2) + b 1 2 * ((mnI (b 0 3) 2 + 1) / 2) + b 1 3 * ((mnI (b 0 3) 3 + 1) / 2)
def lkK (b : kT) (g : Int32) : Int32 := if 0 < opK b 0 ∧ ¬ g = 0 then 0 else if 0 < opK b 1 ∧ ¬ g = 0 then 1 else if 0 < opK b 2 ∧ ¬ g = 0 then 2 else if 0 < opK b 3 then 3 else -5
def msK (k : Nat) (d : Int32) (b : kT) : Int32 := if 0 < b 3 k ∧ dgI (b 0 3) k = d then 1 else 0
/-- the basket at a is b -/
def BK (T : Nat → Nat → Int32) (a : Nat) (b : kT) : Prop := (∀ k, k < 5 → T a k = b 0 k) ∧ ∀ k, k < 4 → T (a + 1) k = b 1 k ∧ T (a + 2) k = b 2 k ∧ T (a + 3) k = b 3 k
def RW (f g : Nat → Int32) (n : Nat) : Prop := ∀ k, k < n → f k = g k
def CS (o : Nat) (T : Nat → Nat → Int32) (P : Nat → Nat → Nat) (N : Nat → Nat) (V : Nat → Nat → Int32) (K : List kT) (B : List bT) (R : Nat → Nat → Int32) : Prop :=
  (RW (T o) (V 0) 4 ∧ RW (T (o + 1)) (V 1) 4 ∧ RW (T (o + 2)) (V 2) 5 ∧ V 0 0 = nI (N 0)) ∧
  (T (o + 3) 0 = nI (N 1) ∧ RW (T (o + 4)) (V 4) (N 1) ∧ RW (T (o + 5)) (V 5) (N 1) ∧ RW (T (o + 6)) (V 6) (N 1)) ∧
  (PK P o ∧ T (o + 7) 1 = nI K.length ∧ T (o + 7) 2 = nI (N 2) ∧ ∀ (i : Nat) (b : kT), K[i]? = some b → BK T (P (o + 8) i) b) ∧
  OB T o B ∧ LO T o (N 3) (V 46) (V 47) ∧ RW (T (o + 48)) (V 48) 4 ∧ JO T o (N 4) R
/-- what always holds of a state -/
def WF (N : Nat → Nat) (V : Nat → Nat → Int32) (K : List kT) (B : List bT) : Prop :=
  (N 0 ≤ 10100 ∧ N 1 ≤ 10 ∧ N 2 ≤ 99 ∧ K.length ≤ 8 ∧ N 3 ≤ 20 ∧ N 4 ≤ 10) ∧
  (∀ c, c < N 1 → ∃ d, d < 5 ∧ V 4 c = nI d) ∧
  ((∃ d, d < 3 ∧ V 1 0 = nI d) ∧ (∃ g, 1 ≤ g ∧ g ≤ 60 ∧ V 1 2 = nI g) ∧ ∃ m, m ≤ 20 ∧ V 1 1 = nI m) ∧
  (∀ (i : Nat) (b : kT), K[i]? = some b → (∃ c, c < N 1 ∧ b 0 1 = nI c) ∧ (∃ q, q < 8 ∧ b 0 2 = nI q) ∧ (∃ x, x < N 2 ∧ b 0 0 = nI x) ∧ (∃ s, s ≤ 3 ∧ b 0 3 = nI s) ∧ ∀ k, k < 4 → ∃ x y z, x ≤ 9 ∧ y + z ≤ x ∧ b 1 k = nI x ∧ b 2 k = nI y ∧ b 3 k = nI z) ∧
  (∀ (i j : Nat) (b c : kT), i < j → K[i]? = some b → K[j]? = some c → ∃ x y, x < y ∧ y < N 2 ∧ b 0 0 = nI x ∧ c 0 0 = nI y) ∧
  ((∀ q ∈ B, q.1 < N 1 ∧ q.2.1 ≤ N 0 ∧ N 0 ≤ q.2.1 + 60 ∧ 0 < q.2.2 ∧ q.2.2 ≤ 27) ∧ B.Pairwise (fun p q => p.2.1 ≤ q.2.1) ∧ B.length + K.length ≤ N 2) ∧
  (∀ i, i < N 3 → ∃ k, k < 4 ∧ V 46 i = nI k) ∧
  V 0 1 + smI (fun i => nhI (gK K i 2)) K.length + nI (allL B) = 60 + V 0 2 - smI (V 6) (N 1)
theorem gK_of {K : List kT} {i : Nat} {b : kT} (h : K[i]? = some b) : gK K i = b := by
  simp [gK, List.getD_eq_getElem?_getD, h]
theorem smI_congr {f g : Nat → Int32} : ∀ {n : Nat}, (∀ i, i < n → f i = g i) → smI f n = smI g n
  | 0, _ => rfl
  | n + 1, h => by
    simp only [smI]
    rw [smI_congr (fun i hi => h i (by omega)), h n (by omega)]
section KB
variable {T : Nat → Nat → Int32} {P : Nat → Nat → Nat} {a o n : Nat} {b : kT} {g : Int32}
theorem BK.op (h : BK T a b) {k : Nat} (hk : k < 4) : opI T a k = opK b k := by
  have := h.2 k hk
  unfold opK
  simp only [opI, this.1, this.2.1, this.2.2]
theorem BK.om (h : BK T a b) : omI T a = omK b := by
  unfold omI omK
  rw [h.op (by decide), h.op (by decide), h.op (by decide), h.op (by decide), h.1 3 (by decide)]
theorem BK.rd (h : BK T a b) : rdI T a = rdK b := by
  unfold rdI rdK
  have h0 := h.2 0 (by decide)
  have h1 := h.2 1 (by decide)
  have h2 := h.2 2 (by decide)
  have h3 := h.2 3 (by decide)
  simp only [h0.1, h0.2.1, h1.1, h1.2.1, h2.1, h2.2.1, h3.1, h3.2.1]
theorem BK.pr (h : BK T a b) : prI T a = prK b := by
  unfold prI prK
  rw [(h.2 0 (by decide)).1, (h.2 1 (by decide)).1, (h.2 2 (by decide)).1, (h.2 3 (by decide)).1, h.1 3 (by decide)]
theorem BK.lk (h : BK T a b) : lkI T a g = lkK b g := by
  unfold lkI lkK
  rw [h.op (by decide), h.op (by decide), h.op (by decide), h.op (by decide)]
theorem BK.ms (h : BK T a b) {k : Nat} (hk : k < 4) {d : Int32} : msI T k d a = msK k d b := by
  unfold msI msK
  rw [(h.2 k hk).2.2, h.1 3 (by decide)]
theorem BK.nh1 (h : BK T a b) : nhI (T (a + 1)) = nhI (b 1) := by
  unfold nhI
  rw [(h.2 0 (by decide)).1, (h.2 1 (by decide)).1, (h.2 2 (by decide)).1]
theorem BK.nh2 (h : BK T a b) : nhI (T (a + 2)) = nhI (b 2) := by
  unfold nhI
  rw [(h.2 0 (by decide)).2.1, (h.2 1 (by decide)).2.1, (h.2 2 (by decide)).2.1]
theorem BK.dg3 (h : BK T a b) : dgt (T (a + 3)) = dgt (b 3) ∧ dgt (T (a + 2)) = dgt (b 2) ∧ dgt (T (a + 1)) = dgt (b 1) := by
  unfold dgt
  have h0 := h.2 0 (by decide)
  have h1 := h.2 1 (by decide)
  have h2 := h.2 2 (by decide)
  have h3 := h.2 3 (by decide)
  simp only [h0.1, h0.2.1, h0.2.2, h1.1, h1.2.1, h1.2.2, h2.1, h2.2.1, h2.2.2, h3.1, h3.2.1, h3.2.2, and_self]
theorem BK.of (h : ∀ x, x < 4 → T (a + x) = b x) : BK T a b := by
  have h0 := h 0 (by decide)
  have h1 := h 1 (by decide)
  have h2 := h 2 (by decide)
  have h3 := h 3 (by decide)
  rw [Nat.add_zero] at h0
  exact ⟨fun k _ => by rw [h0], fun k _ => ⟨by rw [h1], by rw [h2], by rw [h3]⟩⟩
theorem BK.same {U : Nat → Nat → Int32} (h : BK T a b) (h0 : ∀ x, x < 4 → U (a + x) = T (a + x)) : BK U a b := by
  have g0 := h0 0 (by decide)
  have g1 := h0 1 (by decide)
  have g2 := h0 2 (by decide)
  have g3 := h0 3 (by decide)
  rw [Nat.add_zero] at g0
  unfold BK
  rw [g0, g1, g2, g3]
  exact h
end KB
section CSS
variable {T : Nat → Nat → Int32} {P : Nat → Nat → Nat} {o : Nat} {N : Nat → Nat} {V : Nat → Nat → Int32} {K : List kT} {B : List bT} {R : Nat → Nat → Int32} {x y z w : Int32}
theorem CS.at (h : CS o T P N V K B R) {i : Nat} (hi : i < K.length) : BK T (P (o + 8) i) (gK K i) := by
  refine h.2.2.1.2.2.2 i _ ?_
  simp [gK, List.getD_eq_getElem?_getD, List.getElem?_eq_getElem hi]
theorem CS.pk (h : CS o T P N V K B R) : PK P o := h.2.2.1.1
theorem CS.n (h : CS o T P N V K B R) : T (o + 7) 1 = nI K.length := h.2.2.1.2.1
/-- of the days' bits -/
def vsI (v : Int32) (D : Nat) : Int32 := v >>> (nI (D % 7) &&& 31) &&& 1
def nvI (z v : Int32) (D : Nat) : Int32 := if vsI v (D + 1) = 0 then (if vsI v (D + 2) = 0 then (if vsI v (D + 3) = 0 then (if vsI v (D + 4) = 0 then (if vsI v (D + 5) = 0 then (if vsI v (D + 6) = 0 then (if vsI v (D + 7) = 0 then z else nI (D + 7)) else nI (D + 6)) else nI (D + 5)) else nI (D + 4)) else nI (D + 3)) else nI (D + 2)) else nI (D + 1)
theorem c_isVisited (ho : isB o) (h : CS o T P N V K B R) {d D : Nat} (hd : d < 5) (hD : D < 2 ^ 31) : X 78 0 [.ref o, .int (nI d), .int (nI D)] [] (H T P) = some (some (.int (if vsI (V 2 d) D = 0 then 0 else 1)), H T P) := by
  have e := nI_modp (a := D) (b := 7) hD (by decide) (by decide)
  rw [show nI 7 = 7 from rfl] at e
  simp +decide only [x78_0, x78_1, x78_4, x78_5, x78_6, x78_7, x78_9, x78_10, x78_11, x78_12, x78_13, x78_16, x78_17, x78_20, x78_21, aft_some, aft_void, Option.bind_some, Option.toList_some, Option.toList_none, List.cons_append, List.nil_append, if_true, if_false, ↓reduceIte, eq_self, f0_o ho, ↓f0_0 ho, ↓f0_0p ho, ↓f0_1 ho, ↓f0_1p ho, ↓f0_2 ho, ↓f0_2p ho, ↓f0_3 ho, ↓f0_3p ho, ↓f0_4 ho, ↓f0_5 ho, ↓f0_6 ho, ↓f0_7 ho, ↓f0_8 ho, ↓f0_9 ho, ↓f0_10 ho, ↓f0_11 ho, ↓f1_g ho, ↓f1_s ho, ↓f2_g ho, ↓f2_s ho, okx_nI hd (show (5 : Nat) < 2 ^ 31 by decide), nI_clamp (show d < 2 ^ 31 by omega), h.1.2.2.1 d hd, e, or_true, true_or]
  unfold vsI
  split <;> rfl
theorem c_nextVisit (ho : isB o) (h : CS o T P N V K B R) (hw : N 0 ≤ 10100) {d : Nat} (hd : d < 5) : X 77 0 [.ref o, .int (nI d), .long 0] [] (H T P) = some (some (.int (nvI (-5) (V 2 d) (N 0))), H T P) := by
  have hday : T o 0 = nI (N 0) := by rw [h.1.1 0 (by decide)]; exact h.1.2.2.2
  have e : ∀ a : Nat, a ≤ 7 → X 78 0 [.ref o, .int (nI d), .int (nI (N 0 + a))] [] (H T P) = some (some (.int (if vsI (V 2 d) (N 0 + a) = 0 then 0 else 1)), H T P) := fun a ha => c_isVisited ho h hd (by omega)
  have k1 : nI (N 0) + 1 = nI (N 0 + 1) := nI_add _ 1
  have k2 : nI (N 0) + 2 = nI (N 0 + 2) := nI_add _ 2
  have k3 : nI (N 0) + 3 = nI (N 0 + 3) := nI_add _ 3
  have k4 : nI (N 0) + 4 = nI (N 0 + 4) := nI_add _ 4
  have k5 : nI (N 0) + 5 = nI (N 0 + 5) := nI_add _ 5
  have k6 : nI (N 0) + 6 = nI (N 0 + 6) := nI_add _ 6
  have k7 : nI (N 0) + 7 = nI (N 0 + 7) := nI_add _ 7
  unfold nvI
  by_cases v1 : vsI (V 2 d) (N 0 + 1) = 0 <;> by_cases v2 : vsI (V 2 d) (N 0 + 2) = 0 <;> by_cases v3 : vsI (V 2 d) (N 0 + 3) = 0 <;> by_cases v4 : vsI (V 2 d) (N 0 + 4) = 0 <;> by_cases v5 : vsI (V 2 d) (N 0 + 5) = 0 <;> by_cases v6 : vsI (V 2 d) (N 0 + 6) = 0 <;> by_cases v7 : vsI (V 2 d) (N 0 + 7) = 0 <;>
    simp +decide only [x77_0, x77_1, x77_2, x77_3, x77_5, x77_8, x77_9, x77_10, x77_11, x77_14, x77_15, x77_16, x77_19, x77_22, x77_23, x77_26, x77_27, x77_28, x77_29, x77_32, x77_35, x77_37, aft_some, aft_void, Option.bind_some, Option.toList_some, Option.toList_none, List.cons_append, List.nil_append, if_true, if_false, ↓reduceIte, eq_self, f0_o ho, ↓f0_0 ho, ↓f0_0p ho, ↓f0_1 ho, ↓f0_1p ho, ↓f0_2 ho, ↓f0_2p ho, ↓f0_3 ho, ↓f0_3p ho, ↓f0_4 ho, ↓f0_5 ho, ↓f0_6 ho, ↓f0_7 ho, ↓f0_8 ho, ↓f0_9 ho, ↓f0_10 ho, ↓f0_11 ho, ↓f1_g ho, ↓f1_s ho, ↓f2_g ho, ↓f2_s ho, hday, k1, k2, k3, k4, k5, k6, k7, ↓aft_of (e 1 (by decide)), ↓aft_of (e 2 (by decide)), ↓aft_of (e 3 (by decide)), ↓aft_of (e 4 (by decide)), ↓aft_of (e 5 (by decide)), ↓aft_of (e 6 (by decide)), ↓aft_of (e 7 (by decide)), v1, v2, v3, v4, v5, v6, v7, Int32.reduceAdd]
/-- a basket's turn -/
def tnK (N : Nat → Nat) (V : Nat → Nat → Int32) (b : kT) : Int32 := if V 1 0 = 1 then nvI 1000000 (V 2 (V 4 (b 0 1).toNatClampNeg).toNatClampNeg) (N 0) else if V 1 0 = 2 then omK b else b 0 0
theorem nvI_z {v : Int32} {D : Nat} (hD : D ≤ 10100) : (if nvI (-5) v D = -5 then 1000000 else nvI (-5) v D) = nvI 1000000 v D := by
  have hne : ∀ a, a ≤ 7 → ¬ nI (D + a) = -5 := by
    intro a ha q
    have := congrArg Int32.toInt q
    rw [nI_toInt (by omega)] at this
    have e : (-5 : Int32).toInt = -5 := by decide
    omega
  unfold nvI
  have h1 := hne 1 (by decide)
  have h2 := hne 2 (by decide)
  have h3 := hne 3 (by decide)
  have h4 := hne 4 (by decide)
  have h5 := hne 5 (by decide)
  have h6 := hne 6 (by decide)
  have h7 := hne 7 (by decide)
  repeat' split
  all_goals first | rfl | contradiction
theorem c_turn (ho : isB o) (h : CS o T P N V K B R) (hw : WF N V K B) {i : Nat} (hi : i < K.length) : X 79 0 [.ref o, .ref (P (o + 8) i), .long 0] [] (H T P) = some (some (.int (tnK N V (gK K i))), H T P) := by
  have h8 : K.length ≤ 8 := hw.1.2.2.2.1
  have hk := h.pk.k ho (show i < 8 by omega)
  have hb := h.at hi
  have hKi : K[i]? = some (gK K i) := by simp [gK, List.getD_eq_getElem?_getD, List.getElem?_eq_getElem hi]
  obtain ⟨⟨c, hc, ec⟩, -⟩ := hw.2.2.2.1 i _ hKi
  obtain ⟨d, hd, ed⟩ := hw.2.1 c hc
  have hN1 : N 1 ≤ 10 := hw.1.2.1
  have e1 : T (P (o + 8) i) 1 = nI c := by rw [hb.1 1 (by decide), ec]
  have e2 : T (o + 4) c = nI d := by rw [h.2.1.2.1 c hc, ed]
  have e3 := c_nextVisit ho h hw.1.1 hd
  have e4 : T (o + 1) 0 = V 1 0 := h.1.2.1 0 (by decide)
  have e5 := nvI_z (v := V 2 d) hw.1.1
  have e6 := c_openMinutes (T := T) (P := P) hk
  rw [hb.om] at e6
  have e7 : T (P (o + 8) i) 0 = gK K i 0 0 := hb.1 0 (by decide)
  unfold tnK
  rw [ec, nI_clamp (by omega), ed, nI_clamp (by omega)]
  by_cases o1 : V 1 0 = 1
  · simp +decide only [x79_0, x79_1, x79_4, x79_5, x79_6, x79_32, x79_33, x79_34, x79_37, x79_40, x79_40N, x79_41, x79_44, x79_45, x79_48, x79_49, x79_50, x79_52, x79_55, x79_57, x79_60, x79_61, x79_62, x79_62N, x79_63, x79_66, x79_67, x79_67N, x79_68, x79_71, aft_some, aft_void, Option.bind_some, Option.toList_some, Option.toList_none, List.cons_append, List.nil_append, if_true, if_false, ↓reduceIte, eq_self, f0_o ho, ↓f0_0 ho, ↓f0_0p ho, ↓f0_1 ho, ↓f0_1p ho, ↓f0_2 ho, ↓f0_2p ho, ↓f0_3 ho, ↓f0_3p ho, ↓f0_4 ho, ↓f0_5 ho, ↓f0_6 ho, ↓f0_7 ho, ↓f0_8 ho, ↓f0_9 ho, ↓f0_10 ho, ↓f0_11 ho, ↓f1_g ho, ↓f1_s ho, ↓f2_g ho, ↓f2_s ho, f3_o ho, ↓f3_0 ho, ↓f3_0p ho, ↓f3_1 ho, ↓f3_2 ho, ↓f3_3 ho, ↓f4_g ho, ↓f4_s ho, ↓f5_g ho, ↓f5_s ho, ↓f6_g ho, ↓f6_s ho, fK_o hk, ↓fK_0 hk, ↓fK_0p hk, ↓fK_1 hk, ↓fK_1p hk, ↓fK_2 hk, ↓fK_2p hk, ↓fK_3 hk, ↓fK_3p hk, ↓fK_4 hk, ↓fK_4p hk, ↓fK_5 hk, ↓fK_6 hk, ↓fK_7 hk, ↓fK1_g hk, ↓fK1_s hk, ↓fK2_g hk, ↓fK2_s hk, ↓fK3_g hk, ↓fK3_s hk, cl0, e4, o1, e1, e2, okx_nI (show c < 10 by omega) (show (10 : Nat) < 2 ^ 31 by decide), nI_clamp (show c < 2 ^ 31 by omega), ↓aft_of (e3)]
    rw [← e5]
    split <;> rfl
  · by_cases o2 : V 1 0 = 2
    · simp +decide only [x79_0, x79_1, x79_4, x79_5, x79_6, x79_32, x79_33, x79_34, x79_37, x79_40, x79_40N, x79_41, x79_44, x79_45, x79_48, x79_49, x79_50, x79_52, x79_55, x79_57, x79_60, x79_61, x79_62, x79_62N, x79_63, x79_66, x79_67, x79_67N, x79_68, x79_71, aft_some, aft_void, Option.bind_some, Option.toList_some, Option.toList_none, List.cons_append, List.nil_append, if_true, if_false, ↓reduceIte, eq_self, f0_o ho, ↓f0_0 ho, ↓f0_0p ho, ↓f0_1 ho, ↓f0_1p ho, ↓f0_2 ho, ↓f0_2p ho, ↓f0_3 ho, ↓f0_3p ho, ↓f0_4 ho, ↓f0_5 ho, ↓f0_6 ho, ↓f0_7 ho, ↓f0_8 ho, ↓f0_9 ho, ↓f0_10 ho, ↓f0_11 ho, ↓f1_g ho, ↓f1_s ho, ↓f2_g ho, ↓f2_s ho, fK_o hk, ↓fK_0 hk, ↓fK_0p hk, ↓fK_1 hk, ↓fK_1p hk, ↓fK_2 hk, ↓fK_2p hk, ↓fK_3 hk, ↓fK_3p hk, ↓fK_4 hk, ↓fK_4p hk, ↓fK_5 hk, ↓fK_6 hk, ↓fK_7 hk, ↓fK1_g hk, ↓fK1_s hk, ↓fK2_g hk, ↓fK2_s hk, ↓fK3_g hk, ↓fK3_s hk, cl0, e4, o1, o2, ↓aft_of (e6)]
    · simp +decide only [x79_0, x79_1, x79_4, x79_5, x79_6, x79_32, x79_33, x79_34, x79_37, x79_40, x79_40N, x79_41, x79_44, x79_45, x79_48, x79_49, x79_50, x79_52, x79_55, x79_57, x79_60, x79_61, x79_62, x79_62N, x79_63, x79_66, x79_67, x79_67N, x79_68, x79_71, aft_some, aft_void, Option.bind_some, Option.toList_some, Option.toList_none, List.cons_append, List.nil_append, if_true, if_false, ↓reduceIte, eq_self, f0_o ho, ↓f0_0 ho, ↓f0_0p ho, ↓f0_1 ho, ↓f0_1p ho, ↓f0_2 ho, ↓f0_2p ho, ↓f0_3 ho, ↓f0_3p ho, ↓f0_4 ho, ↓f0_5 ho, ↓f0_6 ho, ↓f0_7 ho, ↓f0_8 ho, ↓f0_9 ho, ↓f0_10 ho, ↓f0_11 ho, ↓f1_g ho, ↓f1_s ho, ↓f2_g ho, ↓f2_s ho, fK_o hk, ↓fK_0 hk, ↓fK_0p hk, ↓fK_1 hk, ↓fK_1p hk, ↓fK_2 hk, ↓fK_2p hk, ↓fK_3 hk, ↓fK_3p hk, ↓fK_4 hk, ↓fK_4p hk, ↓fK_5 hk, ↓fK_6 hk, ↓fK_7 hk, ↓fK1_g hk, ↓fK1_s hk, ↓fK2_g hk, ↓fK2_s hk, ↓fK3_g hk, ↓fK3_s hk, cl0, e4, o1, o2, e7]
end CSS
end
section
/-! a state's refusals, its order, the next to iron -/
def inI (v lo hi : Int32) : Int32 := if v < lo then 0 else if hi < v then 0 else 1
def rfI (nc : Nat) (B : List bT) (n cm : Nat) (c p s g : Int32) : Int32 := if c < 0 then -1 else if c < nI nc then (if p < 1 ∨ 9999 < p ∨ s < 0 ∨ 3 < s ∨ g < 0 ∨ 99 < g then -2 else if nI (outL c.toNatClampNeg B) < g then -4 else if n < 8 ∧ cm < 99 then 0 else -3) else -1
def rkI (t : Nat → Int32) (n p : Nat) : Int32 := smI (fun i => if t i < t p ∨ (t i = t p ∧ i < p) then 1 else 0) n
/-- the first of those that can be ironed with the least turn, of the first i -/
noncomputable def nxS (f : Nat → Prop) (t : Nat → Int32) : Nat → Option Nat
  | 0 => none
  | i + 1 => @ite _ (f i) (Classical.propDecidable _) (match nxS f t i with
    | none => some i
    | some j => if t i < t j then some i else some j) (nxS f t i)
theorem nxS_s {f : Nat → Prop} {t : Nat → Int32} {i : Nat} (h : f i) : nxS f t (i + 1) = (match nxS f t i with
    | none => some i
    | some j => if t i < t j then some i else some j) := by
  show (@ite _ (f i) (Classical.propDecidable _) _ _) = _
  exact if_pos h
theorem nxS_n {f : Nat → Prop} {t : Nat → Int32} {i : Nat} (h : ¬ f i) : nxS f t (i + 1) = nxS f t i := by
  show (@ite _ (f i) (Classical.propDecidable _) _ _) = _
  exact if_neg h
section OR
variable {T : Nat → Nat → Int32} {P : Nat → Nat → Nat} {o : Nat} {N : Nat → Nat} {V : Nat → Nat → Int32} {K : List kT} {B : List bT} {R : Nat → Nat → Int32} {x y z w : Int32} {h0 : List hC}
theorem c_within : X 120 0 [.int x, .int y, .int z] [] h0 = some (some (.int (inI x y z)), h0) := by
  simp +decide only [x120_0, x120_1, x120_2, x120_5, x120_6, x120_7, x120_10, x120_11, x120_14, x120_15, aft_some, aft_void, Option.bind_some, Option.toList_some, Option.toList_none, List.cons_append, List.nil_append, if_true, if_false, ↓reduceIte, eq_self, or_true, true_or]
  unfold inI
  repeat' split
  all_goals rfl
theorem nI_ex {c : Int32} (h : ¬ c < 0) {n : Nat} (hn : n < 2 ^ 31) (h2 : c < nI n) : ∃ k, k < n ∧ c = nI k := by
  obtain ⟨j, hj, rfl⟩ := nI_of h
  exact ⟨j, by rwa [nI_ltp hj hn] at h2, rfl⟩
theorem OS.of_wf (hw : WF N V K B) : OS B := by
  intro q hq
  have h1 := hw.2.2.2.2.2.1.1 q hq
  have h2 := hw.1
  exact ⟨by omega, by omega, by omega⟩
theorem c_refusal (ho : isB o) (h : CS o T P N V K B R) (hw : WF N V K B) : X 74 0 [.ref o, .int x, .int y, .int z, .int w] [] (H T P) = some (some (.int (rfI (N 1) B K.length (N 2) x y z w)), H T P) := by
  have hN1 : N 1 ≤ 10 := hw.1.2.1
  have hN2 : N 2 ≤ 99 := hw.1.2.2.1
  have h8 : K.length ≤ 8 := hw.1.2.2.2.1
  have hf := c_isFull (T := T) (P := P) ho
  have hh := c_has (T := T) (P := P) (x := x) ho
  rw [h.2.1.1] at hh
  rw [h.n, h.2.2.1.2.2.1, show (8 : Int32) = nI 8 from rfl, show (99 : Int32) = nI 99 from rfl] at hf
  simp only [nI_ltp (show K.length < 2 ^ 31 by omega) (show 8 < 2 ^ 31 by decide), nI_ltp (show N 2 < 2 ^ 31 by omega) (show 99 < 2 ^ 31 by decide)] at hf
  unfold rfI
  by_cases c0 : x < 0
  · simp only [c0, if_true] at hh ⊢
    simp +decide only [x74_0, x74_1, x74_4, x74_5, x74_8, x74_11, x74_12, x74_13, x74_14, x74_15, x74_18, x74_21, x74_24, x74_25, x74_26, x74_27, x74_30, x74_33, x74_35, x74_36, x74_38, x74_41, x74_44, x74_46, x74_47, x74_48, x74_51, x74_52, x74_55, x74_57, x74_60, x74_62, x74_63, x74_64, x74_67, x74_70, x74_73, x74_75, x74_78, x74_79, aft_some, aft_void, Option.bind_some, Option.toList_some, Option.toList_none, List.cons_append, List.nil_append, if_true, if_false, ↓reduceIte, eq_self, f0_o ho, ↓f0_0 ho, ↓f0_0p ho, ↓f0_1 ho, ↓f0_1p ho, ↓f0_2 ho, ↓f0_2p ho, ↓f0_3 ho, ↓f0_3p ho, ↓f0_4 ho, ↓f0_5 ho, ↓f0_6 ho, ↓f0_7 ho, ↓f0_8 ho, ↓f0_9 ho, ↓f0_10 ho, ↓f0_11 ho, ↓f1_g ho, ↓f1_s ho, ↓f2_g ho, ↓f2_s ho, f3_o ho, ↓f3_0 ho, ↓f3_0p ho, ↓f3_1 ho, ↓f3_2 ho, ↓f3_3 ho, ↓f4_g ho, ↓f4_s ho, ↓f5_g ho, ↓f5_s ho, ↓f6_g ho, ↓f6_s ho, ↓aft_of (hh)]
  · by_cases c1 : x < nI (N 1)
    · obtain ⟨c, hc, rfl⟩ := nI_ex c0 (by omega) c1
      have hout := c_outTo (T := T) (P := P) ho h.2.2.2.1 (OS.of_wf hw) (show c < 10 by omega)
      simp only [c0, c1, if_true, if_false] at hh ⊢
      rw [nI_clamp (by omega)]
      by_cases y1 : y < 1
      · simp +decide only [x74_0, x74_1, x74_4, x74_5, x74_8, x74_11, x74_12, x74_13, x74_14, x74_15, x74_18, x74_21, x74_24, x74_25, x74_26, x74_27, x74_30, x74_33, x74_35, x74_36, x74_38, x74_41, x74_44, x74_46, x74_47, x74_48, x74_51, x74_52, x74_55, x74_57, x74_60, x74_62, x74_63, x74_64, x74_67, x74_70, x74_73, x74_75, x74_78, x74_79, aft_some, aft_void, Option.bind_some, Option.toList_some, Option.toList_none, List.cons_append, List.nil_append, if_true, if_false, ↓reduceIte, eq_self, f0_o ho, ↓f0_0 ho, ↓f0_0p ho, ↓f0_1 ho, ↓f0_1p ho, ↓f0_2 ho, ↓f0_2p ho, ↓f0_3 ho, ↓f0_3p ho, ↓f0_4 ho, ↓f0_5 ho, ↓f0_6 ho, ↓f0_7 ho, ↓f0_8 ho, ↓f0_9 ho, ↓f0_10 ho, ↓f0_11 ho, ↓f1_g ho, ↓f1_s ho, ↓f2_g ho, ↓f2_s ho, f3_o ho, ↓f3_0 ho, ↓f3_0p ho, ↓f3_1 ho, ↓f3_2 ho, ↓f3_3 ho, ↓f4_g ho, ↓f4_s ho, ↓f5_g ho, ↓f5_s ho, ↓f6_g ho, ↓f6_s ho, f41_o ho, ↓f41_0 ho, ↓f41_1 ho, ↓f41_2 ho, ↓f41_3 ho, ↓f41_3p ho, ↓f42_g ho, ↓f42_s ho, ↓f43_g ho, ↓f43_s ho, ↓f44_g ho, ↓f44_s ho, f7_o ho, ↓f7_0 ho, ↓f7_1 ho, ↓f7_1p ho, ↓f7_2 ho, ↓f7_2p ho, ↓f8_g ho, ↓aft_of (hh), ↓aft_of (c_within), inI, y1, true_or]
      by_cases y2 : 9999 < y
      · simp +decide only [x74_0, x74_1, x74_4, x74_5, x74_8, x74_11, x74_12, x74_13, x74_14, x74_15, x74_18, x74_21, x74_24, x74_25, x74_26, x74_27, x74_30, x74_33, x74_35, x74_36, x74_38, x74_41, x74_44, x74_46, x74_47, x74_48, x74_51, x74_52, x74_55, x74_57, x74_60, x74_62, x74_63, x74_64, x74_67, x74_70, x74_73, x74_75, x74_78, x74_79, aft_some, aft_void, Option.bind_some, Option.toList_some, Option.toList_none, List.cons_append, List.nil_append, if_true, if_false, ↓reduceIte, eq_self, f0_o ho, ↓f0_0 ho, ↓f0_0p ho, ↓f0_1 ho, ↓f0_1p ho, ↓f0_2 ho, ↓f0_2p ho, ↓f0_3 ho, ↓f0_3p ho, ↓f0_4 ho, ↓f0_5 ho, ↓f0_6 ho, ↓f0_7 ho, ↓f0_8 ho, ↓f0_9 ho, ↓f0_10 ho, ↓f0_11 ho, ↓f1_g ho, ↓f1_s ho, ↓f2_g ho, ↓f2_s ho, f3_o ho, ↓f3_0 ho, ↓f3_0p ho, ↓f3_1 ho, ↓f3_2 ho, ↓f3_3 ho, ↓f4_g ho, ↓f4_s ho, ↓f5_g ho, ↓f5_s ho, ↓f6_g ho, ↓f6_s ho, f41_o ho, ↓f41_0 ho, ↓f41_1 ho, ↓f41_2 ho, ↓f41_3 ho, ↓f41_3p ho, ↓f42_g ho, ↓f42_s ho, ↓f43_g ho, ↓f43_s ho, ↓f44_g ho, ↓f44_s ho, f7_o ho, ↓f7_0 ho, ↓f7_1 ho, ↓f7_1p ho, ↓f7_2 ho, ↓f7_2p ho, ↓f8_g ho, ↓aft_of (hh), ↓aft_of (c_within), inI, y1, y2, true_or, or_true]
      by_cases z1 : z < 0
      · simp +decide only [x74_0, x74_1, x74_4, x74_5, x74_8, x74_11, x74_12, x74_13, x74_14, x74_15, x74_18, x74_21, x74_24, x74_25, x74_26, x74_27, x74_30, x74_33, x74_35, x74_36, x74_38, x74_41, x74_44, x74_46, x74_47, x74_48, x74_51, x74_52, x74_55, x74_57, x74_60, x74_62, x74_63, x74_64, x74_67, x74_70, x74_73, x74_75, x74_78, x74_79, aft_some, aft_void, Option.bind_some, Option.toList_some, Option.toList_none, List.cons_append, List.nil_append, if_true, if_false, ↓reduceIte, eq_self, f0_o ho, ↓f0_0 ho, ↓f0_0p ho, ↓f0_1 ho, ↓f0_1p ho, ↓f0_2 ho, ↓f0_2p ho, ↓f0_3 ho, ↓f0_3p ho, ↓f0_4 ho, ↓f0_5 ho, ↓f0_6 ho, ↓f0_7 ho, ↓f0_8 ho, ↓f0_9 ho, ↓f0_10 ho, ↓f0_11 ho, ↓f1_g ho, ↓f1_s ho, ↓f2_g ho, ↓f2_s ho, f3_o ho, ↓f3_0 ho, ↓f3_0p ho, ↓f3_1 ho, ↓f3_2 ho, ↓f3_3 ho, ↓f4_g ho, ↓f4_s ho, ↓f5_g ho, ↓f5_s ho, ↓f6_g ho, ↓f6_s ho, f41_o ho, ↓f41_0 ho, ↓f41_1 ho, ↓f41_2 ho, ↓f41_3 ho, ↓f41_3p ho, ↓f42_g ho, ↓f42_s ho, ↓f43_g ho, ↓f43_s ho, ↓f44_g ho, ↓f44_s ho, f7_o ho, ↓f7_0 ho, ↓f7_1 ho, ↓f7_1p ho, ↓f7_2 ho, ↓f7_2p ho, ↓f8_g ho, ↓aft_of (hh), ↓aft_of (c_within), inI, y1, y2, z1, true_or, or_true]
      by_cases z2 : 3 < z
      · simp +decide only [x74_0, x74_1, x74_4, x74_5, x74_8, x74_11, x74_12, x74_13, x74_14, x74_15, x74_18, x74_21, x74_24, x74_25, x74_26, x74_27, x74_30, x74_33, x74_35, x74_36, x74_38, x74_41, x74_44, x74_46, x74_47, x74_48, x74_51, x74_52, x74_55, x74_57, x74_60, x74_62, x74_63, x74_64, x74_67, x74_70, x74_73, x74_75, x74_78, x74_79, aft_some, aft_void, Option.bind_some, Option.toList_some, Option.toList_none, List.cons_append, List.nil_append, if_true, if_false, ↓reduceIte, eq_self, f0_o ho, ↓f0_0 ho, ↓f0_0p ho, ↓f0_1 ho, ↓f0_1p ho, ↓f0_2 ho, ↓f0_2p ho, ↓f0_3 ho, ↓f0_3p ho, ↓f0_4 ho, ↓f0_5 ho, ↓f0_6 ho, ↓f0_7 ho, ↓f0_8 ho, ↓f0_9 ho, ↓f0_10 ho, ↓f0_11 ho, ↓f1_g ho, ↓f1_s ho, ↓f2_g ho, ↓f2_s ho, f3_o ho, ↓f3_0 ho, ↓f3_0p ho, ↓f3_1 ho, ↓f3_2 ho, ↓f3_3 ho, ↓f4_g ho, ↓f4_s ho, ↓f5_g ho, ↓f5_s ho, ↓f6_g ho, ↓f6_s ho, f41_o ho, ↓f41_0 ho, ↓f41_1 ho, ↓f41_2 ho, ↓f41_3 ho, ↓f41_3p ho, ↓f42_g ho, ↓f42_s ho, ↓f43_g ho, ↓f43_s ho, ↓f44_g ho, ↓f44_s ho, f7_o ho, ↓f7_0 ho, ↓f7_1 ho, ↓f7_1p ho, ↓f7_2 ho, ↓f7_2p ho, ↓f8_g ho, ↓aft_of (hh), ↓aft_of (c_within), inI, y1, y2, z1, z2, true_or, or_true]
      by_cases w1 : w < 0
      · simp +decide only [x74_0, x74_1, x74_4, x74_5, x74_8, x74_11, x74_12, x74_13, x74_14, x74_15, x74_18, x74_21, x74_24, x74_25, x74_26, x74_27, x74_30, x74_33, x74_35, x74_36, x74_38, x74_41, x74_44, x74_46, x74_47, x74_48, x74_51, x74_52, x74_55, x74_57, x74_60, x74_62, x74_63, x74_64, x74_67, x74_70, x74_73, x74_75, x74_78, x74_79, aft_some, aft_void, Option.bind_some, Option.toList_some, Option.toList_none, List.cons_append, List.nil_append, if_true, if_false, ↓reduceIte, eq_self, f0_o ho, ↓f0_0 ho, ↓f0_0p ho, ↓f0_1 ho, ↓f0_1p ho, ↓f0_2 ho, ↓f0_2p ho, ↓f0_3 ho, ↓f0_3p ho, ↓f0_4 ho, ↓f0_5 ho, ↓f0_6 ho, ↓f0_7 ho, ↓f0_8 ho, ↓f0_9 ho, ↓f0_10 ho, ↓f0_11 ho, ↓f1_g ho, ↓f1_s ho, ↓f2_g ho, ↓f2_s ho, f3_o ho, ↓f3_0 ho, ↓f3_0p ho, ↓f3_1 ho, ↓f3_2 ho, ↓f3_3 ho, ↓f4_g ho, ↓f4_s ho, ↓f5_g ho, ↓f5_s ho, ↓f6_g ho, ↓f6_s ho, f41_o ho, ↓f41_0 ho, ↓f41_1 ho, ↓f41_2 ho, ↓f41_3 ho, ↓f41_3p ho, ↓f42_g ho, ↓f42_s ho, ↓f43_g ho, ↓f43_s ho, ↓f44_g ho, ↓f44_s ho, f7_o ho, ↓f7_0 ho, ↓f7_1 ho, ↓f7_1p ho, ↓f7_2 ho, ↓f7_2p ho, ↓f8_g ho, ↓aft_of (hh), ↓aft_of (c_within), inI, y1, y2, z1, z2, w1, true_or, or_true]
      by_cases w2 : 99 < w
      · simp +decide only [x74_0, x74_1, x74_4, x74_5, x74_8, x74_11, x74_12, x74_13, x74_14, x74_15, x74_18, x74_21, x74_24, x74_25, x74_26, x74_27, x74_30, x74_33, x74_35, x74_36, x74_38, x74_41, x74_44, x74_46, x74_47, x74_48, x74_51, x74_52, x74_55, x74_57, x74_60, x74_62, x74_63, x74_64, x74_67, x74_70, x74_73, x74_75, x74_78, x74_79, aft_some, aft_void, Option.bind_some, Option.toList_some, Option.toList_none, List.cons_append, List.nil_append, if_true, if_false, ↓reduceIte, eq_self, f0_o ho, ↓f0_0 ho, ↓f0_0p ho, ↓f0_1 ho, ↓f0_1p ho, ↓f0_2 ho, ↓f0_2p ho, ↓f0_3 ho, ↓f0_3p ho, ↓f0_4 ho, ↓f0_5 ho, ↓f0_6 ho, ↓f0_7 ho, ↓f0_8 ho, ↓f0_9 ho, ↓f0_10 ho, ↓f0_11 ho, ↓f1_g ho, ↓f1_s ho, ↓f2_g ho, ↓f2_s ho, f3_o ho, ↓f3_0 ho, ↓f3_0p ho, ↓f3_1 ho, ↓f3_2 ho, ↓f3_3 ho, ↓f4_g ho, ↓f4_s ho, ↓f5_g ho, ↓f5_s ho, ↓f6_g ho, ↓f6_s ho, f41_o ho, ↓f41_0 ho, ↓f41_1 ho, ↓f41_2 ho, ↓f41_3 ho, ↓f41_3p ho, ↓f42_g ho, ↓f42_s ho, ↓f43_g ho, ↓f43_s ho, ↓f44_g ho, ↓f44_s ho, f7_o ho, ↓f7_0 ho, ↓f7_1 ho, ↓f7_1p ho, ↓f7_2 ho, ↓f7_2p ho, ↓f8_g ho, ↓aft_of (hh), ↓aft_of (c_within), inI, y1, y2, z1, z2, w1, w2, true_or, or_true]
      simp +decide only [x74_0, x74_1, x74_4, x74_5, x74_8, x74_11, x74_12, x74_13, x74_14, x74_15, x74_18, x74_21, x74_24, x74_25, x74_26, x74_27, x74_30, x74_33, x74_35, x74_36, x74_38, x74_41, x74_44, x74_46, x74_47, x74_48, x74_51, x74_52, x74_55, x74_57, x74_60, x74_62, x74_63, x74_64, x74_67, x74_70, x74_73, x74_75, x74_78, x74_79, aft_some, aft_void, Option.bind_some, Option.toList_some, Option.toList_none, List.cons_append, List.nil_append, if_true, if_false, ↓reduceIte, eq_self, f0_o ho, ↓f0_0 ho, ↓f0_0p ho, ↓f0_1 ho, ↓f0_1p ho, ↓f0_2 ho, ↓f0_2p ho, ↓f0_3 ho, ↓f0_3p ho, ↓f0_4 ho, ↓f0_5 ho, ↓f0_6 ho, ↓f0_7 ho, ↓f0_8 ho, ↓f0_9 ho, ↓f0_10 ho, ↓f0_11 ho, ↓f1_g ho, ↓f1_s ho, ↓f2_g ho, ↓f2_s ho, f3_o ho, ↓f3_0 ho, ↓f3_0p ho, ↓f3_1 ho, ↓f3_2 ho, ↓f3_3 ho, ↓f4_g ho, ↓f4_s ho, ↓f5_g ho, ↓f5_s ho, ↓f6_g ho, ↓f6_s ho, f41_o ho, ↓f41_0 ho, ↓f41_1 ho, ↓f41_2 ho, ↓f41_3 ho, ↓f41_3p ho, ↓f42_g ho, ↓f42_s ho, ↓f43_g ho, ↓f43_s ho, ↓f44_g ho, ↓f44_s ho, f7_o ho, ↓f7_0 ho, ↓f7_1 ho, ↓f7_1p ho, ↓f7_2 ho, ↓f7_2p ho, ↓f8_g ho, ↓aft_of (hh), ↓aft_of (c_within), inI, y1, y2, z1, z2, w1, w2, or_false, ↓aft_of (hout), ↓aft_of (hf)]
      by_cases g1 : nI (outL c B) < w
      · simp only [g1, if_true]
      · simp only [g1, if_false]
        by_cases g2 : K.length < 8
        · by_cases g3 : N 2 < 99
          · simp +decide only [g2, g3, if_true, and_self]
          · simp +decide only [g2, g3, if_true, if_false, and_false]
        · simp +decide only [g2, if_false, false_and]
    · simp only [c0, c1, if_false] at hh ⊢
      simp +decide only [x74_0, x74_1, x74_4, x74_5, x74_8, x74_11, x74_12, x74_13, x74_14, x74_15, x74_18, x74_21, x74_24, x74_25, x74_26, x74_27, x74_30, x74_33, x74_35, x74_36, x74_38, x74_41, x74_44, x74_46, x74_47, x74_48, x74_51, x74_52, x74_55, x74_57, x74_60, x74_62, x74_63, x74_64, x74_67, x74_70, x74_73, x74_75, x74_78, x74_79, aft_some, aft_void, Option.bind_some, Option.toList_some, Option.toList_none, List.cons_append, List.nil_append, if_true, if_false, ↓reduceIte, eq_self, f0_o ho, ↓f0_0 ho, ↓f0_0p ho, ↓f0_1 ho, ↓f0_1p ho, ↓f0_2 ho, ↓f0_2p ho, ↓f0_3 ho, ↓f0_3p ho, ↓f0_4 ho, ↓f0_5 ho, ↓f0_6 ho, ↓f0_7 ho, ↓f0_8 ho, ↓f0_9 ho, ↓f0_10 ho, ↓f0_11 ho, ↓f1_g ho, ↓f1_s ho, ↓f2_g ho, ↓f2_s ho, f3_o ho, ↓f3_0 ho, ↓f3_0p ho, ↓f3_1 ho, ↓f3_2 ho, ↓f3_3 ho, ↓f4_g ho, ↓f4_s ho, ↓f5_g ho, ↓f5_s ho, ↓f6_g ho, ↓f6_s ho, ↓aft_of (hh)]
theorem c_service (ho : isB o) (h : CS o T P N V K B R) (hw : WF N V K B) : X 76 0 [.ref o] [] (H T P) = some (some (.int (V 0 1 + smI (fun i => nhI (gK K i 2)) K.length + nI (allL B))), H T P) := by
  have h8 : K.length ≤ 8 := hw.1.2.2.2.1
  have e1 := c_onPieces (T := T) (P := P) ho h.pk h.n h8
  have e2 := c_outAll (T := T) (P := P) ho h.2.2.2.1
  rw [smI_congr (fun i hi => (h.at hi).nh2)] at e1
  simp +decide only [x76_0, x76_1, x76_4, x76_5, x76_8, x76_11, x76_12, x76_13, x76_16, x76_19, x76_20, aft_some, aft_void, Option.bind_some, Option.toList_some, Option.toList_none, List.cons_append, List.nil_append, if_true, if_false, ↓reduceIte, eq_self, f0_o ho, ↓f0_0 ho, ↓f0_0p ho, ↓f0_1 ho, ↓f0_1p ho, ↓f0_2 ho, ↓f0_2p ho, ↓f0_3 ho, ↓f0_3p ho, ↓f0_4 ho, ↓f0_5 ho, ↓f0_6 ho, ↓f0_7 ho, ↓f0_8 ho, ↓f0_9 ho, ↓f0_10 ho, ↓f0_11 ho, ↓f1_g ho, ↓f1_s ho, ↓f2_g ho, ↓f2_s ho, fK_o, f7_o ho, f41_o ho, ↓aft_of (e1), ↓aft_of (e2), h.1.1 1 (by decide)]
theorem c_rankOf (ho : isB o) (h : CS o T P N V K B R) (hw : WF N V K B) {p : Nat} (hp : p < K.length) : X 81 0 [.ref o, .int (nI p), .long 0, .long 0, .long 0, .long 0] [] (H T P) = some (some (.int (rkI (fun i => tnK N V (gK K i)) K.length p)), H T P) := by
  have h8 : K.length ≤ 8 := hw.1.2.2.2.1
  have ep := c_turn ho h hw hp
  obtain ⟨w1, e1, i1⟩ := loop_ex (fun i (v : Value) => X 81 19 [.ref o, .int (nI p), .int (tnK N V (gK K p)), .int (smI (fun i => if tnK N V (gK K i) < tnK N V (gK K p) ∨ (tnK N V (gK K i) = tnK N V (gK K p) ∧ i < p) then 1 else 0) i), .int (nI i), v] [] (H T P)) (fun _ _ => True) K.length (.long 0) trivial (by
    intro i v hi _
    have e := c_turn ho h hw hi
    refine ⟨.int (tnK N V (gK K i)), ?_, trivial⟩
    show X 81 19 _ _ _ = _
    rw [x81_19]
    simp +decide only [x81_0, x81_1, x81_2, x81_5, x81_8, x81_9, x81_10, x81_13, x81_14, x81_15, x81_16, x81_17, x81_21, x81_22, x81_25, x81_28, x81_31, x81_32, x81_33, x81_36, x81_39, x81_41, x81_42, x81_45, x81_47, x81_49, x81_50, x81_53, x81_55, x81_56, x81_59, x81_61, x81_62, x81_65, x81_68, x81_71, x81_74, x81_75, aft_some, aft_void, Option.bind_some, Option.toList_some, Option.toList_none, List.cons_append, List.nil_append, if_true, if_false, ↓reduceIte, eq_self, f0_o ho, ↓f0_0 ho, ↓f0_0p ho, ↓f0_1 ho, ↓f0_1p ho, ↓f0_2 ho, ↓f0_2p ho, ↓f0_3 ho, ↓f0_3p ho, ↓f0_4 ho, ↓f0_5 ho, ↓f0_6 ho, ↓f0_7 ho, ↓f0_8 ho, ↓f0_9 ho, ↓f0_10 ho, ↓f0_11 ho, ↓f1_g ho, ↓f1_s ho, ↓f2_g ho, ↓f2_s ho, f7_o ho, ↓f7_0 ho, ↓f7_1 ho, ↓f7_1p ho, ↓f7_2 ho, ↓f7_2p ho, ↓f8_g ho, h.n, nI_lt hi (show K.length < 2 ^ 31 by omega), okx_nI (show i < 8 by omega) (show (8 : Nat) < 2 ^ 31 by decide), nI_clamp (show i < 2 ^ 31 by omega), nI_1, smI, ↓aft_of (e), nI_ltp (show i < 2 ^ 31 by omega) (show p < 2 ^ 31 by omega)]
    by_cases a1 : tnK N V (gK K i) < tnK N V (gK K p)
    · simp only [a1, if_true, true_or]
    · by_cases a2 : tnK N V (gK K i) = tnK N V (gK K p)
      · by_cases a3 : i < p
        · simp only [a1, a2, a3, if_true, if_false, and_self, or_true]
          try split <;> rfl
        · rw [a2] at a1
          simp only [a1, a2, a3, if_true, if_false, and_false, or_false, Int32.add_zero]
      · simp only [a1, a2, if_false, false_and, or_false, Int32.add_zero])
  simp +decide only [x81_0, x81_1, x81_2, x81_5, x81_8, x81_9, x81_10, x81_13, x81_14, x81_15, x81_16, x81_17, x81_21, x81_22, x81_25, x81_28, x81_31, x81_32, x81_33, x81_36, x81_39, x81_41, x81_42, x81_45, x81_47, x81_49, x81_50, x81_53, x81_55, x81_56, x81_59, x81_61, x81_62, x81_65, x81_68, x81_71, x81_74, x81_75, aft_some, aft_void, Option.bind_some, Option.toList_some, Option.toList_none, List.cons_append, List.nil_append, if_true, if_false, ↓reduceIte, eq_self, f0_o ho, ↓f0_0 ho, ↓f0_0p ho, ↓f0_1 ho, ↓f0_1p ho, ↓f0_2 ho, ↓f0_2p ho, ↓f0_3 ho, ↓f0_3p ho, ↓f0_4 ho, ↓f0_5 ho, ↓f0_6 ho, ↓f0_7 ho, ↓f0_8 ho, ↓f0_9 ho, ↓f0_10 ho, ↓f0_11 ho, ↓f1_g ho, ↓f1_s ho, ↓f2_g ho, ↓f2_s ho, f7_o ho, ↓f7_0 ho, ↓f7_1 ho, ↓f7_1p ho, ↓f7_2 ho, ↓f7_2p ho, ↓f8_g ho, okx_nI (show p < 8 by omega) (show (8 : Nat) < 2 ^ 31 by decide), nI_clamp (show p < 2 ^ 31 by omega), ↓aft_of (ep)]
  rw [show X 81 19 [.ref o, .int (nI p), .int (tnK N V (gK K p)), .int 0, .int 0, .long 0] [] (H T P) = _ from e1, x81_19]
  simp +decide only [x81_0, x81_1, x81_2, x81_5, x81_8, x81_9, x81_10, x81_13, x81_14, x81_15, x81_16, x81_17, x81_21, x81_22, x81_25, x81_28, x81_31, x81_32, x81_33, x81_36, x81_39, x81_41, x81_42, x81_45, x81_47, x81_49, x81_50, x81_53, x81_55, x81_56, x81_59, x81_61, x81_62, x81_65, x81_68, x81_71, x81_74, x81_75, aft_some, aft_void, Option.bind_some, Option.toList_some, Option.toList_none, List.cons_append, List.nil_append, if_true, if_false, ↓reduceIte, eq_self, f0_o ho, ↓f0_0 ho, ↓f0_0p ho, ↓f0_1 ho, ↓f0_1p ho, ↓f0_2 ho, ↓f0_2p ho, ↓f0_3 ho, ↓f0_3p ho, ↓f0_4 ho, ↓f0_5 ho, ↓f0_6 ho, ↓f0_7 ho, ↓f0_8 ho, ↓f0_9 ho, ↓f0_10 ho, ↓f0_11 ho, ↓f1_g ho, ↓f1_s ho, ↓f2_g ho, ↓f2_s ho, f7_o ho, ↓f7_0 ho, ↓f7_1 ho, ↓f7_1p ho, ↓f7_2 ho, ↓f7_2p ho, ↓f8_g ho, h.n, nI_nlt (Nat.le_refl K.length) (show K.length < 2 ^ 31 by omega)]
  rfl
theorem c_atRank (ho : isB o) (h : CS o T P N V K B R) (hw : WF N V K B) : X 80 0 [.ref o, .int x, .long 0] [] (H T P) = some (some (.int (match fstN (fun i => rkI (fun i => tnK N V (gK K i)) K.length i = x) 0 K.length with
    | some i => gK K i 0 0
    | none => -5)), H T P) := by
  have h8 : K.length ≤ 8 := hw.1.2.2.2.1
  have key : ∀ m i, i + m = K.length → X 80 2 [.ref o, .int x, .int (nI i)] [] (H T P) = some (some (.int (match fstN (fun i => rkI (fun i => tnK N V (gK K i)) K.length i = x) i m with
    | some i => gK K i 0 0
    | none => -5)), H T P) := by
    intro m
    induction m with
    | zero =>
      intro i hi
      have hi : i = K.length := by omega
      subst hi
      rw [x80_2]
      simp +decide only [x80_0, x80_1, x80_3, x80_4, x80_7, x80_10, x80_13, x80_14, x80_15, x80_18, x80_19, x80_22, x80_23, x80_26, x80_29, x80_30, x80_31, x80_34, x80_35, x80_38, x80_41, x80_43, aft_some, aft_void, Option.bind_some, Option.toList_some, Option.toList_none, List.cons_append, List.nil_append, if_true, if_false, ↓reduceIte, eq_self, f0_o ho, ↓f0_0 ho, ↓f0_0p ho, ↓f0_1 ho, ↓f0_1p ho, ↓f0_2 ho, ↓f0_2p ho, ↓f0_3 ho, ↓f0_3p ho, ↓f0_4 ho, ↓f0_5 ho, ↓f0_6 ho, ↓f0_7 ho, ↓f0_8 ho, ↓f0_9 ho, ↓f0_10 ho, ↓f0_11 ho, ↓f1_g ho, ↓f1_s ho, ↓f2_g ho, ↓f2_s ho, f7_o ho, ↓f7_0 ho, ↓f7_1 ho, ↓f7_1p ho, ↓f7_2 ho, ↓f7_2p ho, ↓f8_g ho, h.n, nI_nlt (Nat.le_refl K.length) (show K.length < 2 ^ 31 by omega), fstN]
    | succ m ih =>
      intro i hi
      have hi' : i < K.length := by omega
      have e := c_rankOf ho h hw hi'
      have hk := h.pk.k ho (show i < 8 by omega)
      rw [x80_2]
      simp +decide only [x80_0, x80_1, x80_3, x80_4, x80_7, x80_10, x80_13, x80_14, x80_15, x80_18, x80_19, x80_22, x80_23, x80_26, x80_29, x80_30, x80_31, x80_34, x80_35, x80_38, x80_41, x80_43, aft_some, aft_void, Option.bind_some, Option.toList_some, Option.toList_none, List.cons_append, List.nil_append, if_true, if_false, ↓reduceIte, eq_self, f0_o ho, ↓f0_0 ho, ↓f0_0p ho, ↓f0_1 ho, ↓f0_1p ho, ↓f0_2 ho, ↓f0_2p ho, ↓f0_3 ho, ↓f0_3p ho, ↓f0_4 ho, ↓f0_5 ho, ↓f0_6 ho, ↓f0_7 ho, ↓f0_8 ho, ↓f0_9 ho, ↓f0_10 ho, ↓f0_11 ho, ↓f1_g ho, ↓f1_s ho, ↓f2_g ho, ↓f2_s ho, f7_o ho, ↓f7_0 ho, ↓f7_1 ho, ↓f7_1p ho, ↓f7_2 ho, ↓f7_2p ho, ↓f8_g ho, fK_o hk, ↓fK_0 hk, ↓fK_0p hk, ↓fK_1 hk, ↓fK_1p hk, ↓fK_2 hk, ↓fK_2p hk, ↓fK_3 hk, ↓fK_3p hk, ↓fK_4 hk, ↓fK_4p hk, ↓fK_5 hk, ↓fK_6 hk, ↓fK_7 hk, ↓fK1_g hk, ↓fK1_s hk, ↓fK2_g hk, ↓fK2_s hk, ↓fK3_g hk, ↓fK3_s hk, h.n, nI_lt hi' (show K.length < 2 ^ 31 by omega), okx_nI (show i < 8 by omega) (show (8 : Nat) < 2 ^ 31 by decide), nI_clamp (show i < 2 ^ 31 by omega), nI_1, fstN, ↓aft_of (e), (h.at hi').1 0 (by decide)]
      by_cases hx : rkI (fun i => tnK N V (gK K i)) K.length i = x
      · simp only [hx, if_true]
      · simp only [hx, if_false]
        exact ih (i + 1) (by omega)
  simp +decide only [x80_0, x80_1, x80_3, x80_4, x80_7, x80_10, x80_13, x80_14, x80_15, x80_18, x80_19, x80_22, x80_23, x80_26, x80_29, x80_30, x80_31, x80_34, x80_35, x80_38, x80_41, x80_43, aft_some, aft_void, Option.bind_some, Option.toList_some, Option.toList_none, List.cons_append, List.nil_append, if_true, if_false, ↓reduceIte, eq_self]
  exact key K.length 0 (by omega)
/-- has a basket a piece that can be ironed now -/
def irK (V : Nat → Nat → Int32) (b : kT) : Prop := ¬ lkK b (if 0 < V 0 1 then 1 else 0) = -5
theorem c_nextToIron (ho : isB o) (h : CS o T P N V K B R) (hw : WF N V K B) : X 82 0 [.ref o, .long 0, .long 0, .long 0, .long 0, .long 0] [] (H T P) = some (some (match nxS (fun i => irK V (gK K i)) (fun i => tnK N V (gK K i)) K.length with
    | some i => .ref (P (o + 8) i)
    | none => .null), H T P) := by
  have h8 : K.length ≤ 8 := hw.1.2.2.2.1
  have hlt : ∀ i j, nxS (fun i => irK V (gK K i)) (fun i => tnK N V (gK K i)) i = some j → j < i := by
    intro i
    induction i with
    | zero => intro j hj; simp [nxS] at hj
    | succ i ih =>
      intro j hj
      simp only [nxS] at hj
      split at hj
      · split at hj
        · cases hj; omega
        · rename_i q hq
          split at hj
          · cases hj; omega
          · cases hj; have := ih _ hq; omega
      · have := ih _ hj; omega
  obtain ⟨⟨w1, w2⟩, e1, i1⟩ := loop_ex (fun i (v : Value × Value) => X 82 6 [.ref o, (match nxS (fun i => irK V (gK K i)) (fun i => tnK N V (gK K i)) i with
      | some j => .ref (P (o + 8) j)
      | none => .null), .int (match nxS (fun i => irK V (gK K i)) (fun i => tnK N V (gK K i)) i with
      | some j => tnK N V (gK K j)
      | none => 0), .int (nI i), v.1, v.2] [] (H T P)) (fun _ _ => True) K.length (.long 0, .long 0) trivial (by
    intro i v hi _
    have e := c_turn ho h hw hi
    have hk := h.pk.k ho (show i < 8 by omega)
    have el := c_lowest (T := T) (P := P) hk (if 0 < V 0 1 then 1 else 0)
    rw [(h.at hi).lk] at el
    have hst : T o 1 = V 0 1 := h.1.1 1 (by decide)
    by_cases s1 : 0 < V 0 1
    · simp only [s1, if_true] at el
      by_cases f1 : lkK (gK K i) 1 = -5
      · refine ⟨(.ref (P (o + 8) i), v.2), ?_, trivial⟩
        have hn : nxS (fun i => irK V (gK K i)) (fun i => tnK N V (gK K i)) (i + 1) = nxS (fun i => irK V (gK K i)) (fun i => tnK N V (gK K i)) i := nxS_n (by unfold irK; simp only [s1, if_true, if_false, f1, not_true_eq_false, not_false_eq_true])
        show X 82 6 _ _ _ = _
        rw [x82_6, hn]
        simp +decide only [x82_0, x82_1, x82_1N, x82_2, x82_3, x82_4, x82_5, x82_7, x82_8, x82_11, x82_14, x82_17, x82_18, x82_21, x82_24, x82_25, x82_26, x82_26N, x82_28, x82_28N, x82_30, x82_31, x82_34, x82_37, x82_38, x82_41, x82_42, x82_45, x82_47, x82_50, x82_51, x82_51N, x82_53, x82_56, x82_58, x82_58N, x82_59, x82_59N, x82_62, x82_64, x82_65, x82_68, x82_68N, x82_70, x82_70N, x82_71, x82_73, x82_74, x82_77, x82_80, x82_80N, x82_81, x82_81N, aft_some, aft_void, Option.bind_some, Option.toList_some, Option.toList_none, List.cons_append, List.nil_append, if_true, if_false, ↓reduceIte, eq_self, f0_o ho, ↓f0_0 ho, ↓f0_0p ho, ↓f0_1 ho, ↓f0_1p ho, ↓f0_2 ho, ↓f0_2p ho, ↓f0_3 ho, ↓f0_3p ho, ↓f0_4 ho, ↓f0_5 ho, ↓f0_6 ho, ↓f0_7 ho, ↓f0_8 ho, ↓f0_9 ho, ↓f0_10 ho, ↓f0_11 ho, ↓f1_g ho, ↓f1_s ho, ↓f2_g ho, ↓f2_s ho, f7_o ho, ↓f7_0 ho, ↓f7_1 ho, ↓f7_1p ho, ↓f7_2 ho, ↓f7_2p ho, ↓f8_g ho, fK_o hk, h.n, nI_lt hi (show K.length < 2 ^ 31 by omega), okx_nI (show i < 8 by omega) (show (8 : Nat) < 2 ^ 31 by decide), nI_clamp (show i < 2 ^ 31 by omega), nI_1, ↓aft_of (el), hst, s1, f1]
      · refine ⟨(.ref (P (o + 8) i), .int (tnK N V (gK K i))), ?_, trivial⟩
        have hn : nxS (fun i => irK V (gK K i)) (fun i => tnK N V (gK K i)) (i + 1) = (match nxS (fun i => irK V (gK K i)) (fun i => tnK N V (gK K i)) i with
          | none => some i
          | some j => if tnK N V (gK K i) < tnK N V (gK K j) then some i else some j) := nxS_s (by unfold irK; simp only [s1, if_true, if_false, f1, not_true_eq_false, not_false_eq_true])
        show X 82 6 _ _ _ = _
        rw [x82_6, hn]
        simp +decide only [x82_0, x82_1, x82_1N, x82_2, x82_3, x82_4, x82_5, x82_7, x82_8, x82_11, x82_14, x82_17, x82_18, x82_21, x82_24, x82_25, x82_26, x82_26N, x82_28, x82_28N, x82_30, x82_31, x82_34, x82_37, x82_38, x82_41, x82_42, x82_45, x82_47, x82_50, x82_51, x82_51N, x82_53, x82_56, x82_58, x82_58N, x82_59, x82_59N, x82_62, x82_64, x82_65, x82_68, x82_68N, x82_70, x82_70N, x82_71, x82_73, x82_74, x82_77, x82_80, x82_80N, x82_81, x82_81N, aft_some, aft_void, Option.bind_some, Option.toList_some, Option.toList_none, List.cons_append, List.nil_append, if_true, if_false, ↓reduceIte, eq_self, f0_o ho, ↓f0_0 ho, ↓f0_0p ho, ↓f0_1 ho, ↓f0_1p ho, ↓f0_2 ho, ↓f0_2p ho, ↓f0_3 ho, ↓f0_3p ho, ↓f0_4 ho, ↓f0_5 ho, ↓f0_6 ho, ↓f0_7 ho, ↓f0_8 ho, ↓f0_9 ho, ↓f0_10 ho, ↓f0_11 ho, ↓f1_g ho, ↓f1_s ho, ↓f2_g ho, ↓f2_s ho, f7_o ho, ↓f7_0 ho, ↓f7_1 ho, ↓f7_1p ho, ↓f7_2 ho, ↓f7_2p ho, ↓f8_g ho, fK_o hk, h.n, nI_lt hi (show K.length < 2 ^ 31 by omega), okx_nI (show i < 8 by omega) (show (8 : Nat) < 2 ^ 31 by decide), nI_clamp (show i < 2 ^ 31 by omega), nI_1, ↓aft_of (el), hst, s1, f1, ↓aft_of (e)]
        cases hq : nxS (fun i => irK V (gK K i)) (fun i => tnK N V (gK K i)) i with
        | none => simp +decide only [x82_0, x82_1, x82_1N, x82_2, x82_3, x82_4, x82_5, x82_7, x82_8, x82_11, x82_14, x82_17, x82_18, x82_21, x82_24, x82_25, x82_26, x82_26N, x82_28, x82_28N, x82_30, x82_31, x82_34, x82_37, x82_38, x82_41, x82_42, x82_45, x82_47, x82_50, x82_51, x82_51N, x82_53, x82_56, x82_58, x82_58N, x82_59, x82_59N, x82_62, x82_64, x82_65, x82_68, x82_68N, x82_70, x82_70N, x82_71, x82_73, x82_74, x82_77, x82_80, x82_80N, x82_81, x82_81N, aft_some, aft_void, Option.bind_some, Option.toList_some, Option.toList_none, List.cons_append, List.nil_append, if_true, if_false, ↓reduceIte, eq_self, nI_1]
        | some j =>
          by_cases t1 : tnK N V (gK K i) < tnK N V (gK K j)
          · simp +decide only [x82_0, x82_1, x82_1N, x82_2, x82_3, x82_4, x82_5, x82_7, x82_8, x82_11, x82_14, x82_17, x82_18, x82_21, x82_24, x82_25, x82_26, x82_26N, x82_28, x82_28N, x82_30, x82_31, x82_34, x82_37, x82_38, x82_41, x82_42, x82_45, x82_47, x82_50, x82_51, x82_51N, x82_53, x82_56, x82_58, x82_58N, x82_59, x82_59N, x82_62, x82_64, x82_65, x82_68, x82_68N, x82_70, x82_70N, x82_71, x82_73, x82_74, x82_77, x82_80, x82_80N, x82_81, x82_81N, aft_some, aft_void, Option.bind_some, Option.toList_some, Option.toList_none, List.cons_append, List.nil_append, if_true, if_false, ↓reduceIte, eq_self, t1, nI_1]
          · simp +decide only [x82_0, x82_1, x82_1N, x82_2, x82_3, x82_4, x82_5, x82_7, x82_8, x82_11, x82_14, x82_17, x82_18, x82_21, x82_24, x82_25, x82_26, x82_26N, x82_28, x82_28N, x82_30, x82_31, x82_34, x82_37, x82_38, x82_41, x82_42, x82_45, x82_47, x82_50, x82_51, x82_51N, x82_53, x82_56, x82_58, x82_58N, x82_59, x82_59N, x82_62, x82_64, x82_65, x82_68, x82_68N, x82_70, x82_70N, x82_71, x82_73, x82_74, x82_77, x82_80, x82_80N, x82_81, x82_81N, aft_some, aft_void, Option.bind_some, Option.toList_some, Option.toList_none, List.cons_append, List.nil_append, if_true, if_false, ↓reduceIte, eq_self, t1, nI_1]
    · simp only [s1, if_false] at el
      by_cases f1 : lkK (gK K i) 0 = -5
      · refine ⟨(.ref (P (o + 8) i), v.2), ?_, trivial⟩
        have hn : nxS (fun i => irK V (gK K i)) (fun i => tnK N V (gK K i)) (i + 1) = nxS (fun i => irK V (gK K i)) (fun i => tnK N V (gK K i)) i := nxS_n (by unfold irK; simp only [s1, if_true, if_false, f1, not_true_eq_false, not_false_eq_true])
        show X 82 6 _ _ _ = _
        rw [x82_6, hn]
        simp +decide only [x82_0, x82_1, x82_1N, x82_2, x82_3, x82_4, x82_5, x82_7, x82_8, x82_11, x82_14, x82_17, x82_18, x82_21, x82_24, x82_25, x82_26, x82_26N, x82_28, x82_28N, x82_30, x82_31, x82_34, x82_37, x82_38, x82_41, x82_42, x82_45, x82_47, x82_50, x82_51, x82_51N, x82_53, x82_56, x82_58, x82_58N, x82_59, x82_59N, x82_62, x82_64, x82_65, x82_68, x82_68N, x82_70, x82_70N, x82_71, x82_73, x82_74, x82_77, x82_80, x82_80N, x82_81, x82_81N, aft_some, aft_void, Option.bind_some, Option.toList_some, Option.toList_none, List.cons_append, List.nil_append, if_true, if_false, ↓reduceIte, eq_self, f0_o ho, ↓f0_0 ho, ↓f0_0p ho, ↓f0_1 ho, ↓f0_1p ho, ↓f0_2 ho, ↓f0_2p ho, ↓f0_3 ho, ↓f0_3p ho, ↓f0_4 ho, ↓f0_5 ho, ↓f0_6 ho, ↓f0_7 ho, ↓f0_8 ho, ↓f0_9 ho, ↓f0_10 ho, ↓f0_11 ho, ↓f1_g ho, ↓f1_s ho, ↓f2_g ho, ↓f2_s ho, f7_o ho, ↓f7_0 ho, ↓f7_1 ho, ↓f7_1p ho, ↓f7_2 ho, ↓f7_2p ho, ↓f8_g ho, fK_o hk, h.n, nI_lt hi (show K.length < 2 ^ 31 by omega), okx_nI (show i < 8 by omega) (show (8 : Nat) < 2 ^ 31 by decide), nI_clamp (show i < 2 ^ 31 by omega), nI_1, ↓aft_of (el), hst, s1, f1]
      · refine ⟨(.ref (P (o + 8) i), .int (tnK N V (gK K i))), ?_, trivial⟩
        have hn : nxS (fun i => irK V (gK K i)) (fun i => tnK N V (gK K i)) (i + 1) = (match nxS (fun i => irK V (gK K i)) (fun i => tnK N V (gK K i)) i with
          | none => some i
          | some j => if tnK N V (gK K i) < tnK N V (gK K j) then some i else some j) := nxS_s (by unfold irK; simp only [s1, if_true, if_false, f1, not_true_eq_false, not_false_eq_true])
        show X 82 6 _ _ _ = _
        rw [x82_6, hn]
        simp +decide only [x82_0, x82_1, x82_1N, x82_2, x82_3, x82_4, x82_5, x82_7, x82_8, x82_11, x82_14, x82_17, x82_18, x82_21, x82_24, x82_25, x82_26, x82_26N, x82_28, x82_28N, x82_30, x82_31, x82_34, x82_37, x82_38, x82_41, x82_42, x82_45, x82_47, x82_50, x82_51, x82_51N, x82_53, x82_56, x82_58, x82_58N, x82_59, x82_59N, x82_62, x82_64, x82_65, x82_68, x82_68N, x82_70, x82_70N, x82_71, x82_73, x82_74, x82_77, x82_80, x82_80N, x82_81, x82_81N, aft_some, aft_void, Option.bind_some, Option.toList_some, Option.toList_none, List.cons_append, List.nil_append, if_true, if_false, ↓reduceIte, eq_self, f0_o ho, ↓f0_0 ho, ↓f0_0p ho, ↓f0_1 ho, ↓f0_1p ho, ↓f0_2 ho, ↓f0_2p ho, ↓f0_3 ho, ↓f0_3p ho, ↓f0_4 ho, ↓f0_5 ho, ↓f0_6 ho, ↓f0_7 ho, ↓f0_8 ho, ↓f0_9 ho, ↓f0_10 ho, ↓f0_11 ho, ↓f1_g ho, ↓f1_s ho, ↓f2_g ho, ↓f2_s ho, f7_o ho, ↓f7_0 ho, ↓f7_1 ho, ↓f7_1p ho, ↓f7_2 ho, ↓f7_2p ho, ↓f8_g ho, fK_o hk, h.n, nI_lt hi (show K.length < 2 ^ 31 by omega), okx_nI (show i < 8 by omega) (show (8 : Nat) < 2 ^ 31 by decide), nI_clamp (show i < 2 ^ 31 by omega), nI_1, ↓aft_of (el), hst, s1, f1, ↓aft_of (e)]
        cases hq : nxS (fun i => irK V (gK K i)) (fun i => tnK N V (gK K i)) i with
        | none => simp +decide only [x82_0, x82_1, x82_1N, x82_2, x82_3, x82_4, x82_5, x82_7, x82_8, x82_11, x82_14, x82_17, x82_18, x82_21, x82_24, x82_25, x82_26, x82_26N, x82_28, x82_28N, x82_30, x82_31, x82_34, x82_37, x82_38, x82_41, x82_42, x82_45, x82_47, x82_50, x82_51, x82_51N, x82_53, x82_56, x82_58, x82_58N, x82_59, x82_59N, x82_62, x82_64, x82_65, x82_68, x82_68N, x82_70, x82_70N, x82_71, x82_73, x82_74, x82_77, x82_80, x82_80N, x82_81, x82_81N, aft_some, aft_void, Option.bind_some, Option.toList_some, Option.toList_none, List.cons_append, List.nil_append, if_true, if_false, ↓reduceIte, eq_self, nI_1]
        | some j =>
          by_cases t1 : tnK N V (gK K i) < tnK N V (gK K j)
          · simp +decide only [x82_0, x82_1, x82_1N, x82_2, x82_3, x82_4, x82_5, x82_7, x82_8, x82_11, x82_14, x82_17, x82_18, x82_21, x82_24, x82_25, x82_26, x82_26N, x82_28, x82_28N, x82_30, x82_31, x82_34, x82_37, x82_38, x82_41, x82_42, x82_45, x82_47, x82_50, x82_51, x82_51N, x82_53, x82_56, x82_58, x82_58N, x82_59, x82_59N, x82_62, x82_64, x82_65, x82_68, x82_68N, x82_70, x82_70N, x82_71, x82_73, x82_74, x82_77, x82_80, x82_80N, x82_81, x82_81N, aft_some, aft_void, Option.bind_some, Option.toList_some, Option.toList_none, List.cons_append, List.nil_append, if_true, if_false, ↓reduceIte, eq_self, t1, nI_1]
          · simp +decide only [x82_0, x82_1, x82_1N, x82_2, x82_3, x82_4, x82_5, x82_7, x82_8, x82_11, x82_14, x82_17, x82_18, x82_21, x82_24, x82_25, x82_26, x82_26N, x82_28, x82_28N, x82_30, x82_31, x82_34, x82_37, x82_38, x82_41, x82_42, x82_45, x82_47, x82_50, x82_51, x82_51N, x82_53, x82_56, x82_58, x82_58N, x82_59, x82_59N, x82_62, x82_64, x82_65, x82_68, x82_68N, x82_70, x82_70N, x82_71, x82_73, x82_74, x82_77, x82_80, x82_80N, x82_81, x82_81N, aft_some, aft_void, Option.bind_some, Option.toList_some, Option.toList_none, List.cons_append, List.nil_append, if_true, if_false, ↓reduceIte, eq_self, t1, nI_1])
  simp +decide only [x82_0, x82_1, x82_1N, x82_2, x82_3, x82_4, x82_5, x82_7, x82_8, x82_11, x82_14, x82_17, x82_18, x82_21, x82_24, x82_25, x82_26, x82_26N, x82_28, x82_28N, x82_30, x82_31, x82_34, x82_37, x82_38, x82_41, x82_42, x82_45, x82_47, x82_50, x82_51, x82_51N, x82_53, x82_56, x82_58, x82_58N, x82_59, x82_59N, x82_62, x82_64, x82_65, x82_68, x82_68N, x82_70, x82_70N, x82_71, x82_73, x82_74, x82_77, x82_80, x82_80N, x82_81, x82_81N, aft_some, aft_void, Option.bind_some, Option.toList_some, Option.toList_none, List.cons_append, List.nil_append, if_true, if_false, ↓reduceIte, eq_self]
  rw [show X 82 6 [.ref o, .null, .int 0, .int 0, .long 0, .long 0] [] (H T P) = _ from e1, x82_6]
  simp +decide only [x82_0, x82_1, x82_1N, x82_2, x82_3, x82_4, x82_5, x82_7, x82_8, x82_11, x82_14, x82_17, x82_18, x82_21, x82_24, x82_25, x82_26, x82_26N, x82_28, x82_28N, x82_30, x82_31, x82_34, x82_37, x82_38, x82_41, x82_42, x82_45, x82_47, x82_50, x82_51, x82_51N, x82_53, x82_56, x82_58, x82_58N, x82_59, x82_59N, x82_62, x82_64, x82_65, x82_68, x82_68N, x82_70, x82_70N, x82_71, x82_73, x82_74, x82_77, x82_80, x82_80N, x82_81, x82_81N, aft_some, aft_void, Option.bind_some, Option.toList_some, Option.toList_none, List.cons_append, List.nil_append, if_true, if_false, ↓reduceIte, eq_self, f0_o ho, ↓f0_0 ho, ↓f0_0p ho, ↓f0_1 ho, ↓f0_1p ho, ↓f0_2 ho, ↓f0_2p ho, ↓f0_3 ho, ↓f0_3p ho, ↓f0_4 ho, ↓f0_5 ho, ↓f0_6 ho, ↓f0_7 ho, ↓f0_8 ho, ↓f0_9 ho, ↓f0_10 ho, ↓f0_11 ho, ↓f1_g ho, ↓f1_s ho, ↓f2_g ho, ↓f2_s ho, f7_o ho, ↓f7_0 ho, ↓f7_1 ho, ↓f7_1p ho, ↓f7_2 ho, ↓f7_2p ho, ↓f8_g ho, h.n, nI_nlt (Nat.le_refl K.length) (show K.length < 2 ^ 31 by omega)]
  cases hq : nxS (fun i => irK V (gK K i)) (fun i => tnK N V (gK K i)) K.length with
  | none => simp +decide only [x82_0, x82_1, x82_1N, x82_2, x82_3, x82_4, x82_5, x82_7, x82_8, x82_11, x82_14, x82_17, x82_18, x82_21, x82_24, x82_25, x82_26, x82_26N, x82_28, x82_28N, x82_30, x82_31, x82_34, x82_37, x82_38, x82_41, x82_42, x82_45, x82_47, x82_50, x82_51, x82_51N, x82_53, x82_56, x82_58, x82_58N, x82_59, x82_59N, x82_62, x82_64, x82_65, x82_68, x82_68N, x82_70, x82_70N, x82_71, x82_73, x82_74, x82_77, x82_80, x82_80N, x82_81, x82_81N, aft_some, aft_void, Option.bind_some, Option.toList_some, Option.toList_none, List.cons_append, List.nil_append, if_true, if_false, ↓reduceIte, eq_self]
  | some j => simp +decide only [x82_0, x82_1, x82_1N, x82_2, x82_3, x82_4, x82_5, x82_7, x82_8, x82_11, x82_14, x82_17, x82_18, x82_21, x82_24, x82_25, x82_26, x82_26N, x82_28, x82_28N, x82_30, x82_31, x82_34, x82_37, x82_38, x82_41, x82_42, x82_45, x82_47, x82_50, x82_51, x82_51N, x82_53, x82_56, x82_58, x82_58N, x82_59, x82_59N, x82_62, x82_64, x82_65, x82_68, x82_68N, x82_70, x82_70N, x82_71, x82_73, x82_74, x82_77, x82_80, x82_80N, x82_81, x82_81N, aft_some, aft_void, Option.bind_some, Option.toList_some, Option.toList_none, List.cons_append, List.nil_append, if_true, if_false, ↓reduceIte, eq_self]
end OR
end
