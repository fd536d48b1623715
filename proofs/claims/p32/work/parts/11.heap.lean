/-! the claim's whole heap as a table: T a k is what the cell a holds at k (a field's place, or an array's), P a k the addresses in an array of references -/
abbrev shp : Type := (Nat × List (Option Nat)) ⊕ (Nat × Nat)
def stSh (o : Nat) : List shp := [.inl (9, [none, none, none, none, some (o + 1), some (o + 2), some (o + 3), some (o + 7), some (o + 41), some (o + 45), some (o + 48), some (o + 49)]),
  .inr (0, 4),
  .inr (0, 5),
  .inl (3, [none, some (o + 4), some (o + 5), some (o + 6)]),
  .inr (0, 10),
  .inr (0, 10),
  .inr (0, 10),
  .inl (8, [some (o + 8), none, none]),
  .inr (2, 8),
  .inl (0, [none, none, none, none, none, some (o + 10), some (o + 11), some (o + 12)]),
  .inr (0, 4),
  .inr (0, 4),
  .inr (0, 4),
  .inl (0, [none, none, none, none, none, some (o + 14), some (o + 15), some (o + 16)]),
  .inr (0, 4),
  .inr (0, 4),
  .inr (0, 4),
  .inl (0, [none, none, none, none, none, some (o + 18), some (o + 19), some (o + 20)]),
  .inr (0, 4),
  .inr (0, 4),
  .inr (0, 4),
  .inl (0, [none, none, none, none, none, some (o + 22), some (o + 23), some (o + 24)]),
  .inr (0, 4),
  .inr (0, 4),
  .inr (0, 4),
  .inl (0, [none, none, none, none, none, some (o + 26), some (o + 27), some (o + 28)]),
  .inr (0, 4),
  .inr (0, 4),
  .inr (0, 4),
  .inl (0, [none, none, none, none, none, some (o + 30), some (o + 31), some (o + 32)]),
  .inr (0, 4),
  .inr (0, 4),
  .inr (0, 4),
  .inl (0, [none, none, none, none, none, some (o + 34), some (o + 35), some (o + 36)]),
  .inr (0, 4),
  .inr (0, 4),
  .inr (0, 4),
  .inl (0, [none, none, none, none, none, some (o + 38), some (o + 39), some (o + 40)]),
  .inr (0, 4),
  .inr (0, 4),
  .inr (0, 4),
  .inl (4, [some (o + 42), some (o + 43), some (o + 44), none]),
  .inr (0, 99),
  .inr (0, 99),
  .inr (0, 99),
  .inl (7, [some (o + 46), some (o + 47), none]),
  .inr (0, 20),
  .inr (0, 20),
  .inl (2, [none, none, none, none]),
  .inl (6, [some (o + 50), none, none]),
  .inr (0, 40)]
def shapes : List shp := [.inl (10, [some 1, some 52, some 103, some 154, some 360, none])] ++ (stSh 1 ++ (stSh 52 ++ (stSh 103 ++ ([.inl (5, [some 155, none, none]), .inr (3, 4)] ++ (stSh 156 ++ (stSh 207 ++ (stSh 258 ++ (stSh 309 ++ [.inl (1, [some 361, none, none, some 362, some 363, some 364, some 365, none, none]), .inr (1, 60), .inr (0, 12), .inr (0, 12), .inr (0, 12), .inr (0, 12)]))))))))
def mkF (f : Nat → Int32) : Nat → List (Option Nat) → List Value
  | _, [] => []
  | k, some r :: l => .ref r :: mkF f (k + 1) l
  | k, none :: l => .int (f k) :: mkF f (k + 1) l
def mk (s : shp) (f : Nat → Int32) (p : Nat → Nat) : hC := match s with
  | .inl (ci, l) => .inl (ci, mkF f 0 l)
  | .inr (t, n) => if t < 2 then .inr (t, n, .inl f) else .inr (t, n, .inr (fun i => if i < n then some (p i) else none))
def H (T : Nat → Nat → Int32) (P : Nat → Nat → Nat) : List hC := shapes.mapIdx (fun a s => mk s (T a) (P a))
theorem H_at (T : Nat → Nat → Int32) (P : Nat → Nat → Nat) (a : Nat) : (H T P)[a]? = (shapes[a]?).map (fun s => mk s (T a) (P a)) := by
  simp [H, List.getElem?_mapIdx]
theorem shapes_len : shapes.length = 366 := by decide +kernel
theorem H_len (T : Nat → Nat → Int32) (P : Nat → Nat → Nat) : (H T P).length = 366 := by
  simp [H, shapes_len]
def upA {α : Type} (T : Nat → α) (a : Nat) (f : α) : Nat → α := fun b => if b = a then f else T b
theorem upA_s {α : Type} (T : Nat → α) (a : Nat) (f : α) : upA T a f a = f := by simp [upA]
theorem upA_n {α : Type} (T : Nat → α) {a b : Nat} (f : α) (h : b ≠ a) : upA T a f b = T b := by simp [upA, h]
theorem upA_self {α : Type} (T : Nat → α) (a : Nat) : upA T a (T a) = T := by
  funext b
  by_cases h : b = a
  · subst h; exact upA_s _ _ _
  · exact upA_n _ _ h
theorem upA_upA {α : Type} (T : Nat → α) (a : Nat) (f g : α) : upA (upA T a f) a g = upA T a g := by
  funext b
  by_cases h : b = a
  · subst h; rw [upA_s, upA_s]
  · rw [upA_n _ _ h, upA_n _ _ h, upA_n _ _ h]
/-- one place of one cell -/
abbrev up1 (T : Nat → Nat → Int32) (a k : Nat) (v : Int32) : Nat → Nat → Int32 := upA T a (upA (T a) k v)
theorem upd_A (f : Nat → Int32) (k : Nat) (v : Int32) : upd f k v = upA f k v := by
  funext j
  unfold upd upA
  rfl
theorem H_set {T : Nat → Nat → Int32} {P : Nat → Nat → Nat} {a : Nat} {s : shp} (hs : shapes[a]? = some s) (f : Nat → Int32) (p : Nat → Nat) : (H T P).set a (mk s f p) = H (upA T a f) (upA P a p) := by
  apply List.ext_getElem?
  intro j
  by_cases hj : a = j
  · subst hj
    have hl : a < (H T P).length := by
      rw [H_len, ← shapes_len]; exact (List.getElem?_eq_some_iff.mp hs).1
    rw [List.getElem?_set_self hl, H_at, hs, upA_s, upA_s]; rfl
  · rw [List.getElem?_set_ne hj, H_at, H_at, upA_n _ _ (Ne.symm hj), upA_n _ _ (Ne.symm hj)]
theorem H_setT {T : Nat → Nat → Int32} {P : Nat → Nat → Nat} {a : Nat} {s : shp} (hs : shapes[a]? = some s) (f : Nat → Int32) : (H T P).set a (mk s f (P a)) = H (upA T a f) P := by
  rw [H_set hs, upA_self]
theorem H_setP {T : Nat → Nat → Int32} {P : Nat → Nat → Nat} {a : Nat} {s : shp} (hs : shapes[a]? = some s) (p : Nat → Nat) : (H T P).set a (mk s (T a) p) = H T (upA P a p) := by
  rw [H_set hs, upA_self]
theorem mkF_i (f : Nat → Int32) : ∀ (l : List (Option Nat)) (q k : Nat), l[k]? = some none → (mkF f q l)[k]? = some (.int (f (q + k)))
  | [], _, _, h => by simp at h
  | x :: l, q, 0, h => by
    rw [List.getElem?_cons_zero] at h
    cases h
    rfl
  | x :: l, q, k + 1, h => by
    rw [List.getElem?_cons_succ] at h
    have := mkF_i f l (q + 1) k h
    rw [show q + (k + 1) = q + 1 + k by omega]
    cases x <;> exact this
theorem mkF_r (f : Nat → Int32) : ∀ (l : List (Option Nat)) (q k r : Nat), l[k]? = some (some r) → (mkF f q l)[k]? = some (.ref r)
  | [], _, _, _, h => by simp at h
  | x :: l, q, 0, r, h => by
    rw [List.getElem?_cons_zero] at h
    cases h
    rfl
  | x :: l, q, k + 1, r, h => by
    rw [List.getElem?_cons_succ] at h
    have := mkF_r f l (q + 1) k r h
    cases x <;> exact this
theorem mkF_len (f : Nat → Int32) : ∀ (l : List (Option Nat)) (q : Nat), (mkF f q l).length = l.length
  | [], _ => rfl
  | x :: l, q => by
    cases x <;> simp [mkF, mkF_len f l (q + 1)]
theorem mkF_set (f : Nat → Int32) (v : Int32) : ∀ (l : List (Option Nat)) (q k : Nat), l[k]? = some none → (mkF f q l).set k (.int v) = mkF (upA f (q + k) v) q l
  | [], _, _, h => by simp at h
  | x :: l, q, 0, h => by
    rw [List.getElem?_cons_zero] at h
    cases h
    have e : ∀ (l : List (Option Nat)) (q' : Nat), q < q' → mkF f q' l = mkF (upA f q v) q' l := by
      intro l
      induction l with
      | nil => intro _ _; rfl
      | cons y l ih =>
        intro q' hq
        cases y with
        | none => simp only [mkF]; rw [upA_n _ _ (by omega), ih (q' + 1) (by omega)]
        | some r => simp only [mkF]; rw [ih (q' + 1) (by omega)]
    simp only [mkF, Nat.add_zero, List.set_cons_zero, upA_s]
    rw [e l (q + 1) (by omega)]
  | x :: l, q, k + 1, h => by
    rw [List.getElem?_cons_succ] at h
    have := mkF_set f v l (q + 1) k h
    rw [show q + (k + 1) = q + 1 + k by omega]
    cases x with
    | none => simp only [mkF, List.set_cons_succ, this]; rw [upA_n _ _ (by omega)]
    | some r => simp only [mkF, List.set_cons_succ, this]
section HF
variable {T : Nat → Nat → Int32} {P : Nat → Nat → Nat} {a b ci k r t n i pc : Nat} {l : List (Option Nat)} {L S : List Value} {x y v : Int32}
theorem g_fi (hs : shapes[a]? = some (.inl (ci, l))) (hk : l[k]? = some none) : getF (H T P)[a]? ci k = some (.int (T a k)) := by
  rw [H_at, hs]
  simp only [Option.map_some, mk, getF, if_true, mkF_i _ _ _ _ hk, Nat.zero_add]
  rfl
theorem g_fr (hs : shapes[a]? = some (.inl (ci, l))) (hk : l[k]? = some (some r)) : getF (H T P)[a]? ci k = some (.ref r) := by
  rw [H_at, hs]
  simp only [Option.map_some, mk, getF, if_true, mkF_r _ _ _ _ _ hk]
  rfl
theorem g_o (hs : shapes[a]? = some (.inl (ci, l))) : isO (H T P)[a]? ci = true := by
  rw [H_at, hs]
  simp [mk, isO]
theorem g_pi (hs : shapes[a]? = some (.inl (ci, l))) (hk : l[k]? = some none) (hok : okv (fty ci k) (.int v) = true) : (putF (H T P)[a]? ci k (.int v)).bind (fun c => X i pc L S ((H T P).set a c)) = X i pc L S (H (up1 T a k v) P) := by
  have hl : k < (mkF (T a) 0 l).length := by
    rw [mkF_len]; exact (List.getElem?_eq_some_iff.mp hk).1
  rw [H_at, hs]
  simp only [Option.map_some, mk, putF, hl, hok, and_self, if_true, Option.bind_some]
  rw [mkF_set _ _ _ _ _ hk, Nat.zero_add]
  have := H_setT (T := T) (P := P) hs (upA (T a) k v)
  simp only [mk] at this
  rw [this]
theorem g_gi (hs : shapes[a]? = some (.inr (t, n))) (ht : t < 2) : getI (H T P)[a]? a t x = if okx x n = true then some (T a x.toNatClampNeg) else none := by
  rw [H_at, hs]
  simp only [Option.map_some, mk, if_pos ht, getI, true_and]
theorem g_si (hs : shapes[a]? = some (.inr (t, n))) (ht : t < 2) : (putI (H T P)[a]? t x y).bind (fun c => X i pc L S ((H T P).set a c)) = if okx x n = true then X i pc L S (H (up1 T a x.toNatClampNeg y) P) else none := by
  rw [H_at, hs]
  simp only [Option.map_some, mk, if_pos ht, putI, true_and]
  by_cases hx : okx x n = true
  · rw [if_pos hx, if_pos hx, Option.bind_some]
    have := H_setT (T := T) (P := P) hs (upA (T a) x.toNatClampNeg y)
    simp only [mk, if_pos ht] at this
    rw [upd_A, this]
  · rw [if_neg hx, if_neg hx]; rfl
theorem g_q (hs : shapes[a]? = some (.inr (t, n))) (ht : t = 2 ∨ t = 3) (hn : n < 2 ^ 31) : getQ (H T P)[a]? x = if okx x n = true then some (.ref (P a x.toNatClampNeg)) else none := by
  have h2 : ¬ t < 2 := by omega
  rw [H_at, hs]
  simp only [Option.map_some, mk, if_neg h2, getQ]
  by_cases hx : okx x n = true
  · have hx2 : x.toNatClampNeg < n := by simp only [okx, Bool.and_eq_true, decide_eq_true_eq] at hx; exact hx.2
    rw [if_pos ⟨ht, hx⟩, if_pos hx, if_pos hx2]; rfl
  · rw [if_neg (fun q => hx q.2), if_neg hx]
theorem g_sq (hs : shapes[a]? = some (.inr (t, n))) (ht : t = 2 ∨ t = 3) (hb : shapes[b]? = some (.inl (qcl t, l))) : (putQ (H T P)[a]? x (H T P)[b]? b).bind (fun c => X i pc L S ((H T P).set a c)) = if okx x n = true then X i pc L S (H T (upA P a (upA (P a) x.toNatClampNeg b))) else none := by
  have h2 : ¬ t < 2 := by omega
  rw [H_at, H_at, hs, hb]
  simp only [Option.map_some, mk, if_neg h2, putQ, true_and]
  by_cases hx : okx x n = true
  · have hx2 : x.toNatClampNeg < n := by simp only [okx, Bool.and_eq_true, decide_eq_true_eq] at hx; exact hx.2
    rw [if_pos ⟨ht, hx⟩, if_pos hx, Option.bind_some]
    have := H_setP (T := T) (P := P) hs (upA (P a) x.toNatClampNeg b)
    simp only [mk, if_neg h2] at this
    have hf : va_up (fun i => if i < n then some (P a i) else none) x.toNatClampNeg (some b) = (fun i => if i < n then some (upA (P a) x.toNatClampNeg b i) else none) := by
      funext z
      unfold va_up upA
      by_cases hz : z = x.toNatClampNeg
      · subst hz; simp [hx2]
      · simp [hz]
    rw [hf, this]
  · rw [if_neg (fun q => hx q.2), if_neg hx]; rfl
theorem g_cp {n0 n1 : Nat} {sp dp m : Int32} (ha : shapes[a]? = some (.inr (0, n0))) (hb : shapes[b]? = some (.inr (0, n1))) : (cpyI (H T P)[a]? (H T P)[b]? sp dp m).bind (fun c => X i pc L S ((H T P).set b c)) = if ¬ sp < 0 ∧ ¬ dp < 0 ∧ ¬ m < 0 ∧ sp.toNatClampNeg + m.toNatClampNeg ≤ n0 ∧ dp.toNatClampNeg + m.toNatClampNeg ≤ n1 then X i pc L S (H (upA T b (va_cpy (T a) (T b) sp.toNatClampNeg dp.toNatClampNeg m.toNatClampNeg)) P) else none := by
  rw [H_at, H_at, ha, hb]
  simp only [Option.map_some, mk, show (0 : Nat) < 2 by decide, if_true, cpyI]
  by_cases hx : ¬ sp < 0 ∧ ¬ dp < 0 ∧ ¬ m < 0 ∧ sp.toNatClampNeg + m.toNatClampNeg ≤ n0 ∧ dp.toNatClampNeg + m.toNatClampNeg ≤ n1
  · rw [if_pos hx, if_pos hx, Option.bind_some]
    have := H_setT (T := T) (P := P) hb (va_cpy (T a) (T b) sp.toNatClampNeg dp.toNatClampNeg m.toNatClampNeg)
    simp only [mk, show (0 : Nat) < 2 by decide, if_true] at this
    rw [this]
  · rw [if_neg hx, if_neg hx]; rfl
section HB
variable {F : Value → Option (Option Value × List hC)} {G : Int32 → Option (Option Value × List hC)}
theorem b_fi (hs : shapes[a]? = some (.inl (ci, l))) (hk : l[k]? = some none) : (getF (H T P)[a]? ci k).bind F = F (.int (T a k)) := by rw [g_fi hs hk]; rfl
theorem b_fr (hs : shapes[a]? = some (.inl (ci, l))) (hk : l[k]? = some (some r)) : (getF (H T P)[a]? ci k).bind F = F (.ref r) := by rw [g_fr hs hk]; rfl
theorem b_gi (hs : shapes[a]? = some (.inr (t, n))) (ht : t < 2) : (getI (H T P)[a]? a t x).bind G = if okx x n = true then G (T a x.toNatClampNeg) else none := by
  rw [g_gi hs ht]; split <;> rfl
theorem b_q (hs : shapes[a]? = some (.inr (t, n))) (ht : t = 2 ∨ t = 3) (hn : n < 2 ^ 31) : (getQ (H T P)[a]? x).bind F = if okx x n = true then F (.ref (P a x.toNatClampNeg)) else none := by
  rw [g_q hs ht hn]; split <;> rfl
end HB
theorem g_st (hk : k < 4) : getI (H T P)[sA k]? (sA k) 0 x = if okx x 4 = true then some (sArr k x.toNatClampNeg) else none := by
  have h0 : (H T P)[sA k]? = none := by
    apply List.getElem?_eq_none
    rw [H_len]
    match k, hk with
    | 0, _ => exact Nat.le_of_ble_eq_true rfl
    | 1, _ => exact Nat.le_of_ble_eq_true rfl
    | 2, _ => exact Nat.le_of_ble_eq_true rfl
    | 3, _ => exact Nat.le_of_ble_eq_true rfl
  rw [h0]
  simp only [getI, sIx_A hk, true_and]
theorem b_st {G : Int32 → Option (Option Value × List hC)} (hk : k < 4) : (getI (H T P)[sA k]? (sA k) 0 x).bind G = if okx x 4 = true then G (sArr k x.toNatClampNeg) else none := by
  rw [g_st hk]; split <;> rfl
theorem aft_of {j : Nat} {A : List Value} {h0 h1 : List hC} {v : Option Value} {F : List Value → List hC → Option (Option Value × List hC)} (e : X j 0 A [] h0 = some (v, h1)) : aft (X j 0 A [] h0) F = F v.toList h1 := by
  rw [e]; rfl
end HF
/-- the states' addresses -/
def isB (o : Nat) : Prop := o = 1 ∨ o = 52 ∨ o = 103 ∨ o = 156 ∨ o = 207 ∨ o = 258 ∨ o = 309
theorem sh_all : [1, 52, 103, 156, 207, 258, 309].all (fun o => (List.range 51).all (fun k => decide (shapes[o + k]? = (stSh o)[k]?))) = true := by decide +kernel
theorem sh_st {o : Nat} (hb : isB o) {k : Nat} (hk : k < 51) : shapes[o + k]? = (stSh o)[k]? := by
  have hm : o ∈ [1, 52, 103, 156, 207, 258, 309] := by
    rcases hb with rfl | rfl | rfl | rfl | rfl | rfl | rfl <;> decide
  exact of_decide_eq_true (List.all_eq_true.mp (List.all_eq_true.mp sh_all o hm) k (List.mem_range.mpr hk))
theorem isB_apart {o q : Nat} (hb : isB o) (hq : isB q) (h : o ≠ q) {x y : Nat} (hx : x < 51) (hy : y < 51) : q + y ≠ o + x := by
  rcases hb with rfl | rfl | rfl | rfl | rfl | rfl | rfl <;> rcases hq with rfl | rfl | rfl | rfl | rfl | rfl | rfl <;> omega
section UP
variable {α : Type} {T : Nat → α} {f : α} {o q x y : Nat}
theorem u_oo (h : y ≠ x) : upA T (o + x) f (o + y) = T (o + y) := upA_n _ _ (by omega)
theorem u_n (h : y ≠ x) : upA T x f y = T y := upA_n _ _ h
theorem u_o0 (h : 0 < x) : upA T (o + x) f o = T o := upA_n _ _ (by omega)
theorem u_0o (h : 0 < y) : upA T o f (o + y) = T (o + y) := upA_n _ _ (by omega)
theorem u_ap (hb : isB o) (hq : isB q) (h : o ≠ q) (hx : x < 51) (hy : y < 51) : upA T (o + x) f (q + y) = T (q + y) := upA_n _ _ (isB_apart hb hq h hx hy)
theorem u_ap0 (hb : isB o) (hq : isB q) (h : o ≠ q) (hy : y < 51) : upA T o f (q + y) = T (q + y) := u_ap (x := 0) hb hq h (by decide) hy
theorem u_ap1 (hb : isB o) (hq : isB q) (h : o ≠ q) (hx : x < 51) : upA T (o + x) f q = T q := u_ap (y := 0) hb hq h hx (by decide)
theorem u_ap2 (h : o ≠ q) : upA T o f q = T q := upA_n _ _ (Ne.symm h)
end UP
theorem cpy0 {f g : Nat → Int32} {n k : Nat} (h : k < n) : va_cpy f g 0 0 n k = f k := by
  unfold va_cpy
  rw [if_pos ⟨Nat.zero_le _, by omega⟩]
  simp
theorem g_cp0 {T : Nat → Nat → Int32} {P : Nat → Nat → Nat} {a b i pc n n0 n1 : Nat} {L S : List Value} {m : Int32} (ha : shapes[a]? = some (.inr (0, n0))) (hb : shapes[b]? = some (.inr (0, n1))) (hm : m = nI n) (h0 : n ≤ n0) (h1 : n ≤ n1) (h2 : n < 2 ^ 31) : (cpyI (H T P)[a]? (H T P)[b]? 0 0 m).bind (fun c => X i pc L S ((H T P).set b c)) = X i pc L S (H (upA T b (va_cpy (T a) (T b) 0 0 n)) P) := by
  subst hm
  have c0 : (0 : Int32).toNatClampNeg = 0 := by decide
  rw [g_cp ha hb, nI_clamp h2, c0, if_pos ⟨by decide, by decide, nI_pos h2, by omega, by omega⟩]
/-- a loop that carries a state -/
theorem loop_ex {σ α : Type} (F : Nat → σ → α) (I : Nat → σ → Prop) (n : Nat) (s0 : σ) (h0 : I 0 s0) (hs : ∀ i s, i < n → I i s → ∃ s', F i s = F (i + 1) s' ∧ I (i + 1) s') : ∃ s, F 0 s0 = F n s ∧ I n s := by
  induction n with
  | zero => exact ⟨s0, rfl, h0⟩
  | succ n ih =>
    obtain ⟨s, e, hI⟩ := ih (fun i s hi => hs i s (by omega))
    obtain ⟨s', e', hI'⟩ := hs n s (by omega) hI
    exact ⟨s', e.trans e', hI'⟩
/-- the baskets' addresses -/
def isK (b : Nat) : Prop := ∃ o i, isB o ∧ i < 8 ∧ b = o + 9 + 4 * i
theorem sh_k {b : Nat} (hb : isK b) : shapes[b]? = some (.inl (0, [none, none, none, none, none, some (b + 1), some (b + 2), some (b + 3)])) ∧ shapes[b + 1]? = some (.inr (0, 4)) ∧ shapes[b + 2]? = some (.inr (0, 4)) ∧ shapes[b + 3]? = some (.inr (0, 4)) := by
  obtain ⟨o, i, ho, hi, rfl⟩ := hb
  match i, hi with
  | 0, _ => exact ⟨(sh_st (k := 9) ho (by decide)).trans rfl, (sh_st (k := 10) ho (by decide)).trans rfl, (sh_st (k := 11) ho (by decide)).trans rfl, (sh_st (k := 12) ho (by decide)).trans rfl⟩
  | 1, _ => exact ⟨(sh_st (k := 13) ho (by decide)).trans rfl, (sh_st (k := 14) ho (by decide)).trans rfl, (sh_st (k := 15) ho (by decide)).trans rfl, (sh_st (k := 16) ho (by decide)).trans rfl⟩
  | 2, _ => exact ⟨(sh_st (k := 17) ho (by decide)).trans rfl, (sh_st (k := 18) ho (by decide)).trans rfl, (sh_st (k := 19) ho (by decide)).trans rfl, (sh_st (k := 20) ho (by decide)).trans rfl⟩
  | 3, _ => exact ⟨(sh_st (k := 21) ho (by decide)).trans rfl, (sh_st (k := 22) ho (by decide)).trans rfl, (sh_st (k := 23) ho (by decide)).trans rfl, (sh_st (k := 24) ho (by decide)).trans rfl⟩
  | 4, _ => exact ⟨(sh_st (k := 25) ho (by decide)).trans rfl, (sh_st (k := 26) ho (by decide)).trans rfl, (sh_st (k := 27) ho (by decide)).trans rfl, (sh_st (k := 28) ho (by decide)).trans rfl⟩
  | 5, _ => exact ⟨(sh_st (k := 29) ho (by decide)).trans rfl, (sh_st (k := 30) ho (by decide)).trans rfl, (sh_st (k := 31) ho (by decide)).trans rfl, (sh_st (k := 32) ho (by decide)).trans rfl⟩
  | 6, _ => exact ⟨(sh_st (k := 33) ho (by decide)).trans rfl, (sh_st (k := 34) ho (by decide)).trans rfl, (sh_st (k := 35) ho (by decide)).trans rfl, (sh_st (k := 36) ho (by decide)).trans rfl⟩
  | 7, _ => exact ⟨(sh_st (k := 37) ho (by decide)).trans rfl, (sh_st (k := 38) ho (by decide)).trans rfl, (sh_st (k := 39) ho (by decide)).trans rfl, (sh_st (k := 40) ho (by decide)).trans rfl⟩
theorem q0 {o : Nat} (hb : isB o) : shapes[o]? = some (.inl (9, [none, none, none, none, some (o + 1), some (o + 2), some (o + 3), some (o + 7), some (o + 41), some (o + 45), some (o + 48), some (o + 49)])) := (sh_st (k := 0) hb (by decide)).trans rfl
theorem q1 {o : Nat} (hb : isB o) : shapes[o + 1]? = some (.inr (0, 4)) := (sh_st (k := 1) hb (by decide)).trans rfl
theorem q2 {o : Nat} (hb : isB o) : shapes[o + 2]? = some (.inr (0, 5)) := (sh_st (k := 2) hb (by decide)).trans rfl
theorem q3 {o : Nat} (hb : isB o) : shapes[o + 3]? = some (.inl (3, [none, some (o + 4), some (o + 5), some (o + 6)])) := (sh_st (k := 3) hb (by decide)).trans rfl
theorem q4 {o : Nat} (hb : isB o) : shapes[o + 4]? = some (.inr (0, 10)) := (sh_st (k := 4) hb (by decide)).trans rfl
theorem q5 {o : Nat} (hb : isB o) : shapes[o + 5]? = some (.inr (0, 10)) := (sh_st (k := 5) hb (by decide)).trans rfl
theorem q6 {o : Nat} (hb : isB o) : shapes[o + 6]? = some (.inr (0, 10)) := (sh_st (k := 6) hb (by decide)).trans rfl
theorem q7 {o : Nat} (hb : isB o) : shapes[o + 7]? = some (.inl (8, [some (o + 8), none, none])) := (sh_st (k := 7) hb (by decide)).trans rfl
theorem q8 {o : Nat} (hb : isB o) : shapes[o + 8]? = some (.inr (2, 8)) := (sh_st (k := 8) hb (by decide)).trans rfl
theorem q9 {o : Nat} (hb : isB o) : shapes[o + 9]? = some (.inl (0, [none, none, none, none, none, some (o + 10), some (o + 11), some (o + 12)])) := (sh_st (k := 9) hb (by decide)).trans rfl
theorem q10 {o : Nat} (hb : isB o) : shapes[o + 10]? = some (.inr (0, 4)) := (sh_st (k := 10) hb (by decide)).trans rfl
theorem q11 {o : Nat} (hb : isB o) : shapes[o + 11]? = some (.inr (0, 4)) := (sh_st (k := 11) hb (by decide)).trans rfl
theorem q12 {o : Nat} (hb : isB o) : shapes[o + 12]? = some (.inr (0, 4)) := (sh_st (k := 12) hb (by decide)).trans rfl
theorem q13 {o : Nat} (hb : isB o) : shapes[o + 13]? = some (.inl (0, [none, none, none, none, none, some (o + 14), some (o + 15), some (o + 16)])) := (sh_st (k := 13) hb (by decide)).trans rfl
theorem q14 {o : Nat} (hb : isB o) : shapes[o + 14]? = some (.inr (0, 4)) := (sh_st (k := 14) hb (by decide)).trans rfl
theorem q15 {o : Nat} (hb : isB o) : shapes[o + 15]? = some (.inr (0, 4)) := (sh_st (k := 15) hb (by decide)).trans rfl
theorem q16 {o : Nat} (hb : isB o) : shapes[o + 16]? = some (.inr (0, 4)) := (sh_st (k := 16) hb (by decide)).trans rfl
theorem q17 {o : Nat} (hb : isB o) : shapes[o + 17]? = some (.inl (0, [none, none, none, none, none, some (o + 18), some (o + 19), some (o + 20)])) := (sh_st (k := 17) hb (by decide)).trans rfl
theorem q18 {o : Nat} (hb : isB o) : shapes[o + 18]? = some (.inr (0, 4)) := (sh_st (k := 18) hb (by decide)).trans rfl
theorem q19 {o : Nat} (hb : isB o) : shapes[o + 19]? = some (.inr (0, 4)) := (sh_st (k := 19) hb (by decide)).trans rfl
theorem q20 {o : Nat} (hb : isB o) : shapes[o + 20]? = some (.inr (0, 4)) := (sh_st (k := 20) hb (by decide)).trans rfl
theorem q21 {o : Nat} (hb : isB o) : shapes[o + 21]? = some (.inl (0, [none, none, none, none, none, some (o + 22), some (o + 23), some (o + 24)])) := (sh_st (k := 21) hb (by decide)).trans rfl
theorem q22 {o : Nat} (hb : isB o) : shapes[o + 22]? = some (.inr (0, 4)) := (sh_st (k := 22) hb (by decide)).trans rfl
theorem q23 {o : Nat} (hb : isB o) : shapes[o + 23]? = some (.inr (0, 4)) := (sh_st (k := 23) hb (by decide)).trans rfl
theorem q24 {o : Nat} (hb : isB o) : shapes[o + 24]? = some (.inr (0, 4)) := (sh_st (k := 24) hb (by decide)).trans rfl
theorem q25 {o : Nat} (hb : isB o) : shapes[o + 25]? = some (.inl (0, [none, none, none, none, none, some (o + 26), some (o + 27), some (o + 28)])) := (sh_st (k := 25) hb (by decide)).trans rfl
theorem q26 {o : Nat} (hb : isB o) : shapes[o + 26]? = some (.inr (0, 4)) := (sh_st (k := 26) hb (by decide)).trans rfl
theorem q27 {o : Nat} (hb : isB o) : shapes[o + 27]? = some (.inr (0, 4)) := (sh_st (k := 27) hb (by decide)).trans rfl
theorem q28 {o : Nat} (hb : isB o) : shapes[o + 28]? = some (.inr (0, 4)) := (sh_st (k := 28) hb (by decide)).trans rfl
theorem q29 {o : Nat} (hb : isB o) : shapes[o + 29]? = some (.inl (0, [none, none, none, none, none, some (o + 30), some (o + 31), some (o + 32)])) := (sh_st (k := 29) hb (by decide)).trans rfl
theorem q30 {o : Nat} (hb : isB o) : shapes[o + 30]? = some (.inr (0, 4)) := (sh_st (k := 30) hb (by decide)).trans rfl
theorem q31 {o : Nat} (hb : isB o) : shapes[o + 31]? = some (.inr (0, 4)) := (sh_st (k := 31) hb (by decide)).trans rfl
theorem q32 {o : Nat} (hb : isB o) : shapes[o + 32]? = some (.inr (0, 4)) := (sh_st (k := 32) hb (by decide)).trans rfl
theorem q33 {o : Nat} (hb : isB o) : shapes[o + 33]? = some (.inl (0, [none, none, none, none, none, some (o + 34), some (o + 35), some (o + 36)])) := (sh_st (k := 33) hb (by decide)).trans rfl
theorem q34 {o : Nat} (hb : isB o) : shapes[o + 34]? = some (.inr (0, 4)) := (sh_st (k := 34) hb (by decide)).trans rfl
theorem q35 {o : Nat} (hb : isB o) : shapes[o + 35]? = some (.inr (0, 4)) := (sh_st (k := 35) hb (by decide)).trans rfl
theorem q36 {o : Nat} (hb : isB o) : shapes[o + 36]? = some (.inr (0, 4)) := (sh_st (k := 36) hb (by decide)).trans rfl
theorem q37 {o : Nat} (hb : isB o) : shapes[o + 37]? = some (.inl (0, [none, none, none, none, none, some (o + 38), some (o + 39), some (o + 40)])) := (sh_st (k := 37) hb (by decide)).trans rfl
theorem q38 {o : Nat} (hb : isB o) : shapes[o + 38]? = some (.inr (0, 4)) := (sh_st (k := 38) hb (by decide)).trans rfl
theorem q39 {o : Nat} (hb : isB o) : shapes[o + 39]? = some (.inr (0, 4)) := (sh_st (k := 39) hb (by decide)).trans rfl
theorem q40 {o : Nat} (hb : isB o) : shapes[o + 40]? = some (.inr (0, 4)) := (sh_st (k := 40) hb (by decide)).trans rfl
theorem q41 {o : Nat} (hb : isB o) : shapes[o + 41]? = some (.inl (4, [some (o + 42), some (o + 43), some (o + 44), none])) := (sh_st (k := 41) hb (by decide)).trans rfl
theorem q42 {o : Nat} (hb : isB o) : shapes[o + 42]? = some (.inr (0, 99)) := (sh_st (k := 42) hb (by decide)).trans rfl
theorem q43 {o : Nat} (hb : isB o) : shapes[o + 43]? = some (.inr (0, 99)) := (sh_st (k := 43) hb (by decide)).trans rfl
theorem q44 {o : Nat} (hb : isB o) : shapes[o + 44]? = some (.inr (0, 99)) := (sh_st (k := 44) hb (by decide)).trans rfl
theorem q45 {o : Nat} (hb : isB o) : shapes[o + 45]? = some (.inl (7, [some (o + 46), some (o + 47), none])) := (sh_st (k := 45) hb (by decide)).trans rfl
theorem q46 {o : Nat} (hb : isB o) : shapes[o + 46]? = some (.inr (0, 20)) := (sh_st (k := 46) hb (by decide)).trans rfl
theorem q47 {o : Nat} (hb : isB o) : shapes[o + 47]? = some (.inr (0, 20)) := (sh_st (k := 47) hb (by decide)).trans rfl
theorem q48 {o : Nat} (hb : isB o) : shapes[o + 48]? = some (.inl (2, [none, none, none, none])) := (sh_st (k := 48) hb (by decide)).trans rfl
theorem q49 {o : Nat} (hb : isB o) : shapes[o + 49]? = some (.inl (6, [some (o + 50), none, none])) := (sh_st (k := 49) hb (by decide)).trans rfl
theorem q50 {o : Nat} (hb : isB o) : shapes[o + 50]? = some (.inr (0, 40)) := (sh_st (k := 50) hb (by decide)).trans rfl
theorem f0_o {T : Nat → Nat → Int32} {P : Nat → Nat → Nat} {o : Nat} (hb : isB o) : isO (H T P)[o]? 9 = true := g_o ((sh_st (k := 0) hb (by decide)).trans rfl)
theorem f0_0 {T : Nat → Nat → Int32} {P : Nat → Nat → Nat} {o : Nat} (hb : isB o) {F : Value → Option (Option Value × List hC)} : (getF (H T P)[o]? 9 0).bind F = F (.int (T (o) 0)) := b_fi ((sh_st (k := 0) hb (by decide)).trans rfl) rfl
theorem f0_0p {T : Nat → Nat → Int32} {P : Nat → Nat → Nat} {o : Nat} (hb : isB o) {i pc : Nat} {L S : List Value} {v : Int32} : (putF (H T P)[o]? 9 0 (.int v)).bind (fun c => X i pc L S ((H T P).set (o) c)) = X i pc L S (H (up1 T (o) 0 v) P) := g_pi ((sh_st (k := 0) hb (by decide)).trans rfl) rfl rfl
theorem f0_1 {T : Nat → Nat → Int32} {P : Nat → Nat → Nat} {o : Nat} (hb : isB o) {F : Value → Option (Option Value × List hC)} : (getF (H T P)[o]? 9 1).bind F = F (.int (T (o) 1)) := b_fi ((sh_st (k := 0) hb (by decide)).trans rfl) rfl
theorem f0_1p {T : Nat → Nat → Int32} {P : Nat → Nat → Nat} {o : Nat} (hb : isB o) {i pc : Nat} {L S : List Value} {v : Int32} : (putF (H T P)[o]? 9 1 (.int v)).bind (fun c => X i pc L S ((H T P).set (o) c)) = X i pc L S (H (up1 T (o) 1 v) P) := g_pi ((sh_st (k := 0) hb (by decide)).trans rfl) rfl rfl
theorem f0_2 {T : Nat → Nat → Int32} {P : Nat → Nat → Nat} {o : Nat} (hb : isB o) {F : Value → Option (Option Value × List hC)} : (getF (H T P)[o]? 9 2).bind F = F (.int (T (o) 2)) := b_fi ((sh_st (k := 0) hb (by decide)).trans rfl) rfl
theorem f0_2p {T : Nat → Nat → Int32} {P : Nat → Nat → Nat} {o : Nat} (hb : isB o) {i pc : Nat} {L S : List Value} {v : Int32} : (putF (H T P)[o]? 9 2 (.int v)).bind (fun c => X i pc L S ((H T P).set (o) c)) = X i pc L S (H (up1 T (o) 2 v) P) := g_pi ((sh_st (k := 0) hb (by decide)).trans rfl) rfl rfl
theorem f0_3 {T : Nat → Nat → Int32} {P : Nat → Nat → Nat} {o : Nat} (hb : isB o) {F : Value → Option (Option Value × List hC)} : (getF (H T P)[o]? 9 3).bind F = F (.int (T (o) 3)) := b_fi ((sh_st (k := 0) hb (by decide)).trans rfl) rfl
theorem f0_3p {T : Nat → Nat → Int32} {P : Nat → Nat → Nat} {o : Nat} (hb : isB o) {i pc : Nat} {L S : List Value} {v : Int32} : (putF (H T P)[o]? 9 3 (.int v)).bind (fun c => X i pc L S ((H T P).set (o) c)) = X i pc L S (H (up1 T (o) 3 v) P) := g_pi ((sh_st (k := 0) hb (by decide)).trans rfl) rfl rfl
theorem f0_4 {T : Nat → Nat → Int32} {P : Nat → Nat → Nat} {o : Nat} (hb : isB o) {F : Value → Option (Option Value × List hC)} : (getF (H T P)[o]? 9 4).bind F = F (.ref (o + 1)) := b_fr ((sh_st (k := 0) hb (by decide)).trans rfl) rfl
theorem f0_5 {T : Nat → Nat → Int32} {P : Nat → Nat → Nat} {o : Nat} (hb : isB o) {F : Value → Option (Option Value × List hC)} : (getF (H T P)[o]? 9 5).bind F = F (.ref (o + 2)) := b_fr ((sh_st (k := 0) hb (by decide)).trans rfl) rfl
theorem f0_6 {T : Nat → Nat → Int32} {P : Nat → Nat → Nat} {o : Nat} (hb : isB o) {F : Value → Option (Option Value × List hC)} : (getF (H T P)[o]? 9 6).bind F = F (.ref (o + 3)) := b_fr ((sh_st (k := 0) hb (by decide)).trans rfl) rfl
theorem f0_7 {T : Nat → Nat → Int32} {P : Nat → Nat → Nat} {o : Nat} (hb : isB o) {F : Value → Option (Option Value × List hC)} : (getF (H T P)[o]? 9 7).bind F = F (.ref (o + 7)) := b_fr ((sh_st (k := 0) hb (by decide)).trans rfl) rfl
theorem f0_8 {T : Nat → Nat → Int32} {P : Nat → Nat → Nat} {o : Nat} (hb : isB o) {F : Value → Option (Option Value × List hC)} : (getF (H T P)[o]? 9 8).bind F = F (.ref (o + 41)) := b_fr ((sh_st (k := 0) hb (by decide)).trans rfl) rfl
theorem f0_9 {T : Nat → Nat → Int32} {P : Nat → Nat → Nat} {o : Nat} (hb : isB o) {F : Value → Option (Option Value × List hC)} : (getF (H T P)[o]? 9 9).bind F = F (.ref (o + 45)) := b_fr ((sh_st (k := 0) hb (by decide)).trans rfl) rfl
theorem f0_10 {T : Nat → Nat → Int32} {P : Nat → Nat → Nat} {o : Nat} (hb : isB o) {F : Value → Option (Option Value × List hC)} : (getF (H T P)[o]? 9 10).bind F = F (.ref (o + 48)) := b_fr ((sh_st (k := 0) hb (by decide)).trans rfl) rfl
theorem f0_11 {T : Nat → Nat → Int32} {P : Nat → Nat → Nat} {o : Nat} (hb : isB o) {F : Value → Option (Option Value × List hC)} : (getF (H T P)[o]? 9 11).bind F = F (.ref (o + 49)) := b_fr ((sh_st (k := 0) hb (by decide)).trans rfl) rfl
theorem f1_g {T : Nat → Nat → Int32} {P : Nat → Nat → Nat} {o : Nat} (hb : isB o) {x : Int32} {G : Int32 → Option (Option Value × List hC)} : (getI (H T P)[o + 1]? (o + 1) 0 x).bind G = if okx x 4 = true then G (T (o + 1) x.toNatClampNeg) else none := b_gi ((sh_st (k := 1) hb (by decide)).trans rfl) (by decide)
theorem f1_s {T : Nat → Nat → Int32} {P : Nat → Nat → Nat} {o : Nat} (hb : isB o) {i pc : Nat} {L S : List Value} {x y : Int32} : (putI (H T P)[o + 1]? 0 x y).bind (fun c => X i pc L S ((H T P).set (o + 1) c)) = if okx x 4 = true then X i pc L S (H (up1 T (o + 1) x.toNatClampNeg y) P) else none := g_si ((sh_st (k := 1) hb (by decide)).trans rfl) (by decide)
theorem f2_g {T : Nat → Nat → Int32} {P : Nat → Nat → Nat} {o : Nat} (hb : isB o) {x : Int32} {G : Int32 → Option (Option Value × List hC)} : (getI (H T P)[o + 2]? (o + 2) 0 x).bind G = if okx x 5 = true then G (T (o + 2) x.toNatClampNeg) else none := b_gi ((sh_st (k := 2) hb (by decide)).trans rfl) (by decide)
theorem f2_s {T : Nat → Nat → Int32} {P : Nat → Nat → Nat} {o : Nat} (hb : isB o) {i pc : Nat} {L S : List Value} {x y : Int32} : (putI (H T P)[o + 2]? 0 x y).bind (fun c => X i pc L S ((H T P).set (o + 2) c)) = if okx x 5 = true then X i pc L S (H (up1 T (o + 2) x.toNatClampNeg y) P) else none := g_si ((sh_st (k := 2) hb (by decide)).trans rfl) (by decide)
theorem f3_o {T : Nat → Nat → Int32} {P : Nat → Nat → Nat} {o : Nat} (hb : isB o) : isO (H T P)[o + 3]? 3 = true := g_o ((sh_st (k := 3) hb (by decide)).trans rfl)
theorem f3_0 {T : Nat → Nat → Int32} {P : Nat → Nat → Nat} {o : Nat} (hb : isB o) {F : Value → Option (Option Value × List hC)} : (getF (H T P)[o + 3]? 3 0).bind F = F (.int (T (o + 3) 0)) := b_fi ((sh_st (k := 3) hb (by decide)).trans rfl) rfl
theorem f3_0p {T : Nat → Nat → Int32} {P : Nat → Nat → Nat} {o : Nat} (hb : isB o) {i pc : Nat} {L S : List Value} {v : Int32} : (putF (H T P)[o + 3]? 3 0 (.int v)).bind (fun c => X i pc L S ((H T P).set (o + 3) c)) = X i pc L S (H (up1 T (o + 3) 0 v) P) := g_pi ((sh_st (k := 3) hb (by decide)).trans rfl) rfl rfl
theorem f3_1 {T : Nat → Nat → Int32} {P : Nat → Nat → Nat} {o : Nat} (hb : isB o) {F : Value → Option (Option Value × List hC)} : (getF (H T P)[o + 3]? 3 1).bind F = F (.ref (o + 4)) := b_fr ((sh_st (k := 3) hb (by decide)).trans rfl) rfl
theorem f3_2 {T : Nat → Nat → Int32} {P : Nat → Nat → Nat} {o : Nat} (hb : isB o) {F : Value → Option (Option Value × List hC)} : (getF (H T P)[o + 3]? 3 2).bind F = F (.ref (o + 5)) := b_fr ((sh_st (k := 3) hb (by decide)).trans rfl) rfl
theorem f3_3 {T : Nat → Nat → Int32} {P : Nat → Nat → Nat} {o : Nat} (hb : isB o) {F : Value → Option (Option Value × List hC)} : (getF (H T P)[o + 3]? 3 3).bind F = F (.ref (o + 6)) := b_fr ((sh_st (k := 3) hb (by decide)).trans rfl) rfl
theorem f4_g {T : Nat → Nat → Int32} {P : Nat → Nat → Nat} {o : Nat} (hb : isB o) {x : Int32} {G : Int32 → Option (Option Value × List hC)} : (getI (H T P)[o + 4]? (o + 4) 0 x).bind G = if okx x 10 = true then G (T (o + 4) x.toNatClampNeg) else none := b_gi ((sh_st (k := 4) hb (by decide)).trans rfl) (by decide)
theorem f4_s {T : Nat → Nat → Int32} {P : Nat → Nat → Nat} {o : Nat} (hb : isB o) {i pc : Nat} {L S : List Value} {x y : Int32} : (putI (H T P)[o + 4]? 0 x y).bind (fun c => X i pc L S ((H T P).set (o + 4) c)) = if okx x 10 = true then X i pc L S (H (up1 T (o + 4) x.toNatClampNeg y) P) else none := g_si ((sh_st (k := 4) hb (by decide)).trans rfl) (by decide)
theorem f5_g {T : Nat → Nat → Int32} {P : Nat → Nat → Nat} {o : Nat} (hb : isB o) {x : Int32} {G : Int32 → Option (Option Value × List hC)} : (getI (H T P)[o + 5]? (o + 5) 0 x).bind G = if okx x 10 = true then G (T (o + 5) x.toNatClampNeg) else none := b_gi ((sh_st (k := 5) hb (by decide)).trans rfl) (by decide)
theorem f5_s {T : Nat → Nat → Int32} {P : Nat → Nat → Nat} {o : Nat} (hb : isB o) {i pc : Nat} {L S : List Value} {x y : Int32} : (putI (H T P)[o + 5]? 0 x y).bind (fun c => X i pc L S ((H T P).set (o + 5) c)) = if okx x 10 = true then X i pc L S (H (up1 T (o + 5) x.toNatClampNeg y) P) else none := g_si ((sh_st (k := 5) hb (by decide)).trans rfl) (by decide)
theorem f6_g {T : Nat → Nat → Int32} {P : Nat → Nat → Nat} {o : Nat} (hb : isB o) {x : Int32} {G : Int32 → Option (Option Value × List hC)} : (getI (H T P)[o + 6]? (o + 6) 0 x).bind G = if okx x 10 = true then G (T (o + 6) x.toNatClampNeg) else none := b_gi ((sh_st (k := 6) hb (by decide)).trans rfl) (by decide)
theorem f6_s {T : Nat → Nat → Int32} {P : Nat → Nat → Nat} {o : Nat} (hb : isB o) {i pc : Nat} {L S : List Value} {x y : Int32} : (putI (H T P)[o + 6]? 0 x y).bind (fun c => X i pc L S ((H T P).set (o + 6) c)) = if okx x 10 = true then X i pc L S (H (up1 T (o + 6) x.toNatClampNeg y) P) else none := g_si ((sh_st (k := 6) hb (by decide)).trans rfl) (by decide)
theorem f7_o {T : Nat → Nat → Int32} {P : Nat → Nat → Nat} {o : Nat} (hb : isB o) : isO (H T P)[o + 7]? 8 = true := g_o ((sh_st (k := 7) hb (by decide)).trans rfl)
theorem f7_0 {T : Nat → Nat → Int32} {P : Nat → Nat → Nat} {o : Nat} (hb : isB o) {F : Value → Option (Option Value × List hC)} : (getF (H T P)[o + 7]? 8 0).bind F = F (.ref (o + 8)) := b_fr ((sh_st (k := 7) hb (by decide)).trans rfl) rfl
theorem f7_1 {T : Nat → Nat → Int32} {P : Nat → Nat → Nat} {o : Nat} (hb : isB o) {F : Value → Option (Option Value × List hC)} : (getF (H T P)[o + 7]? 8 1).bind F = F (.int (T (o + 7) 1)) := b_fi ((sh_st (k := 7) hb (by decide)).trans rfl) rfl
theorem f7_1p {T : Nat → Nat → Int32} {P : Nat → Nat → Nat} {o : Nat} (hb : isB o) {i pc : Nat} {L S : List Value} {v : Int32} : (putF (H T P)[o + 7]? 8 1 (.int v)).bind (fun c => X i pc L S ((H T P).set (o + 7) c)) = X i pc L S (H (up1 T (o + 7) 1 v) P) := g_pi ((sh_st (k := 7) hb (by decide)).trans rfl) rfl rfl
theorem f7_2 {T : Nat → Nat → Int32} {P : Nat → Nat → Nat} {o : Nat} (hb : isB o) {F : Value → Option (Option Value × List hC)} : (getF (H T P)[o + 7]? 8 2).bind F = F (.int (T (o + 7) 2)) := b_fi ((sh_st (k := 7) hb (by decide)).trans rfl) rfl
theorem f7_2p {T : Nat → Nat → Int32} {P : Nat → Nat → Nat} {o : Nat} (hb : isB o) {i pc : Nat} {L S : List Value} {v : Int32} : (putF (H T P)[o + 7]? 8 2 (.int v)).bind (fun c => X i pc L S ((H T P).set (o + 7) c)) = X i pc L S (H (up1 T (o + 7) 2 v) P) := g_pi ((sh_st (k := 7) hb (by decide)).trans rfl) rfl rfl
theorem f8_g {T : Nat → Nat → Int32} {P : Nat → Nat → Nat} {o : Nat} (hb : isB o) {x : Int32} {F : Value → Option (Option Value × List hC)} : (getQ (H T P)[o + 8]? x).bind F = if okx x 8 = true then F (.ref (P (o + 8) x.toNatClampNeg)) else none := b_q ((sh_st (k := 8) hb (by decide)).trans rfl) (by decide) (by decide)
theorem f41_o {T : Nat → Nat → Int32} {P : Nat → Nat → Nat} {o : Nat} (hb : isB o) : isO (H T P)[o + 41]? 4 = true := g_o ((sh_st (k := 41) hb (by decide)).trans rfl)
theorem f41_0 {T : Nat → Nat → Int32} {P : Nat → Nat → Nat} {o : Nat} (hb : isB o) {F : Value → Option (Option Value × List hC)} : (getF (H T P)[o + 41]? 4 0).bind F = F (.ref (o + 42)) := b_fr ((sh_st (k := 41) hb (by decide)).trans rfl) rfl
theorem f41_1 {T : Nat → Nat → Int32} {P : Nat → Nat → Nat} {o : Nat} (hb : isB o) {F : Value → Option (Option Value × List hC)} : (getF (H T P)[o + 41]? 4 1).bind F = F (.ref (o + 43)) := b_fr ((sh_st (k := 41) hb (by decide)).trans rfl) rfl
theorem f41_2 {T : Nat → Nat → Int32} {P : Nat → Nat → Nat} {o : Nat} (hb : isB o) {F : Value → Option (Option Value × List hC)} : (getF (H T P)[o + 41]? 4 2).bind F = F (.ref (o + 44)) := b_fr ((sh_st (k := 41) hb (by decide)).trans rfl) rfl
theorem f41_3 {T : Nat → Nat → Int32} {P : Nat → Nat → Nat} {o : Nat} (hb : isB o) {F : Value → Option (Option Value × List hC)} : (getF (H T P)[o + 41]? 4 3).bind F = F (.int (T (o + 41) 3)) := b_fi ((sh_st (k := 41) hb (by decide)).trans rfl) rfl
theorem f41_3p {T : Nat → Nat → Int32} {P : Nat → Nat → Nat} {o : Nat} (hb : isB o) {i pc : Nat} {L S : List Value} {v : Int32} : (putF (H T P)[o + 41]? 4 3 (.int v)).bind (fun c => X i pc L S ((H T P).set (o + 41) c)) = X i pc L S (H (up1 T (o + 41) 3 v) P) := g_pi ((sh_st (k := 41) hb (by decide)).trans rfl) rfl rfl
theorem f42_g {T : Nat → Nat → Int32} {P : Nat → Nat → Nat} {o : Nat} (hb : isB o) {x : Int32} {G : Int32 → Option (Option Value × List hC)} : (getI (H T P)[o + 42]? (o + 42) 0 x).bind G = if okx x 99 = true then G (T (o + 42) x.toNatClampNeg) else none := b_gi ((sh_st (k := 42) hb (by decide)).trans rfl) (by decide)
theorem f42_s {T : Nat → Nat → Int32} {P : Nat → Nat → Nat} {o : Nat} (hb : isB o) {i pc : Nat} {L S : List Value} {x y : Int32} : (putI (H T P)[o + 42]? 0 x y).bind (fun c => X i pc L S ((H T P).set (o + 42) c)) = if okx x 99 = true then X i pc L S (H (up1 T (o + 42) x.toNatClampNeg y) P) else none := g_si ((sh_st (k := 42) hb (by decide)).trans rfl) (by decide)
theorem f43_g {T : Nat → Nat → Int32} {P : Nat → Nat → Nat} {o : Nat} (hb : isB o) {x : Int32} {G : Int32 → Option (Option Value × List hC)} : (getI (H T P)[o + 43]? (o + 43) 0 x).bind G = if okx x 99 = true then G (T (o + 43) x.toNatClampNeg) else none := b_gi ((sh_st (k := 43) hb (by decide)).trans rfl) (by decide)
theorem f43_s {T : Nat → Nat → Int32} {P : Nat → Nat → Nat} {o : Nat} (hb : isB o) {i pc : Nat} {L S : List Value} {x y : Int32} : (putI (H T P)[o + 43]? 0 x y).bind (fun c => X i pc L S ((H T P).set (o + 43) c)) = if okx x 99 = true then X i pc L S (H (up1 T (o + 43) x.toNatClampNeg y) P) else none := g_si ((sh_st (k := 43) hb (by decide)).trans rfl) (by decide)
theorem f44_g {T : Nat → Nat → Int32} {P : Nat → Nat → Nat} {o : Nat} (hb : isB o) {x : Int32} {G : Int32 → Option (Option Value × List hC)} : (getI (H T P)[o + 44]? (o + 44) 0 x).bind G = if okx x 99 = true then G (T (o + 44) x.toNatClampNeg) else none := b_gi ((sh_st (k := 44) hb (by decide)).trans rfl) (by decide)
theorem f44_s {T : Nat → Nat → Int32} {P : Nat → Nat → Nat} {o : Nat} (hb : isB o) {i pc : Nat} {L S : List Value} {x y : Int32} : (putI (H T P)[o + 44]? 0 x y).bind (fun c => X i pc L S ((H T P).set (o + 44) c)) = if okx x 99 = true then X i pc L S (H (up1 T (o + 44) x.toNatClampNeg y) P) else none := g_si ((sh_st (k := 44) hb (by decide)).trans rfl) (by decide)
theorem f45_o {T : Nat → Nat → Int32} {P : Nat → Nat → Nat} {o : Nat} (hb : isB o) : isO (H T P)[o + 45]? 7 = true := g_o ((sh_st (k := 45) hb (by decide)).trans rfl)
theorem f45_0 {T : Nat → Nat → Int32} {P : Nat → Nat → Nat} {o : Nat} (hb : isB o) {F : Value → Option (Option Value × List hC)} : (getF (H T P)[o + 45]? 7 0).bind F = F (.ref (o + 46)) := b_fr ((sh_st (k := 45) hb (by decide)).trans rfl) rfl
theorem f45_1 {T : Nat → Nat → Int32} {P : Nat → Nat → Nat} {o : Nat} (hb : isB o) {F : Value → Option (Option Value × List hC)} : (getF (H T P)[o + 45]? 7 1).bind F = F (.ref (o + 47)) := b_fr ((sh_st (k := 45) hb (by decide)).trans rfl) rfl
theorem f45_2 {T : Nat → Nat → Int32} {P : Nat → Nat → Nat} {o : Nat} (hb : isB o) {F : Value → Option (Option Value × List hC)} : (getF (H T P)[o + 45]? 7 2).bind F = F (.int (T (o + 45) 2)) := b_fi ((sh_st (k := 45) hb (by decide)).trans rfl) rfl
theorem f45_2p {T : Nat → Nat → Int32} {P : Nat → Nat → Nat} {o : Nat} (hb : isB o) {i pc : Nat} {L S : List Value} {v : Int32} : (putF (H T P)[o + 45]? 7 2 (.int v)).bind (fun c => X i pc L S ((H T P).set (o + 45) c)) = X i pc L S (H (up1 T (o + 45) 2 v) P) := g_pi ((sh_st (k := 45) hb (by decide)).trans rfl) rfl rfl
theorem f46_g {T : Nat → Nat → Int32} {P : Nat → Nat → Nat} {o : Nat} (hb : isB o) {x : Int32} {G : Int32 → Option (Option Value × List hC)} : (getI (H T P)[o + 46]? (o + 46) 0 x).bind G = if okx x 20 = true then G (T (o + 46) x.toNatClampNeg) else none := b_gi ((sh_st (k := 46) hb (by decide)).trans rfl) (by decide)
theorem f46_s {T : Nat → Nat → Int32} {P : Nat → Nat → Nat} {o : Nat} (hb : isB o) {i pc : Nat} {L S : List Value} {x y : Int32} : (putI (H T P)[o + 46]? 0 x y).bind (fun c => X i pc L S ((H T P).set (o + 46) c)) = if okx x 20 = true then X i pc L S (H (up1 T (o + 46) x.toNatClampNeg y) P) else none := g_si ((sh_st (k := 46) hb (by decide)).trans rfl) (by decide)
theorem f47_g {T : Nat → Nat → Int32} {P : Nat → Nat → Nat} {o : Nat} (hb : isB o) {x : Int32} {G : Int32 → Option (Option Value × List hC)} : (getI (H T P)[o + 47]? (o + 47) 0 x).bind G = if okx x 20 = true then G (T (o + 47) x.toNatClampNeg) else none := b_gi ((sh_st (k := 47) hb (by decide)).trans rfl) (by decide)
theorem f47_s {T : Nat → Nat → Int32} {P : Nat → Nat → Nat} {o : Nat} (hb : isB o) {i pc : Nat} {L S : List Value} {x y : Int32} : (putI (H T P)[o + 47]? 0 x y).bind (fun c => X i pc L S ((H T P).set (o + 47) c)) = if okx x 20 = true then X i pc L S (H (up1 T (o + 47) x.toNatClampNeg y) P) else none := g_si ((sh_st (k := 47) hb (by decide)).trans rfl) (by decide)
theorem f48_o {T : Nat → Nat → Int32} {P : Nat → Nat → Nat} {o : Nat} (hb : isB o) : isO (H T P)[o + 48]? 2 = true := g_o ((sh_st (k := 48) hb (by decide)).trans rfl)
theorem f48_0 {T : Nat → Nat → Int32} {P : Nat → Nat → Nat} {o : Nat} (hb : isB o) {F : Value → Option (Option Value × List hC)} : (getF (H T P)[o + 48]? 2 0).bind F = F (.int (T (o + 48) 0)) := b_fi ((sh_st (k := 48) hb (by decide)).trans rfl) rfl
theorem f48_0p {T : Nat → Nat → Int32} {P : Nat → Nat → Nat} {o : Nat} (hb : isB o) {i pc : Nat} {L S : List Value} {v : Int32} : (putF (H T P)[o + 48]? 2 0 (.int v)).bind (fun c => X i pc L S ((H T P).set (o + 48) c)) = X i pc L S (H (up1 T (o + 48) 0 v) P) := g_pi ((sh_st (k := 48) hb (by decide)).trans rfl) rfl rfl
theorem f48_1 {T : Nat → Nat → Int32} {P : Nat → Nat → Nat} {o : Nat} (hb : isB o) {F : Value → Option (Option Value × List hC)} : (getF (H T P)[o + 48]? 2 1).bind F = F (.int (T (o + 48) 1)) := b_fi ((sh_st (k := 48) hb (by decide)).trans rfl) rfl
theorem f48_1p {T : Nat → Nat → Int32} {P : Nat → Nat → Nat} {o : Nat} (hb : isB o) {i pc : Nat} {L S : List Value} {v : Int32} : (putF (H T P)[o + 48]? 2 1 (.int v)).bind (fun c => X i pc L S ((H T P).set (o + 48) c)) = X i pc L S (H (up1 T (o + 48) 1 v) P) := g_pi ((sh_st (k := 48) hb (by decide)).trans rfl) rfl rfl
theorem f48_2 {T : Nat → Nat → Int32} {P : Nat → Nat → Nat} {o : Nat} (hb : isB o) {F : Value → Option (Option Value × List hC)} : (getF (H T P)[o + 48]? 2 2).bind F = F (.int (T (o + 48) 2)) := b_fi ((sh_st (k := 48) hb (by decide)).trans rfl) rfl
theorem f48_2p {T : Nat → Nat → Int32} {P : Nat → Nat → Nat} {o : Nat} (hb : isB o) {i pc : Nat} {L S : List Value} {v : Int32} : (putF (H T P)[o + 48]? 2 2 (.int v)).bind (fun c => X i pc L S ((H T P).set (o + 48) c)) = X i pc L S (H (up1 T (o + 48) 2 v) P) := g_pi ((sh_st (k := 48) hb (by decide)).trans rfl) rfl rfl
theorem f48_3 {T : Nat → Nat → Int32} {P : Nat → Nat → Nat} {o : Nat} (hb : isB o) {F : Value → Option (Option Value × List hC)} : (getF (H T P)[o + 48]? 2 3).bind F = F (.int (T (o + 48) 3)) := b_fi ((sh_st (k := 48) hb (by decide)).trans rfl) rfl
theorem f48_3p {T : Nat → Nat → Int32} {P : Nat → Nat → Nat} {o : Nat} (hb : isB o) {i pc : Nat} {L S : List Value} {v : Int32} : (putF (H T P)[o + 48]? 2 3 (.int v)).bind (fun c => X i pc L S ((H T P).set (o + 48) c)) = X i pc L S (H (up1 T (o + 48) 3 v) P) := g_pi ((sh_st (k := 48) hb (by decide)).trans rfl) rfl rfl
theorem f49_o {T : Nat → Nat → Int32} {P : Nat → Nat → Nat} {o : Nat} (hb : isB o) : isO (H T P)[o + 49]? 6 = true := g_o ((sh_st (k := 49) hb (by decide)).trans rfl)
theorem f49_0 {T : Nat → Nat → Int32} {P : Nat → Nat → Nat} {o : Nat} (hb : isB o) {F : Value → Option (Option Value × List hC)} : (getF (H T P)[o + 49]? 6 0).bind F = F (.ref (o + 50)) := b_fr ((sh_st (k := 49) hb (by decide)).trans rfl) rfl
theorem f49_1 {T : Nat → Nat → Int32} {P : Nat → Nat → Nat} {o : Nat} (hb : isB o) {F : Value → Option (Option Value × List hC)} : (getF (H T P)[o + 49]? 6 1).bind F = F (.int (T (o + 49) 1)) := b_fi ((sh_st (k := 49) hb (by decide)).trans rfl) rfl
theorem f49_1p {T : Nat → Nat → Int32} {P : Nat → Nat → Nat} {o : Nat} (hb : isB o) {i pc : Nat} {L S : List Value} {v : Int32} : (putF (H T P)[o + 49]? 6 1 (.int v)).bind (fun c => X i pc L S ((H T P).set (o + 49) c)) = X i pc L S (H (up1 T (o + 49) 1 v) P) := g_pi ((sh_st (k := 49) hb (by decide)).trans rfl) rfl rfl
theorem f49_2 {T : Nat → Nat → Int32} {P : Nat → Nat → Nat} {o : Nat} (hb : isB o) {F : Value → Option (Option Value × List hC)} : (getF (H T P)[o + 49]? 6 2).bind F = F (.int (T (o + 49) 2)) := b_fi ((sh_st (k := 49) hb (by decide)).trans rfl) rfl
theorem f49_2p {T : Nat → Nat → Int32} {P : Nat → Nat → Nat} {o : Nat} (hb : isB o) {i pc : Nat} {L S : List Value} {v : Int32} : (putF (H T P)[o + 49]? 6 2 (.int v)).bind (fun c => X i pc L S ((H T P).set (o + 49) c)) = X i pc L S (H (up1 T (o + 49) 2 v) P) := g_pi ((sh_st (k := 49) hb (by decide)).trans rfl) rfl rfl
theorem f50_g {T : Nat → Nat → Int32} {P : Nat → Nat → Nat} {o : Nat} (hb : isB o) {x : Int32} {G : Int32 → Option (Option Value × List hC)} : (getI (H T P)[o + 50]? (o + 50) 0 x).bind G = if okx x 40 = true then G (T (o + 50) x.toNatClampNeg) else none := b_gi ((sh_st (k := 50) hb (by decide)).trans rfl) (by decide)
theorem f50_s {T : Nat → Nat → Int32} {P : Nat → Nat → Nat} {o : Nat} (hb : isB o) {i pc : Nat} {L S : List Value} {x y : Int32} : (putI (H T P)[o + 50]? 0 x y).bind (fun c => X i pc L S ((H T P).set (o + 50) c)) = if okx x 40 = true then X i pc L S (H (up1 T (o + 50) x.toNatClampNeg y) P) else none := g_si ((sh_st (k := 50) hb (by decide)).trans rfl) (by decide)
theorem fK_o {T : Nat → Nat → Int32} {P : Nat → Nat → Nat} {b : Nat} (hb : isK b) : isO (H T P)[b]? 0 = true := g_o (sh_k hb).1
theorem fK_0 {T : Nat → Nat → Int32} {P : Nat → Nat → Nat} {b : Nat} (hb : isK b) {F : Value → Option (Option Value × List hC)} : (getF (H T P)[b]? 0 0).bind F = F (.int (T (b) 0)) := b_fi (sh_k hb).1 rfl
theorem fK_0p {T : Nat → Nat → Int32} {P : Nat → Nat → Nat} {b : Nat} (hb : isK b) {i pc : Nat} {L S : List Value} {v : Int32} : (putF (H T P)[b]? 0 0 (.int v)).bind (fun c => X i pc L S ((H T P).set (b) c)) = X i pc L S (H (up1 T (b) 0 v) P) := g_pi (sh_k hb).1 rfl rfl
theorem fK_1 {T : Nat → Nat → Int32} {P : Nat → Nat → Nat} {b : Nat} (hb : isK b) {F : Value → Option (Option Value × List hC)} : (getF (H T P)[b]? 0 1).bind F = F (.int (T (b) 1)) := b_fi (sh_k hb).1 rfl
theorem fK_1p {T : Nat → Nat → Int32} {P : Nat → Nat → Nat} {b : Nat} (hb : isK b) {i pc : Nat} {L S : List Value} {v : Int32} : (putF (H T P)[b]? 0 1 (.int v)).bind (fun c => X i pc L S ((H T P).set (b) c)) = X i pc L S (H (up1 T (b) 1 v) P) := g_pi (sh_k hb).1 rfl rfl
theorem fK_2 {T : Nat → Nat → Int32} {P : Nat → Nat → Nat} {b : Nat} (hb : isK b) {F : Value → Option (Option Value × List hC)} : (getF (H T P)[b]? 0 2).bind F = F (.int (T (b) 2)) := b_fi (sh_k hb).1 rfl
theorem fK_2p {T : Nat → Nat → Int32} {P : Nat → Nat → Nat} {b : Nat} (hb : isK b) {i pc : Nat} {L S : List Value} {v : Int32} : (putF (H T P)[b]? 0 2 (.int v)).bind (fun c => X i pc L S ((H T P).set (b) c)) = X i pc L S (H (up1 T (b) 2 v) P) := g_pi (sh_k hb).1 rfl rfl
theorem fK_3 {T : Nat → Nat → Int32} {P : Nat → Nat → Nat} {b : Nat} (hb : isK b) {F : Value → Option (Option Value × List hC)} : (getF (H T P)[b]? 0 3).bind F = F (.int (T (b) 3)) := b_fi (sh_k hb).1 rfl
theorem fK_3p {T : Nat → Nat → Int32} {P : Nat → Nat → Nat} {b : Nat} (hb : isK b) {i pc : Nat} {L S : List Value} {v : Int32} : (putF (H T P)[b]? 0 3 (.int v)).bind (fun c => X i pc L S ((H T P).set (b) c)) = X i pc L S (H (up1 T (b) 3 v) P) := g_pi (sh_k hb).1 rfl rfl
theorem fK_4 {T : Nat → Nat → Int32} {P : Nat → Nat → Nat} {b : Nat} (hb : isK b) {F : Value → Option (Option Value × List hC)} : (getF (H T P)[b]? 0 4).bind F = F (.int (T (b) 4)) := b_fi (sh_k hb).1 rfl
theorem fK_4p {T : Nat → Nat → Int32} {P : Nat → Nat → Nat} {b : Nat} (hb : isK b) {i pc : Nat} {L S : List Value} {v : Int32} : (putF (H T P)[b]? 0 4 (.int v)).bind (fun c => X i pc L S ((H T P).set (b) c)) = X i pc L S (H (up1 T (b) 4 v) P) := g_pi (sh_k hb).1 rfl rfl
theorem fK_5 {T : Nat → Nat → Int32} {P : Nat → Nat → Nat} {b : Nat} (hb : isK b) {F : Value → Option (Option Value × List hC)} : (getF (H T P)[b]? 0 5).bind F = F (.ref (b + 1)) := b_fr (sh_k hb).1 rfl
theorem fK_6 {T : Nat → Nat → Int32} {P : Nat → Nat → Nat} {b : Nat} (hb : isK b) {F : Value → Option (Option Value × List hC)} : (getF (H T P)[b]? 0 6).bind F = F (.ref (b + 2)) := b_fr (sh_k hb).1 rfl
theorem fK_7 {T : Nat → Nat → Int32} {P : Nat → Nat → Nat} {b : Nat} (hb : isK b) {F : Value → Option (Option Value × List hC)} : (getF (H T P)[b]? 0 7).bind F = F (.ref (b + 3)) := b_fr (sh_k hb).1 rfl
theorem fK1_g {T : Nat → Nat → Int32} {P : Nat → Nat → Nat} {b : Nat} (hb : isK b) {x : Int32} {G : Int32 → Option (Option Value × List hC)} : (getI (H T P)[b + 1]? (b + 1) 0 x).bind G = if okx x 4 = true then G (T (b + 1) x.toNatClampNeg) else none := b_gi (sh_k hb).2.1 (by decide)
theorem fK1_s {T : Nat → Nat → Int32} {P : Nat → Nat → Nat} {b : Nat} (hb : isK b) {i pc : Nat} {L S : List Value} {x y : Int32} : (putI (H T P)[b + 1]? 0 x y).bind (fun c => X i pc L S ((H T P).set (b + 1) c)) = if okx x 4 = true then X i pc L S (H (up1 T (b + 1) x.toNatClampNeg y) P) else none := g_si (sh_k hb).2.1 (by decide)
theorem fK2_g {T : Nat → Nat → Int32} {P : Nat → Nat → Nat} {b : Nat} (hb : isK b) {x : Int32} {G : Int32 → Option (Option Value × List hC)} : (getI (H T P)[b + 2]? (b + 2) 0 x).bind G = if okx x 4 = true then G (T (b + 2) x.toNatClampNeg) else none := b_gi (sh_k hb).2.2.1 (by decide)
theorem fK2_s {T : Nat → Nat → Int32} {P : Nat → Nat → Nat} {b : Nat} (hb : isK b) {i pc : Nat} {L S : List Value} {x y : Int32} : (putI (H T P)[b + 2]? 0 x y).bind (fun c => X i pc L S ((H T P).set (b + 2) c)) = if okx x 4 = true then X i pc L S (H (up1 T (b + 2) x.toNatClampNeg y) P) else none := g_si (sh_k hb).2.2.1 (by decide)
theorem fK3_g {T : Nat → Nat → Int32} {P : Nat → Nat → Nat} {b : Nat} (hb : isK b) {x : Int32} {G : Int32 → Option (Option Value × List hC)} : (getI (H T P)[b + 3]? (b + 3) 0 x).bind G = if okx x 4 = true then G (T (b + 3) x.toNatClampNeg) else none := b_gi (sh_k hb).2.2.2 (by decide)
theorem fK3_s {T : Nat → Nat → Int32} {P : Nat → Nat → Nat} {b : Nat} (hb : isK b) {i pc : Nat} {L S : List Value} {x y : Int32} : (putI (H T P)[b + 3]? 0 x y).bind (fun c => X i pc L S ((H T P).set (b + 3) c)) = if okx x 4 = true then X i pc L S (H (up1 T (b + 3) x.toNatClampNeg y) P) else none := g_si (sh_k hb).2.2.2 (by decide)
theorem z0_o {T : Nat → Nat → Int32} {P : Nat → Nat → Nat} : isO (H T P)[0]? 10 = true := g_o (show shapes[0]? = some (.inl (10, [some 1, some 52, some 103, some 154, some 360, none])) by decide +kernel)
theorem z0_0 {T : Nat → Nat → Int32} {P : Nat → Nat → Nat} {F : Value → Option (Option Value × List hC)} : (getF (H T P)[0]? 10 0).bind F = F (.ref (1)) := b_fr (show shapes[0]? = some (.inl (10, [some 1, some 52, some 103, some 154, some 360, none])) by decide +kernel) rfl
theorem z0_1 {T : Nat → Nat → Int32} {P : Nat → Nat → Nat} {F : Value → Option (Option Value × List hC)} : (getF (H T P)[0]? 10 1).bind F = F (.ref (52)) := b_fr (show shapes[0]? = some (.inl (10, [some 1, some 52, some 103, some 154, some 360, none])) by decide +kernel) rfl
theorem z0_2 {T : Nat → Nat → Int32} {P : Nat → Nat → Nat} {F : Value → Option (Option Value × List hC)} : (getF (H T P)[0]? 10 2).bind F = F (.ref (103)) := b_fr (show shapes[0]? = some (.inl (10, [some 1, some 52, some 103, some 154, some 360, none])) by decide +kernel) rfl
theorem z0_3 {T : Nat → Nat → Int32} {P : Nat → Nat → Nat} {F : Value → Option (Option Value × List hC)} : (getF (H T P)[0]? 10 3).bind F = F (.ref (154)) := b_fr (show shapes[0]? = some (.inl (10, [some 1, some 52, some 103, some 154, some 360, none])) by decide +kernel) rfl
theorem z0_4 {T : Nat → Nat → Int32} {P : Nat → Nat → Nat} {F : Value → Option (Option Value × List hC)} : (getF (H T P)[0]? 10 4).bind F = F (.ref (360)) := b_fr (show shapes[0]? = some (.inl (10, [some 1, some 52, some 103, some 154, some 360, none])) by decide +kernel) rfl
theorem z0_5 {T : Nat → Nat → Int32} {P : Nat → Nat → Nat} {F : Value → Option (Option Value × List hC)} : (getF (H T P)[0]? 10 5).bind F = F (.int (T (0) 5)) := b_fi (show shapes[0]? = some (.inl (10, [some 1, some 52, some 103, some 154, some 360, none])) by decide +kernel) rfl
theorem z0_5p0 {T : Nat → Nat → Int32} {P : Nat → Nat → Nat} {i pc : Nat} {L S : List Value} : (putF (H T P)[0]? 10 5 (.int 0)).bind (fun c => X i pc L S ((H T P).set (0) c)) = X i pc L S (H (up1 T (0) 5 0) P) := g_pi (show shapes[0]? = some (.inl (10, [some 1, some 52, some 103, some 154, some 360, none])) by decide +kernel) rfl (by decide)
theorem z0_5p1 {T : Nat → Nat → Int32} {P : Nat → Nat → Nat} {i pc : Nat} {L S : List Value} : (putF (H T P)[0]? 10 5 (.int 1)).bind (fun c => X i pc L S ((H T P).set (0) c)) = X i pc L S (H (up1 T (0) 5 1) P) := g_pi (show shapes[0]? = some (.inl (10, [some 1, some 52, some 103, some 154, some 360, none])) by decide +kernel) rfl (by decide)
theorem z154_o {T : Nat → Nat → Int32} {P : Nat → Nat → Nat} : isO (H T P)[154]? 5 = true := g_o (show shapes[154]? = some (.inl (5, [some 155, none, none])) by decide +kernel)
theorem z154_0 {T : Nat → Nat → Int32} {P : Nat → Nat → Nat} {F : Value → Option (Option Value × List hC)} : (getF (H T P)[154]? 5 0).bind F = F (.ref (155)) := b_fr (show shapes[154]? = some (.inl (5, [some 155, none, none])) by decide +kernel) rfl
theorem z154_1 {T : Nat → Nat → Int32} {P : Nat → Nat → Nat} {F : Value → Option (Option Value × List hC)} : (getF (H T P)[154]? 5 1).bind F = F (.int (T (154) 1)) := b_fi (show shapes[154]? = some (.inl (5, [some 155, none, none])) by decide +kernel) rfl
theorem z154_1p {T : Nat → Nat → Int32} {P : Nat → Nat → Nat} {i pc : Nat} {L S : List Value} {v : Int32} : (putF (H T P)[154]? 5 1 (.int v)).bind (fun c => X i pc L S ((H T P).set (154) c)) = X i pc L S (H (up1 T (154) 1 v) P) := g_pi (show shapes[154]? = some (.inl (5, [some 155, none, none])) by decide +kernel) rfl rfl
theorem z154_2 {T : Nat → Nat → Int32} {P : Nat → Nat → Nat} {F : Value → Option (Option Value × List hC)} : (getF (H T P)[154]? 5 2).bind F = F (.int (T (154) 2)) := b_fi (show shapes[154]? = some (.inl (5, [some 155, none, none])) by decide +kernel) rfl
theorem z154_2p {T : Nat → Nat → Int32} {P : Nat → Nat → Nat} {i pc : Nat} {L S : List Value} {v : Int32} : (putF (H T P)[154]? 5 2 (.int v)).bind (fun c => X i pc L S ((H T P).set (154) c)) = X i pc L S (H (up1 T (154) 2 v) P) := g_pi (show shapes[154]? = some (.inl (5, [some 155, none, none])) by decide +kernel) rfl rfl
theorem z155_g {T : Nat → Nat → Int32} {P : Nat → Nat → Nat} {x : Int32} {F : Value → Option (Option Value × List hC)} : (getQ (H T P)[155]? x).bind F = if okx x 4 = true then F (.ref (P (155) x.toNatClampNeg)) else none := b_q (show shapes[155]? = some (.inr (3, 4)) by decide +kernel) (by decide) (by decide)
theorem z360_o {T : Nat → Nat → Int32} {P : Nat → Nat → Nat} : isO (H T P)[360]? 1 = true := g_o (show shapes[360]? = some (.inl (1, [some 361, none, none, some 362, some 363, some 364, some 365, none, none])) by decide +kernel)
theorem z360_0 {T : Nat → Nat → Int32} {P : Nat → Nat → Nat} {F : Value → Option (Option Value × List hC)} : (getF (H T P)[360]? 1 0).bind F = F (.ref (361)) := b_fr (show shapes[360]? = some (.inl (1, [some 361, none, none, some 362, some 363, some 364, some 365, none, none])) by decide +kernel) rfl
theorem z360_1 {T : Nat → Nat → Int32} {P : Nat → Nat → Nat} {F : Value → Option (Option Value × List hC)} : (getF (H T P)[360]? 1 1).bind F = F (.int (T (360) 1)) := b_fi (show shapes[360]? = some (.inl (1, [some 361, none, none, some 362, some 363, some 364, some 365, none, none])) by decide +kernel) rfl
theorem z360_1p {T : Nat → Nat → Int32} {P : Nat → Nat → Nat} {i pc : Nat} {L S : List Value} {v : Int32} : (putF (H T P)[360]? 1 1 (.int v)).bind (fun c => X i pc L S ((H T P).set (360) c)) = X i pc L S (H (up1 T (360) 1 v) P) := g_pi (show shapes[360]? = some (.inl (1, [some 361, none, none, some 362, some 363, some 364, some 365, none, none])) by decide +kernel) rfl rfl
theorem z360_2 {T : Nat → Nat → Int32} {P : Nat → Nat → Nat} {F : Value → Option (Option Value × List hC)} : (getF (H T P)[360]? 1 2).bind F = F (.int (T (360) 2)) := b_fi (show shapes[360]? = some (.inl (1, [some 361, none, none, some 362, some 363, some 364, some 365, none, none])) by decide +kernel) rfl
theorem z360_2p {T : Nat → Nat → Int32} {P : Nat → Nat → Nat} {i pc : Nat} {L S : List Value} {v : Int32} : (putF (H T P)[360]? 1 2 (.int v)).bind (fun c => X i pc L S ((H T P).set (360) c)) = X i pc L S (H (up1 T (360) 2 v) P) := g_pi (show shapes[360]? = some (.inl (1, [some 361, none, none, some 362, some 363, some 364, some 365, none, none])) by decide +kernel) rfl rfl
theorem z360_3 {T : Nat → Nat → Int32} {P : Nat → Nat → Nat} {F : Value → Option (Option Value × List hC)} : (getF (H T P)[360]? 1 3).bind F = F (.ref (362)) := b_fr (show shapes[360]? = some (.inl (1, [some 361, none, none, some 362, some 363, some 364, some 365, none, none])) by decide +kernel) rfl
theorem z360_4 {T : Nat → Nat → Int32} {P : Nat → Nat → Nat} {F : Value → Option (Option Value × List hC)} : (getF (H T P)[360]? 1 4).bind F = F (.ref (363)) := b_fr (show shapes[360]? = some (.inl (1, [some 361, none, none, some 362, some 363, some 364, some 365, none, none])) by decide +kernel) rfl
theorem z360_5 {T : Nat → Nat → Int32} {P : Nat → Nat → Nat} {F : Value → Option (Option Value × List hC)} : (getF (H T P)[360]? 1 5).bind F = F (.ref (364)) := b_fr (show shapes[360]? = some (.inl (1, [some 361, none, none, some 362, some 363, some 364, some 365, none, none])) by decide +kernel) rfl
theorem z360_6 {T : Nat → Nat → Int32} {P : Nat → Nat → Nat} {F : Value → Option (Option Value × List hC)} : (getF (H T P)[360]? 1 6).bind F = F (.ref (365)) := b_fr (show shapes[360]? = some (.inl (1, [some 361, none, none, some 362, some 363, some 364, some 365, none, none])) by decide +kernel) rfl
theorem z360_7 {T : Nat → Nat → Int32} {P : Nat → Nat → Nat} {F : Value → Option (Option Value × List hC)} : (getF (H T P)[360]? 1 7).bind F = F (.int (T (360) 7)) := b_fi (show shapes[360]? = some (.inl (1, [some 361, none, none, some 362, some 363, some 364, some 365, none, none])) by decide +kernel) rfl
theorem z360_7p {T : Nat → Nat → Int32} {P : Nat → Nat → Nat} {i pc : Nat} {L S : List Value} {v : Int32} : (putF (H T P)[360]? 1 7 (.int v)).bind (fun c => X i pc L S ((H T P).set (360) c)) = X i pc L S (H (up1 T (360) 7 v) P) := g_pi (show shapes[360]? = some (.inl (1, [some 361, none, none, some 362, some 363, some 364, some 365, none, none])) by decide +kernel) rfl rfl
theorem z360_8 {T : Nat → Nat → Int32} {P : Nat → Nat → Nat} {F : Value → Option (Option Value × List hC)} : (getF (H T P)[360]? 1 8).bind F = F (.int (T (360) 8)) := b_fi (show shapes[360]? = some (.inl (1, [some 361, none, none, some 362, some 363, some 364, some 365, none, none])) by decide +kernel) rfl
theorem z360_8p {T : Nat → Nat → Int32} {P : Nat → Nat → Nat} {i pc : Nat} {L S : List Value} {v : Int32} : (putF (H T P)[360]? 1 8 (.int v)).bind (fun c => X i pc L S ((H T P).set (360) c)) = X i pc L S (H (up1 T (360) 8 v) P) := g_pi (show shapes[360]? = some (.inl (1, [some 361, none, none, some 362, some 363, some 364, some 365, none, none])) by decide +kernel) rfl rfl
theorem z361_g {T : Nat → Nat → Int32} {P : Nat → Nat → Nat} {x : Int32} {G : Int32 → Option (Option Value × List hC)} : (getI (H T P)[361]? (361) 1 x).bind G = if okx x 60 = true then G (T (361) x.toNatClampNeg) else none := b_gi (show shapes[361]? = some (.inr (1, 60)) by decide +kernel) (by decide)
theorem z361_s {T : Nat → Nat → Int32} {P : Nat → Nat → Nat} {i pc : Nat} {L S : List Value} {x y : Int32} : (putI (H T P)[361]? 1 x y).bind (fun c => X i pc L S ((H T P).set (361) c)) = if okx x 60 = true then X i pc L S (H (up1 T (361) x.toNatClampNeg y) P) else none := g_si (show shapes[361]? = some (.inr (1, 60)) by decide +kernel) (by decide)
theorem z362_g {T : Nat → Nat → Int32} {P : Nat → Nat → Nat} {x : Int32} {G : Int32 → Option (Option Value × List hC)} : (getI (H T P)[362]? (362) 0 x).bind G = if okx x 12 = true then G (T (362) x.toNatClampNeg) else none := b_gi (show shapes[362]? = some (.inr (0, 12)) by decide +kernel) (by decide)
theorem z362_s {T : Nat → Nat → Int32} {P : Nat → Nat → Nat} {i pc : Nat} {L S : List Value} {x y : Int32} : (putI (H T P)[362]? 0 x y).bind (fun c => X i pc L S ((H T P).set (362) c)) = if okx x 12 = true then X i pc L S (H (up1 T (362) x.toNatClampNeg y) P) else none := g_si (show shapes[362]? = some (.inr (0, 12)) by decide +kernel) (by decide)
theorem z363_g {T : Nat → Nat → Int32} {P : Nat → Nat → Nat} {x : Int32} {G : Int32 → Option (Option Value × List hC)} : (getI (H T P)[363]? (363) 0 x).bind G = if okx x 12 = true then G (T (363) x.toNatClampNeg) else none := b_gi (show shapes[363]? = some (.inr (0, 12)) by decide +kernel) (by decide)
theorem z363_s {T : Nat → Nat → Int32} {P : Nat → Nat → Nat} {i pc : Nat} {L S : List Value} {x y : Int32} : (putI (H T P)[363]? 0 x y).bind (fun c => X i pc L S ((H T P).set (363) c)) = if okx x 12 = true then X i pc L S (H (up1 T (363) x.toNatClampNeg y) P) else none := g_si (show shapes[363]? = some (.inr (0, 12)) by decide +kernel) (by decide)
theorem z364_g {T : Nat → Nat → Int32} {P : Nat → Nat → Nat} {x : Int32} {G : Int32 → Option (Option Value × List hC)} : (getI (H T P)[364]? (364) 0 x).bind G = if okx x 12 = true then G (T (364) x.toNatClampNeg) else none := b_gi (show shapes[364]? = some (.inr (0, 12)) by decide +kernel) (by decide)
theorem z364_s {T : Nat → Nat → Int32} {P : Nat → Nat → Nat} {i pc : Nat} {L S : List Value} {x y : Int32} : (putI (H T P)[364]? 0 x y).bind (fun c => X i pc L S ((H T P).set (364) c)) = if okx x 12 = true then X i pc L S (H (up1 T (364) x.toNatClampNeg y) P) else none := g_si (show shapes[364]? = some (.inr (0, 12)) by decide +kernel) (by decide)
theorem z365_g {T : Nat → Nat → Int32} {P : Nat → Nat → Nat} {x : Int32} {G : Int32 → Option (Option Value × List hC)} : (getI (H T P)[365]? (365) 0 x).bind G = if okx x 12 = true then G (T (365) x.toNatClampNeg) else none := b_gi (show shapes[365]? = some (.inr (0, 12)) by decide +kernel) (by decide)
theorem z365_s {T : Nat → Nat → Int32} {P : Nat → Nat → Nat} {i pc : Nat} {L S : List Value} {x y : Int32} : (putI (H T P)[365]? 0 x y).bind (fun c => X i pc L S ((H T P).set (365) c)) = if okx x 12 = true then X i pc L S (H (up1 T (365) x.toNatClampNeg y) P) else none := g_si (show shapes[365]? = some (.inr (0, 12)) by decide +kernel) (by decide)
