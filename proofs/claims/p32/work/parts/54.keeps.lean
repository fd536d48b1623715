/-! what always holds of a state, beside WF: n bounds what is in stock and what each customer owes -/
def pinK (b : kT) : Int32 := b 0 2
def msT (b : kT) : Int32 := b 3 0 + b 3 1 + b 3 2 + b 3 3
def msD (k : Nat) (d : Int32) (b : kT) : Int32 := if dgI (b 0 3) k = d then b 3 k else 0
/-- how many pieces without a pin are of this kind and degree -/
def ntL (n : Nat) (f g : Nat → Int32) (k : Nat) (d : Int32) : Nat := sN (fun p => if f p = nI k ∧ g p = d then 1 else 0) n
def IC (n n1 : Nat) (f : Nat → Int32) : Prop := ∀ c, c < n1 → ∃ y, y ≤ n ∧ f c = nI y
def IW (f g : Nat → Int32) : Prop := (∀ d, d < 5 → ∃ x, x ≤ 127 ∧ g d = nI x) ∧ ∃ p, p ≤ 99 ∧ f 3 = nI p
def IP (K : List kT) : Prop := (K.map pinK).Pairwise (fun x y => x ≠ y)
def IL (n3 : Nat) (f g : Nat → Int32) (K : List kT) : Prop := lsI msT K = nI n3 ∧ ∀ k, k < 4 → ∀ d, nI (ntL n3 f g k d) = lsI (msD k d) K
def IV (n : Nat) (u : uT) : Prop := SQ n u ∧ IC n (u.1.1 1) (u.1.2.1 5) ∧ IW (u.1.2.1 1) (u.1.2.1 2) ∧ IP u.2 ∧ IL (u.1.1 3) (u.1.2.1 46) (u.1.2.1 47) u.2
theorem ite_c {x y x' y' p d : Int32} (hx : x = x') (hy : y = y') : (if x = p ∧ y = d then 1 else 0 : Nat) = if x' = p ∧ y' = d then 1 else 0 := by
  subst hx
  subst hy
  rfl
section KEEPS
variable {n m i k p d c x y g : Nat} {u v : uT} {K : List kT} {f h : Nat → Int32}
theorem IC.mono {n1 : Nat} (h : IC n n1 f) (hm : n ≤ m) : IC m n1 f := fun c hc => by
  obtain ⟨y, h1, h2⟩ := h c hc
  exact ⟨y, Nat.le_trans h1 hm, h2⟩
theorem IV.mono (h : IV n u) (hm : n ≤ m) : IV m u := ⟨h.1.mono hm, h.2.1.mono hm, h.2.2⟩
theorem IV.cust (h : IV n u) (d : Int32) : IV n (cuU u d) := by
  obtain ⟨h1, h2, h3, h4, h5⟩ := h
  refine ⟨h1.same rfl, fun c hc => ?_, h3, h4, h5⟩
  have hc : c < u.1.1 1 + 1 := hc
  show ∃ y, y ≤ n ∧ upA (u.1.2.1 5) (u.1.1 1) 0 c = nI y
  by_cases e : c = u.1.1 1
  · rw [e, upA_s]; exact ⟨0, Nat.zero_le _, rfl⟩
  · rw [upA_n _ _ e]; exact h2 c (by omega)
theorem IV.vis (h : IV n u) (hx : x ≤ 127) : IV n (uV u (up1 u.1.2.1 2 d (nI x))) := by
  obtain ⟨h1, h2, h3, h4, h5⟩ := h
  refine ⟨h1.same rfl, h2, ⟨fun e he => ?_, h3.2⟩, h4, h5⟩
  show ∃ y, y ≤ 127 ∧ upA (u.1.2.1 2) d (nI x) e = nI y
  by_cases q : e = d
  · rw [q, upA_s]; exact ⟨x, hx, rfl⟩
  · rw [upA_n _ _ q]; exact h3.1 e he
theorem IV.set (h : IV n u) (hx : x ≤ 99) : IV n (uV u (up1 u.1.2.1 1 k (nI x))) := by
  obtain ⟨h1, h2, h3, h4, h5⟩ := h
  refine ⟨h1.same rfl, h2, ⟨h3.1, ?_⟩, h4, h5⟩
  show ∃ y, y ≤ 99 ∧ upA (u.1.2.1 1) k (nI x) 3 = nI y
  by_cases q : 3 = k
  · rw [← q, upA_s]; exact ⟨x, hx, rfl⟩
  · rw [upA_n _ _ q]; exact h3.2
theorem IV.buy (h : IV n u) {z : Int32} : IV (n + x) (uV u (up1 (up1 u.1.2.1 0 1 (u.1.2.1 0 1 + nI x)) 0 2 z)) := by
  obtain ⟨⟨st, h0, h1⟩, h2, h3, h4, h5⟩ := h
  refine ⟨⟨st + x, by omega, ?_⟩, h2.mono (by omega), h3, h4, h5⟩
  show u.1.2.1 0 1 + nI x = _
  rw [h1, nI_add]
theorem IV.pay (h : IV n u) {z : Int32} : IV n (uV u (up1 (up1 u.1.2.1 5 c 0) 0 3 z)) := by
  obtain ⟨h1, h2, h3, h4, h5⟩ := h
  refine ⟨h1.same rfl, fun e he => ?_, h3, h4, h5⟩
  show ∃ y, y ≤ n ∧ upA (u.1.2.1 5) c 0 e = nI y
  by_cases q : e = c
  · rw [q, upA_s]; exact ⟨0, Nat.zero_le _, rfl⟩
  · rw [upA_n _ _ q]; exact h2 e he
/-- the pin of a new basket is nobody's -/
theorem us_bit0 : ∀ q, q < 8 → ∀ m, m < 256 → (∀ r, r < 8 → (¬ nI m >>> (nI r &&& 31) &&& 1 = 0 ∨ r = q) → ¬ (nI m ||| ((1 : Int32) <<< (nI q &&& 31))) >>> (nI r &&& 31) &&& 1 = 0) := by decide +kernel
theorem us_bit {f : Nat → Int32} : ∀ {n i : Nat}, (∀ i, i < n → ∃ q, q < 8 ∧ f i = nI q) → i < n → ¬ usI f n >>> (f i &&& 31) &&& 1 = 0
  | 0, _, _, hi => absurd hi (Nat.not_lt_zero _)
  | n + 1, i, h, hi => by
    obtain ⟨m, hm, e, -⟩ := us_small (f := f) (n := n) (fun i hi => h i (by omega))
    obtain ⟨q, hq, eq⟩ := h n (by omega)
    obtain ⟨r, hr, er⟩ := h i hi
    have hb : ¬ nI m >>> (nI r &&& 31) &&& 1 = 0 ∨ r = q := by
      by_cases c : i = n
      · right
        rw [c, eq] at er
        exact ((nI_eq (by omega) (by omega)).mp er).symm
      · left
        have := us_bit (f := f) (n := n) (i := i) (fun i hi => h i (by omega)) (by omega)
        rw [e, er] at this
        exact this
    have := us_bit0 q hq m hm r hr hb
    rw [er]
    simp only [usI]
    rw [e, eq]
    exact this
theorem pin_new (hq : ∀ i, i < K.length → ∃ q, q < 8 ∧ gK K i 0 2 = nI q) (h8 : K.length < 8) (hi : i < K.length) : gK K i 0 2 ≠ fpI (usI (fun i => gK K i 0 2) K.length) := by
  obtain ⟨m, hm, e, hp⟩ := us_small (f := fun i => gK K i 0 2) (n := K.length) hq
  obtain ⟨p, hp8, ep⟩ := fp_small m hm (by omega)
  have hz := (fp_spec hp8 ep).2
  have hb := us_bit (f := fun i => gK K i 0 2) hq hi
  intro z
  rw [e, ep] at z
  rw [e] at hb
  have hb : ¬ nI m >>> (gK K i 0 2 &&& 31) &&& 1 = 0 := hb
  rw [z] at hb
  exact hb hz
theorem IV.bk (h : IV n u) (hw : WFu u) {c p st g : Int32} (hr : ¬ rfU u c p st g < 0) : IV (n + 99) (bkU u c.toNatClampNeg g.toNatClampNeg p st) := by
  have h1 := h.1.bk hw hr
  obtain ⟨-, k, x, y, z, hk, rfl, hx, rfl, hy, rfl, hz, hzo, rfl, h8, h99⟩ := rf_ok hw hr
  have hN1 := hw.1.1.2.1
  obtain ⟨-, h2, h3, h4, h5, h6⟩ := h
  refine ⟨h1, h2.mono (by omega), h3, ?_, ?_, fun k' hk' d => ?_⟩
  · show ((rcK u.1.1 u.1.2.1 u.2 _ _ _).map pinK).Pairwise _
    rw [List.map_append, List.pairwise_append]
    refine ⟨h4, List.pairwise_singleton _ _, fun a ha b hb => ?_⟩
    obtain ⟨b0, hb0, rfl⟩ := List.mem_map.mp ha
    obtain ⟨i, hi⟩ := List.mem_iff_getElem?.mp hb0
    have hil := (List.getElem?_eq_some_iff.mp hi).1
    have hb : b = fpI (usI (fun i => gK u.2 i 0 2) u.2.length) := List.mem_singleton.mp hb
    rw [hb]
    have := pin_new (K := u.2) (fun i hi => (hw.1.2.2.2.1 i _ (gK_at hi)).2.1) h8 hil
    rw [gK_of hi] at this
    exact this
  · show lsI msT (rcK u.1.1 u.1.2.1 u.2 _ _ _) = _
    rw [lsI_app]
    have e0 : ∀ a b c d e f : Int32, lsI msT [newK a b c d e f] = 0 := fun _ _ _ _ _ _ => by
      show ((0 : Int32) + 0 + 0 + 0) + 0 = 0
      decide
    rw [e0, Int32.add_zero]
    exact h5
  · show nI (ntL (u.1.1 3) (u.1.2.1 46) (u.1.2.1 47) k' d) = lsI (msD k' d) (rcK u.1.1 u.1.2.1 u.2 _ _ _)
    rw [lsI_app, h6 k' hk' d]
    have e0 : ∀ a b c d' e f : Int32, lsI (msD k' d) [newK a b c d' e f] = 0 := fun a b c d' e f => by
      have e1 : msD k' d (newK a b c d' e f) = 0 := by
        unfold msD
        split
        · rfl
        · rfl
      show msD k' d (newK a b c d' e f) + 0 = 0
      rw [e1, Int32.add_zero]
    rw [e0, Int32.add_zero]
/-- a piece loses its pin -/
theorem IV.lose (h : IV n u) (hi : i < u.2.length) (hk : k < 4) {w : Int32} : IV n (loU u i k w) := by
  obtain ⟨h1, h2, h3, h4, h5, h6⟩ := h
  have hb : ∀ a, u.2[i]? = some a → a = gK u.2 i := fun a ha => (gK_of ha).symm
  obtain ⟨b, hbe⟩ : ∃ b, b = gK u.2 i := ⟨_, rfl⟩
  refine ⟨h1.same rfl, h2, h3, ?_, ?_, fun k' hk' d => ?_⟩
  · show ((u.2.set i (up1 (gK u.2 i) 3 k (gK u.2 i 3 k + 1))).map pinK).Pairwise _
    rw [mapset pinK (fun a ha => by rw [hb a ha]; rfl)]
    exact h4
  · show lsI msT (u.2.set i (up1 (gK u.2 i) 3 k (gK u.2 i 3 k + 1))) = nI (u.1.1 3 + 1)
    rw [lsI_set hi, h5, ← hbe, ← nI_add]
    have e1 : msT (up1 b 3 k (b 3 k + 1)) = msT b + 1 := by
      unfold msT
      have e3 : up1 b 3 k (b 3 k + 1) 3 = upA (b 3) k (b 3 k + 1) := upA_s _ _ _
      have q : ∀ j, j ≠ k → upA (b 3) k (b 3 k + 1) j = b 3 j := fun j h => upA_n _ _ h
      have q0 : upA (b 3) k (b 3 k + 1) k = b 3 k + 1 := upA_s _ _ _
      rw [e3]
      generalize upA (b 3) k (b 3 k + 1) = f at q q0 ⊢
      generalize b 3 = h at q q0 ⊢
      have hk4 : k = 0 ∨ k = 1 ∨ k = 2 ∨ k = 3 := by omega
      rcases hk4 with rfl | rfl | rfl | rfl
      · rw [q0, q 1 (by decide), q 2 (by decide), q 3 (by decide)]; generalize h 0 = x0; generalize h 1 = x1; generalize h 2 = x2; generalize h 3 = x3; grind
      · rw [q0, q 0 (by decide), q 2 (by decide), q 3 (by decide)]; generalize h 0 = x0; generalize h 1 = x1; generalize h 2 = x2; generalize h 3 = x3; grind
      · rw [q0, q 0 (by decide), q 1 (by decide), q 3 (by decide)]; generalize h 0 = x0; generalize h 1 = x1; generalize h 2 = x2; generalize h 3 = x3; grind
      · rw [q0, q 0 (by decide), q 1 (by decide), q 2 (by decide)]; generalize h 0 = x0; generalize h 1 = x1; generalize h 2 = x2; generalize h 3 = x3; grind
    rw [e1]
    show _ = nI (u.1.1 3) + 1
    generalize msT b = z
    generalize nI (u.1.1 3) = q
    grind
  · show nI (ntL (u.1.1 3 + 1) (fun j => if j < u.1.1 3 then u.1.2.1 46 j else nI k) (fun j => if j < u.1.1 3 then u.1.2.1 47 j else dgI (gK u.2 i 0 3) k) k' d) = lsI (msD k' d) (u.2.set i (up1 (gK u.2 i) 3 k (gK u.2 i 3 k + 1)))
    rw [lsI_set hi, ← h6 k' hk' d, ← hbe]
    have e2 : ntL (u.1.1 3 + 1) (fun j => if j < u.1.1 3 then u.1.2.1 46 j else nI k) (fun j => if j < u.1.1 3 then u.1.2.1 47 j else dgI (b 0 3) k) k' d = ntL (u.1.1 3) (u.1.2.1 46) (u.1.2.1 47) k' d + if nI k = nI k' ∧ dgI (b 0 3) k = d then 1 else 0 := by
      have e : ntL (u.1.1 3 + 1) (fun j => if j < u.1.1 3 then u.1.2.1 46 j else nI k) (fun j => if j < u.1.1 3 then u.1.2.1 47 j else dgI (b 0 3) k) k' d = ntL (u.1.1 3) (fun j => if j < u.1.1 3 then u.1.2.1 46 j else nI k) (fun j => if j < u.1.1 3 then u.1.2.1 47 j else dgI (b 0 3) k) k' d + (if (if u.1.1 3 < u.1.1 3 then u.1.2.1 46 (u.1.1 3) else nI k) = nI k' ∧ (if u.1.1 3 < u.1.1 3 then u.1.2.1 47 (u.1.1 3) else dgI (b 0 3) k) = d then 1 else 0) := rfl
      rw [e, ite_c (if_neg (Nat.lt_irrefl (u.1.1 3))) (if_neg (Nat.lt_irrefl (u.1.1 3)))]
      congr 1
      exact sN_congr (fun j hj => ite_c (if_pos hj) (if_pos hj))
    have e3 : msD k' d (up1 b 3 k (b 3 k + 1)) = msD k' d b + if nI k = nI k' ∧ dgI (b 0 3) k = d then 1 else 0 := by
      unfold msD
      have ed : up1 b 3 k (b 3 k + 1) 0 = b 0 := upA_n _ _ (by decide)
      have e3' : up1 b 3 k (b 3 k + 1) 3 k' = if k' = k then b 3 k + 1 else b 3 k' := by
        show upA b 3 (upA (b 3) k (b 3 k + 1)) 3 k' = _
        rw [upA_s]; rfl
      rw [ed, e3']
      by_cases c : k' = k
      · subst c
        rw [if_pos rfl]
        by_cases c2 : dgI (b 0 3) k' = d
        · rw [if_pos c2, if_pos c2, if_pos ⟨rfl, c2⟩]
        · rw [if_neg c2, if_neg c2, if_neg (fun z => c2 z.2)]; rfl
      · have hz : ¬ (nI k = nI k' ∧ dgI (b 0 3) k = d) := fun z => c ((nI_eq (by omega) (by omega)).mp z.1).symm
        rw [if_neg c, if_neg hz, Int32.add_zero]
    rw [e2, e3, ← nI_add]
    generalize msD k' d b = z
    generalize nI (ntL (u.1.1 3) (u.1.2.1 46) (u.1.2.1 47) k' d) = q
    by_cases c : nI k = nI k' ∧ dgI (b 0 3) k = d
    · rw [if_pos c, if_pos c, show nI 1 = 1 from rfl]; grind
    · rw [if_neg c, if_neg c, show nI 0 = 0 from rfl]; grind
/-- one of many is left out -/
theorem sN_del {h : Nat → Nat} {p : Nat} : ∀ {n : Nat}, p < n + 1 → sN (fun j => if j < p then h j else h (j + 1)) n + h p = sN h (n + 1)
  | 0, hp => by
    have : p = 0 := by omega
    subst this
    simp only [sN]
  | n + 1, hp => by
    by_cases c : p = n + 1
    · have e : sN (fun j => if j < p then h j else h (j + 1)) (n + 1) = sN h (n + 1) := sN_congr (fun j hj => if_pos (by omega))
      rw [e, c]; rfl
    · have ih := sN_del (h := h) (p := p) (n := n) (by omega)
      have e : sN (fun j => if j < p then h j else h (j + 1)) (n + 1) = sN (fun j => if j < p then h j else h (j + 1)) n + h (n + 1) := by
        show _ + (if n < p then h n else h (n + 1)) = _
        rw [if_neg (by omega)]
      rw [e]
      show _ = sN h (n + 1) + h (n + 1)
      omega
theorem IV.find (h : IV n u) (hi : i < u.2.length) (hk : k < 4) (hp : p < u.1.1 3) (e46 : u.1.2.1 46 p = nI k) (e47 : dgI (gK u.2 i 0 3) k = u.1.2.1 47 p) {w : Int32} : IV n (fiU u i p k w) := by
  obtain ⟨h1, h2, h3, h4, h5, h6⟩ := h
  have hb : ∀ a, u.2[i]? = some a → a = gK u.2 i := fun a ha => (gK_of ha).symm
  obtain ⟨b, hbe⟩ : ∃ b, b = gK u.2 i := ⟨_, rfl⟩
  obtain ⟨q3, hq3⟩ : ∃ q3, u.1.1 3 = q3 + 1 := ⟨u.1.1 3 - 1, by omega⟩
  refine ⟨h1.same rfl, h2, h3, ?_, ?_, fun k' hk' d => ?_⟩
  · show ((u.2.set i (up1 (gK u.2 i) 3 k (gK u.2 i 3 k - 1))).map pinK).Pairwise _
    rw [mapset pinK (fun a ha => by rw [hb a ha]; rfl)]
    exact h4
  · show lsI msT (u.2.set i (up1 (gK u.2 i) 3 k (gK u.2 i 3 k - 1))) = nI (u.1.1 3 - 1)
    rw [lsI_set hi, h5, ← hbe, hq3, Nat.add_sub_cancel, ← nI_add q3 1]
    have e1 : msT (up1 b 3 k (b 3 k - 1)) = msT b - 1 := by
      unfold msT
      have e3 : up1 b 3 k (b 3 k - 1) 3 = upA (b 3) k (b 3 k - 1) := upA_s _ _ _
      have q : ∀ j, j ≠ k → upA (b 3) k (b 3 k - 1) j = b 3 j := fun j h => upA_n _ _ h
      have q0 : upA (b 3) k (b 3 k - 1) k = b 3 k - 1 := upA_s _ _ _
      rw [e3]
      generalize upA (b 3) k (b 3 k - 1) = f at q q0 ⊢
      generalize b 3 = h at q q0 ⊢
      have hk4 : k = 0 ∨ k = 1 ∨ k = 2 ∨ k = 3 := by omega
      rcases hk4 with rfl | rfl | rfl | rfl
      · rw [q0, q 1 (by decide), q 2 (by decide), q 3 (by decide)]; generalize h 0 = x0; generalize h 1 = x1; generalize h 2 = x2; generalize h 3 = x3; grind
      · rw [q0, q 0 (by decide), q 2 (by decide), q 3 (by decide)]; generalize h 0 = x0; generalize h 1 = x1; generalize h 2 = x2; generalize h 3 = x3; grind
      · rw [q0, q 0 (by decide), q 1 (by decide), q 3 (by decide)]; generalize h 0 = x0; generalize h 1 = x1; generalize h 2 = x2; generalize h 3 = x3; grind
      · rw [q0, q 0 (by decide), q 1 (by decide), q 2 (by decide)]; generalize h 0 = x0; generalize h 1 = x1; generalize h 2 = x2; generalize h 3 = x3; grind
    rw [e1, show nI 1 = 1 from rfl]
    generalize msT b = z
    generalize nI q3 = q
    grind
  · show nI (ntL (u.1.1 3 - 1) (fun j => if j < p then u.1.2.1 46 j else u.1.2.1 46 (j + 1)) (fun j => if j < p then u.1.2.1 47 j else u.1.2.1 47 (j + 1)) k' d) = lsI (msD k' d) (u.2.set i (up1 (gK u.2 i) 3 k (gK u.2 i 3 k - 1)))
    rw [lsI_set hi, ← h6 k' hk' d, ← hbe, hq3, Nat.add_sub_cancel]
    have e2 : ntL q3 (fun j => if j < p then u.1.2.1 46 j else u.1.2.1 46 (j + 1)) (fun j => if j < p then u.1.2.1 47 j else u.1.2.1 47 (j + 1)) k' d + (if nI k = nI k' ∧ dgI (b 0 3) k = d then 1 else 0) = ntL (q3 + 1) (u.1.2.1 46) (u.1.2.1 47) k' d := by
      have e := sN_del (h := fun p => if u.1.2.1 46 p = nI k' ∧ u.1.2.1 47 p = d then 1 else 0) (p := p) (n := q3) (by omega)
      unfold ntL
      rw [← e, e46, ← e47, ← hbe]
      congr 1
      refine sN_congr (fun j hj => ?_)
      by_cases c : j < p
      · simp only [if_pos c]
      · simp only [if_neg c]
    have e3 : msD k' d (up1 b 3 k (b 3 k - 1)) = msD k' d b - if nI k = nI k' ∧ dgI (b 0 3) k = d then 1 else 0 := by
      unfold msD
      have ed : up1 b 3 k (b 3 k - 1) 0 = b 0 := upA_n _ _ (by decide)
      have e3' : up1 b 3 k (b 3 k - 1) 3 k' = if k' = k then b 3 k - 1 else b 3 k' := by
        show upA b 3 (upA (b 3) k (b 3 k - 1)) 3 k' = _
        rw [upA_s]; rfl
      rw [ed, e3']
      by_cases c : k' = k
      · subst c
        rw [if_pos rfl]
        by_cases c2 : dgI (b 0 3) k' = d
        · rw [if_pos c2, if_pos c2, if_pos ⟨rfl, c2⟩]
        · rw [if_neg c2, if_neg c2, if_neg (fun z => c2 z.2)]; rfl
      · have hz : ¬ (nI k = nI k' ∧ dgI (b 0 3) k = d) := fun z => c ((nI_eq (by omega) (by omega)).mp z.1).symm
        rw [if_neg c, if_neg hz, Int32.sub_zero]
    rw [e3, ← e2, ← nI_add]
    generalize msD k' d b = z
    generalize nI (ntL q3 _ _ k' d) = q
    by_cases c : nI k = nI k' ∧ dgI (b 0 3) k = d
    · rw [if_pos c, if_pos c, show nI 1 = 1 from rfl]; grind
    · rw [if_neg c, if_neg c, show nI 0 = 0 from rfl]; grind
end KEEPS
