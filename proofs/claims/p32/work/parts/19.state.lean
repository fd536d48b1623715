/-! a state as mathematics: numbers N (0 the day, 1 customers, 2 came, 3 lost, 4 known to the book), rows V, baskets K, batches B, the book's rows R -/
abbrev kT : Type := Nat → Nat → Int32
def kz : kT := fun _ _ => 0
abbrev gK (K : List kT) (i : Nat) : kT := K.getD i kz
def opK (b : kT) (k : Nat) : Int32 := b 1 k - b 2 k - b 3 k
def omK (b : kT) : Int32 := 0 + opK b 0 * mnI (b 0 3) 0 + opK b 1 * mnI (b 0 3) 1 + opK b 2 * mnI (b 0 3) 2 + opK b 3 * mnI (b 0 3) 3
noncomputable def rdK (b : kT) : Int32 := if b 2 0 < b 1 0 then 0 else if b 2 1 < b 1 1 then 0 else if b 2 2 < b 1 2 then 0 else if b 2 3 < b 1 3 then 0 else 1
def prK (b : kT) : Int32 := 0 + b 1 0 * ((mnI (b 0 3) 0 + 1) / 2) + b 1 1 * ((mnI (b 0 3) 1 + 1) / 2) + b 1 2 * ((mnI (b 0 3) 2 + 1) / 2) + b 1 3 * ((mnI (b 0 3) 3 + 1) / 2)
def lkK (b : kT) (g : Int32) : Int32 := if 0 < opK b 0 ∧ ¬ g = 0 then 0 else if 0 < opK b 1 ∧ ¬ g = 0 then 1 else if 0 < opK b 2 ∧ ¬ g = 0 then 2 else if 0 < opK b 3 then 3 else -5
def msK (k : Nat) (d : Int32) (b : kT) : Int32 := if 0 < b 3 k ∧ dgI (b 0 3) k = d then 1 else 0
/-- the basket at a is b -/
def BK (T : Nat → Nat → Int32) (a : Nat) (b : kT) : Prop := (∀ k, k < 5 → T a k = b 0 k) ∧ ∀ k, k < 4 → T (a + 1) k = b 1 k ∧ T (a + 2) k = b 2 k ∧ T (a + 3) k = b 3 k
def RW (f g : Nat → Int32) (n : Nat) : Prop := ∀ k, k < n → f k = g k
def CS (o : Nat) (T : Nat → Nat → Int32) (P : Nat → Nat → Nat) (N : Nat → Nat) (V : Nat → Nat → Int32) (K : List kT) (B : List bT) (R : Nat → Nat → Int32) : Prop :=
  (RW (T o) (V 0) 4 ∧ RW (T (o + 1)) (V 1) 4 ∧ RW (T (o + 2)) (V 2) 5 ∧ V 0 0 = nI (N 0)) ∧
  (T (o + 3) 0 = nI (N 1) ∧ RW (T (o + 4)) (V 4) (N 1) ∧ RW (T (o + 5)) (V 5) (N 1) ∧ RW (T (o + 6)) (V 6) (N 1)) ∧
  (PK P o ∧ T (o + 7) 1 = nI K.length ∧ T (o + 7) 2 = nI (N 2) ∧ ∀ (i : Nat) (b : kT), K[i]? = some b → BK T (P (o + 8) i) b) ∧
  OB T o B ∧ LO T o (N 3) (V 46) (V 47) ∧ RW (T (o + 48)) (V 48) 4 ∧ JO T o (N 4) R
/-- what always holds of a state -/
def WF (N : Nat → Nat) (V : Nat → Nat → Int32) (K : List kT) (B : List bT) : Prop :=
  (N 0 ≤ 10100 ∧ N 1 ≤ 10 ∧ N 2 ≤ 99 ∧ K.length ≤ 8 ∧ N 3 ≤ 20 ∧ N 4 ≤ 10) ∧
  (∀ c, c < N 1 → ∃ d, d < 5 ∧ V 4 c = nI d) ∧
  ((∃ d, d < 3 ∧ V 1 0 = nI d) ∧ (∃ g, 1 ≤ g ∧ g ≤ 60 ∧ V 1 2 = nI g) ∧ ∃ m, m ≤ 20 ∧ V 1 1 = nI m) ∧
  (∀ (i : Nat) (b : kT), K[i]? = some b → (∃ c, c < N 1 ∧ b 0 1 = nI c) ∧ (∃ q, q < 8 ∧ b 0 2 = nI q) ∧ (∃ x, x < N 2 ∧ b 0 0 = nI x) ∧ (∃ s, s ≤ 3 ∧ b 0 3 = nI s) ∧ ∀ k, k < 4 → ∃ x y z, x ≤ 9 ∧ y + z ≤ x ∧ b 1 k = nI x ∧ b 2 k = nI y ∧ b 3 k = nI z) ∧
  (∀ (i j : Nat) (b c : kT), i < j → K[i]? = some b → K[j]? = some c → ∃ x y, x < y ∧ y < N 2 ∧ b 0 0 = nI x ∧ c 0 0 = nI y) ∧
  ((∀ q ∈ B, q.1 < N 1 ∧ q.2.1 ≤ N 0 ∧ N 0 ≤ q.2.1 + 60 ∧ 0 < q.2.2 ∧ q.2.2 ≤ 27) ∧ B.Pairwise (fun p q => p.2.1 ≤ q.2.1) ∧ B.length + K.length ≤ N 2) ∧
  (∀ i, i < N 3 → ∃ k, k < 4 ∧ V 46 i = nI k) ∧
  V 0 1 + smI (fun i => nhI (gK K i 2)) K.length + nI (allL B) = 60 + V 0 2 - smI (V 6) (N 1)
theorem gK_of {K : List kT} {i : Nat} {b : kT} (h : K[i]? = some b) : gK K i = b := by
  simp [gK, List.getD_eq_getElem?_getD, h]
theorem smI_congr {f g : Nat → Int32} : ∀ {n : Nat}, (∀ i, i < n → f i = g i) → smI f n = smI g n
  | 0, _ => rfl
  | n + 1, h => by
    simp only [smI]
    rw [smI_congr (fun i hi => h i (by omega)), h n (by omega)]
section KB
variable {T : Nat → Nat → Int32} {P : Nat → Nat → Nat} {a o n : Nat} {b : kT} {g : Int32}
theorem BK.op (h : BK T a b) {k : Nat} (hk : k < 4) : opI T a k = opK b k := by
  have := h.2 k hk
  unfold opK
  simp only [opI, this.1, this.2.1, this.2.2]
theorem BK.om (h : BK T a b) : omI T a = omK b := by
  unfold omI omK
  rw [h.op (by decide), h.op (by decide), h.op (by decide), h.op (by decide), h.1 3 (by decide)]
theorem BK.rd (h : BK T a b) : rdI T a = rdK b := by
  unfold rdI rdK
  have h0 := h.2 0 (by decide)
  have h1 := h.2 1 (by decide)
  have h2 := h.2 2 (by decide)
  have h3 := h.2 3 (by decide)
  simp only [h0.1, h0.2.1, h1.1, h1.2.1, h2.1, h2.2.1, h3.1, h3.2.1]
theorem BK.pr (h : BK T a b) : prI T a = prK b := by
  unfold prI prK
  rw [(h.2 0 (by decide)).1, (h.2 1 (by decide)).1, (h.2 2 (by decide)).1, (h.2 3 (by decide)).1, h.1 3 (by decide)]
theorem BK.lk (h : BK T a b) : lkI T a g = lkK b g := by
  unfold lkI lkK
  rw [h.op (by decide), h.op (by decide), h.op (by decide), h.op (by decide)]
theorem BK.ms (h : BK T a b) {k : Nat} (hk : k < 4) {d : Int32} : msI T k d a = msK k d b := by
  unfold msI msK
  rw [(h.2 k hk).2.2, h.1 3 (by decide)]
theorem BK.nh1 (h : BK T a b) : nhI (T (a + 1)) = nhI (b 1) := by
  unfold nhI
  rw [(h.2 0 (by decide)).1, (h.2 1 (by decide)).1, (h.2 2 (by decide)).1]
theorem BK.nh2 (h : BK T a b) : nhI (T (a + 2)) = nhI (b 2) := by
  unfold nhI
  rw [(h.2 0 (by decide)).2.1, (h.2 1 (by decide)).2.1, (h.2 2 (by decide)).2.1]
theorem BK.dg3 (h : BK T a b) : dgt (T (a + 3)) = dgt (b 3) ∧ dgt (T (a + 2)) = dgt (b 2) ∧ dgt (T (a + 1)) = dgt (b 1) := by
  unfold dgt
  have h0 := h.2 0 (by decide)
  have h1 := h.2 1 (by decide)
  have h2 := h.2 2 (by decide)
  have h3 := h.2 3 (by decide)
  simp only [h0.1, h0.2.1, h0.2.2, h1.1, h1.2.1, h1.2.2, h2.1, h2.2.1, h2.2.2, h3.1, h3.2.1, h3.2.2, and_self]
theorem BK.of (h : ∀ x, x < 4 → T (a + x) = b x) : BK T a b := by
  have h0 := h 0 (by decide)
  have h1 := h 1 (by decide)
  have h2 := h 2 (by decide)
  have h3 := h 3 (by decide)
  rw [Nat.add_zero] at h0
  exact ⟨fun k _ => by rw [h0], fun k _ => ⟨by rw [h1], by rw [h2], by rw [h3]⟩⟩
theorem BK.same {U : Nat → Nat → Int32} (h : BK T a b) (h0 : ∀ x, x < 4 → U (a + x) = T (a + x)) : BK U a b := by
  have g0 := h0 0 (by decide)
  have g1 := h0 1 (by decide)
  have g2 := h0 2 (by decide)
  have g3 := h0 3 (by decide)
  rw [Nat.add_zero] at g0
  unfold BK
  rw [g0, g1, g2, g3]
  exact h
end KB
section CSS
variable {T : Nat → Nat → Int32} {P : Nat → Nat → Nat} {o : Nat} {N : Nat → Nat} {V : Nat → Nat → Int32} {K : List kT} {B : List bT} {R : Nat → Nat → Int32} {x y z w : Int32}
theorem CS.at (h : CS o T P N V K B R) {i : Nat} (hi : i < K.length) : BK T (P (o + 8) i) (gK K i) := by
  refine h.2.2.1.2.2.2 i _ ?_
  simp [gK, List.getD_eq_getElem?_getD, List.getElem?_eq_getElem hi]
theorem CS.pk (h : CS o T P N V K B R) : PK P o := h.2.2.1.1
theorem CS.n (h : CS o T P N V K B R) : T (o + 7) 1 = nI K.length := h.2.2.1.2.1
/-- of the days' bits -/
def vsI (v : Int32) (D : Nat) : Int32 := v >>> (nI (D % 7) &&& 31) &&& 1
def nvI (z v : Int32) (D : Nat) : Int32 := if vsI v (D + 1) = 0 then (if vsI v (D + 2) = 0 then (if vsI v (D + 3) = 0 then (if vsI v (D + 4) = 0 then (if vsI v (D + 5) = 0 then (if vsI v (D + 6) = 0 then (if vsI v (D + 7) = 0 then z else nI (D + 7)) else nI (D + 6)) else nI (D + 5)) else nI (D + 4)) else nI (D + 3)) else nI (D + 2)) else nI (D + 1)
theorem c_isVisited (ho : isB o) (h : CS o T P N V K B R) {d D : Nat} (hd : d < 5) (hD : D < 2 ^ 31) : X 78 0 [.ref o, .int (nI d), .int (nI D)] [] (H T P) = some (some (.int (if vsI (V 2 d) D = 0 then 0 else 1)), H T P) := by
  have e := nI_modp (a := D) (b := 7) hD (by decide) (by decide)
  rw [show nI 7 = 7 from rfl] at e
  simp +decide only [x78_0, x78_1, x78_4, x78_5, x78_6, x78_7, x78_9, x78_10, x78_11, x78_12, x78_13, x78_16, x78_17, x78_20, x78_21, aft_some, aft_void, Option.bind_some, Option.toList_some, Option.toList_none, List.cons_append, List.nil_append, if_true, if_false, ↓reduceIte, eq_self, f0_o ho, ↓f0_0 ho, ↓f0_0p ho, ↓f0_1 ho, ↓f0_1p ho, ↓f0_2 ho, ↓f0_2p ho, ↓f0_3 ho, ↓f0_3p ho, ↓f0_4 ho, ↓f0_5 ho, ↓f0_6 ho, ↓f0_7 ho, ↓f0_8 ho, ↓f0_9 ho, ↓f0_10 ho, ↓f0_11 ho, ↓f1_g ho, ↓f1_s ho, ↓f2_g ho, ↓f2_s ho, okx_nI hd (show (5 : Nat) < 2 ^ 31 by decide), nI_clamp (show d < 2 ^ 31 by omega), h.1.2.2.1 d hd, e, or_true, true_or]
  unfold vsI
  split <;> rfl
theorem c_nextVisit (ho : isB o) (h : CS o T P N V K B R) (hw : N 0 ≤ 10100) {d : Nat} (hd : d < 5) : X 77 0 [.ref o, .int (nI d), .long 0] [] (H T P) = some (some (.int (nvI (-5) (V 2 d) (N 0))), H T P) := by
  have hday : T o 0 = nI (N 0) := by rw [h.1.1 0 (by decide)]; exact h.1.2.2.2
  have e : ∀ a : Nat, a ≤ 7 → X 78 0 [.ref o, .int (nI d), .int (nI (N 0 + a))] [] (H T P) = some (some (.int (if vsI (V 2 d) (N 0 + a) = 0 then 0 else 1)), H T P) := fun a ha => c_isVisited ho h hd (by omega)
  have k1 : nI (N 0) + 1 = nI (N 0 + 1) := nI_add _ 1
  have k2 : nI (N 0) + 2 = nI (N 0 + 2) := nI_add _ 2
  have k3 : nI (N 0) + 3 = nI (N 0 + 3) := nI_add _ 3
  have k4 : nI (N 0) + 4 = nI (N 0 + 4) := nI_add _ 4
  have k5 : nI (N 0) + 5 = nI (N 0 + 5) := nI_add _ 5
  have k6 : nI (N 0) + 6 = nI (N 0 + 6) := nI_add _ 6
  have k7 : nI (N 0) + 7 = nI (N 0 + 7) := nI_add _ 7
  unfold nvI
  by_cases v1 : vsI (V 2 d) (N 0 + 1) = 0 <;> by_cases v2 : vsI (V 2 d) (N 0 + 2) = 0 <;> by_cases v3 : vsI (V 2 d) (N 0 + 3) = 0 <;> by_cases v4 : vsI (V 2 d) (N 0 + 4) = 0 <;> by_cases v5 : vsI (V 2 d) (N 0 + 5) = 0 <;> by_cases v6 : vsI (V 2 d) (N 0 + 6) = 0 <;> by_cases v7 : vsI (V 2 d) (N 0 + 7) = 0 <;>
    simp +decide only [x77_0, x77_1, x77_2, x77_3, x77_5, x77_8, x77_9, x77_10, x77_11, x77_14, x77_15, x77_16, x77_19, x77_22, x77_23, x77_26, x77_27, x77_28, x77_29, x77_32, x77_35, x77_37, aft_some, aft_void, Option.bind_some, Option.toList_some, Option.toList_none, List.cons_append, List.nil_append, if_true, if_false, ↓reduceIte, eq_self, f0_o ho, ↓f0_0 ho, ↓f0_0p ho, ↓f0_1 ho, ↓f0_1p ho, ↓f0_2 ho, ↓f0_2p ho, ↓f0_3 ho, ↓f0_3p ho, ↓f0_4 ho, ↓f0_5 ho, ↓f0_6 ho, ↓f0_7 ho, ↓f0_8 ho, ↓f0_9 ho, ↓f0_10 ho, ↓f0_11 ho, ↓f1_g ho, ↓f1_s ho, ↓f2_g ho, ↓f2_s ho, hday, k1, k2, k3, k4, k5, k6, k7, ↓aft_of (e 1 (by decide)), ↓aft_of (e 2 (by decide)), ↓aft_of (e 3 (by decide)), ↓aft_of (e 4 (by decide)), ↓aft_of (e 5 (by decide)), ↓aft_of (e 6 (by decide)), ↓aft_of (e 7 (by decide)), v1, v2, v3, v4, v5, v6, v7, Int32.reduceAdd]
/-- a basket's turn -/
def tnK (N : Nat → Nat) (V : Nat → Nat → Int32) (b : kT) : Int32 := if V 1 0 = 1 then nvI 1000000 (V 2 (V 4 (b 0 1).toNatClampNeg).toNatClampNeg) (N 0) else if V 1 0 = 2 then omK b else b 0 0
theorem nvI_z {v : Int32} {D : Nat} (hD : D ≤ 10100) : (if nvI (-5) v D = -5 then 1000000 else nvI (-5) v D) = nvI 1000000 v D := by
  have hne : ∀ a, a ≤ 7 → ¬ nI (D + a) = -5 := by
    intro a ha q
    have := congrArg Int32.toInt q
    rw [nI_toInt (by omega)] at this
    have e : (-5 : Int32).toInt = -5 := by decide
    omega
  unfold nvI
  have h1 := hne 1 (by decide)
  have h2 := hne 2 (by decide)
  have h3 := hne 3 (by decide)
  have h4 := hne 4 (by decide)
  have h5 := hne 5 (by decide)
  have h6 := hne 6 (by decide)
  have h7 := hne 7 (by decide)
  repeat' split
  all_goals first | rfl | contradiction
theorem c_turn (ho : isB o) (h : CS o T P N V K B R) (hw : WF N V K B) {i : Nat} (hi : i < K.length) : X 79 0 [.ref o, .ref (P (o + 8) i), .long 0] [] (H T P) = some (some (.int (tnK N V (gK K i))), H T P) := by
  have h8 : K.length ≤ 8 := hw.1.2.2.2.1
  have hk := h.pk.k ho (show i < 8 by omega)
  have hb := h.at hi
  have hKi : K[i]? = some (gK K i) := by simp [gK, List.getD_eq_getElem?_getD, List.getElem?_eq_getElem hi]
  obtain ⟨⟨c, hc, ec⟩, -⟩ := hw.2.2.2.1 i _ hKi
  obtain ⟨d, hd, ed⟩ := hw.2.1 c hc
  have hN1 : N 1 ≤ 10 := hw.1.2.1
  have e1 : T (P (o + 8) i) 1 = nI c := by rw [hb.1 1 (by decide), ec]
  have e2 : T (o + 4) c = nI d := by rw [h.2.1.2.1 c hc, ed]
  have e3 := c_nextVisit ho h hw.1.1 hd
  have e4 : T (o + 1) 0 = V 1 0 := h.1.2.1 0 (by decide)
  have e5 := nvI_z (v := V 2 d) hw.1.1
  have e6 := c_openMinutes (T := T) (P := P) hk
  rw [hb.om] at e6
  have e7 : T (P (o + 8) i) 0 = gK K i 0 0 := hb.1 0 (by decide)
  unfold tnK
  rw [ec, nI_clamp (by omega), ed, nI_clamp (by omega)]
  by_cases o1 : V 1 0 = 1
  · simp +decide only [x79_0, x79_1, x79_4, x79_5, x79_6, x79_32, x79_33, x79_34, x79_37, x79_40, x79_40N, x79_41, x79_44, x79_45, x79_48, x79_49, x79_50, x79_52, x79_55, x79_57, x79_60, x79_61, x79_62, x79_62N, x79_63, x79_66, x79_67, x79_67N, x79_68, x79_71, aft_some, aft_void, Option.bind_some, Option.toList_some, Option.toList_none, List.cons_append, List.nil_append, if_true, if_false, ↓reduceIte, eq_self, f0_o ho, ↓f0_0 ho, ↓f0_0p ho, ↓f0_1 ho, ↓f0_1p ho, ↓f0_2 ho, ↓f0_2p ho, ↓f0_3 ho, ↓f0_3p ho, ↓f0_4 ho, ↓f0_5 ho, ↓f0_6 ho, ↓f0_7 ho, ↓f0_8 ho, ↓f0_9 ho, ↓f0_10 ho, ↓f0_11 ho, ↓f1_g ho, ↓f1_s ho, ↓f2_g ho, ↓f2_s ho, f3_o ho, ↓f3_0 ho, ↓f3_0p ho, ↓f3_1 ho, ↓f3_2 ho, ↓f3_3 ho, ↓f4_g ho, ↓f4_s ho, ↓f5_g ho, ↓f5_s ho, ↓f6_g ho, ↓f6_s ho, fK_o hk, ↓fK_0 hk, ↓fK_0p hk, ↓fK_1 hk, ↓fK_1p hk, ↓fK_2 hk, ↓fK_2p hk, ↓fK_3 hk, ↓fK_3p hk, ↓fK_4 hk, ↓fK_4p hk, ↓fK_5 hk, ↓fK_6 hk, ↓fK_7 hk, ↓fK1_g hk, ↓fK1_s hk, ↓fK2_g hk, ↓fK2_s hk, ↓fK3_g hk, ↓fK3_s hk, cl0, e4, o1, e1, e2, okx_nI (show c < 10 by omega) (show (10 : Nat) < 2 ^ 31 by decide), nI_clamp (show c < 2 ^ 31 by omega), ↓aft_of (e3)]
    rw [← e5]
    split <;> rfl
  · by_cases o2 : V 1 0 = 2
    · simp +decide only [x79_0, x79_1, x79_4, x79_5, x79_6, x79_32, x79_33, x79_34, x79_37, x79_40, x79_40N, x79_41, x79_44, x79_45, x79_48, x79_49, x79_50, x79_52, x79_55, x79_57, x79_60, x79_61, x79_62, x79_62N, x79_63, x79_66, x79_67, x79_67N, x79_68, x79_71, aft_some, aft_void, Option.bind_some, Option.toList_some, Option.toList_none, List.cons_append, List.nil_append, if_true, if_false, ↓reduceIte, eq_self, f0_o ho, ↓f0_0 ho, ↓f0_0p ho, ↓f0_1 ho, ↓f0_1p ho, ↓f0_2 ho, ↓f0_2p ho, ↓f0_3 ho, ↓f0_3p ho, ↓f0_4 ho, ↓f0_5 ho, ↓f0_6 ho, ↓f0_7 ho, ↓f0_8 ho, ↓f0_9 ho, ↓f0_10 ho, ↓f0_11 ho, ↓f1_g ho, ↓f1_s ho, ↓f2_g ho, ↓f2_s ho, fK_o hk, ↓fK_0 hk, ↓fK_0p hk, ↓fK_1 hk, ↓fK_1p hk, ↓fK_2 hk, ↓fK_2p hk, ↓fK_3 hk, ↓fK_3p hk, ↓fK_4 hk, ↓fK_4p hk, ↓fK_5 hk, ↓fK_6 hk, ↓fK_7 hk, ↓fK1_g hk, ↓fK1_s hk, ↓fK2_g hk, ↓fK2_s hk, ↓fK3_g hk, ↓fK3_s hk, cl0, e4, o1, o2, ↓aft_of (e6)]
    · simp +decide only [x79_0, x79_1, x79_4, x79_5, x79_6, x79_32, x79_33, x79_34, x79_37, x79_40, x79_40N, x79_41, x79_44, x79_45, x79_48, x79_49, x79_50, x79_52, x79_55, x79_57, x79_60, x79_61, x79_62, x79_62N, x79_63, x79_66, x79_67, x79_67N, x79_68, x79_71, aft_some, aft_void, Option.bind_some, Option.toList_some, Option.toList_none, List.cons_append, List.nil_append, if_true, if_false, ↓reduceIte, eq_self, f0_o ho, ↓f0_0 ho, ↓f0_0p ho, ↓f0_1 ho, ↓f0_1p ho, ↓f0_2 ho, ↓f0_2p ho, ↓f0_3 ho, ↓f0_3p ho, ↓f0_4 ho, ↓f0_5 ho, ↓f0_6 ho, ↓f0_7 ho, ↓f0_8 ho, ↓f0_9 ho, ↓f0_10 ho, ↓f0_11 ho, ↓f1_g ho, ↓f1_s ho, ↓f2_g ho, ↓f2_s ho, fK_o hk, ↓fK_0 hk, ↓fK_0p hk, ↓fK_1 hk, ↓fK_1p hk, ↓fK_2 hk, ↓fK_2p hk, ↓fK_3 hk, ↓fK_3p hk, ↓fK_4 hk, ↓fK_4p hk, ↓fK_5 hk, ↓fK_6 hk, ↓fK_7 hk, ↓fK1_g hk, ↓fK1_s hk, ↓fK2_g hk, ↓fK2_s hk, ↓fK3_g hk, ↓fK3_s hk, cl0, e4, o1, o2, e7]
end CSS
