section
/-! a basket comes -/
def newK (x c q s d p : Int32) : kT := fun r k => match r with
  | 0 => (match k with | 0 => x | 1 => c | 2 => q | 3 => s | _ => d)
  | 1 => digI p k
  | _ => 0
theorem usI_congr {f g : Nat → Int32} : ∀ {n : Nat}, (∀ i, i < n → f i = g i) → usI f n = usI g n
  | 0, _ => rfl
  | n + 1, h => by
    simp only [usI]
    rw [usI_congr (fun i hi => h i (by omega)), h n (by omega)]
theorem LO.same {T U : Nat → Nat → Int32} {o n : Nat} {f g : Nat → Int32} (h : LO T o n f g) (h1 : U (o + 45) = T (o + 45)) (h2 : U (o + 46) = T (o + 46)) (h3 : U (o + 47) = T (o + 47)) : LO U o n f g := by
  unfold LO at h ⊢; rw [h1, h2, h3]; exact h
theorem JO.same {T U : Nat → Nat → Int32} {o n : Nat} {R : Nat → Nat → Int32} (h : JO T o n R) (h1 : U (o + 49) = T (o + 49)) (h2 : U (o + 50) = T (o + 50)) : JO U o n R := by
  unfold JO at h ⊢; rw [h1, h2]; exact h
section RC
variable {T : Nat → Nat → Int32} {P : Nat → Nat → Nat} {o : Nat} {N : Nat → Nat} {V : Nat → Nat → Int32} {K : List kT} {B : List bT} {R : Nat → Nat → Int32} {p st : Int32}
abbrev rcN (N : Nat → Nat) : Nat → Nat := upA (upA N 2 (N 2 + 1)) 4 (min (N 4 + 1) 10)
abbrev rcK (N : Nat → Nat) (V : Nat → Nat → Int32) (K : List kT) (c : Nat) (p st : Int32) : List kT := K ++ [newK (nI (N 2)) (nI c) (fpI (usI (fun i => gK K i 0 2) K.length)) st (V 0 0) p]
theorem c_receive (ho : isB o) (h : CS o T P N V K B R) (hw : WF N V K B) {c g : Nat} (hc : c < N 1) (h8 : K.length < 8) (hg : g ≤ 99) : ∃ T', X 75 0 [.ref o, .int (nI c), .int p, .int st, .int (nI g), .long 0] [] (H T P) = some (some (.int (nI (N 2))), H T' P) ∧ (∀ a, (a < o ∨ o + 51 ≤ a) → T' a = T a) ∧
    CS o T' P (rcN N) (up1 V 0 1 (V 0 1 + nI g)) (rcK N V K c p st) (dropE (tkL c g B)) (wrB R 0 (V 0 0) (nI (N 2)) (nI g)) := by
  have hN1 : N 1 ≤ 10 := hw.1.2.1
  obtain ⟨⟨k0, k1, k2, k00⟩, ⟨k3, k4, k5, k6⟩, ⟨kP, kn, kc, kK⟩, kB, kL, k48, kJ⟩ := h
  obtain ⟨T1, e1, f1, a1, a2, a3, a4⟩ := c_add ho kP kn h8
  have hk := kP.k ho h8
  have hr := kP.rg h8
  obtain ⟨b, hb⟩ : ∃ b, b = P (o + 8) K.length := ⟨_, rfl⟩
  rw [← hb] at hk hr e1 f1 a3 a4
  have g1 : ∀ (U : Nat → Nat → Int32) f, upA U b f o = U o := fun U f => upA_n _ _ (by omega)
  have hday : T1 o 0 = V 0 0 := by rw [f1 o (by omega) (by omega)]; exact k0 0 (by decide)
  obtain ⟨T3, e3, f3, g3⟩ := c_fill (T := up1 (up1 (up1 T1 b 1 (nI c)) b 3 st) b 4 (V 0 0)) (P := P) hk p
  have hT3 : ∀ a, a ≠ o + 7 → (a < b ∨ b + 3 < a) → T3 a = T a := by
    intro a h7 ha
    rw [f3 a (by omega) (by omega) (by omega)]
    simp only [upA_n _ _ (show a ≠ b by omega)]
    exact f1 a h7 (by omega)
  have hB3 : OB T3 o B := kB.other (hT3 _ (by omega) (by omega)) (hT3 _ (by omega) (by omega)) (hT3 _ (by omega) (by omega)) (hT3 _ (by omega) (by omega))
  obtain ⟨T4, e4, f4, g4⟩ := c_takeBack (P := P) (c := c) (g := g) ho hB3 (OS.of_wf hw) (by omega) (by omega)
  have hstock : T4 o 1 = V 0 1 := by rw [f4 o (by omega) (by omega) (by omega) (by omega), hT3 o (by omega) (by omega)]; exact k0 1 (by decide)
  have hT5 : ∀ a, a ≠ o → a ≠ o + 7 → (a < b ∨ b + 3 < a) → (a < o + 41 ∨ o + 44 < a) → up1 T4 o 1 (V 0 1 + nI g) a = T a := by
    intro a h0 h7 ha h41
    simp only [upA_n _ _ h0]
    rw [f4 a (by omega) (by omega) (by omega) (by omega)]
    exact hT3 a h7 ha
  have hJ5 : JO (up1 T4 o 1 (V 0 1 + nI g)) o (N 4) R := kJ.same (hT5 _ (by omega) (by omega) (by omega) (by omega)) (hT5 _ (by omega) (by omega) (by omega) (by omega))
  obtain ⟨T6, e6, f6, g6⟩ := c_write (P := P) (e := 0) (d := V 0 0) (x := nI (N 2)) (y := nI g) ho hJ5
  have hT6 : ∀ a, a ≠ o → a ≠ o + 7 → (a < b ∨ b + 3 < a) → (a < o + 41 ∨ o + 44 < a) → a ≠ o + 49 → a ≠ o + 50 → T6 a = T a := by
    intro a h0 h7 ha h41 h49 h50
    rw [f6 a h49 h50]
    exact hT5 a h0 h7 ha h41
  have hT6b : T6 b = upA (upA (upA (T1 b) 1 (nI c)) 3 st) 4 (V 0 0) := by
    rw [f6 b (by omega) (by omega)]
    simp only [upA_n _ _ (show b ≠ o by omega)]
    rw [f4 b (by omega) (by omega) (by omega) (by omega), f3 b (by omega) (by omega) (by omega)]
    simp only [upA_s]
  have hT6r : ∀ x, 1 ≤ x → x < 4 → T6 (b + x) = T3 (b + x) := by
    intro x h1 h4
    rw [f6 _ (by omega) (by omega)]
    simp only [upA_n _ _ (show b + x ≠ o by omega)]
    exact f4 _ (by omega) (by omega) (by omega) (by omega)
  have hT6o : T6 o = upA (T4 o) 1 (V 0 1 + nI g) := by
    rw [f6 o (by omega) (by omega)]; simp only [upA_s]
  have hnum : T4 b 0 = nI (N 2) := by
    rw [f4 b (by omega) (by omega) (by omega) (by omega), f3 b (by omega) (by omega) (by omega)]
    simp +decide only [upA_s, u_n]
    rw [a3, kc]
  have hnum5 : up1 T4 o 1 (V 0 1 + nI g) b 0 = nI (N 2) := by
    simp only [upA_n _ _ (show b ≠ o by omega)]; exact hnum
  have hday5 : up1 T4 o 1 (V 0 1 + nI g) o 0 = V 0 0 := by
    simp +decide only [upA_s, u_n]
    rw [f4 o (by omega) (by omega) (by omega) (by omega), hT3 o (by omega) (by omega)]; exact k0 0 (by decide)
  have hnum6 : T6 b 0 = nI (N 2) := by rw [f6 b (by omega) (by omega)]; exact hnum5
  refine ⟨T6, by
    simp +decide only [x75_0, x75_1, x75_4, x75_7, x75_7N, x75_9, x75_9N, x75_11, x75_12, x75_15, x75_15N, x75_17, x75_18, x75_21, x75_21N, x75_23, x75_24, x75_27, x75_30, x75_30N, x75_32, x75_33, x75_36, x75_37, x75_40, x75_41, x75_43, x75_46, x75_47, x75_48, x75_51, x75_53, x75_54, x75_57, x75_58, x75_61, x75_62, x75_63, x75_66, x75_66N, x75_68, x75_71, x75_73, x75_76, x75_76N, x75_78, x75_81, aft_some, aft_void, Option.bind_some, Option.toList_some, Option.toList_none, List.cons_append, List.nil_append, if_true, if_false, ↓reduceIte, eq_self, f0_o ho, ↓f0_0 ho, ↓f0_0p ho, ↓f0_1 ho, ↓f0_1p ho, ↓f0_2 ho, ↓f0_2p ho, ↓f0_3 ho, ↓f0_3p ho, ↓f0_4 ho, ↓f0_5 ho, ↓f0_6 ho, ↓f0_7 ho, ↓f0_8 ho, ↓f0_9 ho, ↓f0_10 ho, ↓f0_11 ho, ↓f1_g ho, ↓f1_s ho, ↓f2_g ho, ↓f2_s ho, fK_o hk, ↓fK_0 hk, ↓fK_0p hk, ↓fK_1 hk, ↓fK_1p hk, ↓fK_2 hk, ↓fK_2p hk, ↓fK_3 hk, ↓fK_3p hk, ↓fK_4 hk, ↓fK_4p hk, ↓fK_5 hk, ↓fK_6 hk, ↓fK_7 hk, ↓fK1_g hk, ↓fK1_s hk, ↓fK2_g hk, ↓fK2_s hk, ↓fK3_g hk, ↓fK3_s hk, f7_o ho, f41_o ho, f49_o ho, ↓aft_of (e1), ↓aft_of (e3), ↓aft_of (e4), ↓aft_of (e6), g1, hday, hstock, hnum5, hday5, hnum6], fun a ha => hT6 a (by omega) (by omega) (by omega) (by omega) (by omega) (by omega), ?_, ?_, ?_, ?_, ?_, ?_, ?_⟩
  · refine ⟨?_, ?_, ?_, ?_⟩
    · intro k hk4
      rw [hT6o]
      simp only [upA_s]
      unfold upA
      by_cases hk1 : k = 1
      · rw [if_pos hk1, if_pos hk1]
      · rw [if_neg hk1, if_neg hk1, f4 o (by omega) (by omega) (by omega) (by omega), hT3 o (by omega) (by omega)]
        exact k0 k hk4
    · intro k hk4
      rw [hT6 _ (by omega) (by omega) (by omega) (by omega) (by omega) (by omega)]
      simp +decide only [u_n]; exact k1 k hk4
    · intro k hk4
      rw [hT6 _ (by omega) (by omega) (by omega) (by omega) (by omega) (by omega)]
      simp +decide only [u_n]; exact k2 k hk4
    · simp +decide only [upA_s, u_n]; exact k00
  · refine ⟨?_, ?_, ?_, ?_⟩
    · rw [hT6 _ (by omega) (by omega) (by omega) (by omega) (by omega) (by omega)]
      simp +decide only [u_n]; exact k3
    · intro k hk4
      rw [hT6 _ (by omega) (by omega) (by omega) (by omega) (by omega) (by omega)]
      simp +decide only [u_n] at hk4 ⊢; exact k4 k hk4
    · intro k hk4
      rw [hT6 _ (by omega) (by omega) (by omega) (by omega) (by omega) (by omega)]
      simp +decide only [u_n] at hk4 ⊢; exact k5 k hk4
    · intro k hk4
      rw [hT6 _ (by omega) (by omega) (by omega) (by omega) (by omega) (by omega)]
      simp +decide only [u_n] at hk4 ⊢; exact k6 k hk4
  · have h7 : T6 (o + 7) = T1 (o + 7) := by
      rw [f6 _ (by omega) (by omega)]
      simp only [upA_n _ _ (show o + 7 ≠ o by omega)]
      rw [f4 _ (by omega) (by omega) (by omega) (by omega), f3 _ (by omega) (by omega) (by omega)]
      simp only [upA_n _ _ (show o + 7 ≠ b by omega)]
    refine ⟨kP, by rw [h7, a1, List.length_append]; rfl, ?_, ?_⟩
    · rw [h7, a2, kc]
      simp +decide only [upA_s, u_n]
      exact nI_1 _
    · intro i q hq
      by_cases hi : i < K.length
      · rw [List.getElem?_append_left hi] at hq
        have ap := kP.ap (show i < 8 by omega) h8 (by omega)
        rw [← hb] at ap
        have hri := kP.rg (show i < 8 by omega)
        refine (kK i q hq).same (fun x hx => hT6 _ (by omega) (by omega) ?_ (by omega) (by omega) (by omega))
        have h0 := ap x 0 hx (by decide)
        have h1 := ap x 1 hx (by decide)
        have h2 := ap x 2 hx (by decide)
        have h3 := ap x 3 hx (by decide)
        omega
      · rw [List.getElem?_append_right (by omega)] at hq
        have hz : i - K.length < 1 := (List.getElem?_eq_some_iff.mp hq).1
        have hie : i = K.length := by omega
        subst hie
        rw [Nat.sub_self] at hq
        cases hq
        rw [← hb]
        refine ⟨fun k hk5 => ?_, fun k hk4 => ?_⟩
        · rw [hT6b]
          match k, hk5 with
          | 0, _ => simp +decide only [u_n]; rw [a3, kc]; rfl
          | 1, _ => simp +decide only [upA_s, u_n]; rfl
          | 2, _ =>
            simp +decide only [u_n]
            rw [a4, usI_congr (fun i hi => (kK i _ (by
              show K[i]? = some (gK K i)
              simp [gK, List.getD_eq_getElem?_getD, List.getElem?_eq_getElem hi])).1 2 (by decide))]
            rfl
          | 3, _ => simp +decide only [upA_s, u_n]; rfl
          | 4, _ => simp +decide only [upA_s, u_n]; rfl
        · rw [hT6r 1 (by decide) (by decide), hT6r 2 (by decide) (by decide), hT6r 3 (by decide) (by decide)]
          exact g3 k hk4
  · exact g4.other (by rw [f6 _ (by omega) (by omega)]; exact upA_n _ _ (by omega)) (by rw [f6 _ (by omega) (by omega)]; exact upA_n _ _ (by omega)) (by rw [f6 _ (by omega) (by omega)]; exact upA_n _ _ (by omega)) (by rw [f6 _ (by omega) (by omega)]; exact upA_n _ _ (by omega))
  · have := kL.same (U := T6) (hT6 _ (by omega) (by omega) (by omega) (by omega) (by omega) (by omega)) (hT6 _ (by omega) (by omega) (by omega) (by omega) (by omega) (by omega)) (hT6 _ (by omega) (by omega) (by omega) (by omega) (by omega) (by omega))
    simp +decide only [u_n]; exact this
  · intro k hk4
    rw [hT6 _ (by omega) (by omega) (by omega) (by omega) (by omega) (by omega)]
    simp +decide only [u_n]; exact k48 k hk4
  · simp +decide only [upA_s]; exact g6
end RC
end
section
/-! ironing -/
def stP (V : Nat → Nat → Int32) (b : kT) (k : Nat) : Prop := k < 2 ∧ ¬ b 0 3 = V 48 0
noncomputable def sbI (V : Nat → Nat → Int32) (b : kT) (k : Nat) : Int32 := @ite _ (stP V b k) (Classical.propDecidable _) 1 0
noncomputable def ndI (V : Nat → Nat → Int32) (b : kT) (k : Nat) : Int32 := mnI (b 0 3) k + @ite _ (stP V b k) (Classical.propDecidable _) (V 1 1) 0
/-- a piece of the kind k of b is ironed -/
noncomputable def inV (V : Nat → Nat → Int32) (b : kT) (k : Nat) : Nat → Nat → Int32 := upA (upA V 0 (upA (V 0) 1 (if k < 3 then V 0 1 - 1 else V 0 1))) 48 (fun j => match j with
  | 0 => @ite _ (stP V b k) (Classical.propDecidable _) (b 0 3) (V 48 0)
  | 1 => V 48 1 + sbI V b k
  | 2 => V 48 2 + 1
  | 3 => V 48 3 + ndI V b k
  | j + 4 => V 48 (j + 4))
def inB (b : kT) (k : Nat) : kT := upA b 2 (upA (b 2) k (b 2 k + 1))
theorem lkK_or (b : kT) (g : Int32) : lkK b g = -5 ∨ ∃ k, k < 4 ∧ lkK b g = nI k ∧ 0 < opK b k ∧ (k < 3 → ¬ g = 0) := by
  unfold lkK
  by_cases h0 : 0 < opK b 0 ∧ ¬ g = 0
  · rw [if_pos h0]; exact Or.inr ⟨0, by decide, rfl, h0.1, fun _ => h0.2⟩
  rw [if_neg h0]
  by_cases h1 : 0 < opK b 1 ∧ ¬ g = 0
  · rw [if_pos h1]; exact Or.inr ⟨1, by decide, rfl, h1.1, fun _ => h1.2⟩
  rw [if_neg h1]
  by_cases h2 : 0 < opK b 2 ∧ ¬ g = 0
  · rw [if_pos h2]; exact Or.inr ⟨2, by decide, rfl, h2.1, fun _ => h2.2⟩
  rw [if_neg h2]
  by_cases h3 : 0 < opK b 3
  · rw [if_pos h3]; exact Or.inr ⟨3, by decide, rfl, h3, fun q => absurd q (by decide)⟩
  rw [if_neg h3]; exact Or.inl rfl
theorem nI_ne5 {n : Nat} (h : n < 2 ^ 31) : (nI n = -5) = False := by
  apply eq_false
  intro q
  have := congrArg Int32.toInt q
  rw [nI_toInt h] at this
  have e : (-5 : Int32).toInt = -5 := by decide
  omega
theorem smI_set {f : Nat → Int32} {i : Nat} {v : Int32} : ∀ {n : Nat}, i < n → smI (upA f i v) n = smI f n - f i + v
  | 0, h => absurd h (Nat.not_lt_zero _)
  | n + 1, h => by
    simp only [smI]
    by_cases hi : i = n
    · subst hi
      rw [upA_s, smI_congr (f := upA f i v) (g := f) (fun j hj => upA_n _ _ (by omega))]
      grind
    · rw [smI_set (show i < n by omega), upA_n _ _ (show n ≠ i by omega)]
      grind
theorem gK_set {K : List kT} {i j : Nat} {b : kT} (hi : i < K.length) : gK (K.set i b) j = if j = i then b else gK K j := by
  simp only [gK, List.getD_eq_getElem?_getD]
  by_cases h : j = i
  · subst h; rw [List.getElem?_set_self hi, if_pos rfl]; rfl
  · rw [List.getElem?_set_ne (Ne.symm h), if_neg h]
theorem nI_posn {x : Nat} (hx : x < 2 ^ 31) : (0 < nI x) = (0 < x) := by
  rw [show (0 : Int32) = nI 0 from rfl, nI_ltp (by decide) hx]
section IR
variable {T : Nat → Nat → Int32} {P : Nat → Nat → Nat} {o : Nat} {N : Nat → Nat} {V : Nat → Nat → Int32} {K : List kT} {B : List bT} {R : Nat → Nat → Int32} {p st left : Int32}
theorem WF_iron (hw : WF N V K B) {i k : Nat} {b : kT} (hb : K[i]? = some b) (hk : k < 4) (ho : 0 < opK b k) : WF N (inV V b k) (K.set i (inB b k)) B := by
  obtain ⟨w1, w2, w3, w4, w5, w6, w7, w8⟩ := hw
  have hi : i < K.length := (List.getElem?_eq_some_iff.mp hb).1
  have hgi := gK_of hb
  refine ⟨⟨w1.1, w1.2.1, w1.2.2.1, by rw [List.length_set]; exact w1.2.2.2.1, w1.2.2.2.2⟩, ?_, ?_, ?_, ?_, ⟨w6.1, w6.2.1, by rw [List.length_set]; exact w6.2.2⟩, ?_, ?_⟩
  · intro c hc
    simp +decide only [inV, u_n]; exact w2 c hc
  · simp +decide only [inV, u_n]; exact w3
  · intro j q hq
    by_cases hji : i = j
    · subst hji
      rw [List.getElem?_set_self hi] at hq
      cases hq
      have h0 := w4 i b hb
      have e0 : inB b k 0 = b 0 := by simp +decide only [inB, u_n]
      have e1 : inB b k 1 = b 1 := by simp +decide only [inB, u_n]
      have e3 : inB b k 3 = b 3 := by simp +decide only [inB, u_n]
      rw [e0, e1, e3]
      refine ⟨h0.1, h0.2.1, h0.2.2.1, h0.2.2.2.1, fun m hm => ?_⟩
      obtain ⟨x, y, z, g1, g2, g3, g4, g5⟩ := h0.2.2.2.2 m hm
      by_cases hmk : m = k
      · subst hmk
        have hop : y + z < x := by
          unfold opK at ho
          rw [g3, g4, g5, nI_sub (by omega), nI_sub (by omega), nI_posn (by omega)] at ho
          omega
        refine ⟨x, y + 1, z, g1, by omega, g3, ?_, g5⟩
        simp only [inB, upA_s]
        rw [g4, nI_1]
      · refine ⟨x, y, z, g1, g2, g3, ?_, g5⟩
        simp only [inB, upA_s]
        rw [upA_n _ _ hmk]; exact g4
    · rw [List.getElem?_set_ne hji] at hq
      exact w4 j q hq
  · intro a c x y hac hx hy
    have get : ∀ (j : Nat) (q : kT), (K.set i (inB b k))[j]? = some q → ∃ q', K[j]? = some q' ∧ q 0 0 = q' 0 0 := by
      intro j q hq
      by_cases hji : i = j
      · subst hji
        rw [List.getElem?_set_self hi] at hq
        cases hq
        exact ⟨b, hb, by simp +decide only [inB, u_n]⟩
      · rw [List.getElem?_set_ne hji] at hq
        exact ⟨q, hq, rfl⟩
    obtain ⟨x', hx', ex⟩ := get a x hx
    obtain ⟨y', hy', ey⟩ := get c y hy
    rw [ex, ey]
    exact w5 a c x' y' hac hx' hy'
  · intro j hj
    simp +decide only [inV, u_n]; exact w7 j hj
  · rw [List.length_set]
    have e1 : smI (fun j => nhI (gK (K.set i (inB b k)) j 2)) K.length = smI (upA (fun j => nhI (gK K j 2)) i (nhI (inB b k 2))) K.length := by
      apply smI_congr
      intro j _
      show nhI (gK (K.set i (inB b k)) j 2) = _
      rw [gK_set hi]
      by_cases hji : j = i
      · subst hji; rw [if_pos rfl, upA_s]
      · rw [if_neg hji, upA_n _ _ hji]
    rw [e1, smI_set hi, hgi]
    have e2 : inV V b k 0 1 = if k < 3 then V 0 1 - 1 else V 0 1 := by simp +decide only [inV, upA_s, u_n]
    have e3 : inV V b k 0 2 = V 0 2 := by simp +decide only [inV, upA_s, u_n]
    have e4 : inV V b k 6 = V 6 := by simp +decide only [inV, u_n]
    have e5 : nhI (inB b k 2) = nhI (b 2) + if k < 3 then 1 else 0 := by
      simp only [nhI, inB, upA_s]
      match k, hk with
      | 0, _ => simp +decide only [upA_s, u_n, if_true]; grind
      | 1, _ => simp +decide only [upA_s, u_n, if_true]; grind
      | 2, _ => simp +decide only [upA_s, u_n, if_true]; grind
      | 3, _ => simp +decide only [upA_s, u_n, if_false]; grind
    rw [e2, e3, e4, e5]
    by_cases hk3 : k < 3
    · simp only [hk3, if_true]; grind
    · simp only [hk3, if_false]; grind
/-- nothing can be ironed -/
theorem c_ironNo (ho : isB o) (h : CS o T P N V K B R) (hw : WF N V K B) {i : Nat} (hi : i < K.length) (hl : lkK (gK K i) (if 0 < V 0 1 then 1 else 0) = -5) : X 84 0 [.ref o, .ref (P (o + 8) i), .int left, .long 0, .long 0, .long 0] [] (H T P) = some (some (.int 0), H T P) := by
  have h8 : K.length ≤ 8 := hw.1.2.2.2.1
  have hk := h.pk.k ho (show i < 8 by omega)
  have el := c_lowest (T := T) (P := P) hk (if 0 < V 0 1 then 1 else 0)
  rw [(h.at hi).lk, hl] at el
  have hst : T o 1 = V 0 1 := h.1.1 1 (by decide)
  by_cases s1 : 0 < V 0 1
  · simp only [s1, if_true] at el
    simp +decide only [x84_0, x84_0N, x84_1, x84_2, x84_5, x84_8, x84_9, x84_12, x84_13, x84_16, x84_17, x84_18, x84_20, x84_23, x84_24, x84_25, x84_26, x84_29, x84_32, x84_32N, x84_33, x84_36, x84_37, x84_40, x84_43, x84_46, x84_47, x84_50, x84_51, x84_53, x84_53N, x84_54, x84_55, x84_58, x84_60, x84_63, x84_64, x84_67, x84_68, x84_69, x84_72, x84_73, x84_74, x84_76, x84_78, x84_79, x84_82, x84_83, x84_84, x84_86, x84_89, x84_90, x84_93, x84_93N, x84_94, x84_97, x84_100, x84_101, x84_104, x84_105, x84_108, x84_109, x84_110, x84_113, x84_114, x84_117, x84_120, x84_121, x84_122, x84_125, x84_126, x84_127, x84_130, x84_130N, x84_131, x84_134, x84_135, x84_136, x84_137, x84_138, x84_139, x84_140, x84_141, x84_144, x84_145, x84_148, x84_149, x84_150, x84_153, x84_154, x84_157, x84_158, x84_161, x84_163, x84_164, x84_167, x84_169, aft_some, aft_void, Option.bind_some, Option.toList_some, Option.toList_none, List.cons_append, List.nil_append, if_true, if_false, ↓reduceIte, eq_self, f0_o ho, ↓f0_0 ho, ↓f0_0p ho, ↓f0_1 ho, ↓f0_1p ho, ↓f0_2 ho, ↓f0_2p ho, ↓f0_3 ho, ↓f0_3p ho, ↓f0_4 ho, ↓f0_5 ho, ↓f0_6 ho, ↓f0_7 ho, ↓f0_8 ho, ↓f0_9 ho, ↓f0_10 ho, ↓f0_11 ho, ↓f1_g ho, ↓f1_s ho, ↓f2_g ho, ↓f2_s ho, fK_o hk, ↓aft_of (el), hst, s1]
  · simp only [s1, if_false] at el
    simp +decide only [x84_0, x84_0N, x84_1, x84_2, x84_5, x84_8, x84_9, x84_12, x84_13, x84_16, x84_17, x84_18, x84_20, x84_23, x84_24, x84_25, x84_26, x84_29, x84_32, x84_32N, x84_33, x84_36, x84_37, x84_40, x84_43, x84_46, x84_47, x84_50, x84_51, x84_53, x84_53N, x84_54, x84_55, x84_58, x84_60, x84_63, x84_64, x84_67, x84_68, x84_69, x84_72, x84_73, x84_74, x84_76, x84_78, x84_79, x84_82, x84_83, x84_84, x84_86, x84_89, x84_90, x84_93, x84_93N, x84_94, x84_97, x84_100, x84_101, x84_104, x84_105, x84_108, x84_109, x84_110, x84_113, x84_114, x84_117, x84_120, x84_121, x84_122, x84_125, x84_126, x84_127, x84_130, x84_130N, x84_131, x84_134, x84_135, x84_136, x84_137, x84_138, x84_139, x84_140, x84_141, x84_144, x84_145, x84_148, x84_149, x84_150, x84_153, x84_154, x84_157, x84_158, x84_161, x84_163, x84_164, x84_167, x84_169, aft_some, aft_void, Option.bind_some, Option.toList_some, Option.toList_none, List.cons_append, List.nil_append, if_true, if_false, ↓reduceIte, eq_self, f0_o ho, ↓f0_0 ho, ↓f0_0p ho, ↓f0_1 ho, ↓f0_1p ho, ↓f0_2 ho, ↓f0_2p ho, ↓f0_3 ho, ↓f0_3p ho, ↓f0_4 ho, ↓f0_5 ho, ↓f0_6 ho, ↓f0_7 ho, ↓f0_8 ho, ↓f0_9 ho, ↓f0_10 ho, ↓f0_11 ho, ↓f1_g ho, ↓f1_s ho, ↓f2_g ho, ↓f2_s ho, fK_o hk, ↓aft_of (el), hst, s1]
theorem sb_or (V : Nat → Nat → Int32) (b : kT) (k : Nat) : (stP V b k ∧ sbI V b k = 1 ∧ ndI V b k = mnI (b 0 3) k + V 1 1) ∨ (¬ stP V b k ∧ sbI V b k = 0 ∧ ndI V b k = mnI (b 0 3) k + 0) := by
  by_cases hs : stP V b k
  · exact Or.inl ⟨hs, if_pos hs, by unfold ndI; rw [if_pos hs]⟩
  · exact Or.inr ⟨hs, if_neg hs, by unfold ndI; rw [if_neg hs]⟩
/-- the minutes do not suffice -/
theorem c_ironStop (ho : isB o) (h : CS o T P N V K B R) (hw : WF N V K B) {i k : Nat} (hi : i < K.length) (hk4 : k < 4) (hl : lkK (gK K i) (if 0 < V 0 1 then 1 else 0) = nI k) (hd : left < ndI V (gK K i) k) : X 84 0 [.ref o, .ref (P (o + 8) i), .int left, .long 0, .long 0, .long 0] [] (H T P) = some (some (.int 0), H T P) := by
  have h8 : K.length ≤ 8 := hw.1.2.2.2.1
  have hk := h.pk.k ho (show i < 8 by omega)
  have el := c_lowest (T := T) (P := P) hk (if 0 < V 0 1 then 1 else 0)
  rw [(h.at hi).lk, hl] at el
  have hst : T o 1 = V 0 1 := h.1.1 1 (by decide)
  have hsr : T (o + 1) 1 = V 1 1 := h.1.2.1 1 (by decide)
  have hpot : T (o + 48) 0 = V 48 0 := h.2.2.2.2.2.1 0 (by decide)
  have hb3 : T (P (o + 8) i) 3 = gK K i 0 3 := (h.at hi).1 3 (by decide)
  have em := c_minutes (T := T) (P := P) hk k hk4
  rw [hb3] at em
  have ets := c_takesStarch (T := T) (P := P) k hk4
  rcases sb_or V (gK K i) k with ⟨hs, -, hnd⟩ | ⟨hs, -, hnd⟩
  · rw [hnd] at hd
    have q1 : k < 2 := hs.1
    have q2 : (gK K i 0 3 = V 48 0) = False := eq_false hs.2
    simp only [q1, if_true] at ets
    by_cases s1 : 0 < V 0 1
    · simp only [s1, if_true] at el
      simp +decide only [x84_0, x84_0N, x84_1, x84_2, x84_5, x84_8, x84_9, x84_12, x84_13, x84_16, x84_17, x84_18, x84_20, x84_23, x84_24, x84_25, x84_26, x84_29, x84_32, x84_32N, x84_33, x84_36, x84_37, x84_40, x84_43, x84_46, x84_47, x84_50, x84_51, x84_53, x84_53N, x84_54, x84_55, x84_58, x84_60, x84_63, x84_64, x84_67, x84_68, x84_69, x84_72, x84_73, x84_74, x84_76, x84_78, x84_79, x84_82, x84_83, x84_84, x84_86, x84_89, x84_90, x84_93, x84_93N, x84_94, x84_97, x84_100, x84_101, x84_104, x84_105, x84_108, x84_109, x84_110, x84_113, x84_114, x84_117, x84_120, x84_121, x84_122, x84_125, x84_126, x84_127, x84_130, x84_130N, x84_131, x84_134, x84_135, x84_136, x84_137, x84_138, x84_139, x84_140, x84_141, x84_144, x84_145, x84_148, x84_149, x84_150, x84_153, x84_154, x84_157, x84_158, x84_161, x84_163, x84_164, x84_167, x84_169, aft_some, aft_void, Option.bind_some, Option.toList_some, Option.toList_none, List.cons_append, List.nil_append, if_true, if_false, ↓reduceIte, eq_self, f0_o ho, ↓f0_0 ho, ↓f0_0p ho, ↓f0_1 ho, ↓f0_1p ho, ↓f0_2 ho, ↓f0_2p ho, ↓f0_3 ho, ↓f0_3p ho, ↓f0_4 ho, ↓f0_5 ho, ↓f0_6 ho, ↓f0_7 ho, ↓f0_8 ho, ↓f0_9 ho, ↓f0_10 ho, ↓f0_11 ho, ↓f1_g ho, ↓f1_s ho, ↓f2_g ho, ↓f2_s ho, fK_o hk, ↓fK_0 hk, ↓fK_0p hk, ↓fK_1 hk, ↓fK_1p hk, ↓fK_2 hk, ↓fK_2p hk, ↓fK_3 hk, ↓fK_3p hk, ↓fK_4 hk, ↓fK_4p hk, ↓fK_5 hk, ↓fK_6 hk, ↓fK_7 hk, ↓fK1_g hk, ↓fK1_s hk, ↓fK2_g hk, ↓fK2_s hk, ↓fK3_g hk, ↓fK3_s hk, f48_o ho, ↓f48_0 ho, ↓f48_0p ho, ↓f48_1 ho, ↓f48_1p ho, ↓f48_2 ho, ↓f48_2p ho, ↓f48_3 ho, ↓f48_3p ho, ↓aft_of (el), ↓aft_of (ets), ↓aft_of (em), hst, hsr, hpot, hb3, s1, nI_ne5 (show k < 2 ^ 31 by omega), q2, cl1, hd]
    · simp only [s1, if_false] at el
      simp +decide only [x84_0, x84_0N, x84_1, x84_2, x84_5, x84_8, x84_9, x84_12, x84_13, x84_16, x84_17, x84_18, x84_20, x84_23, x84_24, x84_25, x84_26, x84_29, x84_32, x84_32N, x84_33, x84_36, x84_37, x84_40, x84_43, x84_46, x84_47, x84_50, x84_51, x84_53, x84_53N, x84_54, x84_55, x84_58, x84_60, x84_63, x84_64, x84_67, x84_68, x84_69, x84_72, x84_73, x84_74, x84_76, x84_78, x84_79, x84_82, x84_83, x84_84, x84_86, x84_89, x84_90, x84_93, x84_93N, x84_94, x84_97, x84_100, x84_101, x84_104, x84_105, x84_108, x84_109, x84_110, x84_113, x84_114, x84_117, x84_120, x84_121, x84_122, x84_125, x84_126, x84_127, x84_130, x84_130N, x84_131, x84_134, x84_135, x84_136, x84_137, x84_138, x84_139, x84_140, x84_141, x84_144, x84_145, x84_148, x84_149, x84_150, x84_153, x84_154, x84_157, x84_158, x84_161, x84_163, x84_164, x84_167, x84_169, aft_some, aft_void, Option.bind_some, Option.toList_some, Option.toList_none, List.cons_append, List.nil_append, if_true, if_false, ↓reduceIte, eq_self, f0_o ho, ↓f0_0 ho, ↓f0_0p ho, ↓f0_1 ho, ↓f0_1p ho, ↓f0_2 ho, ↓f0_2p ho, ↓f0_3 ho, ↓f0_3p ho, ↓f0_4 ho, ↓f0_5 ho, ↓f0_6 ho, ↓f0_7 ho, ↓f0_8 ho, ↓f0_9 ho, ↓f0_10 ho, ↓f0_11 ho, ↓f1_g ho, ↓f1_s ho, ↓f2_g ho, ↓f2_s ho, fK_o hk, ↓fK_0 hk, ↓fK_0p hk, ↓fK_1 hk, ↓fK_1p hk, ↓fK_2 hk, ↓fK_2p hk, ↓fK_3 hk, ↓fK_3p hk, ↓fK_4 hk, ↓fK_4p hk, ↓fK_5 hk, ↓fK_6 hk, ↓fK_7 hk, ↓fK1_g hk, ↓fK1_s hk, ↓fK2_g hk, ↓fK2_s hk, ↓fK3_g hk, ↓fK3_s hk, f48_o ho, ↓f48_0 ho, ↓f48_0p ho, ↓f48_1 ho, ↓f48_1p ho, ↓f48_2 ho, ↓f48_2p ho, ↓f48_3 ho, ↓f48_3p ho, ↓aft_of (el), ↓aft_of (ets), ↓aft_of (em), hst, hsr, hpot, hb3, s1, nI_ne5 (show k < 2 ^ 31 by omega), q2, cl1, hd]
  · rw [hnd] at hd
    by_cases q1 : k < 2
    · have q2 : (gK K i 0 3 = V 48 0) = True := eq_true (Classical.not_not.mp fun q => hs ⟨q1, q⟩)
      simp only [q1, if_true] at ets
      by_cases s1 : 0 < V 0 1
      · simp only [s1, if_true] at el
        simp +decide only [x84_0, x84_0N, x84_1, x84_2, x84_5, x84_8, x84_9, x84_12, x84_13, x84_16, x84_17, x84_18, x84_20, x84_23, x84_24, x84_25, x84_26, x84_29, x84_32, x84_32N, x84_33, x84_36, x84_37, x84_40, x84_43, x84_46, x84_47, x84_50, x84_51, x84_53, x84_53N, x84_54, x84_55, x84_58, x84_60, x84_63, x84_64, x84_67, x84_68, x84_69, x84_72, x84_73, x84_74, x84_76, x84_78, x84_79, x84_82, x84_83, x84_84, x84_86, x84_89, x84_90, x84_93, x84_93N, x84_94, x84_97, x84_100, x84_101, x84_104, x84_105, x84_108, x84_109, x84_110, x84_113, x84_114, x84_117, x84_120, x84_121, x84_122, x84_125, x84_126, x84_127, x84_130, x84_130N, x84_131, x84_134, x84_135, x84_136, x84_137, x84_138, x84_139, x84_140, x84_141, x84_144, x84_145, x84_148, x84_149, x84_150, x84_153, x84_154, x84_157, x84_158, x84_161, x84_163, x84_164, x84_167, x84_169, aft_some, aft_void, Option.bind_some, Option.toList_some, Option.toList_none, List.cons_append, List.nil_append, if_true, if_false, ↓reduceIte, eq_self, f0_o ho, ↓f0_0 ho, ↓f0_0p ho, ↓f0_1 ho, ↓f0_1p ho, ↓f0_2 ho, ↓f0_2p ho, ↓f0_3 ho, ↓f0_3p ho, ↓f0_4 ho, ↓f0_5 ho, ↓f0_6 ho, ↓f0_7 ho, ↓f0_8 ho, ↓f0_9 ho, ↓f0_10 ho, ↓f0_11 ho, ↓f1_g ho, ↓f1_s ho, ↓f2_g ho, ↓f2_s ho, fK_o hk, ↓fK_0 hk, ↓fK_0p hk, ↓fK_1 hk, ↓fK_1p hk, ↓fK_2 hk, ↓fK_2p hk, ↓fK_3 hk, ↓fK_3p hk, ↓fK_4 hk, ↓fK_4p hk, ↓fK_5 hk, ↓fK_6 hk, ↓fK_7 hk, ↓fK1_g hk, ↓fK1_s hk, ↓fK2_g hk, ↓fK2_s hk, ↓fK3_g hk, ↓fK3_s hk, f48_o ho, ↓f48_0 ho, ↓f48_0p ho, ↓f48_1 ho, ↓f48_1p ho, ↓f48_2 ho, ↓f48_2p ho, ↓f48_3 ho, ↓f48_3p ho, ↓aft_of (el), ↓aft_of (ets), ↓aft_of (em), hst, hsr, hpot, hb3, s1, nI_ne5 (show k < 2 ^ 31 by omega), q2, cl1, hd]
      · simp only [s1, if_false] at el
        simp +decide only [x84_0, x84_0N, x84_1, x84_2, x84_5, x84_8, x84_9, x84_12, x84_13, x84_16, x84_17, x84_18, x84_20, x84_23, x84_24, x84_25, x84_26, x84_29, x84_32, x84_32N, x84_33, x84_36, x84_37, x84_40, x84_43, x84_46, x84_47, x84_50, x84_51, x84_53, x84_53N, x84_54, x84_55, x84_58, x84_60, x84_63, x84_64, x84_67, x84_68, x84_69, x84_72, x84_73, x84_74, x84_76, x84_78, x84_79, x84_82, x84_83, x84_84, x84_86, x84_89, x84_90, x84_93, x84_93N, x84_94, x84_97, x84_100, x84_101, x84_104, x84_105, x84_108, x84_109, x84_110, x84_113, x84_114, x84_117, x84_120, x84_121, x84_122, x84_125, x84_126, x84_127, x84_130, x84_130N, x84_131, x84_134, x84_135, x84_136, x84_137, x84_138, x84_139, x84_140, x84_141, x84_144, x84_145, x84_148, x84_149, x84_150, x84_153, x84_154, x84_157, x84_158, x84_161, x84_163, x84_164, x84_167, x84_169, aft_some, aft_void, Option.bind_some, Option.toList_some, Option.toList_none, List.cons_append, List.nil_append, if_true, if_false, ↓reduceIte, eq_self, f0_o ho, ↓f0_0 ho, ↓f0_0p ho, ↓f0_1 ho, ↓f0_1p ho, ↓f0_2 ho, ↓f0_2p ho, ↓f0_3 ho, ↓f0_3p ho, ↓f0_4 ho, ↓f0_5 ho, ↓f0_6 ho, ↓f0_7 ho, ↓f0_8 ho, ↓f0_9 ho, ↓f0_10 ho, ↓f0_11 ho, ↓f1_g ho, ↓f1_s ho, ↓f2_g ho, ↓f2_s ho, fK_o hk, ↓fK_0 hk, ↓fK_0p hk, ↓fK_1 hk, ↓fK_1p hk, ↓fK_2 hk, ↓fK_2p hk, ↓fK_3 hk, ↓fK_3p hk, ↓fK_4 hk, ↓fK_4p hk, ↓fK_5 hk, ↓fK_6 hk, ↓fK_7 hk, ↓fK1_g hk, ↓fK1_s hk, ↓fK2_g hk, ↓fK2_s hk, ↓fK3_g hk, ↓fK3_s hk, f48_o ho, ↓f48_0 ho, ↓f48_0p ho, ↓f48_1 ho, ↓f48_1p ho, ↓f48_2 ho, ↓f48_2p ho, ↓f48_3 ho, ↓f48_3p ho, ↓aft_of (el), ↓aft_of (ets), ↓aft_of (em), hst, hsr, hpot, hb3, s1, nI_ne5 (show k < 2 ^ 31 by omega), q2, cl1, hd]
    · simp only [q1, if_false] at ets
      by_cases s1 : 0 < V 0 1
      · simp only [s1, if_true] at el
        simp +decide only [x84_0, x84_0N, x84_1, x84_2, x84_5, x84_8, x84_9, x84_12, x84_13, x84_16, x84_17, x84_18, x84_20, x84_23, x84_24, x84_25, x84_26, x84_29, x84_32, x84_32N, x84_33, x84_36, x84_37, x84_40, x84_43, x84_46, x84_47, x84_50, x84_51, x84_53, x84_53N, x84_54, x84_55, x84_58, x84_60, x84_63, x84_64, x84_67, x84_68, x84_69, x84_72, x84_73, x84_74, x84_76, x84_78, x84_79, x84_82, x84_83, x84_84, x84_86, x84_89, x84_90, x84_93, x84_93N, x84_94, x84_97, x84_100, x84_101, x84_104, x84_105, x84_108, x84_109, x84_110, x84_113, x84_114, x84_117, x84_120, x84_121, x84_122, x84_125, x84_126, x84_127, x84_130, x84_130N, x84_131, x84_134, x84_135, x84_136, x84_137, x84_138, x84_139, x84_140, x84_141, x84_144, x84_145, x84_148, x84_149, x84_150, x84_153, x84_154, x84_157, x84_158, x84_161, x84_163, x84_164, x84_167, x84_169, aft_some, aft_void, Option.bind_some, Option.toList_some, Option.toList_none, List.cons_append, List.nil_append, if_true, if_false, ↓reduceIte, eq_self, f0_o ho, ↓f0_0 ho, ↓f0_0p ho, ↓f0_1 ho, ↓f0_1p ho, ↓f0_2 ho, ↓f0_2p ho, ↓f0_3 ho, ↓f0_3p ho, ↓f0_4 ho, ↓f0_5 ho, ↓f0_6 ho, ↓f0_7 ho, ↓f0_8 ho, ↓f0_9 ho, ↓f0_10 ho, ↓f0_11 ho, ↓f1_g ho, ↓f1_s ho, ↓f2_g ho, ↓f2_s ho, fK_o hk, ↓fK_0 hk, ↓fK_0p hk, ↓fK_1 hk, ↓fK_1p hk, ↓fK_2 hk, ↓fK_2p hk, ↓fK_3 hk, ↓fK_3p hk, ↓fK_4 hk, ↓fK_4p hk, ↓fK_5 hk, ↓fK_6 hk, ↓fK_7 hk, ↓fK1_g hk, ↓fK1_s hk, ↓fK2_g hk, ↓fK2_s hk, ↓fK3_g hk, ↓fK3_s hk, f48_o ho, ↓f48_0 ho, ↓f48_0p ho, ↓f48_1 ho, ↓f48_1p ho, ↓f48_2 ho, ↓f48_2p ho, ↓f48_3 ho, ↓f48_3p ho, ↓aft_of (el), ↓aft_of (ets), ↓aft_of (em), hst, hsr, hpot, hb3, s1, nI_ne5 (show k < 2 ^ 31 by omega), cl1, hd]
      · simp only [s1, if_false] at el
        simp +decide only [x84_0, x84_0N, x84_1, x84_2, x84_5, x84_8, x84_9, x84_12, x84_13, x84_16, x84_17, x84_18, x84_20, x84_23, x84_24, x84_25, x84_26, x84_29, x84_32, x84_32N, x84_33, x84_36, x84_37, x84_40, x84_43, x84_46, x84_47, x84_50, x84_51, x84_53, x84_53N, x84_54, x84_55, x84_58, x84_60, x84_63, x84_64, x84_67, x84_68, x84_69, x84_72, x84_73, x84_74, x84_76, x84_78, x84_79, x84_82, x84_83, x84_84, x84_86, x84_89, x84_90, x84_93, x84_93N, x84_94, x84_97, x84_100, x84_101, x84_104, x84_105, x84_108, x84_109, x84_110, x84_113, x84_114, x84_117, x84_120, x84_121, x84_122, x84_125, x84_126, x84_127, x84_130, x84_130N, x84_131, x84_134, x84_135, x84_136, x84_137, x84_138, x84_139, x84_140, x84_141, x84_144, x84_145, x84_148, x84_149, x84_150, x84_153, x84_154, x84_157, x84_158, x84_161, x84_163, x84_164, x84_167, x84_169, aft_some, aft_void, Option.bind_some, Option.toList_some, Option.toList_none, List.cons_append, List.nil_append, if_true, if_false, ↓reduceIte, eq_self, f0_o ho, ↓f0_0 ho, ↓f0_0p ho, ↓f0_1 ho, ↓f0_1p ho, ↓f0_2 ho, ↓f0_2p ho, ↓f0_3 ho, ↓f0_3p ho, ↓f0_4 ho, ↓f0_5 ho, ↓f0_6 ho, ↓f0_7 ho, ↓f0_8 ho, ↓f0_9 ho, ↓f0_10 ho, ↓f0_11 ho, ↓f1_g ho, ↓f1_s ho, ↓f2_g ho, ↓f2_s ho, fK_o hk, ↓fK_0 hk, ↓fK_0p hk, ↓fK_1 hk, ↓fK_1p hk, ↓fK_2 hk, ↓fK_2p hk, ↓fK_3 hk, ↓fK_3p hk, ↓fK_4 hk, ↓fK_4p hk, ↓fK_5 hk, ↓fK_6 hk, ↓fK_7 hk, ↓fK1_g hk, ↓fK1_s hk, ↓fK2_g hk, ↓fK2_s hk, ↓fK3_g hk, ↓fK3_s hk, f48_o ho, ↓f48_0 ho, ↓f48_0p ho, ↓f48_1 ho, ↓f48_1p ho, ↓f48_2 ho, ↓f48_2p ho, ↓f48_3 ho, ↓f48_3p ho, ↓aft_of (el), ↓aft_of (ets), ↓aft_of (em), hst, hsr, hpot, hb3, s1, nI_ne5 (show k < 2 ^ 31 by omega), cl1, hd]
/-- what the state is behind one piece, by its cells -/
theorem CS_iron (ho : isB o) (h : CS o T P N V K B R) (hw : WF N V K B) {i k : Nat} (hi : i < K.length) (hk4 : k < 4) {U : Nat → Nat → Int32} (hf : ∀ a, a ≠ o → a ≠ o + 48 → a ≠ P (o + 8) i + 2 → U a = T a) (h0 : ∀ j, U o j = inV V (gK K i) k 0 j ∨ (4 ≤ j) ) (h48 : ∀ j, j < 4 → U (o + 48) j = inV V (gK K i) k 48 j) (hb : U (P (o + 8) i + 2) = upA (T (P (o + 8) i + 2)) k (T (P (o + 8) i + 2) k + 1)) : CS o U P N (inV V (gK K i) k) (K.set i (inB (gK K i) k)) B R := by
  have h8 : K.length ≤ 8 := hw.1.2.2.2.1
  obtain ⟨⟨k0, k1, k2, k00⟩, ⟨k3, k4, k5, k6⟩, ⟨kP, kn, kc, kK⟩, kB, kL, k48, kJ⟩ := id h
  have hr := kP.rg (show i < 8 by omega)
  have hV : ∀ r, r ≠ 0 → r ≠ 48 → inV V (gK K i) k r = V r := fun r g0 g48 => by simp only [inV, upA_n _ _ g0, upA_n _ _ g48]
  refine ⟨⟨?_, ?_, ?_, ?_⟩, ⟨?_, ?_, ?_, ?_⟩, ⟨kP, ?_, ?_, ?_⟩, ?_, ?_, h48, ?_⟩
  · intro j hj
    rcases h0 j with q | q
    · exact q
    · omega
  · intro j hj
    rw [hf _ (by omega) (by omega) (by omega), hV 1 (by decide) (by decide)]; exact k1 j hj
  · intro j hj
    rw [hf _ (by omega) (by omega) (by omega), hV 2 (by decide) (by decide)]; exact k2 j hj
  · simp +decide only [inV, upA_s, u_n]; exact k00
  · rw [hf _ (by omega) (by omega) (by omega)]; exact k3
  · intro j hj
    rw [hf _ (by omega) (by omega) (by omega), hV 4 (by decide) (by decide)]; exact k4 j hj
  · intro j hj
    rw [hf _ (by omega) (by omega) (by omega), hV 5 (by decide) (by decide)]; exact k5 j hj
  · intro j hj
    rw [hf _ (by omega) (by omega) (by omega), hV 6 (by decide) (by decide)]; exact k6 j hj
  · rw [hf _ (by omega) (by omega) (by omega), List.length_set]; exact kn
  · rw [hf _ (by omega) (by omega) (by omega)]; exact kc
  · intro j q hq
    by_cases hji : i = j
    · subst hji
      rw [List.getElem?_set_self hi] at hq
      cases hq
      have hbk := h.at hi
      refine ⟨fun m hm => ?_, fun m hm => ?_⟩
      · rw [hf _ (by omega) (by omega) (by omega), hbk.1 m hm]; simp +decide only [inB, u_n]
      · have g := hbk.2 m hm
        rw [hf (P (o + 8) i + 1) (by omega) (by omega) (by omega), hf (P (o + 8) i + 3) (by omega) (by omega) (by omega), hb, g.1, g.2.2]
        refine ⟨by simp +decide only [inB, u_n], ?_, by simp +decide only [inB, u_n]⟩
        simp only [inB, upA_s]
        unfold upA
        by_cases hmk : m = k
        · subst hmk; rw [if_pos rfl, if_pos rfl, g.2.1]
        · rw [if_neg hmk, if_neg hmk, g.2.1]
    · rw [List.getElem?_set_ne hji] at hq
      have hjl : j < K.length := (List.getElem?_eq_some_iff.mp hq).1
      have ap := kP.ap (show j < 8 by omega) (show i < 8 by omega) (Ne.symm hji)
      have hrj := kP.rg (show j < 8 by omega)
      exact (kK j q hq).same (fun x hx => hf _ (by omega) (by omega) (ap x 2 hx (by decide)))
  · exact kB.other (hf _ (by omega) (by omega) (by omega)) (hf _ (by omega) (by omega) (by omega)) (hf _ (by omega) (by omega) (by omega)) (hf _ (by omega) (by omega) (by omega))
  · rw [hV 46 (by decide) (by decide), hV 47 (by decide) (by decide)]
    exact kL.same (hf _ (by omega) (by omega) (by omega)) (hf _ (by omega) (by omega) (by omega)) (hf _ (by omega) (by omega) (by omega))
  · exact kJ.same (hf _ (by omega) (by omega) (by omega)) (hf _ (by omega) (by omega) (by omega))
theorem c_ironDo (ho : isB o) (h : CS o T P N V K B R) (hw : WF N V K B) {i k : Nat} (hi : i < K.length) (hk4 : k < 4) (hl : lkK (gK K i) (if 0 < V 0 1 then 1 else 0) = nI k) (hd : ¬ left < ndI V (gK K i) k) : ∃ T', X 84 0 [.ref o, .ref (P (o + 8) i), .int left, .long 0, .long 0, .long 0] [] (H T P) = some (some (.int (ndI V (gK K i) k)), H T' P) ∧ (∀ a, (a < o ∨ o + 51 ≤ a) → T' a = T a) ∧ CS o T' P N (inV V (gK K i) k) (K.set i (inB (gK K i) k)) B R := by
  have h8 : K.length ≤ 8 := hw.1.2.2.2.1
  have hk := h.pk.k ho (show i < 8 by omega)
  have hr := h.pk.rg (show i < 8 by omega)
  have el := c_lowest (T := T) (P := P) hk (if 0 < V 0 1 then 1 else 0)
  rw [(h.at hi).lk, hl] at el
  have hst : T o 1 = V 0 1 := h.1.1 1 (by decide)
  have hsr : T (o + 1) 1 = V 1 1 := h.1.2.1 1 (by decide)
  have hpot : T (o + 48) 0 = V 48 0 := h.2.2.2.2.2.1 0 (by decide)
  have hp1 : T (o + 48) 1 = V 48 1 := h.2.2.2.2.2.1 1 (by decide)
  have hp2 : T (o + 48) 2 = V 48 2 := h.2.2.2.2.2.1 2 (by decide)
  have hp3 : T (o + 48) 3 = V 48 3 := h.2.2.2.2.2.1 3 (by decide)
  have hb3 : T (P (o + 8) i) 3 = gK K i 0 3 := (h.at hi).1 3 (by decide)
  have em := c_minutes (T := T) (P := P) hk k hk4
  rw [hb3] at em
  have ets := c_takesStarch (T := T) (P := P) k hk4
  have etg : ∀ U, X 5 0 [.int (nI k)] [] (H U P) = some (some (.int (if k < 3 then 1 else 0)), H U P) := fun U => c_takesHanger k hk4
  have f1 : ∀ (U : Nat → Nat → Int32) f, upA U (o + 48) f (P (o + 8) i) = U (P (o + 8) i) := fun U f => upA_n _ _ (by omega)
  have f2 : ∀ (U : Nat → Nat → Int32) f, upA U o f (P (o + 8) i) = U (P (o + 8) i) := fun U f => upA_n _ _ (by omega)
  have f3 : ∀ (U : Nat → Nat → Int32) f, upA U (o + 48) f (P (o + 8) i + 2) = U (P (o + 8) i + 2) := fun U f => upA_n _ _ (by omega)
  have f4 : ∀ (U : Nat → Nat → Int32) f, upA U o f (P (o + 8) i + 2) = U (P (o + 8) i + 2) := fun U f => upA_n _ _ (by omega)
  have f5 : ∀ (U : Nat → Nat → Int32) f, upA U (P (o + 8) i + 2) f (o + 48) = U (o + 48) := fun U f => upA_n _ _ (by omega)
  have f6 : ∀ (U : Nat → Nat → Int32) f, upA U (P (o + 8) i + 2) f o = U o := fun U f => upA_n _ _ (by omega)
  have fin : ∀ U : Nat → Nat → Int32, (∀ a, a ≠ o → a ≠ o + 48 → a ≠ P (o + 8) i + 2 → U a = T a) → (∀ a, (a < o ∨ o + 51 ≤ a) → U a = T a) := fun U g a ha => g a (by omega) (by omega) (by omega)
  have ok := okx_nI hk4 (show (4 : Nat) < 2 ^ 31 by decide)
  have ncl := nI_clamp (show k < 2 ^ 31 by omega)
  have ne5 := nI_ne5 (show k < 2 ^ 31 by omega)
  have htr : ∀ a, a ≠ o → a ≠ o + 48 → a ≠ P (o + 8) i + 2 → ∀ (U : Nat → Nat → Int32) f g, upA U o f a = U a ∧ upA U (o + 48) f a = U a ∧ upA U (P (o + 8) i + 2) g a = U a := fun a g0 g1 g2 U f g => ⟨upA_n _ _ g0, upA_n _ _ g1, upA_n _ _ g2⟩
  rcases sb_or V (gK K i) k with ⟨hs, hsb, hnd⟩ | ⟨hs, hsb, hnd⟩
  · rw [hnd] at hd ⊢
    have q1 : k < 2 := hs.1
    have q3 : k < 3 := by omega
    have q2 : (gK K i 0 3 = V 48 0) = False := eq_false hs.2
    simp only [q1, if_true] at ets
    simp only [q3, if_true] at etg
    have run : ∃ U, X 84 0 [.ref o, .ref (P (o + 8) i), .int left, .long 0, .long 0, .long 0] [] (H T P) = some (some (.int (mnI (gK K i 0 3) k + V 1 1)), H U P) ∧ (∀ a, a ≠ o → a ≠ o + 48 → a ≠ P (o + 8) i + 2 → U a = T a) ∧ U o = upA (T o) 1 (V 0 1 - 1) ∧ (U (o + 48) 0 = gK K i 0 3 ∧ U (o + 48) 1 = V 48 1 + 1 ∧ U (o + 48) 2 = V 48 2 + 1 ∧ U (o + 48) 3 = V 48 3 + (mnI (gK K i 0 3) k + V 1 1)) ∧ U (P (o + 8) i + 2) = upA (T (P (o + 8) i + 2)) k (T (P (o + 8) i + 2) k + 1) := by
      by_cases s1 : 0 < V 0 1
      · simp only [s1, if_true] at el
        refine ⟨_, by
          simp +decide only [x84_0, x84_0N, x84_1, x84_2, x84_5, x84_8, x84_9, x84_12, x84_13, x84_16, x84_17, x84_18, x84_20, x84_23, x84_24, x84_25, x84_26, x84_29, x84_32, x84_32N, x84_33, x84_36, x84_37, x84_40, x84_43, x84_46, x84_47, x84_50, x84_51, x84_53, x84_53N, x84_54, x84_55, x84_58, x84_60, x84_63, x84_64, x84_67, x84_68, x84_69, x84_72, x84_73, x84_74, x84_76, x84_78, x84_79, x84_82, x84_83, x84_84, x84_86, x84_89, x84_90, x84_93, x84_93N, x84_94, x84_97, x84_100, x84_101, x84_104, x84_105, x84_108, x84_109, x84_110, x84_113, x84_114, x84_117, x84_120, x84_121, x84_122, x84_125, x84_126, x84_127, x84_130, x84_130N, x84_131, x84_134, x84_135, x84_136, x84_137, x84_138, x84_139, x84_140, x84_141, x84_144, x84_145, x84_148, x84_149, x84_150, x84_153, x84_154, x84_157, x84_158, x84_161, x84_163, x84_164, x84_167, x84_169, aft_some, aft_void, Option.bind_some, Option.toList_some, Option.toList_none, List.cons_append, List.nil_append, if_true, if_false, ↓reduceIte, eq_self, f0_o ho, ↓f0_0 ho, ↓f0_0p ho, ↓f0_1 ho, ↓f0_1p ho, ↓f0_2 ho, ↓f0_2p ho, ↓f0_3 ho, ↓f0_3p ho, ↓f0_4 ho, ↓f0_5 ho, ↓f0_6 ho, ↓f0_7 ho, ↓f0_8 ho, ↓f0_9 ho, ↓f0_10 ho, ↓f0_11 ho, ↓f1_g ho, ↓f1_s ho, ↓f2_g ho, ↓f2_s ho, fK_o hk, ↓fK_0 hk, ↓fK_0p hk, ↓fK_1 hk, ↓fK_1p hk, ↓fK_2 hk, ↓fK_2p hk, ↓fK_3 hk, ↓fK_3p hk, ↓fK_4 hk, ↓fK_4p hk, ↓fK_5 hk, ↓fK_6 hk, ↓fK_7 hk, ↓fK1_g hk, ↓fK1_s hk, ↓fK2_g hk, ↓fK2_s hk, ↓fK3_g hk, ↓fK3_s hk, f48_o ho, ↓f48_0 ho, ↓f48_0p ho, ↓f48_1 ho, ↓f48_1p ho, ↓f48_2 ho, ↓f48_2p ho, ↓f48_3 ho, ↓f48_3p ho, upA_s, u_oo, u_o0, u_0o, u_n, f1, f2, f3, f4, f5, f6, ↓aft_of (el), ↓aft_of (ets), ↓aft_of (em), ↓aft_of (etg _), hst, hsr, hpot, hp1, hp2, hp3, hb3, s1, ne5, q2, cl1, hd, ok, ncl]
          rfl, ?_, ?_, ⟨?_, ?_, ?_, ?_⟩, ?_⟩
        · intro a g0 g1 g2
          simp only [upA_n _ _ g0, upA_n _ _ g1, upA_n _ _ g2]
        all_goals simp +decide only [upA_s, u_n, u_oo, u_o0, u_0o, f1, f2, f3, f4, f5, f6]
      · simp only [s1, if_false] at el
        refine ⟨_, by
          simp +decide only [x84_0, x84_0N, x84_1, x84_2, x84_5, x84_8, x84_9, x84_12, x84_13, x84_16, x84_17, x84_18, x84_20, x84_23, x84_24, x84_25, x84_26, x84_29, x84_32, x84_32N, x84_33, x84_36, x84_37, x84_40, x84_43, x84_46, x84_47, x84_50, x84_51, x84_53, x84_53N, x84_54, x84_55, x84_58, x84_60, x84_63, x84_64, x84_67, x84_68, x84_69, x84_72, x84_73, x84_74, x84_76, x84_78, x84_79, x84_82, x84_83, x84_84, x84_86, x84_89, x84_90, x84_93, x84_93N, x84_94, x84_97, x84_100, x84_101, x84_104, x84_105, x84_108, x84_109, x84_110, x84_113, x84_114, x84_117, x84_120, x84_121, x84_122, x84_125, x84_126, x84_127, x84_130, x84_130N, x84_131, x84_134, x84_135, x84_136, x84_137, x84_138, x84_139, x84_140, x84_141, x84_144, x84_145, x84_148, x84_149, x84_150, x84_153, x84_154, x84_157, x84_158, x84_161, x84_163, x84_164, x84_167, x84_169, aft_some, aft_void, Option.bind_some, Option.toList_some, Option.toList_none, List.cons_append, List.nil_append, if_true, if_false, ↓reduceIte, eq_self, f0_o ho, ↓f0_0 ho, ↓f0_0p ho, ↓f0_1 ho, ↓f0_1p ho, ↓f0_2 ho, ↓f0_2p ho, ↓f0_3 ho, ↓f0_3p ho, ↓f0_4 ho, ↓f0_5 ho, ↓f0_6 ho, ↓f0_7 ho, ↓f0_8 ho, ↓f0_9 ho, ↓f0_10 ho, ↓f0_11 ho, ↓f1_g ho, ↓f1_s ho, ↓f2_g ho, ↓f2_s ho, fK_o hk, ↓fK_0 hk, ↓fK_0p hk, ↓fK_1 hk, ↓fK_1p hk, ↓fK_2 hk, ↓fK_2p hk, ↓fK_3 hk, ↓fK_3p hk, ↓fK_4 hk, ↓fK_4p hk, ↓fK_5 hk, ↓fK_6 hk, ↓fK_7 hk, ↓fK1_g hk, ↓fK1_s hk, ↓fK2_g hk, ↓fK2_s hk, ↓fK3_g hk, ↓fK3_s hk, f48_o ho, ↓f48_0 ho, ↓f48_0p ho, ↓f48_1 ho, ↓f48_1p ho, ↓f48_2 ho, ↓f48_2p ho, ↓f48_3 ho, ↓f48_3p ho, upA_s, u_oo, u_o0, u_0o, u_n, f1, f2, f3, f4, f5, f6, ↓aft_of (el), ↓aft_of (ets), ↓aft_of (em), ↓aft_of (etg _), hst, hsr, hpot, hp1, hp2, hp3, hb3, s1, ne5, q2, cl1, hd, ok, ncl]
          rfl, ?_, ?_, ⟨?_, ?_, ?_, ?_⟩, ?_⟩
        · intro a g0 g1 g2
          simp only [upA_n _ _ g0, upA_n _ _ g1, upA_n _ _ g2]
        all_goals simp +decide only [upA_s, u_n, u_oo, u_o0, u_0o, f1, f2, f3, f4, f5, f6]
    obtain ⟨U, e, g1, g2, g3, g4⟩ := run
    refine ⟨U, e, fin U g1, CS_iron ho h hw hi hk4 g1 (fun j => ?_) (fun j hj => ?_) g4⟩
    · by_cases hj : 4 ≤ j
      · exact Or.inr hj
      · refine Or.inl ?_
        rw [g2]
        simp +decide only [inV, upA_s, u_n, q3, if_true]
        unfold upA
        by_cases hj1 : j = 1
        · rw [if_pos hj1, if_pos hj1]
        · rw [if_neg hj1, if_neg hj1]; exact h.1.1 j (by omega)
    · simp only [inV, upA_s, if_pos hs, hsb, hnd]
      match j, hj with
      | 0, _ => exact g3.1
      | 1, _ => exact g3.2.1
      | 2, _ => exact g3.2.2.1
      | 3, _ => exact g3.2.2.2
  · rw [hnd] at hd ⊢
    have run : ∃ U, X 84 0 [.ref o, .ref (P (o + 8) i), .int left, .long 0, .long 0, .long 0] [] (H T P) = some (some (.int (mnI (gK K i 0 3) k + 0)), H U P) ∧ (∀ a, a ≠ o → a ≠ o + 48 → a ≠ P (o + 8) i + 2 → U a = T a) ∧ U o = (if k < 3 then upA (T o) 1 (V 0 1 - 1) else T o) ∧ (U (o + 48) 0 = V 48 0 ∧ U (o + 48) 1 = V 48 1 ∧ U (o + 48) 2 = V 48 2 + 1 ∧ U (o + 48) 3 = V 48 3 + (mnI (gK K i 0 3) k + 0)) ∧ U (P (o + 8) i + 2) = upA (T (P (o + 8) i + 2)) k (T (P (o + 8) i + 2) k + 1) := by
      have q2 : k < 2 → (gK K i 0 3 = V 48 0) = True := fun q1 => eq_true (Classical.not_not.mp fun q => hs ⟨q1, q⟩)
      by_cases q1 : k < 2
      · have q2 := q2 q1
        have q3 : k < 3 := by omega
        simp only [q1, if_true] at ets
        simp only [q3, if_true] at etg ⊢
        by_cases s1 : 0 < V 0 1
        · simp only [s1, if_true] at el
          refine ⟨_, by
            simp +decide only [x84_0, x84_0N, x84_1, x84_2, x84_5, x84_8, x84_9, x84_12, x84_13, x84_16, x84_17, x84_18, x84_20, x84_23, x84_24, x84_25, x84_26, x84_29, x84_32, x84_32N, x84_33, x84_36, x84_37, x84_40, x84_43, x84_46, x84_47, x84_50, x84_51, x84_53, x84_53N, x84_54, x84_55, x84_58, x84_60, x84_63, x84_64, x84_67, x84_68, x84_69, x84_72, x84_73, x84_74, x84_76, x84_78, x84_79, x84_82, x84_83, x84_84, x84_86, x84_89, x84_90, x84_93, x84_93N, x84_94, x84_97, x84_100, x84_101, x84_104, x84_105, x84_108, x84_109, x84_110, x84_113, x84_114, x84_117, x84_120, x84_121, x84_122, x84_125, x84_126, x84_127, x84_130, x84_130N, x84_131, x84_134, x84_135, x84_136, x84_137, x84_138, x84_139, x84_140, x84_141, x84_144, x84_145, x84_148, x84_149, x84_150, x84_153, x84_154, x84_157, x84_158, x84_161, x84_163, x84_164, x84_167, x84_169, aft_some, aft_void, Option.bind_some, Option.toList_some, Option.toList_none, List.cons_append, List.nil_append, if_true, if_false, ↓reduceIte, eq_self, f0_o ho, ↓f0_0 ho, ↓f0_0p ho, ↓f0_1 ho, ↓f0_1p ho, ↓f0_2 ho, ↓f0_2p ho, ↓f0_3 ho, ↓f0_3p ho, ↓f0_4 ho, ↓f0_5 ho, ↓f0_6 ho, ↓f0_7 ho, ↓f0_8 ho, ↓f0_9 ho, ↓f0_10 ho, ↓f0_11 ho, ↓f1_g ho, ↓f1_s ho, ↓f2_g ho, ↓f2_s ho, fK_o hk, ↓fK_0 hk, ↓fK_0p hk, ↓fK_1 hk, ↓fK_1p hk, ↓fK_2 hk, ↓fK_2p hk, ↓fK_3 hk, ↓fK_3p hk, ↓fK_4 hk, ↓fK_4p hk, ↓fK_5 hk, ↓fK_6 hk, ↓fK_7 hk, ↓fK1_g hk, ↓fK1_s hk, ↓fK2_g hk, ↓fK2_s hk, ↓fK3_g hk, ↓fK3_s hk, f48_o ho, ↓f48_0 ho, ↓f48_0p ho, ↓f48_1 ho, ↓f48_1p ho, ↓f48_2 ho, ↓f48_2p ho, ↓f48_3 ho, ↓f48_3p ho, upA_s, u_oo, u_o0, u_0o, u_n, f1, f2, f3, f4, f5, f6, ↓aft_of (el), ↓aft_of (ets), ↓aft_of (em), ↓aft_of (etg _), hst, hsr, hpot, hp1, hp2, hp3, hb3, s1, ne5, q2, cl1, hd, ok, ncl]
            rfl, ?_, ?_, ⟨?_, ?_, ?_, ?_⟩, ?_⟩
          · intro a g0 g1 g2
            simp only [upA_n _ _ g0, upA_n _ _ g1, upA_n _ _ g2]
          all_goals simp +decide only [upA_s, u_n, u_oo, u_o0, u_0o, f1, f2, f3, f4, f5, f6, hpot, hp1]
        · simp only [s1, if_false] at el
          refine ⟨_, by
            simp +decide only [x84_0, x84_0N, x84_1, x84_2, x84_5, x84_8, x84_9, x84_12, x84_13, x84_16, x84_17, x84_18, x84_20, x84_23, x84_24, x84_25, x84_26, x84_29, x84_32, x84_32N, x84_33, x84_36, x84_37, x84_40, x84_43, x84_46, x84_47, x84_50, x84_51, x84_53, x84_53N, x84_54, x84_55, x84_58, x84_60, x84_63, x84_64, x84_67, x84_68, x84_69, x84_72, x84_73, x84_74, x84_76, x84_78, x84_79, x84_82, x84_83, x84_84, x84_86, x84_89, x84_90, x84_93, x84_93N, x84_94, x84_97, x84_100, x84_101, x84_104, x84_105, x84_108, x84_109, x84_110, x84_113, x84_114, x84_117, x84_120, x84_121, x84_122, x84_125, x84_126, x84_127, x84_130, x84_130N, x84_131, x84_134, x84_135, x84_136, x84_137, x84_138, x84_139, x84_140, x84_141, x84_144, x84_145, x84_148, x84_149, x84_150, x84_153, x84_154, x84_157, x84_158, x84_161, x84_163, x84_164, x84_167, x84_169, aft_some, aft_void, Option.bind_some, Option.toList_some, Option.toList_none, List.cons_append, List.nil_append, if_true, if_false, ↓reduceIte, eq_self, f0_o ho, ↓f0_0 ho, ↓f0_0p ho, ↓f0_1 ho, ↓f0_1p ho, ↓f0_2 ho, ↓f0_2p ho, ↓f0_3 ho, ↓f0_3p ho, ↓f0_4 ho, ↓f0_5 ho, ↓f0_6 ho, ↓f0_7 ho, ↓f0_8 ho, ↓f0_9 ho, ↓f0_10 ho, ↓f0_11 ho, ↓f1_g ho, ↓f1_s ho, ↓f2_g ho, ↓f2_s ho, fK_o hk, ↓fK_0 hk, ↓fK_0p hk, ↓fK_1 hk, ↓fK_1p hk, ↓fK_2 hk, ↓fK_2p hk, ↓fK_3 hk, ↓fK_3p hk, ↓fK_4 hk, ↓fK_4p hk, ↓fK_5 hk, ↓fK_6 hk, ↓fK_7 hk, ↓fK1_g hk, ↓fK1_s hk, ↓fK2_g hk, ↓fK2_s hk, ↓fK3_g hk, ↓fK3_s hk, f48_o ho, ↓f48_0 ho, ↓f48_0p ho, ↓f48_1 ho, ↓f48_1p ho, ↓f48_2 ho, ↓f48_2p ho, ↓f48_3 ho, ↓f48_3p ho, upA_s, u_oo, u_o0, u_0o, u_n, f1, f2, f3, f4, f5, f6, ↓aft_of (el), ↓aft_of (ets), ↓aft_of (em), ↓aft_of (etg _), hst, hsr, hpot, hp1, hp2, hp3, hb3, s1, ne5, q2, cl1, hd, ok, ncl]
            rfl, ?_, ?_, ⟨?_, ?_, ?_, ?_⟩, ?_⟩
          · intro a g0 g1 g2
            simp only [upA_n _ _ g0, upA_n _ _ g1, upA_n _ _ g2]
          all_goals simp +decide only [upA_s, u_n, u_oo, u_o0, u_0o, f1, f2, f3, f4, f5, f6, hpot, hp1]
      · simp only [q1, if_false] at ets
        by_cases q3 : k < 3
        · simp only [q3, if_true] at etg ⊢
          by_cases s1 : 0 < V 0 1
          · simp only [s1, if_true] at el
            refine ⟨_, by
              simp +decide only [x84_0, x84_0N, x84_1, x84_2, x84_5, x84_8, x84_9, x84_12, x84_13, x84_16, x84_17, x84_18, x84_20, x84_23, x84_24, x84_25, x84_26, x84_29, x84_32, x84_32N, x84_33, x84_36, x84_37, x84_40, x84_43, x84_46, x84_47, x84_50, x84_51, x84_53, x84_53N, x84_54, x84_55, x84_58, x84_60, x84_63, x84_64, x84_67, x84_68, x84_69, x84_72, x84_73, x84_74, x84_76, x84_78, x84_79, x84_82, x84_83, x84_84, x84_86, x84_89, x84_90, x84_93, x84_93N, x84_94, x84_97, x84_100, x84_101, x84_104, x84_105, x84_108, x84_109, x84_110, x84_113, x84_114, x84_117, x84_120, x84_121, x84_122, x84_125, x84_126, x84_127, x84_130, x84_130N, x84_131, x84_134, x84_135, x84_136, x84_137, x84_138, x84_139, x84_140, x84_141, x84_144, x84_145, x84_148, x84_149, x84_150, x84_153, x84_154, x84_157, x84_158, x84_161, x84_163, x84_164, x84_167, x84_169, aft_some, aft_void, Option.bind_some, Option.toList_some, Option.toList_none, List.cons_append, List.nil_append, if_true, if_false, ↓reduceIte, eq_self, f0_o ho, ↓f0_0 ho, ↓f0_0p ho, ↓f0_1 ho, ↓f0_1p ho, ↓f0_2 ho, ↓f0_2p ho, ↓f0_3 ho, ↓f0_3p ho, ↓f0_4 ho, ↓f0_5 ho, ↓f0_6 ho, ↓f0_7 ho, ↓f0_8 ho, ↓f0_9 ho, ↓f0_10 ho, ↓f0_11 ho, ↓f1_g ho, ↓f1_s ho, ↓f2_g ho, ↓f2_s ho, fK_o hk, ↓fK_0 hk, ↓fK_0p hk, ↓fK_1 hk, ↓fK_1p hk, ↓fK_2 hk, ↓fK_2p hk, ↓fK_3 hk, ↓fK_3p hk, ↓fK_4 hk, ↓fK_4p hk, ↓fK_5 hk, ↓fK_6 hk, ↓fK_7 hk, ↓fK1_g hk, ↓fK1_s hk, ↓fK2_g hk, ↓fK2_s hk, ↓fK3_g hk, ↓fK3_s hk, f48_o ho, ↓f48_0 ho, ↓f48_0p ho, ↓f48_1 ho, ↓f48_1p ho, ↓f48_2 ho, ↓f48_2p ho, ↓f48_3 ho, ↓f48_3p ho, upA_s, u_oo, u_o0, u_0o, u_n, f1, f2, f3, f4, f5, f6, ↓aft_of (el), ↓aft_of (ets), ↓aft_of (em), ↓aft_of (etg _), hst, hsr, hpot, hp1, hp2, hp3, hb3, s1, ne5, cl1, hd, ok, ncl]
              rfl, ?_, ?_, ⟨?_, ?_, ?_, ?_⟩, ?_⟩
            · intro a g0 g1 g2
              simp only [upA_n _ _ g0, upA_n _ _ g1, upA_n _ _ g2]
            all_goals simp +decide only [upA_s, u_n, u_oo, u_o0, u_0o, f1, f2, f3, f4, f5, f6, hpot, hp1]
          · simp only [s1, if_false] at el
            refine ⟨_, by
              simp +decide only [x84_0, x84_0N, x84_1, x84_2, x84_5, x84_8, x84_9, x84_12, x84_13, x84_16, x84_17, x84_18, x84_20, x84_23, x84_24, x84_25, x84_26, x84_29, x84_32, x84_32N, x84_33, x84_36, x84_37, x84_40, x84_43, x84_46, x84_47, x84_50, x84_51, x84_53, x84_53N, x84_54, x84_55, x84_58, x84_60, x84_63, x84_64, x84_67, x84_68, x84_69, x84_72, x84_73, x84_74, x84_76, x84_78, x84_79, x84_82, x84_83, x84_84, x84_86, x84_89, x84_90, x84_93, x84_93N, x84_94, x84_97, x84_100, x84_101, x84_104, x84_105, x84_108, x84_109, x84_110, x84_113, x84_114, x84_117, x84_120, x84_121, x84_122, x84_125, x84_126, x84_127, x84_130, x84_130N, x84_131, x84_134, x84_135, x84_136, x84_137, x84_138, x84_139, x84_140, x84_141, x84_144, x84_145, x84_148, x84_149, x84_150, x84_153, x84_154, x84_157, x84_158, x84_161, x84_163, x84_164, x84_167, x84_169, aft_some, aft_void, Option.bind_some, Option.toList_some, Option.toList_none, List.cons_append, List.nil_append, if_true, if_false, ↓reduceIte, eq_self, f0_o ho, ↓f0_0 ho, ↓f0_0p ho, ↓f0_1 ho, ↓f0_1p ho, ↓f0_2 ho, ↓f0_2p ho, ↓f0_3 ho, ↓f0_3p ho, ↓f0_4 ho, ↓f0_5 ho, ↓f0_6 ho, ↓f0_7 ho, ↓f0_8 ho, ↓f0_9 ho, ↓f0_10 ho, ↓f0_11 ho, ↓f1_g ho, ↓f1_s ho, ↓f2_g ho, ↓f2_s ho, fK_o hk, ↓fK_0 hk, ↓fK_0p hk, ↓fK_1 hk, ↓fK_1p hk, ↓fK_2 hk, ↓fK_2p hk, ↓fK_3 hk, ↓fK_3p hk, ↓fK_4 hk, ↓fK_4p hk, ↓fK_5 hk, ↓fK_6 hk, ↓fK_7 hk, ↓fK1_g hk, ↓fK1_s hk, ↓fK2_g hk, ↓fK2_s hk, ↓fK3_g hk, ↓fK3_s hk, f48_o ho, ↓f48_0 ho, ↓f48_0p ho, ↓f48_1 ho, ↓f48_1p ho, ↓f48_2 ho, ↓f48_2p ho, ↓f48_3 ho, ↓f48_3p ho, upA_s, u_oo, u_o0, u_0o, u_n, f1, f2, f3, f4, f5, f6, ↓aft_of (el), ↓aft_of (ets), ↓aft_of (em), ↓aft_of (etg _), hst, hsr, hpot, hp1, hp2, hp3, hb3, s1, ne5, cl1, hd, ok, ncl]
              rfl, ?_, ?_, ⟨?_, ?_, ?_, ?_⟩, ?_⟩
            · intro a g0 g1 g2
              simp only [upA_n _ _ g0, upA_n _ _ g1, upA_n _ _ g2]
            all_goals simp +decide only [upA_s, u_n, u_oo, u_o0, u_0o, f1, f2, f3, f4, f5, f6, hpot, hp1]
        · simp only [q3, if_false] at etg ⊢
          by_cases s1 : 0 < V 0 1
          · simp only [s1, if_true] at el
            refine ⟨_, by
              simp +decide only [x84_0, x84_0N, x84_1, x84_2, x84_5, x84_8, x84_9, x84_12, x84_13, x84_16, x84_17, x84_18, x84_20, x84_23, x84_24, x84_25, x84_26, x84_29, x84_32, x84_32N, x84_33, x84_36, x84_37, x84_40, x84_43, x84_46, x84_47, x84_50, x84_51, x84_53, x84_53N, x84_54, x84_55, x84_58, x84_60, x84_63, x84_64, x84_67, x84_68, x84_69, x84_72, x84_73, x84_74, x84_76, x84_78, x84_79, x84_82, x84_83, x84_84, x84_86, x84_89, x84_90, x84_93, x84_93N, x84_94, x84_97, x84_100, x84_101, x84_104, x84_105, x84_108, x84_109, x84_110, x84_113, x84_114, x84_117, x84_120, x84_121, x84_122, x84_125, x84_126, x84_127, x84_130, x84_130N, x84_131, x84_134, x84_135, x84_136, x84_137, x84_138, x84_139, x84_140, x84_141, x84_144, x84_145, x84_148, x84_149, x84_150, x84_153, x84_154, x84_157, x84_158, x84_161, x84_163, x84_164, x84_167, x84_169, aft_some, aft_void, Option.bind_some, Option.toList_some, Option.toList_none, List.cons_append, List.nil_append, if_true, if_false, ↓reduceIte, eq_self, f0_o ho, ↓f0_0 ho, ↓f0_0p ho, ↓f0_1 ho, ↓f0_1p ho, ↓f0_2 ho, ↓f0_2p ho, ↓f0_3 ho, ↓f0_3p ho, ↓f0_4 ho, ↓f0_5 ho, ↓f0_6 ho, ↓f0_7 ho, ↓f0_8 ho, ↓f0_9 ho, ↓f0_10 ho, ↓f0_11 ho, ↓f1_g ho, ↓f1_s ho, ↓f2_g ho, ↓f2_s ho, fK_o hk, ↓fK_0 hk, ↓fK_0p hk, ↓fK_1 hk, ↓fK_1p hk, ↓fK_2 hk, ↓fK_2p hk, ↓fK_3 hk, ↓fK_3p hk, ↓fK_4 hk, ↓fK_4p hk, ↓fK_5 hk, ↓fK_6 hk, ↓fK_7 hk, ↓fK1_g hk, ↓fK1_s hk, ↓fK2_g hk, ↓fK2_s hk, ↓fK3_g hk, ↓fK3_s hk, f48_o ho, ↓f48_0 ho, ↓f48_0p ho, ↓f48_1 ho, ↓f48_1p ho, ↓f48_2 ho, ↓f48_2p ho, ↓f48_3 ho, ↓f48_3p ho, upA_s, u_oo, u_o0, u_0o, u_n, f1, f2, f3, f4, f5, f6, ↓aft_of (el), ↓aft_of (ets), ↓aft_of (em), ↓aft_of (etg _), hst, hsr, hpot, hp1, hp2, hp3, hb3, s1, ne5, cl1, hd, ok, ncl]
              rfl, ?_, ?_, ⟨?_, ?_, ?_, ?_⟩, ?_⟩
            · intro a g0 g1 g2
              simp only [upA_n _ _ g0, upA_n _ _ g1, upA_n _ _ g2]
            all_goals simp +decide only [upA_s, u_n, u_oo, u_o0, u_0o, f1, f2, f3, f4, f5, f6, hpot, hp1]
          · simp only [s1, if_false] at el
            refine ⟨_, by
              simp +decide only [x84_0, x84_0N, x84_1, x84_2, x84_5, x84_8, x84_9, x84_12, x84_13, x84_16, x84_17, x84_18, x84_20, x84_23, x84_24, x84_25, x84_26, x84_29, x84_32, x84_32N, x84_33, x84_36, x84_37, x84_40, x84_43, x84_46, x84_47, x84_50, x84_51, x84_53, x84_53N, x84_54, x84_55, x84_58, x84_60, x84_63, x84_64, x84_67, x84_68, x84_69, x84_72, x84_73, x84_74, x84_76, x84_78, x84_79, x84_82, x84_83, x84_84, x84_86, x84_89, x84_90, x84_93, x84_93N, x84_94, x84_97, x84_100, x84_101, x84_104, x84_105, x84_108, x84_109, x84_110, x84_113, x84_114, x84_117, x84_120, x84_121, x84_122, x84_125, x84_126, x84_127, x84_130, x84_130N, x84_131, x84_134, x84_135, x84_136, x84_137, x84_138, x84_139, x84_140, x84_141, x84_144, x84_145, x84_148, x84_149, x84_150, x84_153, x84_154, x84_157, x84_158, x84_161, x84_163, x84_164, x84_167, x84_169, aft_some, aft_void, Option.bind_some, Option.toList_some, Option.toList_none, List.cons_append, List.nil_append, if_true, if_false, ↓reduceIte, eq_self, f0_o ho, ↓f0_0 ho, ↓f0_0p ho, ↓f0_1 ho, ↓f0_1p ho, ↓f0_2 ho, ↓f0_2p ho, ↓f0_3 ho, ↓f0_3p ho, ↓f0_4 ho, ↓f0_5 ho, ↓f0_6 ho, ↓f0_7 ho, ↓f0_8 ho, ↓f0_9 ho, ↓f0_10 ho, ↓f0_11 ho, ↓f1_g ho, ↓f1_s ho, ↓f2_g ho, ↓f2_s ho, fK_o hk, ↓fK_0 hk, ↓fK_0p hk, ↓fK_1 hk, ↓fK_1p hk, ↓fK_2 hk, ↓fK_2p hk, ↓fK_3 hk, ↓fK_3p hk, ↓fK_4 hk, ↓fK_4p hk, ↓fK_5 hk, ↓fK_6 hk, ↓fK_7 hk, ↓fK1_g hk, ↓fK1_s hk, ↓fK2_g hk, ↓fK2_s hk, ↓fK3_g hk, ↓fK3_s hk, f48_o ho, ↓f48_0 ho, ↓f48_0p ho, ↓f48_1 ho, ↓f48_1p ho, ↓f48_2 ho, ↓f48_2p ho, ↓f48_3 ho, ↓f48_3p ho, upA_s, u_oo, u_o0, u_0o, u_n, f1, f2, f3, f4, f5, f6, ↓aft_of (el), ↓aft_of (ets), ↓aft_of (em), ↓aft_of (etg _), hst, hsr, hpot, hp1, hp2, hp3, hb3, s1, ne5, cl1, hd, ok, ncl]
              rfl, ?_, ?_, ⟨?_, ?_, ?_, ?_⟩, ?_⟩
            · intro a g0 g1 g2
              simp only [upA_n _ _ g0, upA_n _ _ g1, upA_n _ _ g2]
            all_goals simp +decide only [upA_s, u_n, u_oo, u_o0, u_0o, f1, f2, f3, f4, f5, f6, hpot, hp1]
    obtain ⟨U, e, g1, g2, g3, g4⟩ := run
    refine ⟨U, e, fin U g1, CS_iron ho h hw hi hk4 g1 (fun j => ?_) (fun j hj => ?_) g4⟩
    · by_cases hj : 4 ≤ j
      · exact Or.inr hj
      · refine Or.inl ?_
        rw [g2]
        simp +decide only [inV, upA_s, u_n]
        by_cases q3 : k < 3
        · simp only [q3, if_true]
          unfold upA
          by_cases hj1 : j = 1
          · rw [if_pos hj1, if_pos hj1]
          · rw [if_neg hj1, if_neg hj1]; exact h.1.1 j (by omega)
        · simp only [q3, if_false]
          unfold upA
          by_cases hj1 : j = 1
          · rw [if_pos hj1, hj1]; exact h.1.1 1 (by omega)
          · rw [if_neg hj1]; exact h.1.1 j (by omega)
    · simp only [inV, upA_s, if_neg hs, hsb, hnd]
      match j, hj with
      | 0, _ => exact g3.1
      | 1, _ => show _ = V 48 1 + 0; rw [Int32.add_zero]; exact g3.2.1
      | 2, _ => exact g3.2.2.1
      | 3, _ => exact g3.2.2.2
end IR
end
section
/-! ironing for some minutes -/
abbrev sgI (V : Nat → Nat → Int32) : Int32 := if 0 < V 0 1 then 1 else 0
abbrev kdN (V : Nat → Nat → Int32) (b : kT) : Nat := (lkK b (sgI V)).toNatClampNeg
noncomputable def irS (N : Nat → Nat) : Nat → (Nat → Nat → Int32) → List kT → Int32 → Nat × (Nat → Nat → Int32) × List kT
  | 0, V, K, _ => (0, V, K)
  | n + 1, V, K, left => match nxS (fun i => irK V (gK K i)) (fun i => tnK N V (gK K i)) K.length with
    | none => (0, V, K)
    | some i => if left < ndI V (gK K i) (kdN V (gK K i)) then (0, V, K) else
      ((irS N n (inV V (gK K i) (kdN V (gK K i))) (K.set i (inB (gK K i) (kdN V (gK K i)))) (left - ndI V (gK K i) (kdN V (gK K i)))).1 + 1,
       (irS N n (inV V (gK K i) (kdN V (gK K i))) (K.set i (inB (gK K i) (kdN V (gK K i)))) (left - ndI V (gK K i) (kdN V (gK K i)))).2)
theorem nxS_ok {f : Nat → Prop} {t : Nat → Int32} : ∀ {n j : Nat}, nxS f t n = some j → j < n ∧ f j
  | 0, j, h => by simp [nxS] at h
  | n + 1, j, h => by
    by_cases hf : f n
    · rw [nxS_s hf] at h
      cases hq : nxS f t n with
      | none => rw [hq] at h; cases h; exact ⟨by omega, hf⟩
      | some q =>
        rw [hq] at h
        simp only at h
        have := nxS_ok hq
        split at h
        · cases h; exact ⟨by omega, hf⟩
        · cases h; exact ⟨by omega, this.2⟩
    · rw [nxS_n hf] at h
      have := nxS_ok h
      exact ⟨by omega, this.2⟩
theorem gK_at {K : List kT} {i : Nat} (hi : i < K.length) : K[i]? = some (gK K i) := by
  simp [gK, List.getD_eq_getElem?_getD, List.getElem?_eq_getElem hi]
theorem nd_small {N : Nat → Nat} {V : Nat → Nat → Int32} {K : List kT} {B : List bT} (hw : WF N V K B) {i k : Nat} (hi : i < K.length) (hk : k < 4) : ∃ x, 4 ≤ x ∧ x ≤ 40 ∧ ndI V (gK K i) k = nI x := by
  obtain ⟨-, -, -, ⟨s, hs, es⟩, -⟩ := hw.2.2.2.1 i _ (gK_at hi)
  obtain ⟨m, hm, em⟩ := hw.2.2.1.2.2
  have hmn : ∃ y, 4 ≤ y ∧ y ≤ 20 ∧ mnI (gK K i 0 3) k = nI y := by
    rw [es]
    match k, hk with
    | 0, _ => exact ⟨5 + s, by omega, by omega, nI_add 5 s⟩
    | 1, _ => exact ⟨4 + s, by omega, by omega, nI_add 4 s⟩
    | 2, _ => exact ⟨6, by decide, by decide, rfl⟩
    | 3, _ => exact ⟨8, by decide, by decide, rfl⟩
  obtain ⟨y, h1, h2, ey⟩ := hmn
  rcases sb_or V (gK K i) k with ⟨-, -, e⟩ | ⟨-, -, e⟩
  · exact ⟨y + m, by omega, by omega, by rw [e, ey, em, nI_add]⟩
  · exact ⟨y, h1, by omega, by rw [e, ey, Int32.add_zero]⟩
theorem ir_kind {V : Nat → Nat → Int32} {b : kT} (h : irK V b) : ∃ k, k < 4 ∧ lkK b (sgI V) = nI k ∧ 0 < opK b k ∧ (k < 3 → 0 < V 0 1) := by
  rcases lkK_or b (sgI V) with q | ⟨k, h1, h2, h3, h4⟩
  · exact absurd q h
  · refine ⟨k, h1, h2, h3, fun hk => ?_⟩
    have := h4 hk
    unfold sgI at this
    by_cases s : 0 < V 0 1
    · exact s
    · rw [if_neg s] at this; exact absurd rfl this
section IF
variable {P : Nat → Nat → Nat} {o : Nat} {N : Nat → Nat} {B : List bT} {R : Nat → Nat → Int32} {m0 : Int32}
theorem c_ironFor (ho : isB o) {T : Nat → Nat → Int32} {V : Nat → Nat → Int32} {K : List kT} (h : CS o T P N V K B R) (hw : WF N V K B) : ∃ T', X 83 0 [.ref o, .int m0, .long 0, .long 0, .long 0, .long 0] [] (H T P) = some (some (.int (nI (irS N 288 V K m0).1)), H T' P) ∧ (∀ a, (a < o ∨ o + 51 ≤ a) → T' a = T a) ∧ CS o T' P N (irS N 288 V K m0).2.1 (irS N 288 V K m0).2.2 B R ∧ WF N (irS N 288 V K m0).2.1 (irS N 288 V K m0).2.2 B := by
  have key : ∀ (n d : Nat) (V : Nat → Nat → Int32) (K : List kT) (left : Int32) (T : Nat → Nat → Int32) (v4 v5 : Value), d + n = 288 → CS o T P N V K B R → WF N V K B → ∃ T', X 83 4 [.ref o, .int m0, .int left, .int (nI d), v4, v5] [] (H T P) = some (some (.int (nI (d + (irS N n V K left).1))), H T' P) ∧ (∀ a, (a < o ∨ o + 51 ≤ a) → T' a = T a) ∧ CS o T' P N (irS N n V K left).2.1 (irS N n V K left).2.2 B R ∧ WF N (irS N n V K left).2.1 (irS N n V K left).2.2 B := by
    intro n
    induction n with
    | zero =>
      intro d V K left T v4 v5 hd h hw
      have hd : d = 288 := by omega
      subst hd
      refine ⟨T, ?_, fun _ _ => rfl, h, hw⟩
      rw [x83_4]
      simp +decide only [x83_0, x83_1, x83_2, x83_3, x83_5, x83_8, x83_11, x83_12, x83_15, x83_15N, x83_17, x83_17N, x83_19, x83_19N, x83_22, x83_23, x83_26, x83_27, x83_27N, x83_29, x83_30, x83_33, x83_35, x83_37, x83_40, x83_41, x83_42, x83_43, x83_45, x83_46, x83_47, x83_50, x83_53, x83_56, aft_some, aft_void, Option.bind_some, Option.toList_some, Option.toList_none, List.cons_append, List.nil_append, if_true, if_false, ↓reduceIte, eq_self, show nI 288 = 288 from rfl, irS, Nat.add_zero]
    | succ n ih =>
      intro d V K left T v4 v5 hd h hw
      have e0 := c_nextToIron ho h hw
      have hdl : nI d < 288 := nI_lt (show d < 288 by omega) (by decide)
      cases hq : nxS (fun i => irK V (gK K i)) (fun i => tnK N V (gK K i)) K.length with
      | none =>
        rw [hq] at e0
        simp only at e0
        simp only [irS, hq]
        refine ⟨T, ?_, fun _ _ => rfl, h, hw⟩
        rw [x83_4]
        simp +decide only [x83_0, x83_1, x83_2, x83_3, x83_5, x83_8, x83_11, x83_12, x83_15, x83_15N, x83_17, x83_17N, x83_19, x83_19N, x83_22, x83_23, x83_26, x83_27, x83_27N, x83_29, x83_30, x83_33, x83_35, x83_37, x83_40, x83_41, x83_42, x83_43, x83_45, x83_46, x83_47, x83_50, x83_53, x83_56, aft_some, aft_void, Option.bind_some, Option.toList_some, Option.toList_none, List.cons_append, List.nil_append, if_true, if_false, ↓reduceIte, eq_self, f0_o ho, ↓f0_0 ho, ↓f0_0p ho, ↓f0_1 ho, ↓f0_1p ho, ↓f0_2 ho, ↓f0_2p ho, ↓f0_3 ho, ↓f0_3p ho, ↓f0_4 ho, ↓f0_5 ho, ↓f0_6 ho, ↓f0_7 ho, ↓f0_8 ho, ↓f0_9 ho, ↓f0_10 ho, ↓f0_11 ho, ↓f1_g ho, ↓f1_s ho, ↓f2_g ho, ↓f2_s ho, hdl, ↓aft_of (e0), Nat.add_zero]
      | some i =>
        rw [hq] at e0
        simp only at e0
        obtain ⟨hi, hir⟩ := nxS_ok hq
        obtain ⟨k, hk, hlk, hop, -⟩ := ir_kind hir
        have hkd : kdN V (gK K i) = k := by unfold kdN; rw [hlk, nI_clamp (by omega)]
        obtain ⟨x, hx1, hx2, hx3⟩ := nd_small hw hi hk
        simp only [irS, hq, hkd]
        by_cases hl : left < ndI V (gK K i) k
        · have e1 := c_ironStop ho h hw hi hk hlk hl
          simp only [hl, if_true]
          refine ⟨T, ?_, fun _ _ => rfl, h, hw⟩
          rw [x83_4]
          simp +decide only [x83_0, x83_1, x83_2, x83_3, x83_5, x83_8, x83_11, x83_12, x83_15, x83_15N, x83_17, x83_17N, x83_19, x83_19N, x83_22, x83_23, x83_26, x83_27, x83_27N, x83_29, x83_30, x83_33, x83_35, x83_37, x83_40, x83_41, x83_42, x83_43, x83_45, x83_46, x83_47, x83_50, x83_53, x83_56, aft_some, aft_void, Option.bind_some, Option.toList_some, Option.toList_none, List.cons_append, List.nil_append, if_true, if_false, ↓reduceIte, eq_self, f0_o ho, ↓f0_0 ho, ↓f0_0p ho, ↓f0_1 ho, ↓f0_1p ho, ↓f0_2 ho, ↓f0_2p ho, ↓f0_3 ho, ↓f0_3p ho, ↓f0_4 ho, ↓f0_5 ho, ↓f0_6 ho, ↓f0_7 ho, ↓f0_8 ho, ↓f0_9 ho, ↓f0_10 ho, ↓f0_11 ho, ↓f1_g ho, ↓f1_s ho, ↓f2_g ho, ↓f2_s ho, hdl, ↓aft_of (e0), ↓aft_of (e1), Nat.add_zero]
        · obtain ⟨T1, e1, f1, h1⟩ := c_ironDo ho h hw hi hk hlk hl
          have hw1 := WF_iron hw (gK_at hi) hk hop
          simp only [hl, if_false]
          have hne : (ndI V (gK K i) k = 0) = False := by
            rw [hx3, show (0 : Int32) = nI 0 from rfl, nI_inj (by omega) (by decide)]
            exact eq_false (by omega)
          obtain ⟨T2, e2, f2, h2, w2⟩ := ih (d + 1) _ _ (left - ndI V (gK K i) k) T1 (.ref (P (o + 8) i)) (.int (ndI V (gK K i) k)) (by omega) h1 hw1
          refine ⟨T2, ?_, fun a ha => (f2 a ha).trans (f1 a ha), h2, w2⟩
          rw [x83_4]
          simp +decide only [x83_0, x83_1, x83_2, x83_3, x83_5, x83_8, x83_11, x83_12, x83_15, x83_15N, x83_17, x83_17N, x83_19, x83_19N, x83_22, x83_23, x83_26, x83_27, x83_27N, x83_29, x83_30, x83_33, x83_35, x83_37, x83_40, x83_41, x83_42, x83_43, x83_45, x83_46, x83_47, x83_50, x83_53, x83_56, aft_some, aft_void, Option.bind_some, Option.toList_some, Option.toList_none, List.cons_append, List.nil_append, if_true, if_false, ↓reduceIte, eq_self, f0_o ho, ↓f0_0 ho, ↓f0_0p ho, ↓f0_1 ho, ↓f0_1p ho, ↓f0_2 ho, ↓f0_2p ho, ↓f0_3 ho, ↓f0_3p ho, ↓f0_4 ho, ↓f0_5 ho, ↓f0_6 ho, ↓f0_7 ho, ↓f0_8 ho, ↓f0_9 ho, ↓f0_10 ho, ↓f0_11 ho, ↓f1_g ho, ↓f1_s ho, ↓f2_g ho, ↓f2_s ho, hdl, ↓aft_of (e0), ↓aft_of (e1), hne, nI_1]
          rw [e2]
          congr 4
          congr 1
          omega
  obtain ⟨T', e, r⟩ := key 288 0 V K m0 T (.long 0) (.long 0) (by omega) h hw
  refine ⟨T', ?_, r⟩
  simp +decide only [x83_0, x83_1, x83_2, x83_3, x83_5, x83_8, x83_11, x83_12, x83_15, x83_15N, x83_17, x83_17N, x83_19, x83_19N, x83_22, x83_23, x83_26, x83_27, x83_27N, x83_29, x83_30, x83_33, x83_35, x83_37, x83_40, x83_41, x83_42, x83_43, x83_45, x83_46, x83_47, x83_50, x83_53, x83_56, aft_some, aft_void, Option.bind_some, Option.toList_some, Option.toList_none, List.cons_append, List.nil_append, if_true, if_false, ↓reduceIte, eq_self]
  rw [show X 83 4 [.ref o, .int m0, .int m0, .int 0, .long 0, .long 0] [] (H T P) = _ from e, Nat.zero_add]
end IF
end
section
/-! the van -/
theorem nh_small {N : Nat → Nat} {V : Nat → Nat → Int32} {K : List kT} {B : List bT} (hw : WF N V K B) {i : Nat} (hi : i < K.length) : ∃ h, h ≤ 27 ∧ nhI (gK K i 2) = nI h := by
  obtain ⟨-, -, -, -, hk⟩ := hw.2.2.2.1 i _ (gK_at hi)
  obtain ⟨x0, y0, z0, a0, b0, -, c0, -⟩ := hk 0 (by decide)
  obtain ⟨x1, y1, z1, a1, b1, -, c1, -⟩ := hk 1 (by decide)
  obtain ⟨x2, y2, z2, a2, b2, -, c2, -⟩ := hk 2 (by decide)
  refine ⟨y0 + y1 + y2, by omega, ?_⟩
  unfold nhI
  rw [c0, c1, c2, Int32.zero_add, nI_add, nI_add]
abbrev hoN (N : Nat → Nat) : Nat → Nat := upA N 4 (min (N 4 + 1) 10)
abbrev cuK (b : kT) : Nat := (b 0 1).toNatClampNeg
abbrev hoV (V : Nat → Nat → Int32) (b : kT) : Nat → Nat → Int32 := up1 V 5 (cuK b) (V 5 (cuK b) + prK b)
abbrev hoB (N : Nat → Nat) (B : List bT) (b : kT) : List bT := if 0 < (nhI (b 2)).toNatClampNeg then B ++ [(cuK b, N 0, (nhI (b 2)).toNatClampNeg)] else B
section VN
variable {T : Nat → Nat → Int32} {P : Nat → Nat → Nat} {o : Nat} {N : Nat → Nat} {V : Nat → Nat → Int32} {K : List kT} {B : List bT} {R : Nat → Nat → Int32}
theorem c_handOver (ho : isB o) (h : CS o T P N V K B R) (hN1 : N 1 ≤ 10) (h8 : K.length ≤ 8) {i c hh : Nat} (hi : i < K.length) (hc : c < N 1) (ec : gK K i 0 1 = nI c) (hh31 : hh < 2 ^ 31) (eh : nhI (gK K i 2) = nI hh) (hB : B.length < 99) : ∃ T', X 88 0 [.ref o, .ref (P (o + 8) i), .long 0] [] (H T P) = some (none, H T' P) ∧ (∀ a, (a < o ∨ o + 51 ≤ a) → T' a = T a) ∧ CS o T' P (hoN N) (hoV V (gK K i)) K (hoB N B (gK K i)) (wrB R 1 (V 0 0) (gK K i 0 0) (prK (gK K i))) := by
  obtain ⟨⟨k0, k1, k2, k00⟩, ⟨k3, k4, k5, k6⟩, ⟨kP, kn, kc, kK⟩, kB, kL, k48, kJ⟩ := id h
  have hk := kP.k ho (show i < 8 by omega)
  have hr := kP.rg (show i < 8 by omega)
  have hb := h.at hi
  have e1 := c_price (T := T) (P := P) hk
  rw [hb.pr] at e1
  have ecu : T (P (o + 8) i) 1 = nI c := by rw [hb.1 1 (by decide), ec]
  have hcu : cuK (gK K i) = c := by unfold cuK; rw [ec, nI_clamp (by omega)]
  have hnh : (nhI (gK K i 2)).toNatClampNeg = hh := by rw [eh, nI_clamp (by omega)]
  have how : T (o + 5) c = V 5 c := k5 c hc
  have hB1 : OB (up1 T (o + 5) c (V 5 c + prK (gK K i))) o B := kB.other (upA_n _ _ (by omega)) (upA_n _ _ (by omega)) (upA_n _ _ (by omega)) (upA_n _ _ (by omega))
  have e2 : X 14 0 [.ref (P (o + 8) i + 2), .long 0, .long 0] [] (H (up1 T (o + 5) c (V 5 c + prK (gK K i))) P) = some (some (.int (nI hh)), H (up1 T (o + 5) c (V 5 c + prK (gK K i))) P) := by
    rw [c_needing (sh_k hk).2.2.1]
    simp only [upA_n _ _ (show P (o + 8) i + 2 ≠ o + 5 by omega)]
    rw [hb.nh2, eh]
  obtain ⟨T2, e3, f3, g3⟩ := c_send (P := P) (c := c) (d := N 0) (n := hh) ho hB1 hB hh31
  have hJ2 : JO T2 o (N 4) R := kJ.same (by rw [f3 _ (by omega) (by omega) (by omega) (by omega)]; exact upA_n _ _ (by omega)) (by rw [f3 _ (by omega) (by omega) (by omega) (by omega)]; exact upA_n _ _ (by omega))
  obtain ⟨T3, e4, f4, g4⟩ := c_write (P := P) (e := 1) (d := V 0 0) (x := gK K i 0 0) (y := prK (gK K i)) ho hJ2
  have hf : ∀ a, a ≠ o + 5 → (a < o + 41 ∨ o + 44 < a) → a ≠ o + 49 → a ≠ o + 50 → T3 a = T a := by
    intro a g5 g41 g49 g50
    rw [f4 a g49 g50, f3 a (by omega) (by omega) (by omega) (by omega)]
    exact upA_n _ _ g5
  have hday : T o 0 = nI (N 0) := by rw [k0 0 (by decide)]; exact k00
  have hday1 : up1 T (o + 5) c (V 5 c + prK (gK K i)) o 0 = nI (N 0) := by
    simp only [upA_n _ _ (show o ≠ o + 5 by omega)]; exact hday
  have hday2 : T2 o 0 = V 0 0 := by
    rw [f3 o (by omega) (by omega) (by omega) (by omega)]
    simp only [upA_n _ _ (show o ≠ o + 5 by omega)]; exact k0 0 (by decide)
  have hcu1 : up1 T (o + 5) c (V 5 c + prK (gK K i)) (P (o + 8) i) 1 = nI c := by
    simp only [upA_n _ _ (show P (o + 8) i ≠ o + 5 by omega)]; exact ecu
  have hnum2 : T2 (P (o + 8) i) 0 = gK K i 0 0 := by
    rw [f3 _ (by omega) (by omega) (by omega) (by omega)]
    simp only [upA_n _ _ (show P (o + 8) i ≠ o + 5 by omega)]; exact hb.1 0 (by decide)
  refine ⟨T3, by
    simp +decide only [x88_0, x88_0N, x88_1, x88_4, x88_5, x88_6, x88_9, x88_12, x88_12N, x88_13, x88_16, x88_17, x88_18, x88_19, x88_20, x88_21, x88_22, x88_25, x88_25N, x88_26, x88_29, x88_30, x88_33, x88_33N, x88_34, x88_37, x88_40, x88_43, x88_44, x88_47, x88_48, x88_49, x88_52, x88_52N, x88_53, x88_56, x88_57, x88_60, aft_some, aft_void, Option.bind_some, Option.toList_some, Option.toList_none, List.cons_append, List.nil_append, if_true, if_false, ↓reduceIte, eq_self, f0_o ho, ↓f0_0 ho, ↓f0_0p ho, ↓f0_1 ho, ↓f0_1p ho, ↓f0_2 ho, ↓f0_2p ho, ↓f0_3 ho, ↓f0_3p ho, ↓f0_4 ho, ↓f0_5 ho, ↓f0_6 ho, ↓f0_7 ho, ↓f0_8 ho, ↓f0_9 ho, ↓f0_10 ho, ↓f0_11 ho, ↓f1_g ho, ↓f1_s ho, ↓f2_g ho, ↓f2_s ho, f3_o ho, ↓f3_0 ho, ↓f3_0p ho, ↓f3_1 ho, ↓f3_2 ho, ↓f3_3 ho, ↓f4_g ho, ↓f4_s ho, ↓f5_g ho, ↓f5_s ho, ↓f6_g ho, ↓f6_s ho, fK_o hk, ↓fK_0 hk, ↓fK_0p hk, ↓fK_1 hk, ↓fK_1p hk, ↓fK_2 hk, ↓fK_2p hk, ↓fK_3 hk, ↓fK_3p hk, ↓fK_4 hk, ↓fK_4p hk, ↓fK_5 hk, ↓fK_6 hk, ↓fK_7 hk, ↓fK1_g hk, ↓fK1_s hk, ↓fK2_g hk, ↓fK2_s hk, ↓fK3_g hk, ↓fK3_s hk, f41_o ho, f49_o ho, ↓aft_of (e1), ↓aft_of (e2), ↓aft_of (e3), ↓aft_of (e4), ecu, okx_nI (show c < 10 by omega) (show (10 : Nat) < 2 ^ 31 by decide), nI_clamp (show c < 2 ^ 31 by omega), how, hday1, hday2, hcu1, hnum2], fun a ha => hf a (by omega) (by omega) (by omega) (by omega), ⟨?_, ?_, ?_, ?_⟩, ⟨?_, ?_, ?_, ?_⟩, ⟨kP, ?_, ?_, ?_⟩, ?_, ?_, ?_, ?_⟩
  · intro j hj
    rw [hf _ (by omega) (by omega) (by omega) (by omega)]; simp +decide only [u_n]; exact k0 j hj
  · intro j hj
    rw [hf _ (by omega) (by omega) (by omega) (by omega)]; simp +decide only [u_n]; exact k1 j hj
  · intro j hj
    rw [hf _ (by omega) (by omega) (by omega) (by omega)]; simp +decide only [u_n]; exact k2 j hj
  · simp +decide only [u_n]; exact k00
  · rw [hf _ (by omega) (by omega) (by omega) (by omega)]; simp +decide only [u_n]; exact k3
  · intro j hj
    rw [hf _ (by omega) (by omega) (by omega) (by omega)]; simp +decide only [u_n] at hj ⊢; exact k4 j hj
  · intro j hj
    rw [f4 _ (by omega) (by omega), f3 _ (by omega) (by omega) (by omega) (by omega)]
    simp +decide only [u_n, upA_s] at hj ⊢
    rw [hcu]
    unfold upA
    by_cases hjc : j = c
    · rw [if_pos hjc, if_pos hjc]
    · rw [if_neg hjc, if_neg hjc]; exact k5 j hj
  · intro j hj
    rw [hf _ (by omega) (by omega) (by omega) (by omega)]; simp +decide only [u_n] at hj ⊢; exact k6 j hj
  · rw [hf _ (by omega) (by omega) (by omega) (by omega)]; exact kn
  · rw [hf _ (by omega) (by omega) (by omega) (by omega)]; simp +decide only [u_n]; exact kc
  · intro j q hq
    have hjl : j < K.length := (List.getElem?_eq_some_iff.mp hq).1
    have hrj := kP.rg (show j < 8 by omega)
    exact (kK j q hq).same (fun x hx => hf _ (by omega) (by omega) (by omega) (by omega))
  · unfold hoB
    rw [hnh, hcu]
    exact g3.other (f4 _ (by omega) (by omega)) (f4 _ (by omega) (by omega)) (f4 _ (by omega) (by omega)) (f4 _ (by omega) (by omega))
  · have := kL.same (U := T3) (hf _ (by omega) (by omega) (by omega) (by omega)) (hf _ (by omega) (by omega) (by omega) (by omega)) (hf _ (by omega) (by omega) (by omega) (by omega))
    simp +decide only [u_n]; exact this
  · intro j hj
    rw [hf _ (by omega) (by omega) (by omega) (by omega)]; simp +decide only [u_n]; exact k48 j hj
  · simp +decide only [upA_s]; exact g4
/-- two places change -/
theorem CS.swap (h : CS o T P N V K B R) (h8 : K.length ≤ 8) {i j : Nat} (hi : i < K.length) (hj : j < K.length) : CS o T (upA P (o + 8) (upA (upA (P (o + 8)) i (P (o + 8) j)) j (P (o + 8) i))) N V ((K.set i (gK K j)).set j (gK K i)) B R := by
  obtain ⟨r1, r2, ⟨kP, kn, kc, kK⟩, r4⟩ := h
  refine ⟨r1, r2, ⟨⟨fun a ha => ?_, fun a ha b hb hab => ?_⟩, by rw [List.length_set, List.length_set]; exact kn, kc, fun a q hq => ?_⟩, r4⟩
  · simp only [upA_s]
    unfold upA
    split
    · exact kP.1 i (by omega)
    · split
      · exact kP.1 j (by omega)
      · exact kP.1 a ha
  · simp only [upA_s] at hab
    unfold upA at hab
    have key : ∀ x y, x < 8 → y < 8 → P (o + 8) x = P (o + 8) y → x = y := fun x y hx hy => kP.2 x hx y hy
    by_cases a1 : a = j
    · rw [if_pos a1] at hab
      by_cases b1 : b = j
      · omega
      · rw [if_neg b1] at hab
        by_cases b2 : b = i
        · rw [if_pos b2] at hab; have := key i j (by omega) (by omega) hab; omega
        · rw [if_neg b2] at hab; have := key i b (by omega) hb hab; omega
    · rw [if_neg a1] at hab
      by_cases a2 : a = i
      · rw [if_pos a2] at hab
        by_cases b1 : b = j
        · rw [if_pos b1] at hab; have := key j i (by omega) (by omega) hab; omega
        · rw [if_neg b1] at hab
          by_cases b2 : b = i
          · omega
          · rw [if_neg b2] at hab; have := key j b (by omega) hb hab; omega
      · rw [if_neg a2] at hab
        by_cases b1 : b = j
        · rw [if_pos b1] at hab; have := key a i ha (by omega) hab; omega
        · rw [if_neg b1] at hab
          by_cases b2 : b = i
          · rw [if_pos b2] at hab; have := key a j ha (by omega) hab; omega
          · rw [if_neg b2] at hab; exact key a b ha hb hab
  · simp only [upA_s]
    by_cases a1 : a = j
    · subst a1
      rw [List.getElem?_set_self (by rw [List.length_set]; exact hj)] at hq
      cases hq
      rw [upA_s]
      exact kK i _ (gK_at hi)
    · rw [List.getElem?_set_ne (Ne.symm a1)] at hq
      rw [upA_n _ _ a1]
      by_cases a2 : a = i
      · subst a2
        rw [List.getElem?_set_self hi] at hq
        cases hq
        rw [upA_s]
        exact kK j _ (gK_at hj)
      · rw [List.getElem?_set_ne (Ne.symm a2)] at hq
        rw [upA_n _ _ a2]
        exact kK a q hq
end VN
end
section
/-! the van is loaded -/
def goK (N : Nat → Nat) (V : Nat → Nat → Int32) (b : kT) : Prop := rdK b = 1 ∧ ¬ vsI (V 2 (V 4 (cuK b)).toNatClampNeg) (N 0) = 0
abbrev sT : Type := (Nat → Nat) × (Nat → Nat → Int32) × List bT × (Nat → Nat → Int32)
abbrev hoS (s : sT) (b : kT) : sT := (hoN s.1, hoV s.2.1 b, hoB s.1 s.2.2.1 b, wrB s.2.2.2 1 (s.2.1 0 0) (b 0 0) (prK b))
noncomputable def lvE (g : kT → Prop) : sT → List kT → sT
  | s, [] => s
  | s, b :: L => lvE g (@ite _ (g b) (Classical.propDecidable _) (hoS s b) s) L
noncomputable def lvK (g : kT → Prop) : List kT → List kT
  | [] => []
  | b :: L => @ite _ (g b) (Classical.propDecidable _) (lvK g L) (b :: lvK g L)
theorem lvE_app (g : kT → Prop) : ∀ (s : sT) (A B : List kT), lvE g s (A ++ B) = lvE g (lvE g s A) B
  | _, [], _ => rfl
  | s, a :: A, B => lvE_app g _ A B
theorem lvK_app (g : kT → Prop) : ∀ (A B : List kT), lvK g (A ++ B) = lvK g A ++ lvK g B
  | [], _ => rfl
  | a :: A, B => by
    show @ite _ (g a) (Classical.propDecidable _) _ _ = (@ite _ (g a) (Classical.propDecidable _) _ _) ++ _
    by_cases h : g a
    · rw [if_pos h, if_pos h]; exact lvK_app g A B
    · rw [if_neg h, if_neg h]
      have ih := lvK_app g A B
      show a :: lvK g (A ++ B) = _
      rw [ih]; rfl
theorem lvK_le (g : kT → Prop) : ∀ (A : List kT), (lvK g A).length ≤ A.length
  | [] => Nat.le_refl _
  | a :: A => by
    have := lvK_le g A
    show (@ite _ (g a) (Classical.propDecidable _) _ _ : List kT).length ≤ _
    by_cases h : g a
    · rw [if_pos h]; simp only [List.length_cons]; omega
    · rw [if_neg h]; simp only [List.length_cons]; omega
/-- what the van doesn't touch -/
theorem lvE_keep (g : kT → Prop) : ∀ (s : sT) (A : List kT), (lvE g s A).1 0 = s.1 0 ∧ (lvE g s A).1 1 = s.1 1 ∧ (lvE g s A).1 2 = s.1 2 ∧ (lvE g s A).1 3 = s.1 3 ∧ (∀ r, r ≠ 5 → (lvE g s A).2.1 r = s.2.1 r) ∧ (lvE g s A).2.2.1.length ≤ s.2.2.1.length + A.length
  | s, [] => ⟨rfl, rfl, rfl, rfl, fun _ _ => rfl, by show s.2.2.1.length ≤ _; omega⟩
  | s, a :: A => by
    show (lvE g (@ite _ (g a) (Classical.propDecidable _) (hoS s a) s) A).1 0 = _ ∧ _
    by_cases h : g a
    · have e : lvE g s (a :: A) = lvE g (hoS s a) A := by
        show lvE g (@ite _ (g a) (Classical.propDecidable _) (hoS s a) s) A = _
        rw [if_pos h]
      rw [if_pos h, e]
      obtain ⟨h0, h1, h2, h3, h4, h5⟩ := lvE_keep g (hoS s a) A
      refine ⟨?_, ?_, ?_, ?_, fun r hr => ?_, ?_⟩
      · rw [h0]; simp +decide only [u_n]
      · rw [h1]; simp +decide only [u_n]
      · rw [h2]; simp +decide only [u_n]
      · rw [h3]; simp +decide only [u_n]
      · rw [h4 r hr]; exact upA_n _ _ hr
      · have : (hoS s a).2.2.1.length ≤ s.2.2.1.length + 1 := by
          show (hoB s.1 s.2.2.1 a).length ≤ _
          unfold hoB
          split
          · rw [List.length_append, List.length_singleton]; exact Nat.le_refl _
          · omega
        rw [List.length_cons]; omega
    · have e : lvE g s (a :: A) = lvE g s A := by
        show lvE g (@ite _ (g a) (Classical.propDecidable _) (hoS s a) s) A = _
        rw [if_neg h]
      rw [if_neg h, e]
      obtain ⟨h0, h1, h2, h3, h4, h5⟩ := lvE_keep g s A
      exact ⟨h0, h1, h2, h3, h4, by rw [List.length_cons]; omega⟩
abbrev CSs (o : Nat) (T : Nat → Nat → Int32) (P : Nat → Nat → Nat) (s : sT) (K : List kT) : Prop := CS o T P s.1 s.2.1 K s.2.2.1 s.2.2.2
section LVN
variable {T : Nat → Nat → Int32} {P : Nat → Nat → Nat} {o : Nat} {N : Nat → Nat} {V : Nat → Nat → Int32} {K : List kT} {B : List bT} {R : Nat → Nat → Int32}
theorem c_loadVan (ho : isB o) (h : CS o T P N V K B R) (hw0 : N 0 ≤ 10101) (hN1 : N 1 ≤ 10) (h8 : K.length ≤ 8) (hd : ∀ c, c < N 1 → ∃ d, d < 5 ∧ V 4 c = nI d)
    (hK : ∀ i, i < K.length → (∃ c, c < N 1 ∧ gK K i 0 1 = nI c) ∧ ∃ x, x ≤ 27 ∧ nhI (gK K i 2) = nI x) (hBK : B.length + K.length ≤ 99) : ∃ T' P', X 87 0 [.ref o, .long 0, .long 0, .long 0, .long 0] [] (H T P) = some (some (.int (nI (K.length - (lvK (goK N V) K).length))), H T' P') ∧ (∀ a, (a < o ∨ o + 51 ≤ a) → T' a = T a) ∧ (∀ a, a ≠ o + 8 → P' a = P a) ∧ CSs o T' P' (lvE (goK N V) (N, V, B, R) K) (lvK (goK N V) K) := by
  obtain ⟨⟨U, Q, v4, L⟩, e1, i1, i2, i3, i4, i5, i6⟩ := loop_ex (fun i (s : (Nat → Nat → Int32) × (Nat → Nat → Nat) × Value × List kT) => X 87 12 [.ref o, .int (nI K.length), .int (nI (lvK (goK N V) (K.take i)).length), .int (nI i), s.2.2.1] [] (H s.1 s.2.1))
    (fun i s => (∀ a, (a < o ∨ o + 51 ≤ a) → s.1 a = T a) ∧ (∀ a, a ≠ o + 8 → s.2.1 a = P a) ∧ CSs o s.1 s.2.1 (lvE (goK N V) (N, V, B, R) (K.take i)) s.2.2.2 ∧ s.2.2.2.length = K.length ∧ s.2.2.2.take (lvK (goK N V) (K.take i)).length = lvK (goK N V) (K.take i) ∧ s.2.2.2.drop i = K.drop i) K.length (T, P, .long 0, K)
    ⟨fun _ _ => rfl, fun _ _ => rfl, h, rfl, rfl, rfl⟩ (by
      intro i ⟨U, Q, v4, L⟩ hi ⟨j1, j2, j3, j4, j5, j6⟩
      have j1 : ∀ a, (a < o ∨ o + 51 ≤ a) → U a = T a := j1
      have j2 : ∀ a, a ≠ o + 8 → Q a = P a := j2
      have j3 : CSs o U Q (lvE (goK N V) (N, V, B, R) (K.take i)) L := j3
      have j4 : L.length = K.length := j4
      have j5 : L.take (lvK (goK N V) (K.take i)).length = lvK (goK N V) (K.take i) := j5
      have j6 : L.drop i = K.drop i := j6
      obtain ⟨q0, q1, q2, q3, q4, q5⟩ := lvE_keep (goK N V) (N, V, B, R) (K.take i)
      have hbi := gK_at hi
      have hLi : L[i]? = some (gK K i) := by
        have h1 : (L.drop i)[0]? = L[i]? := by rw [List.getElem?_drop]; rfl
        have h2 : (K.drop i)[0]? = K[i]? := by rw [List.getElem?_drop]; rfl
        rw [← h1, j6, h2, hbi]
      have hgL := gK_of hLi
      have hiL : i < L.length := by omega
      have htl : (K.take i).length = i := by rw [List.length_take]; omega
      have hst : (lvK (goK N V) (K.take i)).length ≤ i := by have := lvK_le (goK N V) (K.take i); omega
      have hk := j3.pk.k ho (show i < 8 by omega)
      obtain ⟨⟨c, hc, ec⟩, x, hx, ex⟩ := hK i hi
      obtain ⟨d, hd5, ed⟩ := hd c hc
      have hb := j3.at hiL
      rw [hgL] at hb
      have er := c_isReady (T := U) (P := Q) hk
      rw [hb.rd] at er
      have hrd := rdI_01 (T := U) (b := Q (o + 8) i)
      rw [hb.rd] at hrd
      have hV4 : (lvE (goK N V) (N, V, B, R) (K.take i)).2.1 4 = V 4 := q4 4 (by decide)
      have hV2 : (lvE (goK N V) (N, V, B, R) (K.take i)).2.1 2 = V 2 := q4 2 (by decide)
      have hV0 : (lvE (goK N V) (N, V, B, R) (K.take i)).2.1 0 = V 0 := q4 0 (by decide)
      have ev := c_isVisited ho j3 hd5 (D := N 0) (by omega)
      rw [hV2] at ev
      have hdist : U (o + 4) c = nI d := by
        rw [j3.2.1.2.1 c (by rw [q1]; exact hc), hV4]; exact ed
      have hcus : U (Q (o + 8) i) 1 = nI c := by rw [hb.1 1 (by decide)]; exact ec
      have hday : U o 0 = nI (N 0) := by
        rw [j3.1.1 0 (by decide), j3.1.2.2.2, q0]
      have hcu : cuK (gK K i) = c := by unfold cuK; rw [ec, nI_clamp (by omega)]
      have hgo : goK N V (gK K i) ↔ (rdK (gK K i) = 1 ∧ ¬ vsI (V 2 d) (N 0) = 0) := by
        unfold goK
        rw [hcu, ed, nI_clamp (by omega)]
      have hlt : nI i < nI K.length := nI_lt hi (by omega)
      have ok8 := okx_nI (show i < 8 by omega) (show (8 : Nat) < 2 ^ 31 by decide)
      have cl := nI_clamp (show i < 2 ^ 31 by omega)
      have ok10 := okx_nI (show c < 10 by omega) (show (10 : Nat) < 2 ^ 31 by decide)
      have clc := nI_clamp (show c < 2 ^ 31 by omega)
      by_cases hg : goK N V (gK K i)
      · have hE : lvE (goK N V) (N, V, B, R) (K.take (i + 1)) = hoS (lvE (goK N V) (N, V, B, R) (K.take i)) (gK K i) := by
          rw [take_s hbi, lvE_app]
          show @ite _ (goK N V (gK K i)) (Classical.propDecidable _) _ _ = _
          rw [if_pos hg]
        have hS : lvK (goK N V) (K.take (i + 1)) = lvK (goK N V) (K.take i) := by
          rw [take_s hbi, lvK_app]
          have : lvK (goK N V) [gK K i] = [] := by
            show @ite _ (goK N V (gK K i)) (Classical.propDecidable _) _ _ = _
            rw [if_pos hg]; rfl
          rw [this, List.append_nil]
        have g2 := hgo.mp hg
        obtain ⟨T2, e2, f2, c2⟩ := c_handOver (i := i) (c := c) (hh := x) ho j3 (by rw [q1]; exact hN1) (by omega) hiL (by rw [q1]; exact hc) (by rw [hgL]; exact ec) (by omega) (by rw [hgL]; exact ex) (by
          have h5 : (lvE (goK N V) (N, V, B, R) (K.take i)).2.2.1.length ≤ B.length + (K.take i).length := q5
          omega)
        rw [hgL] at c2
        refine ⟨(T2, Q, .ref (Q (o + 8) i), L), ?_, fun a ha => (f2 a ha).trans (j1 a ha), j2, by rw [hE]; exact c2, j4, by rw [hS]; exact j5, ?_⟩
        · show X 87 12 _ _ _ = _
          rw [x87_12, hS]
          simp +decide only [x87_0, x87_1, x87_4, x87_7, x87_8, x87_9, x87_10, x87_11, x87_13, x87_14, x87_17, x87_18, x87_21, x87_24, x87_25, x87_26, x87_26N, x87_28, x87_28N, x87_30, x87_33, x87_36, x87_37, x87_38, x87_41, x87_44, x87_44N, x87_46, x87_49, x87_50, x87_51, x87_54, x87_57, x87_60, x87_61, x87_61N, x87_63, x87_66, x87_69, x87_70, x87_73, x87_76, x87_77, x87_78, x87_81, x87_84, x87_85, x87_86, x87_87, x87_88, x87_91, x87_94, x87_95, x87_95N, x87_97, x87_98, x87_101, x87_104, x87_107, x87_108, x87_111, x87_112, x87_115, x87_116, x87_117, x87_118, aft_some, aft_void, Option.bind_some, Option.toList_some, Option.toList_none, List.cons_append, List.nil_append, if_true, if_false, ↓reduceIte, eq_self, f0_o ho, ↓f0_0 ho, ↓f0_0p ho, ↓f0_1 ho, ↓f0_1p ho, ↓f0_2 ho, ↓f0_2p ho, ↓f0_3 ho, ↓f0_3p ho, ↓f0_4 ho, ↓f0_5 ho, ↓f0_6 ho, ↓f0_7 ho, ↓f0_8 ho, ↓f0_9 ho, ↓f0_10 ho, ↓f0_11 ho, ↓f1_g ho, ↓f1_s ho, ↓f2_g ho, ↓f2_s ho, f3_o ho, ↓f3_0 ho, ↓f3_0p ho, ↓f3_1 ho, ↓f3_2 ho, ↓f3_3 ho, ↓f4_g ho, ↓f4_s ho, ↓f5_g ho, ↓f5_s ho, ↓f6_g ho, ↓f6_s ho, f7_o ho, ↓f7_0 ho, ↓f7_1 ho, ↓f7_1p ho, ↓f7_2 ho, ↓f7_2p ho, ↓f8_g ho, fK_o hk, fK_o hk, ↓fK_0 hk, ↓fK_0p hk, ↓fK_1 hk, ↓fK_1p hk, ↓fK_2 hk, ↓fK_2p hk, ↓fK_3 hk, ↓fK_3p hk, ↓fK_4 hk, ↓fK_4p hk, ↓fK_5 hk, ↓fK_6 hk, ↓fK_7 hk, ↓fK1_g hk, ↓fK1_s hk, ↓fK2_g hk, ↓fK2_s hk, ↓fK3_g hk, ↓fK3_s hk, hlt, ok8, cl, ↓aft_of (er), g2.1, hcus, ok10, clc, hdist, hday, ↓aft_of (ev), g2.2, ↓aft_of (e2), nI_1]
        · show L.drop (i + 1) = K.drop (i + 1)
          have := congrArg (List.drop 1) j6
          rwa [List.drop_drop, List.drop_drop] at this
      · have hE : lvE (goK N V) (N, V, B, R) (K.take (i + 1)) = lvE (goK N V) (N, V, B, R) (K.take i) := by
          rw [take_s hbi, lvE_app]
          show @ite _ (goK N V (gK K i)) (Classical.propDecidable _) _ _ = _
          rw [if_neg hg]
        have hS : lvK (goK N V) (K.take (i + 1)) = lvK (goK N V) (K.take i) ++ [gK K i] := by
          rw [take_s hbi, lvK_app]
          have : lvK (goK N V) [gK K i] = [gK K i] := by
            show @ite _ (goK N V (gK K i)) (Classical.propDecidable _) _ _ = _
            rw [if_neg hg]; rfl
          rw [this]
        obtain ⟨z, hz⟩ : ∃ z, z = (lvK (goK N V) (K.take i)).length := ⟨_, rfl⟩
        rw [← hz] at hst j5
        have hzL : z < L.length := by omega
        have hkz := j3.pk.k ho (show z < 8 by omega)
        have c2 := j3.swap (by omega) hiL hzL
        rw [hgL] at c2
        have okz := okx_nI (show z < 8 by omega) (show (8 : Nat) < 2 ^ 31 by decide)
        have clz := nI_clamp (show z < 2 ^ 31 by omega)
        refine ⟨(U, upA Q (o + 8) (upA (upA (Q (o + 8)) i (Q (o + 8) z)) z (Q (o + 8) i)), .ref (Q (o + 8) i), (L.set i (gK L z)).set z (gK K i)), ?_, j1, fun a ha => ?_, by rw [hE]; exact c2, by rw [List.length_set, List.length_set]; exact j4, ?_, ?_⟩
        · show X 87 12 _ _ _ = _
          rw [x87_12, hS, List.length_append, List.length_singleton, ← hz]
          rcases hrd with hr0 | hr1
          · simp +decide only [x87_0, x87_1, x87_4, x87_7, x87_8, x87_9, x87_10, x87_11, x87_13, x87_14, x87_17, x87_18, x87_21, x87_24, x87_25, x87_26, x87_26N, x87_28, x87_28N, x87_30, x87_33, x87_36, x87_37, x87_38, x87_41, x87_44, x87_44N, x87_46, x87_49, x87_50, x87_51, x87_54, x87_57, x87_60, x87_61, x87_61N, x87_63, x87_66, x87_69, x87_70, x87_73, x87_76, x87_77, x87_78, x87_81, x87_84, x87_85, x87_86, x87_87, x87_88, x87_91, x87_94, x87_95, x87_95N, x87_97, x87_98, x87_101, x87_104, x87_107, x87_108, x87_111, x87_112, x87_115, x87_116, x87_117, x87_118, aft_some, aft_void, Option.bind_some, Option.toList_some, Option.toList_none, List.cons_append, List.nil_append, if_true, if_false, ↓reduceIte, eq_self, f0_o ho, ↓f0_0 ho, ↓f0_0p ho, ↓f0_1 ho, ↓f0_1p ho, ↓f0_2 ho, ↓f0_2p ho, ↓f0_3 ho, ↓f0_3p ho, ↓f0_4 ho, ↓f0_5 ho, ↓f0_6 ho, ↓f0_7 ho, ↓f0_8 ho, ↓f0_9 ho, ↓f0_10 ho, ↓f0_11 ho, ↓f1_g ho, ↓f1_s ho, ↓f2_g ho, ↓f2_s ho, f3_o ho, ↓f3_0 ho, ↓f3_0p ho, ↓f3_1 ho, ↓f3_2 ho, ↓f3_3 ho, ↓f4_g ho, ↓f4_s ho, ↓f5_g ho, ↓f5_s ho, ↓f6_g ho, ↓f6_s ho, f7_o ho, ↓f7_0 ho, ↓f7_1 ho, ↓f7_1p ho, ↓f7_2 ho, ↓f7_2p ho, ↓f8_g ho, fK_o hk, fK_o hk, ↓fK_0 hk, ↓fK_0p hk, ↓fK_1 hk, ↓fK_1p hk, ↓fK_2 hk, ↓fK_2p hk, ↓fK_3 hk, ↓fK_3p hk, ↓fK_4 hk, ↓fK_4p hk, ↓fK_5 hk, ↓fK_6 hk, ↓fK_7 hk, ↓fK1_g hk, ↓fK1_s hk, ↓fK2_g hk, ↓fK2_s hk, ↓fK3_g hk, ↓fK3_s hk, hlt, ok8, cl, okz, clz, ↓aft_of (er), hr0, ↓g_sq (q8 ho) (Or.inl rfl) (sh_k hk).1, ↓g_sq (q8 ho) (Or.inl rfl) (sh_k hkz).1, upA_upA, upA_s, nI_1]
          · have hv : vsI (V 2 d) (N 0) = 0 := Classical.not_not.mp fun q => hg (hgo.mpr ⟨hr1, q⟩)
            simp +decide only [x87_0, x87_1, x87_4, x87_7, x87_8, x87_9, x87_10, x87_11, x87_13, x87_14, x87_17, x87_18, x87_21, x87_24, x87_25, x87_26, x87_26N, x87_28, x87_28N, x87_30, x87_33, x87_36, x87_37, x87_38, x87_41, x87_44, x87_44N, x87_46, x87_49, x87_50, x87_51, x87_54, x87_57, x87_60, x87_61, x87_61N, x87_63, x87_66, x87_69, x87_70, x87_73, x87_76, x87_77, x87_78, x87_81, x87_84, x87_85, x87_86, x87_87, x87_88, x87_91, x87_94, x87_95, x87_95N, x87_97, x87_98, x87_101, x87_104, x87_107, x87_108, x87_111, x87_112, x87_115, x87_116, x87_117, x87_118, aft_some, aft_void, Option.bind_some, Option.toList_some, Option.toList_none, List.cons_append, List.nil_append, if_true, if_false, ↓reduceIte, eq_self, f0_o ho, ↓f0_0 ho, ↓f0_0p ho, ↓f0_1 ho, ↓f0_1p ho, ↓f0_2 ho, ↓f0_2p ho, ↓f0_3 ho, ↓f0_3p ho, ↓f0_4 ho, ↓f0_5 ho, ↓f0_6 ho, ↓f0_7 ho, ↓f0_8 ho, ↓f0_9 ho, ↓f0_10 ho, ↓f0_11 ho, ↓f1_g ho, ↓f1_s ho, ↓f2_g ho, ↓f2_s ho, f3_o ho, ↓f3_0 ho, ↓f3_0p ho, ↓f3_1 ho, ↓f3_2 ho, ↓f3_3 ho, ↓f4_g ho, ↓f4_s ho, ↓f5_g ho, ↓f5_s ho, ↓f6_g ho, ↓f6_s ho, f7_o ho, ↓f7_0 ho, ↓f7_1 ho, ↓f7_1p ho, ↓f7_2 ho, ↓f7_2p ho, ↓f8_g ho, fK_o hk, fK_o hk, ↓fK_0 hk, ↓fK_0p hk, ↓fK_1 hk, ↓fK_1p hk, ↓fK_2 hk, ↓fK_2p hk, ↓fK_3 hk, ↓fK_3p hk, ↓fK_4 hk, ↓fK_4p hk, ↓fK_5 hk, ↓fK_6 hk, ↓fK_7 hk, ↓fK1_g hk, ↓fK1_s hk, ↓fK2_g hk, ↓fK2_s hk, ↓fK3_g hk, ↓fK3_s hk, hlt, ok8, cl, okz, clz, ↓aft_of (er), hr1, hcus, ok10, clc, hdist, hday, ↓aft_of (ev), hv, ↓g_sq (q8 ho) (Or.inl rfl) (sh_k hk).1, ↓g_sq (q8 ho) (Or.inl rfl) (sh_k hkz).1, upA_upA, upA_s, nI_1]
        · show upA Q (o + 8) _ a = P a
          rw [upA_n _ _ ha]; exact j2 a ha
        · show ((L.set i (gK L z)).set z (gK K i)).take _ = _
          rw [hS, List.length_append, List.length_singleton, ← hz]
          have hzz : z < ((L.set i (gK L z)).set z (gK K i)).length := by rw [List.length_set, List.length_set]; omega
          rw [take_s (x := gK K i) (List.getElem?_set_self (by rw [List.length_set]; omega))]
          congr 1
          rw [← j5]
          apply List.ext_getElem?
          intro a
          by_cases ha : a < z
          · rw [List.getElem?_take_of_lt ha, List.getElem?_take_of_lt ha, List.getElem?_set_ne (by omega), List.getElem?_set_ne (by omega)]
          · rw [List.getElem?_eq_none (by rw [List.length_take]; omega), List.getElem?_eq_none (by rw [List.length_take]; omega)]
        · show ((L.set i (gK L z)).set z (gK K i)).drop (i + 1) = K.drop (i + 1)
          have hdr := congrArg (List.drop 1) j6
          rw [List.drop_drop, List.drop_drop] at hdr
          rw [← hdr]
          apply List.ext_getElem?
          intro a
          rw [List.getElem?_drop, List.getElem?_drop, List.getElem?_set_ne (by omega), List.getElem?_set_ne (by omega)])
  have i1 : ∀ a, (a < o ∨ o + 51 ≤ a) → U a = T a := i1
  have i2 : ∀ a, a ≠ o + 8 → Q a = P a := i2
  have i3 : CSs o U Q (lvE (goK N V) (N, V, B, R) (K.take K.length)) L := i3
  have i4 : L.length = K.length := i4
  have i5 : L.take (lvK (goK N V) (K.take K.length)).length = lvK (goK N V) (K.take K.length) := i5
  rw [List.take_length] at e1 i3 i5
  have hle := lvK_le (goK N V) K
  obtain ⟨r1, r2, ⟨kP, kn, kc, kK⟩, kB, kL, k48, kJ⟩ := i3
  refine ⟨up1 U (o + 7) 1 (nI (lvK (goK N V) K).length), Q, ?_, fun a ha => ?_, i2, ⟨?_, ?_, ?_, ?_⟩, ⟨?_, ?_, ?_, ?_⟩, ⟨kP, ?_, ?_, ?_⟩, ?_, ?_, ?_, ?_⟩
  · simp +decide only [x87_0, x87_1, x87_4, x87_7, x87_8, x87_9, x87_10, x87_11, x87_13, x87_14, x87_17, x87_18, x87_21, x87_24, x87_25, x87_26, x87_26N, x87_28, x87_28N, x87_30, x87_33, x87_36, x87_37, x87_38, x87_41, x87_44, x87_44N, x87_46, x87_49, x87_50, x87_51, x87_54, x87_57, x87_60, x87_61, x87_61N, x87_63, x87_66, x87_69, x87_70, x87_73, x87_76, x87_77, x87_78, x87_81, x87_84, x87_85, x87_86, x87_87, x87_88, x87_91, x87_94, x87_95, x87_95N, x87_97, x87_98, x87_101, x87_104, x87_107, x87_108, x87_111, x87_112, x87_115, x87_116, x87_117, x87_118, aft_some, aft_void, Option.bind_some, Option.toList_some, Option.toList_none, List.cons_append, List.nil_append, if_true, if_false, ↓reduceIte, eq_self, f0_o ho, ↓f0_0 ho, ↓f0_0p ho, ↓f0_1 ho, ↓f0_1p ho, ↓f0_2 ho, ↓f0_2p ho, ↓f0_3 ho, ↓f0_3p ho, ↓f0_4 ho, ↓f0_5 ho, ↓f0_6 ho, ↓f0_7 ho, ↓f0_8 ho, ↓f0_9 ho, ↓f0_10 ho, ↓f0_11 ho, ↓f1_g ho, ↓f1_s ho, ↓f2_g ho, ↓f2_s ho, f7_o ho, ↓f7_0 ho, ↓f7_1 ho, ↓f7_1p ho, ↓f7_2 ho, ↓f7_2p ho, ↓f8_g ho, h.n]
    rw [show X 87 12 [.ref o, .int (nI K.length), .int 0, .int 0, .long 0] [] (H T P) = _ from e1, x87_12]
    simp +decide only [x87_0, x87_1, x87_4, x87_7, x87_8, x87_9, x87_10, x87_11, x87_13, x87_14, x87_17, x87_18, x87_21, x87_24, x87_25, x87_26, x87_26N, x87_28, x87_28N, x87_30, x87_33, x87_36, x87_37, x87_38, x87_41, x87_44, x87_44N, x87_46, x87_49, x87_50, x87_51, x87_54, x87_57, x87_60, x87_61, x87_61N, x87_63, x87_66, x87_69, x87_70, x87_73, x87_76, x87_77, x87_78, x87_81, x87_84, x87_85, x87_86, x87_87, x87_88, x87_91, x87_94, x87_95, x87_95N, x87_97, x87_98, x87_101, x87_104, x87_107, x87_108, x87_111, x87_112, x87_115, x87_116, x87_117, x87_118, aft_some, aft_void, Option.bind_some, Option.toList_some, Option.toList_none, List.cons_append, List.nil_append, if_true, if_false, ↓reduceIte, eq_self, f0_o ho, ↓f0_0 ho, ↓f0_0p ho, ↓f0_1 ho, ↓f0_1p ho, ↓f0_2 ho, ↓f0_2p ho, ↓f0_3 ho, ↓f0_3p ho, ↓f0_4 ho, ↓f0_5 ho, ↓f0_6 ho, ↓f0_7 ho, ↓f0_8 ho, ↓f0_9 ho, ↓f0_10 ho, ↓f0_11 ho, ↓f1_g ho, ↓f1_s ho, ↓f2_g ho, ↓f2_s ho, f7_o ho, ↓f7_0 ho, ↓f7_1 ho, ↓f7_1p ho, ↓f7_2 ho, ↓f7_2p ho, ↓f8_g ho, nI_nlt (Nat.le_refl K.length) (show K.length < 2 ^ 31 by omega), nI_sub hle]
  · rw [← i1 a ha]; exact upA_n _ _ (by omega)
  · have := r1.1; rwa [← upA_n U (upA (U (o + 7)) 1 (nI (lvK (goK N V) K).length)) (show o ≠ o + 7 by omega)] at this
  · have := r1.2.1; rwa [← upA_n U (upA (U (o + 7)) 1 (nI (lvK (goK N V) K).length)) (show o + 1 ≠ o + 7 by omega)] at this
  · have := r1.2.2.1; rwa [← upA_n U (upA (U (o + 7)) 1 (nI (lvK (goK N V) K).length)) (show o + 2 ≠ o + 7 by omega)] at this
  · exact r1.2.2.2
  · have := r2.1; rwa [← upA_n U (upA (U (o + 7)) 1 (nI (lvK (goK N V) K).length)) (show o + 3 ≠ o + 7 by omega)] at this
  · have := r2.2.1; rwa [← upA_n U (upA (U (o + 7)) 1 (nI (lvK (goK N V) K).length)) (show o + 4 ≠ o + 7 by omega)] at this
  · have := r2.2.2.1; rwa [← upA_n U (upA (U (o + 7)) 1 (nI (lvK (goK N V) K).length)) (show o + 5 ≠ o + 7 by omega)] at this
  · have := r2.2.2.2; rwa [← upA_n U (upA (U (o + 7)) 1 (nI (lvK (goK N V) K).length)) (show o + 6 ≠ o + 7 by omega)] at this
  · simp only [upA_s]
  · simp +decide only [upA_s, u_n]; exact kc
  · intro j q hq
    have hj : j < (lvK (goK N V) K).length := (List.getElem?_eq_some_iff.mp hq).1
    rw [← i5, List.getElem?_take_of_lt hj] at hq
    have hrj := kP.rg (show j < 8 by omega)
    exact (kK j q hq).same (fun x hx => upA_n _ _ (by omega))
  · exact kB.other (upA_n _ _ (by omega)) (upA_n _ _ (by omega)) (upA_n _ _ (by omega)) (upA_n _ _ (by omega))
  · exact kL.same (upA_n _ _ (by omega)) (upA_n _ _ (by omega)) (upA_n _ _ (by omega))
  · have := k48; rwa [← upA_n U (upA (U (o + 7)) 1 (nI (lvK (goK N V) K).length)) (show o + 48 ≠ o + 7 by omega)] at this
  · exact kJ.same (upA_n _ _ (by omega)) (upA_n _ _ (by omega))
end LVN
end
section
/-! a day begins: hangers that are paid -/
abbrev chV (V : Nat → Nat → Int32) (c m : Nat) : Nat → Nat → Int32 := upA (upA V 6 (upA (V 6) c (V 6 c + nI m))) 5 (upA (V 5) c (V 5 c + nI m * V 1 3))
def chS (l0 : Nat) (s : sT) (c : Nat) : sT := if 0 < oldL l0 c s.2.2.1 then (hoN s.1, chV s.2.1 c (oldL l0 c s.2.2.1), dropE (zeroL l0 c s.2.2.1), wrB s.2.2.2 2 (s.2.1 0 0) (nI c) (nI (oldL l0 c s.2.2.1) * s.2.1 1 3)) else (s.1, s.2.1, dropE (zeroL l0 c s.2.2.1), s.2.2.2)
def chE (l0 : Nat) : Nat → sT → sT
  | 0, s => s
  | n + 1, s => chS l0 (chE l0 n s) n
theorem lim_ok {D g : Nat} (hD : D < 20000) (hg : g ≤ 60) : ∀ d : Nat, d < 20000 → (nI d < nI D - nI g ↔ d < D - g) := by
  intro d hd
  rw [Int32.lt_iff_toInt_lt, Int32.toInt_sub, nI_toInt (by omega), nI_toInt (by omega), nI_toInt (by omega), Int.bmod_eq_of_le (by omega) (by omega)]
  omega
theorem dropE_pos {B : List bT} (h : ∀ q ∈ B, 0 < q.2.2) : dropE B = B := by
  unfold dropE
  rw [List.filter_eq_self]
  intro q hq
  exact decide_eq_true (h q hq)
theorem zeroL_id {l0 c : Nat} {B : List bT} (h : ∀ q ∈ B, ¬ q.2.1 < l0) : zeroL l0 c B = B := by
  unfold zeroL
  have : B.map (fun q : bT => if q.1 = c ∧ q.2.1 < l0 then (q.1, q.2.1, 0) else q) = B.map id := by
    apply List.map_congr_left
    intro q hq
    rw [if_neg (fun z => h q hq z.2)]; rfl
  rw [this, List.map_id]
theorem oldL_0 {l0 c : Nat} : ∀ {B : List bT}, (∀ q ∈ B, ¬ q.2.1 < l0) → oldL l0 c B = 0
  | [], _ => rfl
  | q :: B, h => by
    simp only [oldL]
    rw [if_neg (fun z => h q List.mem_cons_self z.2), oldL_0 (fun x hx => h x (List.mem_cons_of_mem _ hx))]
theorem chE_id {l0 : Nat} {s : sT} (h : ∀ q ∈ s.2.2.1, ¬ q.2.1 < l0) (hp : ∀ q ∈ s.2.2.1, 0 < q.2.2) : ∀ n, chE l0 n s = s
  | 0 => rfl
  | n + 1 => by
    show chS l0 (chE l0 n s) n = s
    rw [chE_id h hp n]
    unfold chS
    rw [oldL_0 h, if_neg (by decide), zeroL_id h, dropE_pos hp]
theorem dropE_small {B : List bT} (h : OS B) : OS (dropE B) := fun q hq => h q (List.mem_filter.mp hq).1
theorem OS_ch {l0 : Nat} {s : sT} (h : OS s.2.2.1) : ∀ n, OS (chE l0 n s).2.2.1
  | 0 => h
  | n + 1 => by
    have := OS_ch h (l0 := l0) n
    show OS (chS l0 (chE l0 n s) n).2.2.1
    unfold chS
    split
    · exact dropE_small (zeroL_small this)
    · exact dropE_small (zeroL_small this)
theorem ch_keep {l0 : Nat} {s : sT} : ∀ n, (chE l0 n s).1 0 = s.1 0 ∧ (chE l0 n s).1 1 = s.1 1 ∧ (chE l0 n s).1 2 = s.1 2 ∧ (chE l0 n s).1 3 = s.1 3 ∧ (∀ r, r ≠ 5 → r ≠ 6 → (chE l0 n s).2.1 r = s.2.1 r) ∧ (chE l0 n s).2.2.1.length ≤ s.2.2.1.length
  | 0 => ⟨rfl, rfl, rfl, rfl, fun _ _ _ => rfl, Nat.le_refl _⟩
  | n + 1 => by
    obtain ⟨h0, h1, h2, h3, h4, h5⟩ := ch_keep (l0 := l0) (s := s) n
    have hl : (dropE (zeroL l0 n (chE l0 n s).2.2.1)).length ≤ (chE l0 n s).2.2.1.length := by
      refine Nat.le_trans (List.length_filter_le _ _) ?_
      unfold zeroL
      rw [List.length_map]; exact Nat.le_refl _
    show (chS l0 (chE l0 n s) n).1 0 = _ ∧ (chS l0 (chE l0 n s) n).1 1 = _ ∧ (chS l0 (chE l0 n s) n).1 2 = _ ∧ (chS l0 (chE l0 n s) n).1 3 = _ ∧ (∀ r, r ≠ 5 → r ≠ 6 → (chS l0 (chE l0 n s) n).2.1 r = s.2.1 r) ∧ (chS l0 (chE l0 n s) n).2.2.1.length ≤ _
    unfold chS
    split
    · refine ⟨?_, ?_, ?_, ?_, fun r g5 g6 => ?_, Nat.le_trans hl h5⟩
      · rw [← h0]; simp +decide only [u_n]
      · rw [← h1]; simp +decide only [u_n]
      · rw [← h2]; simp +decide only [u_n]
      · rw [← h3]; simp +decide only [u_n]
      · rw [← h4 r g5 g6]
        simp only [upA_n _ _ g5, upA_n _ _ g6]
    · exact ⟨h0, h1, h2, h3, h4, Nat.le_trans hl h5⟩
section DY
variable {T : Nat → Nat → Int32} {P : Nat → Nat → Nat} {o : Nat} {N : Nat → Nat} {V : Nat → Nat → Int32} {K : List kT} {B : List bT} {R : Nat → Nat → Int32}
theorem c_charge (ho : isB o) (h : CS o T P N V K B R) (hN0 : N 0 < 20000) (hN1 : N 1 ≤ 10) (h8 : K.length ≤ 8) (hs : OS B) (hp : ∀ q ∈ B, 0 < q.2.2) (hso : B.Pairwise (fun p q => p.2.1 ≤ q.2.1)) {g : Nat} (hg : g ≤ 60) (eg : V 1 2 = nI g) : ∃ T', X 86 0 [.ref o, .long 0, .long 0, .long 0, .long 0] [] (H T P) = some (none, H T' P) ∧ (∀ a, (a < o ∨ o + 51 ≤ a) → T' a = T a) ∧ CSs o T' P (chE (N 0 - g) (N 1) (N, V, B, R)) K := by
  have hlim := lim_ok hN0 hg
  have hday : T o 0 = nI (N 0) := by rw [h.1.1 0 (by decide)]; exact h.1.2.2.2
  have hgr : T (o + 1) 2 = nI g := by rw [h.1.2.1 2 (by decide)]; exact eg
  have ea := c_anyOld (P := P) (lim := nI (N 0) - nI g) ho h.2.2.2.1
  by_cases ho2 : 0 < B.length ∧ T (o + 43) 0 < nI (N 0) - nI g
  · rw [if_pos ho2] at ea
    obtain ⟨⟨U, v3, v4⟩, e1, i1, i2⟩ := loop_ex (fun c (s : (Nat → Nat → Int32) × Value × Value) => X 86 26 [.ref o, .int (nI (N 0) - nI g), .int (nI c), s.2.1, s.2.2] [] (H s.1 P))
      (fun c s => (∀ a, (a < o ∨ o + 51 ≤ a) → s.1 a = T a) ∧ CSs o s.1 P (chE (N 0 - g) c (N, V, B, R)) K) (N 1) (T, .long 0, .long 0) ⟨fun _ _ => rfl, h⟩ (by
        intro c ⟨U, v3, v4⟩ hc ⟨j1, j2⟩
        have j1 : ∀ a, (a < o ∨ o + 51 ≤ a) → U a = T a := j1
        have j2 : CSs o U P (chE (N 0 - g) c (N, V, B, R)) K := j2
        obtain ⟨n0, n1, n2, n3, n4, n5⟩ := ch_keep (l0 := N 0 - g) (s := (N, V, B, R)) c
        have hos := OS_ch (l0 := N 0 - g) (s := (N, V, B, R)) hs c
        obtain ⟨s, hsd⟩ : ∃ s, s = chE (N 0 - g) c (N, V, B, R) := ⟨_, rfl⟩
        rw [← hsd] at j2 n0 n1 n2 n3 n4 n5 hos
        have hE : chE (N 0 - g) (c + 1) (N, V, B, R) = chS (N 0 - g) s c := by rw [hsd]; rfl
        obtain ⟨⟨k0, k1, k2, k00⟩, ⟨k3, k4, k5, k6⟩, ⟨kP, kn, kc, kK⟩, kB, kL, k48, kJ⟩ := id j2
        obtain ⟨U1, e2, f2, b2⟩ := c_takeOld (P := P) (c := c) (l0 := N 0 - g) ho kB hos (show c < 10 by omega) hlim
        have hr1 : ∀ a, (a < o + 41 ∨ o + 44 < a) → U1 a = U a := fun a ha => f2 a (by omega) (by omega) (by omega) (by omega)
        have hcn : U (o + 3) 0 = nI (N 1) := by rw [k3, n1]
        have hlt : nI c < nI (N 1) := nI_lt hc (by omega)
        have hmm : oldL (N 0 - g) c s.2.2.1 < 2 ^ 31 := by
          have hb : ∀ (L : List bT), OS L → oldL (N 0 - g) c L ≤ 1000 * L.length := by
            intro L
            induction L with
            | nil => intro _; exact Nat.le_refl _
            | cons q L ih =>
              intro hL
              have := ih (fun x hx => hL x (List.mem_cons_of_mem _ hx))
              have h3 := (hL q List.mem_cons_self).2.2
              simp only [oldL, List.length_cons]
              split <;> omega
          have := hb _ hos
          have h99 := kB.2.1
          omega
        obtain ⟨mm, hmd⟩ : ∃ mm, mm = oldL (N 0 - g) c s.2.2.1 := ⟨_, rfl⟩
        rw [← hmd] at hmm e2
        have hcs1 : ∀ W : Nat → Nat → Int32, (∀ a, (a < o + 41 ∨ o + 44 < a) → W a = U a) → OB W o (dropE (zeroL (N 0 - g) c s.2.2.1)) → CS o W P s.1 s.2.1 K (dropE (zeroL (N 0 - g) c s.2.2.1)) s.2.2.2 := by
          intro W hW hWB
          have r1 := kP.rg (show 0 < 8 by decide)
          refine ⟨⟨?_, ?_, ?_, k00⟩, ⟨?_, ?_, ?_, ?_⟩, ⟨kP, ?_, ?_, fun j q hq => (kK j q hq).same (fun x hx => hW _ (by
            have hj := (List.getElem?_eq_some_iff.mp hq).1
            have := kP.rg (show j < 8 by omega)
            omega))⟩, hWB, kL.same (hW _ (by omega)) (hW _ (by omega)) (hW _ (by omega)), ?_, kJ.same (hW _ (by omega)) (hW _ (by omega))⟩
          · rw [hW o (by omega)]; exact k0
          · rw [hW (o + 1) (by omega)]; exact k1
          · rw [hW (o + 2) (by omega)]; exact k2
          · rw [hW (o + 3) (by omega)]; exact k3
          · rw [hW (o + 4) (by omega)]; exact k4
          · rw [hW (o + 5) (by omega)]; exact k5
          · rw [hW (o + 6) (by omega)]; exact k6
          · rw [hW (o + 7) (by omega)]; exact kn
          · rw [hW (o + 7) (by omega)]; exact kc
          · rw [hW (o + 48) (by omega)]; exact k48
        by_cases hm0 : 0 < mm
        · have hs1 := hcs1 U1 hr1 b2
          have hcc : c < s.1 1 := by rw [n1]; exact hc
          have g6 : U1 (o + 6) c = s.2.1 6 c := hs1.2.1.2.2.2 c hcc
          have g5 : U1 (o + 5) c = s.2.1 5 c := hs1.2.1.2.2.1 c hcc
          have gp : U1 (o + 1) 3 = s.2.1 1 3 := hs1.1.2.1 3 (by decide)
          have gd : U1 o 0 = s.2.1 0 0 := hs1.1.1 0 (by decide)
          obtain ⟨U2, hU2⟩ : ∃ U2, U2 = up1 (up1 U1 (o + 6) c (s.2.1 6 c + nI mm)) (o + 5) c (s.2.1 5 c + nI mm * s.2.1 1 3) := ⟨_, rfl⟩
          have hU2f : ∀ a, a ≠ o + 5 → a ≠ o + 6 → U2 a = U1 a := fun a q5 q6 => by rw [hU2]; simp only [upA_n _ _ q5, upA_n _ _ q6]
          have hJ2 : JO U2 o (s.1 4) s.2.2.2 := hs1.2.2.2.2.2.2.same (hU2f _ (by omega) (by omega)) (hU2f _ (by omega) (by omega))
          obtain ⟨U3, e3, f3, j3⟩ := c_write (P := P) (e := 2) (d := s.2.1 0 0) (x := nI c) (y := nI mm * s.2.1 1 3) ho hJ2
          have gd2 : U2 o 0 = s.2.1 0 0 := by rw [hU2f o (by omega) (by omega)]; exact gd
          rw [hU2] at e3 gd2
          have hU3 : ∀ a, a ≠ o + 5 → a ≠ o + 6 → a ≠ o + 49 → a ≠ o + 50 → U3 a = U1 a := fun a q5 q6 q49 q50 => by rw [f3 a q49 q50]; exact hU2f a q5 q6
          refine ⟨(U3, .int (nI mm), .int (nI mm * s.2.1 1 3)), ?_, fun a ha => ?_, ?_⟩
          · show X 86 26 _ _ _ = _
            rw [x86_26]
            simp +decide only [x86_0, x86_1, x86_4, x86_5, x86_8, x86_9, x86_10, x86_11, x86_12, x86_13, x86_16, x86_17, x86_20, x86_23, x86_24, x86_25, x86_27, x86_28, x86_31, x86_34, x86_37, x86_38, x86_41, x86_42, x86_43, x86_46, x86_47, x86_48, x86_51, x86_52, x86_53, x86_56, x86_57, x86_58, x86_59, x86_61, x86_62, x86_65, x86_68, x86_69, x86_70, x86_71, x86_72, x86_73, x86_74, x86_75, x86_78, x86_81, x86_82, x86_83, x86_84, x86_86, x86_87, x86_88, x86_89, x86_92, x86_93, x86_94, x86_97, x86_98, x86_100, x86_103, x86_106, x86_109, aft_some, aft_void, Option.bind_some, Option.toList_some, Option.toList_none, List.cons_append, List.nil_append, if_true, if_false, ↓reduceIte, eq_self, f0_o ho, ↓f0_0 ho, ↓f0_0p ho, ↓f0_1 ho, ↓f0_1p ho, ↓f0_2 ho, ↓f0_2p ho, ↓f0_3 ho, ↓f0_3p ho, ↓f0_4 ho, ↓f0_5 ho, ↓f0_6 ho, ↓f0_7 ho, ↓f0_8 ho, ↓f0_9 ho, ↓f0_10 ho, ↓f0_11 ho, ↓f1_g ho, ↓f1_s ho, ↓f2_g ho, ↓f2_s ho, f3_o ho, ↓f3_0 ho, ↓f3_0p ho, ↓f3_1 ho, ↓f3_2 ho, ↓f3_3 ho, ↓f4_g ho, ↓f4_s ho, ↓f5_g ho, ↓f5_s ho, ↓f6_g ho, ↓f6_s ho, upA_s, u_oo, u_o0, u_0o, u_n, f41_o ho, f49_o ho, hcn, hlt, ↓aft_of (e2), nI_posn hmm, hm0, okx_nI (show c < 10 by omega) (show (10 : Nat) < 2 ^ 31 by decide), nI_clamp (show c < 2 ^ 31 by omega), cl3, gp, g6, g5, gd, gd2, ↓aft_of (e3), nI_1]
          · show U3 a = T a
            rw [hU3 a (by omega) (by omega) (by omega) (by omega), hr1 a (by omega)]; exact j1 a ha
          · rw [hE]
            have hc2 : chS (N 0 - g) s c = (hoN s.1, chV s.2.1 c mm, dropE (zeroL (N 0 - g) c s.2.2.1), wrB s.2.2.2 2 (s.2.1 0 0) (nI c) (nI mm * s.2.1 1 3)) := by
              unfold chS
              rw [← hmd, if_pos hm0]
            rw [hc2]
            obtain ⟨⟨y0, y1, y2, y00⟩, ⟨y3, y4, y5, y6⟩, ⟨yP, yn, yc, yK⟩, yB, yL, y48, yJ⟩ := hs1
            show CS o U3 P (hoN s.1) (chV s.2.1 c mm) K (dropE (zeroL (N 0 - g) c s.2.2.1)) (wrB s.2.2.2 2 (s.2.1 0 0) (nI c) (nI mm * s.2.1 1 3))
            refine ⟨⟨fun j hj => ?_, fun j hj => ?_, fun j hj => ?_, ?_⟩, ⟨?_, fun j hj => ?_, fun j hj => ?_, fun j hj => ?_⟩, ⟨yP, ?_, ?_, fun j q hq => ?_⟩, ?_, ?_, fun j hj => ?_, ?_⟩
            · rw [hU3 _ (by omega) (by omega) (by omega) (by omega)]; simp +decide only [u_n]; exact y0 j hj
            · rw [hU3 _ (by omega) (by omega) (by omega) (by omega)]; simp +decide only [u_n]; exact y1 j hj
            · rw [hU3 _ (by omega) (by omega) (by omega) (by omega)]; simp +decide only [u_n]; exact y2 j hj
            · simp +decide only [u_n]; exact y00
            · rw [hU3 _ (by omega) (by omega) (by omega) (by omega)]; simp +decide only [u_n]; exact y3
            · simp +decide only [u_n] at hj
              rw [hU3 _ (by omega) (by omega) (by omega) (by omega)]; simp +decide only [u_n]; exact y4 j hj
            · simp +decide only [u_n] at hj
              rw [f3 _ (by omega) (by omega), hU2]
              simp +decide only [upA_s]
              unfold upA
              split
              · rfl
              · have e56 : up1 U1 (o + 6) c (s.2.1 6 c + nI mm) (o + 5) j = U1 (o + 5) j := by simp only [upA_n _ _ (show o + 5 ≠ o + 6 by omega)]
                rw [e56]; exact y5 j hj
            · simp +decide only [u_n] at hj
              rw [f3 _ (by omega) (by omega), hU2]
              simp +decide only [upA_s, u_n, upA_n _ _ (show o + 6 ≠ o + 5 by omega)]
              unfold upA
              split
              · rfl
              · exact y6 j hj
            · rw [hU3 _ (by omega) (by omega) (by omega) (by omega)]; exact yn
            · rw [hU3 _ (by omega) (by omega) (by omega) (by omega)]; simp +decide only [u_n]; exact yc
            · have hj := (List.getElem?_eq_some_iff.mp hq).1
              have := kP.rg (show j < 8 by omega)
              exact (yK j q hq).same (fun x hx => hU3 _ (by omega) (by omega) (by omega) (by omega))
            · exact yB.other (hU3 _ (by omega) (by omega) (by omega) (by omega)) (hU3 _ (by omega) (by omega) (by omega) (by omega)) (hU3 _ (by omega) (by omega) (by omega) (by omega)) (hU3 _ (by omega) (by omega) (by omega) (by omega))
            · have := yL.same (U := U3) (hU3 _ (by omega) (by omega) (by omega) (by omega)) (hU3 _ (by omega) (by omega) (by omega) (by omega)) (hU3 _ (by omega) (by omega) (by omega) (by omega))
              simp +decide only [u_n]; exact this
            · rw [hU3 _ (by omega) (by omega) (by omega) (by omega)]; simp +decide only [u_n]; exact y48 j hj
            · simp +decide only [upA_s]; exact j3
        · refine ⟨(U1, .int (nI mm), v4), ?_, fun a ha => ?_, ?_⟩
          · show X 86 26 _ _ _ = _
            rw [x86_26]
            simp +decide only [x86_0, x86_1, x86_4, x86_5, x86_8, x86_9, x86_10, x86_11, x86_12, x86_13, x86_16, x86_17, x86_20, x86_23, x86_24, x86_25, x86_27, x86_28, x86_31, x86_34, x86_37, x86_38, x86_41, x86_42, x86_43, x86_46, x86_47, x86_48, x86_51, x86_52, x86_53, x86_56, x86_57, x86_58, x86_59, x86_61, x86_62, x86_65, x86_68, x86_69, x86_70, x86_71, x86_72, x86_73, x86_74, x86_75, x86_78, x86_81, x86_82, x86_83, x86_84, x86_86, x86_87, x86_88, x86_89, x86_92, x86_93, x86_94, x86_97, x86_98, x86_100, x86_103, x86_106, x86_109, aft_some, aft_void, Option.bind_some, Option.toList_some, Option.toList_none, List.cons_append, List.nil_append, if_true, if_false, ↓reduceIte, eq_self, f0_o ho, ↓f0_0 ho, ↓f0_0p ho, ↓f0_1 ho, ↓f0_1p ho, ↓f0_2 ho, ↓f0_2p ho, ↓f0_3 ho, ↓f0_3p ho, ↓f0_4 ho, ↓f0_5 ho, ↓f0_6 ho, ↓f0_7 ho, ↓f0_8 ho, ↓f0_9 ho, ↓f0_10 ho, ↓f0_11 ho, ↓f1_g ho, ↓f1_s ho, ↓f2_g ho, ↓f2_s ho, f3_o ho, ↓f3_0 ho, ↓f3_0p ho, ↓f3_1 ho, ↓f3_2 ho, ↓f3_3 ho, ↓f4_g ho, ↓f4_s ho, ↓f5_g ho, ↓f5_s ho, ↓f6_g ho, ↓f6_s ho, f41_o ho, hcn, hlt, ↓aft_of (e2), nI_posn hmm, hm0, nI_1]
          · show U1 a = T a
            rw [hr1 a (by omega)]; exact j1 a ha
          · rw [hE]
            have hc2 : chS (N 0 - g) s c = (s.1, s.2.1, dropE (zeroL (N 0 - g) c s.2.2.1), s.2.2.2) := by
              unfold chS
              rw [← hmd, if_neg hm0]
            rw [hc2]
            exact hcs1 U1 hr1 b2)
    have i2 : CSs o U P (chE (N 0 - g) (N 1) (N, V, B, R)) K := i2
    obtain ⟨n0, n1, n2, n3, n4, n5⟩ := ch_keep (l0 := N 0 - g) (s := (N, V, B, R)) (N 1)
    have hcn : U (o + 3) 0 = nI (N 1) := by rw [i2.2.1.1, n1]
    refine ⟨U, ?_, i1, i2⟩
    simp +decide only [x86_0, x86_1, x86_4, x86_5, x86_8, x86_9, x86_10, x86_11, x86_12, x86_13, x86_16, x86_17, x86_20, x86_23, x86_24, x86_25, x86_27, x86_28, x86_31, x86_34, x86_37, x86_38, x86_41, x86_42, x86_43, x86_46, x86_47, x86_48, x86_51, x86_52, x86_53, x86_56, x86_57, x86_58, x86_59, x86_61, x86_62, x86_65, x86_68, x86_69, x86_70, x86_71, x86_72, x86_73, x86_74, x86_75, x86_78, x86_81, x86_82, x86_83, x86_84, x86_86, x86_87, x86_88, x86_89, x86_92, x86_93, x86_94, x86_97, x86_98, x86_100, x86_103, x86_106, x86_109, aft_some, aft_void, Option.bind_some, Option.toList_some, Option.toList_none, List.cons_append, List.nil_append, if_true, if_false, ↓reduceIte, eq_self, f0_o ho, ↓f0_0 ho, ↓f0_0p ho, ↓f0_1 ho, ↓f0_1p ho, ↓f0_2 ho, ↓f0_2p ho, ↓f0_3 ho, ↓f0_3p ho, ↓f0_4 ho, ↓f0_5 ho, ↓f0_6 ho, ↓f0_7 ho, ↓f0_8 ho, ↓f0_9 ho, ↓f0_10 ho, ↓f0_11 ho, ↓f1_g ho, ↓f1_s ho, ↓f2_g ho, ↓f2_s ho, f41_o ho, hday, hgr, cl2, ↓aft_of (ea)]
    rw [show X 86 26 [.ref o, .int (nI (N 0) - nI g), .int 0, .long 0, .long 0] [] (H T P) = _ from e1, x86_26]
    simp +decide only [x86_0, x86_1, x86_4, x86_5, x86_8, x86_9, x86_10, x86_11, x86_12, x86_13, x86_16, x86_17, x86_20, x86_23, x86_24, x86_25, x86_27, x86_28, x86_31, x86_34, x86_37, x86_38, x86_41, x86_42, x86_43, x86_46, x86_47, x86_48, x86_51, x86_52, x86_53, x86_56, x86_57, x86_58, x86_59, x86_61, x86_62, x86_65, x86_68, x86_69, x86_70, x86_71, x86_72, x86_73, x86_74, x86_75, x86_78, x86_81, x86_82, x86_83, x86_84, x86_86, x86_87, x86_88, x86_89, x86_92, x86_93, x86_94, x86_97, x86_98, x86_100, x86_103, x86_106, x86_109, aft_some, aft_void, Option.bind_some, Option.toList_some, Option.toList_none, List.cons_append, List.nil_append, if_true, if_false, ↓reduceIte, eq_self, f0_o ho, ↓f0_0 ho, ↓f0_0p ho, ↓f0_1 ho, ↓f0_1p ho, ↓f0_2 ho, ↓f0_2p ho, ↓f0_3 ho, ↓f0_3p ho, ↓f0_4 ho, ↓f0_5 ho, ↓f0_6 ho, ↓f0_7 ho, ↓f0_8 ho, ↓f0_9 ho, ↓f0_10 ho, ↓f0_11 ho, ↓f1_g ho, ↓f1_s ho, ↓f2_g ho, ↓f2_s ho, f3_o ho, ↓f3_0 ho, ↓f3_0p ho, ↓f3_1 ho, ↓f3_2 ho, ↓f3_3 ho, ↓f4_g ho, ↓f4_s ho, ↓f5_g ho, ↓f5_s ho, ↓f6_g ho, ↓f6_s ho, hcn, nI_nlt (Nat.le_refl (N 1)) (show N 1 < 2 ^ 31 by omega)]
  · rw [if_neg ho2] at ea
    have hno : ∀ q ∈ B, ¬ q.2.1 < N 0 - g := by
      intro q hq hlt
      apply ho2
      cases B with
      | nil => cases hq
      | cons b0 B' =>
        refine ⟨by simp, ?_⟩
        have h3 := h.2.2.2.1.2.2 0 b0.1 b0.2.1 b0.2.2 rfl
        rw [h3.2.1]
        refine (hlim _ (hs b0 List.mem_cons_self).2.1).mpr ?_
        rcases List.mem_cons.mp hq with rfl | hq
        · exact hlt
        · have := (List.pairwise_cons.mp hso).1 q hq
          omega
    refine ⟨T, ?_, fun _ _ => rfl, ?_⟩
    · simp +decide only [x86_0, x86_1, x86_4, x86_5, x86_8, x86_9, x86_10, x86_11, x86_12, x86_13, x86_16, x86_17, x86_20, x86_23, x86_24, x86_25, x86_27, x86_28, x86_31, x86_34, x86_37, x86_38, x86_41, x86_42, x86_43, x86_46, x86_47, x86_48, x86_51, x86_52, x86_53, x86_56, x86_57, x86_58, x86_59, x86_61, x86_62, x86_65, x86_68, x86_69, x86_70, x86_71, x86_72, x86_73, x86_74, x86_75, x86_78, x86_81, x86_82, x86_83, x86_84, x86_86, x86_87, x86_88, x86_89, x86_92, x86_93, x86_94, x86_97, x86_98, x86_100, x86_103, x86_106, x86_109, aft_some, aft_void, Option.bind_some, Option.toList_some, Option.toList_none, List.cons_append, List.nil_append, if_true, if_false, ↓reduceIte, eq_self, f0_o ho, ↓f0_0 ho, ↓f0_0p ho, ↓f0_1 ho, ↓f0_1p ho, ↓f0_2 ho, ↓f0_2p ho, ↓f0_3 ho, ↓f0_3p ho, ↓f0_4 ho, ↓f0_5 ho, ↓f0_6 ho, ↓f0_7 ho, ↓f0_8 ho, ↓f0_9 ho, ↓f0_10 ho, ↓f0_11 ho, ↓f1_g ho, ↓f1_s ho, ↓f2_g ho, ↓f2_s ho, f41_o ho, hday, hgr, cl2, ↓aft_of (ea)]
    · rw [chE_id hno hp]; exact h
end DY
end
section
/-! a day ends -/
abbrev dyG (V : Nat → Nat → Int32) : Nat := (V 1 2).toNatClampNeg
abbrev dy0 (s : sT) : sT := (upA s.1 0 (s.1 0 + 1), up1 s.2.1 0 0 (nI (s.1 0 + 1)), s.2.2)
abbrev dy1 (s : sT) : sT := chE (s.1 0 + 1 - dyG s.2.1) (s.1 1) (dy0 s)
noncomputable abbrev dyS (s : sT) (K : List kT) : sT := lvE (goK (dy1 s).1 (dy1 s).2.1) (dy1 s) K
noncomputable abbrev dyK (s : sT) (K : List kT) : List kT := lvK (goK (dy1 s).1 (dy1 s).2.1) K
section ND
variable {T : Nat → Nat → Int32} {P : Nat → Nat → Nat} {o : Nat} {N : Nat → Nat} {V : Nat → Nat → Int32} {K : List kT} {B : List bT} {R : Nat → Nat → Int32}
theorem c_nextDay (ho : isB o) (h : CS o T P N V K B R) (hw : WF N V K B) : ∃ T' P', X 85 0 [.ref o] [] (H T P) = some (some (.int (nI (K.length - (dyK (N, V, B, R) K).length))), H T' P') ∧ (∀ a, (a < o ∨ o + 51 ≤ a) → T' a = T a) ∧ (∀ a, a ≠ o + 8 → P' a = P a) ∧ CSs o T' P' (dyS (N, V, B, R) K) (dyK (N, V, B, R) K) := by
  obtain ⟨w1, w2, ⟨-, ⟨g, g1, g2, eg⟩, -⟩, w4, -, ⟨w6, w7, w8⟩, -⟩ := id hw
  have hday : T o 0 = nI (N 0) := by rw [h.1.1 0 (by decide)]; exact h.1.2.2.2
  have hG : dyG V = g := by unfold dyG; rw [eg, nI_clamp (by omega)]
  have hD1 : CS o (up1 T o 0 (nI (N 0 + 1))) P (upA N 0 (N 0 + 1)) (up1 V 0 0 (nI (N 0 + 1))) K B R := by
    obtain ⟨⟨k0, k1, k2, k00⟩, ⟨k3, k4, k5, k6⟩, ⟨kP, kn, kc, kK⟩, kB, kL, k48, kJ⟩ := id h
    have hf : ∀ a, a ≠ o → up1 T o 0 (nI (N 0 + 1)) a = T a := fun a ha => upA_n _ _ ha
    refine ⟨⟨fun j hj => ?_, fun j hj => ?_, fun j hj => ?_, ?_⟩, ⟨?_, fun j hj => ?_, fun j hj => ?_, fun j hj => ?_⟩, ⟨kP, ?_, ?_, fun j q hq => ?_⟩, ?_, ?_, fun j hj => ?_, ?_⟩
    · simp only [upA_s]
      unfold upA
      split
      · rfl
      · exact k0 j hj
    · rw [hf _ (by omega)]; simp +decide only [u_n]; exact k1 j hj
    · rw [hf _ (by omega)]; simp +decide only [u_n]; exact k2 j hj
    · simp only [upA_s]
    · rw [hf _ (by omega)]; simp +decide only [u_n]; exact k3
    · simp +decide only [u_n] at hj
      rw [hf _ (by omega)]; simp +decide only [u_n]; exact k4 j hj
    · simp +decide only [u_n] at hj
      rw [hf _ (by omega)]; simp +decide only [u_n]; exact k5 j hj
    · simp +decide only [u_n] at hj
      rw [hf _ (by omega)]; simp +decide only [u_n]; exact k6 j hj
    · rw [hf _ (by omega)]; exact kn
    · rw [hf _ (by omega)]; simp +decide only [u_n]; exact kc
    · have hj := (List.getElem?_eq_some_iff.mp hq).1
      have := kP.rg (show j < 8 by omega)
      exact (kK j q hq).same (fun x hx => hf _ (by omega))
    · exact kB.other (hf _ (by omega)) (hf _ (by omega)) (hf _ (by omega)) (hf _ (by omega))
    · have := kL.same (U := up1 T o 0 (nI (N 0 + 1))) (hf _ (by omega)) (hf _ (by omega)) (hf _ (by omega))
      simp +decide only [u_n]; exact this
    · rw [hf _ (by omega)]; simp +decide only [u_n]; exact k48 j hj
    · simp +decide only [u_n]; exact kJ.same (hf _ (by omega)) (hf _ (by omega))
  obtain ⟨T2, e2, f2, c2⟩ := c_charge (g := g) ho hD1 (by simp only [upA_s]; omega) (by simp +decide only [u_n]; omega) (by omega) (OS.of_wf hw) (fun q hq => (w6 q hq).2.2.2.1) w7 g2 (by simp +decide only [u_n]; exact eg)
  simp +decide only [upA_s, u_n] at c2
  have hs1 : chE (N 0 + 1 - g) (N 1) (upA N 0 (N 0 + 1), up1 V 0 0 (nI (N 0 + 1)), B, R) = dy1 (N, V, B, R) := by
    show _ = chE (N 0 + 1 - dyG V) (N 1) (dy0 (N, V, B, R))
    rw [hG]
  obtain ⟨n0, n1, n2, n3, n4, n5⟩ := ch_keep (l0 := N 0 + 1 - g) (s := (upA N 0 (N 0 + 1), up1 V 0 0 (nI (N 0 + 1)), B, R)) (N 1)
  have c2 : CSs o T2 P (chE (N 0 + 1 - g) (N 1) (upA N 0 (N 0 + 1), up1 V 0 0 (nI (N 0 + 1)), B, R)) K := c2
  rw [hs1] at c2 n0 n1 n2 n3 n4 n5
  obtain ⟨s, hsd⟩ : ∃ s, s = dy1 (N, V, B, R) := ⟨_, rfl⟩
  rw [← hsd] at c2 n0 n1 n2 n3 n4 n5
  have n0 : s.1 0 = N 0 + 1 := by rw [n0]; show upA N 0 (N 0 + 1) 0 = _; exact upA_s _ _ _
  have n1 : s.1 1 = N 1 := by rw [n1]; simp +decide only [u_n]
  have nv4 : s.2.1 4 = V 4 := by rw [n4 4 (by decide) (by decide)]; simp +decide only [u_n]
  have nB : s.2.2.1.length ≤ B.length := n5
  obtain ⟨T3, P3, e3, f3, q3, c3⟩ := c_loadVan (K := K) ho c2 (by omega) (by omega) (by omega) (fun c hc => by rw [nv4]; rw [n1] at hc; exact w2 c hc) (fun i hi => ⟨by rw [n1]; exact (w4 i _ (gK_at hi)).1, nh_small hw hi⟩) (by omega)
  have hss : (s.1, s.2.1, s.2.2.1, s.2.2.2) = s := rfl
  rw [hss] at c3
  refine ⟨T3, P3, ?_, fun a ha => ?_, q3, ?_⟩
  · have e2 : X 86 0 [.ref o, .long 0, .long 0, .long 0, .long 0] [] (H (up1 T o 0 (nI (N 0 + 1))) P) = some (none, H T2 P) := e2
    show X 85 0 [.ref o] [] (H T P) = some (some (.int (nI (K.length - (lvK (goK (dy1 (N, V, B, R)).1 (dy1 (N, V, B, R)).2.1) K).length))), H T3 P3)
    rw [← hsd]
    simp +decide only [x85_0, x85_1, x85_2, x85_5, x85_6, x85_7, x85_10, x85_11, x85_14, x85_15, x85_18, aft_some, aft_void, Option.bind_some, Option.toList_some, Option.toList_none, List.cons_append, List.nil_append, if_true, if_false, ↓reduceIte, eq_self, f0_o ho, ↓f0_0 ho, ↓f0_0p ho, ↓f0_1 ho, ↓f0_1p ho, ↓f0_2 ho, ↓f0_2p ho, ↓f0_3 ho, ↓f0_3p ho, ↓f0_4 ho, ↓f0_5 ho, ↓f0_6 ho, ↓f0_7 ho, ↓f0_8 ho, ↓f0_9 ho, ↓f0_10 ho, ↓f0_11 ho, ↓f1_g ho, ↓f1_s ho, ↓f2_g ho, ↓f2_s ho, hday, nI_1, ↓aft_of (e2), ↓aft_of (e3)]
  · rw [f3 a ha, f2 a ha]; exact upA_n _ _ (by omega)
  · show CSs o T3 P3 (lvE (goK (dy1 (N, V, B, R)).1 (dy1 (N, V, B, R)).2.1) (dy1 (N, V, B, R)) K) (lvK (goK (dy1 (N, V, B, R)).1 (dy1 (N, V, B, R)).2.1) K)
    rw [← hsd]; exact c3
end ND
end
section
/-! a day keeps what always holds -/
theorem allL_drop : ∀ B : List bT, allL (dropE B) = allL B
  | [] => rfl
  | q :: B => by
    have ih := allL_drop B
    unfold dropE at ih ⊢
    rw [List.filter_cons]
    by_cases h : 0 < q.2.2
    · rw [if_pos (decide_eq_true h)]
      simp only [allL, ih]
    · rw [if_neg (by simpa using h), ih]
      simp only [allL]; omega
theorem allL_zero (l0 c : Nat) : ∀ B : List bT, allL (zeroL l0 c B) + oldL l0 c B = allL B
  | [] => rfl
  | q :: B => by
    have ih := allL_zero l0 c B
    unfold zeroL at ih ⊢
    rw [List.map_cons]
    by_cases h : q.1 = c ∧ q.2.1 < l0
    · rw [if_pos h]
      simp only [allL, oldL, if_pos h]; omega
    · rw [if_neg h]
      simp only [allL, oldL, if_neg h]; omega
theorem memDZ {l0 c : Nat} {B : List bT} {q : bT} (h : q ∈ dropE (zeroL l0 c B)) : q ∈ B ∧ ¬ (q.1 = c ∧ q.2.1 < l0) := by
  unfold dropE at h
  obtain ⟨h1, h2⟩ := List.mem_filter.mp h
  unfold zeroL at h1
  obtain ⟨p, hp, e⟩ := List.mem_map.mp h1
  have h2 : 0 < q.2.2 := of_decide_eq_true h2
  by_cases hc : p.1 = c ∧ p.2.1 < l0
  · rw [if_pos hc] at e
    rw [← e] at h2
    exact absurd h2 (Nat.lt_irrefl 0)
  · rw [if_neg hc] at e
    subst e
    exact ⟨hp, hc⟩
theorem pwDZ {l0 c : Nat} {B : List bT} (h : B.Pairwise (fun p q => p.2.1 ≤ q.2.1)) : (dropE (zeroL l0 c B)).Pairwise (fun p q => p.2.1 ≤ q.2.1) := by
  unfold dropE
  refine List.Pairwise.filter _ ?_
  unfold zeroL
  rw [List.pairwise_map]
  refine h.imp ?_
  intro p q hpq
  have e : ∀ r : bT, (if r.1 = c ∧ r.2.1 < l0 then (r.1, r.2.1, 0) else r).2.1 = r.2.1 := by
    intro r
    split <;> rfl
  rw [e, e]; exact hpq
/-- what a charging keeps -/
theorem ch_ok {l0 : Nat} {s : sT} {m : Nat} (hp : s.2.2.1.Pairwise (fun p q => p.2.1 ≤ q.2.1)) : ∀ n, n ≤ m → (∀ q ∈ (chE l0 n s).2.2.1, q ∈ s.2.2.1 ∧ (q.1 < n → ¬ q.2.1 < l0)) ∧ (chE l0 n s).2.2.1.Pairwise (fun p q => p.2.1 ≤ q.2.1) ∧ nI (allL (chE l0 n s).2.2.1) + smI ((chE l0 n s).2.1 6) m = nI (allL s.2.2.1) + smI (s.2.1 6) m ∧ (chE l0 n s).1 4 ≤ 10 ∨ ¬ s.1 4 ≤ 10
  | 0, _ => by
    by_cases h : s.1 4 ≤ 10
    · exact Or.inl ⟨fun q hq => ⟨hq, fun h => absurd h (Nat.not_lt_zero _)⟩, hp, rfl, h⟩
    · exact Or.inr h
  | n + 1, hn => by
    rcases ch_ok (m := m) hp n (by omega) with ⟨h1, h2, h3, h4⟩ | h
    · refine Or.inl ?_
      obtain ⟨t, ht⟩ : ∃ t, t = chE l0 n s := ⟨_, rfl⟩
      rw [← ht] at h1 h2 h3 h4
      have hE : chE l0 (n + 1) s = chS l0 t n := by rw [ht]; rfl
      rw [hE]
      have hm : ∀ q ∈ dropE (zeroL l0 n t.2.2.1), q ∈ s.2.2.1 ∧ (q.1 < n + 1 → ¬ q.2.1 < l0) := by
        intro q hq
        obtain ⟨g1, g2⟩ := memDZ hq
        refine ⟨(h1 q g1).1, fun hlt => ?_⟩
        by_cases hqn : q.1 = n
        · exact fun z => g2 ⟨hqn, z⟩
        · exact (h1 q g1).2 (by omega)
      have ha := allL_zero l0 n t.2.2.1
      have hd := allL_drop (zeroL l0 n t.2.2.1)
      unfold chS
      by_cases h0 : 0 < oldL l0 n t.2.2.1
      · rw [if_pos h0]
        refine ⟨hm, pwDZ h2, ?_, ?_⟩
        · show nI (allL (dropE (zeroL l0 n t.2.2.1))) + smI (chV t.2.1 n (oldL l0 n t.2.2.1) 6) m = _
          have e6 : chV t.2.1 n (oldL l0 n t.2.2.1) 6 = upA (t.2.1 6) n (t.2.1 6 n + nI (oldL l0 n t.2.2.1)) := by simp +decide only [u_n, upA_s]
          rw [e6, smI_set (by omega), hd, ← h3, ← ha, ← nI_add]
          grind
        · show hoN t.1 4 ≤ 10
          simp only [upA_s]; omega
      · rw [if_neg h0]
        refine ⟨hm, pwDZ h2, ?_, h4⟩
        show nI (allL (dropE (zeroL l0 n t.2.2.1))) + smI (t.2.1 6) m = _
        rw [hd, ← h3]
        congr 2
        omega
    · exact Or.inr h
def skL : List kT → Int32
  | [] => 0
  | b :: K => nhI (b 2) + skL K
theorem skL_app : ∀ A B : List kT, skL (A ++ B) = skL A + skL B
  | [], B => by simp only [skL, List.nil_append, Int32.zero_add]
  | a :: A, B => by simp only [List.cons_append, skL, skL_app A B]; grind
theorem sm_skL {K : List kT} : ∀ n, n ≤ K.length → smI (fun i => nhI (gK K i 2)) n = skL (K.take n)
  | 0, _ => rfl
  | n + 1, h => by
    rw [take_s (gK_at (show n < K.length by omega)), skL_app, ← sm_skL n (by omega)]
    simp only [smI, skL]
    grind
theorem sm_sk (K : List kT) : smI (fun i => nhI (gK K i 2)) K.length = skL K := by
  rw [sm_skL K.length (Nat.le_refl _), List.take_length]
theorem lvK_sub (g : kT → Prop) : ∀ K : List kT, List.Sublist (lvK g K) K
  | [] => List.Sublist.slnil
  | b :: K => by
    show List.Sublist (@ite _ (g b) (Classical.propDecidable _) (lvK g K) (b :: lvK g K)) _
    by_cases h : g b
    · rw [if_pos h]; exact (lvK_sub g K).cons _
    · rw [if_neg h]; exact (lvK_sub g K).cons_cons _
/-- the order of the numbers, said of pairs -/
def ordK (n : Nat) (K : List kT) : Prop := K.Pairwise (fun b c => ∃ x y, x < y ∧ y < n ∧ b 0 0 = nI x ∧ c 0 0 = nI y)
theorem ordK_iff {n : Nat} {K : List kT} : ordK n K ↔ ∀ (i j : Nat) (b c : kT), i < j → K[i]? = some b → K[j]? = some c → ∃ x y, x < y ∧ y < n ∧ b 0 0 = nI x ∧ c 0 0 = nI y := by
  unfold ordK
  rw [List.pairwise_iff_getElem]
  constructor
  · intro h i j b c hij hb hc
    obtain ⟨h1, rfl⟩ := List.getElem?_eq_some_iff.mp hb
    obtain ⟨h2, rfl⟩ := List.getElem?_eq_some_iff.mp hc
    exact h i j h1 h2 hij
  · intro h i j h1 h2 hij
    exact h i j _ _ hij (List.getElem?_eq_getElem h1) (List.getElem?_eq_getElem h2)
/-- what the van keeps -/
theorem lv_ok (g : kT → Prop) {n1 : Nat} : ∀ (K : List kT) (s : sT), (∀ b ∈ K, (∃ c, c < n1 ∧ n1 ≤ 10 ∧ b 0 1 = nI c) ∧ ∃ x, x ≤ 27 ∧ nhI (b 2) = nI x) → s.1 4 ≤ 10 → (∀ q ∈ s.2.2.1, q.2.1 ≤ s.1 0) → s.2.2.1.Pairwise (fun p q => p.2.1 ≤ q.2.1) →
    (lvE g s K).1 4 ≤ 10 ∧ (∀ q ∈ (lvE g s K).2.2.1, q ∈ s.2.2.1 ∨ (q.1 < n1 ∧ q.2.1 = s.1 0 ∧ 0 < q.2.2 ∧ q.2.2 ≤ 27)) ∧ (lvE g s K).2.2.1.Pairwise (fun p q => p.2.1 ≤ q.2.1) ∧ skL (lvK g K) + nI (allL (lvE g s K).2.2.1) = skL K + nI (allL s.2.2.1) ∧ (lvE g s K).2.2.1.length + (lvK g K).length ≤ s.2.2.1.length + K.length
  | [], s, _, h4, _, hp => ⟨h4, fun q hq => Or.inl hq, hp, rfl, Nat.le_refl _⟩
  | b :: K, s, hK, h4, hq, hp => by
    have hK' := fun x hx => hK x (List.mem_cons_of_mem _ hx)
    obtain ⟨⟨c, hc, hn, ec⟩, x, hx, ex⟩ := hK b List.mem_cons_self
    by_cases hg : g b
    · have e1 : lvE g s (b :: K) = lvE g (hoS s b) K := by
        show lvE g (@ite _ (g b) (Classical.propDecidable _) (hoS s b) s) K = _
        rw [if_pos hg]
      have e2 : lvK g (b :: K) = lvK g K := by
        show @ite _ (g b) (Classical.propDecidable _) _ _ = _
        rw [if_pos hg]
      have hnx : (nhI (b 2)).toNatClampNeg = x := by rw [ex, nI_clamp (by omega)]
      have hcu : cuK b = c := by unfold cuK; rw [ec, nI_clamp (by omega)]
      have hB : (hoS s b).2.2.1 = if 0 < x then s.2.2.1 ++ [(c, s.1 0, x)] else s.2.2.1 := by
        show hoB s.1 s.2.2.1 b = _
        unfold hoB
        rw [hnx, hcu]
      have h0 : (hoS s b).1 0 = s.1 0 := by
        show hoN s.1 0 = s.1 0
        simp +decide only [u_n]
      have h4' : (hoS s b).1 4 ≤ 10 := by
        show hoN s.1 4 ≤ 10
        simp only [upA_s]; omega
      have hq' : ∀ q ∈ (hoS s b).2.2.1, q.2.1 ≤ (hoS s b).1 0 := by
        intro q hm
        rw [h0]
        rw [hB] at hm
        split at hm
        · rcases List.mem_append.mp hm with hm | hm
          · exact hq q hm
          · have := List.mem_singleton.mp hm
            subst this
            exact Nat.le_refl _
        · exact hq q hm
      have hp' : (hoS s b).2.2.1.Pairwise (fun p q => p.2.1 ≤ q.2.1) := by
        rw [hB]
        split
        · rw [List.pairwise_append]
          refine ⟨hp, List.pairwise_singleton _ _, fun p hp1 q hq1 => ?_⟩
          have := List.mem_singleton.mp hq1
          subst this
          exact hq p hp1
        · exact hp
      obtain ⟨r1, r2, r3, r4, r5⟩ := lv_ok g (n1 := n1) K (hoS s b) hK' h4' hq' hp'
      rw [e1, e2]
      have hA : nI (allL (hoS s b).2.2.1) = nI (allL s.2.2.1) + nhI (b 2) := by
        rw [hB, ex, nI_add]
        split
        · rw [allL_app]; rfl
        · congr 1; omega
      have hL : (hoS s b).2.2.1.length ≤ s.2.2.1.length + 1 := by
        rw [hB]
        split
        · rw [List.length_append]; exact Nat.le_refl _
        · omega
      refine ⟨r1, fun q hm => ?_, r3, ?_, by rw [List.length_cons]; omega⟩
      · rcases r2 q hm with hm | hm
        · rw [hB] at hm
          split at hm
          · rcases List.mem_append.mp hm with hm | hm
            · exact Or.inl hm
            · have := List.mem_singleton.mp hm
              subst this
              exact Or.inr ⟨hc, rfl, by assumption, hx⟩
          · exact Or.inl hm
        · rw [h0] at hm; exact Or.inr hm
      · rw [r4, hA]
        simp only [skL]
        grind
    · have e1 : lvE g s (b :: K) = lvE g s K := by
        show lvE g (@ite _ (g b) (Classical.propDecidable _) (hoS s b) s) K = _
        rw [if_neg hg]
      have e2 : lvK g (b :: K) = b :: lvK g K := by
        show @ite _ (g b) (Classical.propDecidable _) _ _ = _
        rw [if_neg hg]
      obtain ⟨r1, r2, r3, r4, r5⟩ := lv_ok g (n1 := n1) K s hK' h4 hq hp
      rw [e1, e2]
      refine ⟨r1, r2, r3, ?_, by rw [List.length_cons, List.length_cons]; omega⟩
      simp only [skL]
      grind
theorem WF_day {N : Nat → Nat} {V : Nat → Nat → Int32} {K : List kT} {B : List bT} {R : Nat → Nat → Int32} (hw : WF N V K B) (hd : N 0 < 10100) : WF (dyS (N, V, B, R) K).1 (dyS (N, V, B, R) K).2.1 (dyK (N, V, B, R) K) (dyS (N, V, B, R) K).2.2.1 := by
  obtain ⟨⟨a0, a1, a2, a3, a4, a5⟩, w2, ⟨⟨m, hm, em⟩, ⟨g, g1, g2, eg⟩, w3⟩, w4, w5, ⟨w6, w7, w8⟩, w9, w10⟩ := id hw
  have hG : dyG V = g := by unfold dyG; rw [eg, nI_clamp (by omega)]
  obtain ⟨s, hsd⟩ : ∃ s, s = dy1 (N, V, B, R) := ⟨_, rfl⟩
  have hs1 : s = chE (N 0 + 1 - g) (N 1) (dy0 (N, V, B, R)) := by
    rw [hsd]
    show chE (N 0 + 1 - dyG V) (N 1) (dy0 (N, V, B, R)) = _
    rw [hG]
  obtain ⟨n0, n1, n2, n3, n4, n5⟩ := ch_keep (l0 := N 0 + 1 - g) (s := dy0 (N, V, B, R)) (N 1)
  have hc := ch_ok (l0 := N 0 + 1 - g) (s := dy0 (N, V, B, R)) (m := N 1) w7 (N 1) (Nat.le_refl _)
  rw [← hs1] at n0 n1 n2 n3 n4 n5 hc
  have z4 : (dy0 (N, V, B, R)).1 4 = N 4 := by show upA N 0 (N 0 + 1) 4 = N 4; simp +decide only [u_n]
  have n0 : s.1 0 = N 0 + 1 := by rw [n0]; show upA N 0 (N 0 + 1) 0 = _; exact upA_s _ _ _
  have n1 : s.1 1 = N 1 := by rw [n1]; show upA N 0 (N 0 + 1) 1 = _; simp +decide only [u_n]
  have n2 : s.1 2 = N 2 := by rw [n2]; show upA N 0 (N 0 + 1) 2 = _; simp +decide only [u_n]
  have n3 : s.1 3 = N 3 := by rw [n3]; show upA N 0 (N 0 + 1) 3 = _; simp +decide only [u_n]
  have nv : ∀ r, r ≠ 0 → r ≠ 5 → r ≠ 6 → s.2.1 r = V r := fun r q0 q5 q6 => by
    rw [n4 r q5 q6]; show up1 V 0 0 (nI (N 0 + 1)) r = _; exact upA_n _ _ q0
  have nv0 : ∀ j, j ≠ 0 → s.2.1 0 j = V 0 j := fun j hj => by
    rw [n4 0 (by decide) (by decide)]; show up1 V 0 0 (nI (N 0 + 1)) 0 j = _
    simp only [upA_s]; exact upA_n _ _ hj
  obtain ⟨c1, c2, c3, c4⟩ := hc.resolve_right (by rw [z4]; omega)
  have c3 : nI (allL s.2.2.1) + smI (s.2.1 6) (N 1) = nI (allL B) + smI (V 6) (N 1) := by
    rw [c3]
    show nI (allL B) + smI (up1 V 0 0 (nI (N 0 + 1)) 6) (N 1) = _
    simp +decide only [u_n]
  have c1 : ∀ q ∈ s.2.2.1, q ∈ B ∧ ¬ q.2.1 < N 0 + 1 - g := fun q hq => by
    have h1 := c1 q hq
    have h2 : q ∈ B := h1.1
    exact ⟨h2, h1.2 (w6 q h2).1⟩
  have hKm : ∀ b ∈ K, ∃ i, i < K.length ∧ K[i]? = some b := fun b hb => by
    obtain ⟨i, hi, e⟩ := List.getElem_of_mem hb
    exact ⟨i, hi, by rw [← e]; exact List.getElem?_eq_getElem hi⟩
  obtain ⟨l0, l1, l2, l3, l4, l5⟩ := lvE_keep (goK s.1 s.2.1) s K
  obtain ⟨r1, r2, r3, r4, r5⟩ := lv_ok (goK s.1 s.2.1) (n1 := N 1) K s (fun b hb => by
    obtain ⟨i, hi, e⟩ := hKm b hb
    obtain ⟨⟨c, hc, ec⟩, -⟩ := w4 i b e
    refine ⟨⟨c, hc, a1, ec⟩, ?_⟩
    have := nh_small hw hi
    rwa [gK_of e] at this) c4 (fun q hq => by rw [n0]; have := (w6 q (c1 q hq).1).2.1; omega) c2
  have hsub := lvK_sub (goK s.1 s.2.1) K
  have hB5 : s.2.2.1.length ≤ B.length := n5
  show WF (lvE (goK (dy1 (N, V, B, R)).1 (dy1 (N, V, B, R)).2.1) (dy1 (N, V, B, R)) K).1 (lvE (goK (dy1 (N, V, B, R)).1 (dy1 (N, V, B, R)).2.1) (dy1 (N, V, B, R)) K).2.1 (lvK (goK (dy1 (N, V, B, R)).1 (dy1 (N, V, B, R)).2.1) K) (lvE (goK (dy1 (N, V, B, R)).1 (dy1 (N, V, B, R)).2.1) (dy1 (N, V, B, R)) K).2.2.1
  rw [← hsd]
  have hle := lvK_le (goK s.1 s.2.1) K
  refine ⟨⟨?_, ?_, ?_, ?_, ?_, r1⟩, ?_, ⟨⟨m, hm, ?_⟩, ⟨g, g1, g2, ?_⟩, ?_⟩, ?_, ?_, ⟨?_, r3, ?_⟩, ?_, ?_⟩
  · rw [l0, n0]; omega
  · rw [l1, n1]; omega
  · rw [l2, n2]; omega
  · omega
  · rw [l3, n3]; omega
  · rw [l1, n1, l4 4 (by decide), nv 4 (by decide) (by decide) (by decide)]; exact w2
  · rw [l4 1 (by decide), nv 1 (by decide) (by decide) (by decide)]; exact em
  · rw [l4 1 (by decide), nv 1 (by decide) (by decide) (by decide)]; exact eg
  · rw [l4 1 (by decide), nv 1 (by decide) (by decide) (by decide)]; exact w3
  · intro i b hb
    have hbm : b ∈ K := hsub.subset (List.mem_of_getElem? hb)
    obtain ⟨j, hj, e⟩ := hKm b hbm
    rw [l1, n1, l2, n2]
    exact w4 j b e
  · rw [l2, n2]
    exact ordK_iff.mp ((ordK_iff.mpr w5).sublist hsub)
  · intro q hq
    rw [l0, n0, l1, n1]
    rcases r2 q hq with h | h
    · have h1 := c1 q h
      have h2 := w6 q h1.1
      exact ⟨h2.1, by omega, by omega, h2.2.2.2.1, h2.2.2.2.2⟩
    · rw [n0] at h
      exact ⟨h.1, by omega, by omega, h.2.2.1, h.2.2.2⟩
  · rw [l2, n2]; omega
  · rw [l3, n3, l4 46 (by decide), nv 46 (by decide) (by decide) (by decide)]; exact w9
  · rw [sm_sk, l1, n1, l4 0 (by decide), l4 6 (by decide), nv0 1 (by decide), nv0 2 (by decide)]
    rw [sm_sk] at w10
    grind
end
section
/-! a basket that comes keeps what always holds -/
def pcN (m : Nat) : Nat := m % 2 + m / 2 % 2 + m / 4 % 2 + m / 8 % 2 + m / 16 % 2 + m / 32 % 2 + m / 64 % 2 + m / 128 % 2
theorem pc_or : ∀ q, q < 8 → ∀ m, m < 256 → nI m ||| ((1 : Int32) <<< (nI q &&& 31)) = nI (m ||| 2 ^ q) ∧ m ||| 2 ^ q < 256 ∧ pcN (m ||| 2 ^ q) ≤ pcN m + 1 := by decide +kernel
theorem fp_small : ∀ m, m < 256 → pcN m < 8 → ∃ p, p < 8 ∧ fpI (nI m) = nI p := by decide +kernel
theorem us_small {f : Nat → Int32} : ∀ {n : Nat}, (∀ i, i < n → ∃ q, q < 8 ∧ f i = nI q) → ∃ m, m < 256 ∧ usI f n = nI m ∧ pcN m ≤ n
  | 0, _ => ⟨0, by decide, rfl, by decide⟩
  | n + 1, h => by
    obtain ⟨m, hm, e, hp⟩ := us_small (n := n) (fun i hi => h i (by omega))
    obtain ⟨q, hq, eq⟩ := h n (by omega)
    obtain ⟨h1, h2, h3⟩ := pc_or q hq m hm
    refine ⟨m ||| 2 ^ q, h2, ?_, by omega⟩
    simp only [usI]
    rw [e, eq, h1]
theorem dig_small {m k : Nat} (hm : m ≤ 9999) (hk : k < 4) : ∃ x, x ≤ 9 ∧ digI (nI m) k = nI x := by
  have e : ∀ b, 0 < b → b < 2 ^ 31 → nI m / nI b - nI m / nI b / 10 * 10 = nI (m / b % 10) := fun b h0 hb => by
    rw [nI_divp (by omega) hb h0]
    exact nI_modp (b := 10) (by have := Nat.div_le_self m b; omega) (by decide) (by decide)
  match k, hk with
  | 0, _ => exact ⟨_, by omega, e 1000 (by decide) (by decide)⟩
  | 1, _ => exact ⟨_, by omega, e 100 (by decide) (by decide)⟩
  | 2, _ => exact ⟨_, by omega, e 10 (by decide) (by decide)⟩
  | 3, _ => exact ⟨_, by omega, e 1 (by decide) (by decide)⟩
theorem tk_all (c : Nat) : ∀ (g : Nat) (B : List bT), allL (tkL c g B) + min g (outL c B) = allL B
  | g, [] => by simp only [tkL, allL, outL]; omega
  | g, q :: B => by
    simp only [tkL, outL]
    by_cases h : q.1 = c
    · rw [if_pos h, if_pos h]
      have := tk_all c (g - min g q.2.2) B
      simp only [allL]; omega
    · rw [if_neg h, if_neg h]
      have := tk_all c g B
      simp only [allL]; omega
theorem tk_mem (c : Nat) : ∀ (g : Nat) (B : List bT) (q : bT), q ∈ tkL c g B → ∃ p ∈ B, q.1 = p.1 ∧ q.2.1 = p.2.1 ∧ q.2.2 ≤ p.2.2
  | _, [], _, h => by cases h
  | g, r :: B, q, h => by
    unfold tkL at h
    split at h
    · rcases List.mem_cons.mp h with rfl | h
      · exact ⟨r, List.mem_cons_self, rfl, rfl, Nat.sub_le _ _⟩
      · obtain ⟨p, hp, e⟩ := tk_mem c _ B q h
        exact ⟨p, List.mem_cons_of_mem _ hp, e⟩
    · rcases List.mem_cons.mp h with rfl | h
      · exact ⟨q, List.mem_cons_self, rfl, rfl, Nat.le_refl _⟩
      · obtain ⟨p, hp, e⟩ := tk_mem c _ B q h
        exact ⟨p, List.mem_cons_of_mem _ hp, e⟩
theorem tk_pw (c : Nat) : ∀ (g : Nat) (B : List bT), B.Pairwise (fun p q => p.2.1 ≤ q.2.1) → (tkL c g B).Pairwise (fun p q => p.2.1 ≤ q.2.1)
  | _, [], _ => List.Pairwise.nil
  | g, r :: B, h => by
    obtain ⟨h1, h2⟩ := List.pairwise_cons.mp h
    unfold tkL
    split
    · refine List.pairwise_cons.mpr ⟨fun q hq => ?_, tk_pw c _ B h2⟩
      obtain ⟨p, hp, -, e, -⟩ := tk_mem c _ B q hq
      show r.2.1 ≤ _
      rw [e]; exact h1 p hp
    · refine List.pairwise_cons.mpr ⟨fun q hq => ?_, tk_pw c _ B h2⟩
      obtain ⟨p, hp, -, e, -⟩ := tk_mem c _ B q hq
      rw [e]; exact h1 p hp
theorem WF_come {N : Nat → Nat} {V : Nat → Nat → Int32} {K : List kT} {B : List bT} {p st : Int32} {c g : Nat} (hw : WF N V K B) (hc : c < N 1) (h8 : K.length < 8) (h2 : N 2 < 99) (hg : g ≤ outL c B) (hp : ∃ m, m ≤ 9999 ∧ p = nI m) (hs : ∃ s, s ≤ 3 ∧ st = nI s) : WF (rcN N) (up1 V 0 1 (V 0 1 + nI g)) (rcK N V K c p st) (dropE (tkL c g B)) := by
  obtain ⟨⟨a0, a1, a2, a3, a4, a5⟩, w2, w3, w4, w5, ⟨w6, w7, w8⟩, w9, w10⟩ := id hw
  obtain ⟨pm, hpm, ep⟩ := hp
  have hv : ∀ r, r ≠ 0 → up1 V 0 1 (V 0 1 + nI g) r = V r := fun r hr => upA_n _ _ hr
  have h2' : rcN N 2 = N 2 + 1 := by simp +decide only [u_n, upA_s]
  have h0' : rcN N 0 = N 0 := by simp +decide only [u_n]
  have h1' : rcN N 1 = N 1 := by simp +decide only [u_n]
  have h3' : rcN N 3 = N 3 := by simp +decide only [u_n]
  have hl : (rcK N V K c p st).length = K.length + 1 := List.length_append
  have hdl : (dropE (tkL c g B)).length ≤ B.length := by
    refine Nat.le_trans (List.length_filter_le _ _) ?_
    rw [tkL_len]; exact Nat.le_refl _
  have hat : ∀ (i : Nat) (b : kT), (rcK N V K c p st)[i]? = some b → (i < K.length ∧ K[i]? = some b) ∨ (i = K.length ∧ b = newK (nI (N 2)) (nI c) (fpI (usI (fun i => gK K i 0 2) K.length)) st (V 0 0) p) := by
    intro i b hb
    by_cases hi : i < K.length
    · rw [List.getElem?_append_left hi] at hb; exact Or.inl ⟨hi, hb⟩
    · rw [List.getElem?_append_right (by omega)] at hb
      have hz : i - K.length < 1 := (List.getElem?_eq_some_iff.mp hb).1
      have hie : i = K.length := by omega
      subst hie
      rw [Nat.sub_self] at hb
      cases hb
      exact Or.inr ⟨rfl, rfl⟩
  refine ⟨⟨?_, ?_, ?_, ?_, ?_, ?_⟩, ?_, ?_, ?_, ?_, ⟨?_, ?_, ?_⟩, ?_, ?_⟩
  · rw [h0']; exact a0
  · rw [h1']; exact a1
  · rw [h2']; omega
  · rw [hl]; omega
  · rw [h3']; exact a4
  · show upA _ 4 _ 4 ≤ 10
    rw [upA_s]; omega
  · rw [h1', hv 4 (by decide)]; exact w2
  · rw [hv 1 (by decide)]; exact w3
  · intro i b hb
    rw [h1', h2']
    rcases hat i b hb with ⟨hi, hb⟩ | ⟨-, rfl⟩
    · obtain ⟨x1, x2, ⟨x, hx, ex⟩, x4⟩ := w4 i b hb
      exact ⟨x1, x2, ⟨x, by omega, ex⟩, x4⟩
    · obtain ⟨m, hm, em, hpc⟩ := us_small (f := fun i => gK K i 0 2) (n := K.length) (fun i hi => (w4 i _ (gK_at hi)).2.1)
      obtain ⟨q, hq, eq⟩ := fp_small m hm (by omega)
      refine ⟨⟨c, hc, rfl⟩, ⟨q, hq, ?_⟩, ⟨N 2, by omega, rfl⟩, hs, fun k hk => ?_⟩
      · show fpI (usI (fun i => gK K i 0 2) K.length) = nI q
        rw [em, eq]
      · obtain ⟨x, hx, ex⟩ := dig_small hpm hk
        exact ⟨x, 0, 0, hx, by omega, by rw [ep]; exact ex, rfl, rfl⟩
  · intro i j b d hij hb hd
    rw [h2']
    rcases hat i b hb with ⟨hi, hb⟩ | ⟨hi, -⟩
    · rcases hat j d hd with ⟨hj, hd⟩ | ⟨hj, rfl⟩
      · obtain ⟨x, y, hxy, hy, e⟩ := w5 i j b d hij hb hd
        exact ⟨x, y, hxy, by omega, e⟩
      · obtain ⟨-, -, ⟨x, hx, ex⟩, -⟩ := w4 i b hb
        exact ⟨x, N 2, hx, by omega, ex, rfl⟩
    · have := (List.getElem?_eq_some_iff.mp hd).1
      omega
  · intro q hq
    obtain ⟨m1, m2⟩ := List.mem_filter.mp hq
    obtain ⟨r, hr, e1, e2, e3⟩ := tk_mem c g B q m1
    have := w6 r hr
    have m2 : 0 < q.2.2 := of_decide_eq_true m2
    rw [h0', h1', e1, e2]
    exact ⟨this.1, this.2.1, this.2.2.1, m2, by omega⟩
  · exact (tk_pw c g B w7).filter _
  · rw [hl, h2']; omega
  · rw [h3', hv 46 (by decide)]; exact w9
  · rw [sm_sk, skL_app, h1', hv 6 (by decide), allL_drop]
    rw [sm_sk] at w10
    have ha := tk_all c g B
    have hmin : min g (outL c B) = g := Nat.min_eq_left hg
    rw [hmin] at ha
    have hA : nI (allL (tkL c g B)) + nI g = nI (allL B) := by rw [nI_add, ha]
    have hn : skL [newK (nI (N 2)) (nI c) (fpI (usI (fun i => gK K i 0 2) K.length)) st (V 0 0) p] = 0 := rfl
    have hv1 : up1 V 0 1 (V 0 1 + nI g) 0 1 = V 0 1 + nI g := by simp only [upA_s]
    have hv2 : up1 V 0 1 (V 0 1 + nI g) 0 2 = V 0 2 := by simp +decide only [upA_s, u_n]
    rw [hn, hv1, hv2]
    grind
end
section
/-! a state is copied -/
section SC
variable {T : Nat → Nat → Int32} {P : Nat → Nat → Nat} {o q : Nat} {N : Nat → Nat} {V : Nat → Nat → Int32} {K : List kT} {B : List bT} {R : Nat → Nat → Int32}
theorem c_head (ho : isB o) (hq : isB q) (hne : o ≠ q) : ∃ T', X 73 0 [.ref o, .ref q] [] (H T P) = X 73 60 [.ref o, .ref q] [] (H T' P) ∧ (∀ a, a ≠ o → a ≠ o + 1 → a ≠ o + 2 → T' a = T a) ∧ RW (T' o) (T q) 4 ∧ RW (T' (o + 1)) (T (q + 1)) 4 ∧ RW (T' (o + 2)) (T (q + 2)) 5 := by
  refine ⟨_, by
    simp +decide only [x73_0, x73_1, x73_1N, x73_2, x73_5, x73_8, x73_9, x73_9N, x73_10, x73_13, x73_16, x73_17, x73_17N, x73_18, x73_21, x73_24, x73_25, x73_25N, x73_26, x73_29, x73_32, x73_32N, x73_33, x73_36, x73_37, x73_38, x73_41, x73_42, x73_43, x73_46, x73_46N, x73_47, x73_50, x73_51, x73_52, x73_55, x73_56, x73_57, x73_61, x73_64, x73_64N, x73_65, x73_68, x73_71, x73_72, x73_75, x73_75N, x73_76, x73_79, x73_82, x73_83, x73_86, x73_86N, x73_87, x73_90, x73_93, x73_94, x73_97, x73_97N, x73_98, x73_101, x73_104, x73_105, x73_108, x73_108N, x73_109, x73_112, x73_115, x73_116, x73_119, x73_119N, x73_120, x73_123, x73_126, aft_some, aft_void, Option.bind_some, Option.toList_some, Option.toList_none, List.cons_append, List.nil_append, if_true, if_false, ↓reduceIte, eq_self, f0_o ho, ↓f0_0 ho, ↓f0_0p ho, ↓f0_1 ho, ↓f0_1p ho, ↓f0_2 ho, ↓f0_2p ho, ↓f0_3 ho, ↓f0_3p ho, ↓f0_4 ho, ↓f0_5 ho, ↓f0_6 ho, ↓f0_7 ho, ↓f0_8 ho, ↓f0_9 ho, ↓f0_10 ho, ↓f0_11 ho, ↓f1_g ho, ↓f1_s ho, ↓f2_g ho, ↓f2_s ho, f0_o hq, ↓f0_0 hq, ↓f0_0p hq, ↓f0_1 hq, ↓f0_1p hq, ↓f0_2 hq, ↓f0_2p hq, ↓f0_3 hq, ↓f0_3p hq, ↓f0_4 hq, ↓f0_5 hq, ↓f0_6 hq, ↓f0_7 hq, ↓f0_8 hq, ↓f0_9 hq, ↓f0_10 hq, ↓f0_11 hq, ↓f1_g hq, ↓f1_s hq, ↓f2_g hq, ↓f2_s hq, upA_s, u_oo, u_o0, u_0o, u_n, u_ap ho hq hne, u_ap0 ho hq hne, u_ap1 ho hq hne, u_ap2 hne, ↓g_cp0 (q1 hq) (q1 ho) (show (4 : Int32) = nI 4 from rfl) (Nat.le_refl 4) (Nat.le_refl 4) (by decide), ↓g_cp0 (q2 hq) (q2 ho) (show (5 : Int32) = nI 5 from rfl) (Nat.le_refl 5) (Nat.le_refl 5) (by decide)]
    rfl, ?_, ?_, ?_, ?_⟩
  · intro a h0 h1 h2
    simp only [upA_n _ _ h0, upA_n _ _ h1, upA_n _ _ h2]
  · intro k hk
    match k, hk with
    | 0, _ => simp +decide [upA]
    | 1, _ => simp +decide [upA]
    | 2, _ => simp +decide [upA]
    | 3, _ => simp +decide [upA]
  · intro k hk
    simp +decide only [upA_s, u_oo, cpy0 hk]
  · intro k hk
    simp +decide only [upA_s, u_oo, cpy0 hk]
theorem c_stCopy (ho : isB o) (hq : isB q) (hne : o ≠ q) (hPo : PK P o) (h : CS q T P N V K B R) (hN1 : N 1 ≤ 10) (h8 : K.length ≤ 8) : ∃ T', X 73 0 [.ref o, .ref q] [] (H T P) = some (none, H T' P) ∧ (∀ a, (a < o ∨ o + 51 ≤ a) → T' a = T a) ∧ CS o T' P N V K B R := by
  have hfar := isB_far ho hq hne
  obtain ⟨⟨k0, k1, k2, k00⟩, ⟨k3, k4, k5, k6⟩, ⟨kP, kn, kc, kK⟩, ⟨kb, kb9, kB⟩, ⟨kl, kl20, kL⟩, k48, ⟨kj10, kj, l, hl, ej, kJ⟩⟩ := id h
  obtain ⟨T1, e1, f1, a1, b1, c1⟩ := c_head (T := T) (P := P) ho hq hne
  have g1 : ∀ a, 3 ≤ a → a < 51 → T1 (q + a) = T (q + a) := fun a h3 h5 => f1 _ (by omega) (by omega) (by omega)
  obtain ⟨T2, e2, f2, a2, b2⟩ := c_cuCopy (T := T1) (P := P) (n := N 1) ho hq hne (by rw [g1 3 (by decide) (by decide)]; exact k3) hN1
  have g2 : ∀ a, 3 ≤ a → a < 51 → T2 (q + a) = T (q + a) := fun a h3 h5 => by rw [f2 _ (by omega) (by omega) (by omega) (by omega)]; exact g1 a h3 h5
  obtain ⟨T3, e3, f3, a3, b3, c3⟩ := c_shCopy (T := T2) (P := P) (n := K.length) ho hq hne hPo kP (by rw [g2 7 (by decide) (by decide)]; exact kn) h8
  have g3 : ∀ a, 3 ≤ a → a < 51 → T3 (q + a) = T (q + a) := fun a h3 h5 => by rw [f3 _ (by omega) (by omega)]; exact g2 a h3 h5
  obtain ⟨T4, e4, f4, a4, b4⟩ := c_ouCopy (T := T3) (P := P) (n := B.length) ho hq hne (by rw [g3 41 (by decide) (by decide)]; exact kb) kb9
  have g4 : ∀ a, 3 ≤ a → a < 51 → T4 (q + a) = T (q + a) := fun a h3 h5 => by rw [f4 _ (by omega) (by omega) (by omega) (by omega)]; exact g3 a h3 h5
  obtain ⟨T5, e5, f5, a5, b5⟩ := c_piCopy (T := T4) (P := P) (n := N 3) ho hq hne (by rw [g4 45 (by decide) (by decide)]; exact kl) kl20
  have g5 : ∀ a, 3 ≤ a → a < 51 → T5 (q + a) = T (q + a) := fun a h3 h5 => by rw [f5 _ (by omega) (by omega) (by omega)]; exact g4 a h3 h5
  obtain ⟨T6, e6, f6, a6⟩ := c_boCopy (T := T5) (P := P) ho hq hne
  have g6 : ∀ a, 3 ≤ a → a < 51 → T6 (q + a) = T (q + a) := fun a h3 h5 => by rw [f6 _ (by omega)]; exact g5 a h3 h5
  obtain ⟨T7, e7, f7, a7, b7, c7⟩ := c_joCopy (T := T6) (P := P) ho hq hne
  have z1 : ∀ a, a < 3 → T7 (o + a) = T1 (o + a) := fun a ha => by
    rw [f7 _ (by omega) (by omega), f6 _ (by omega), f5 _ (by omega) (by omega) (by omega), f4 _ (by omega) (by omega) (by omega) (by omega), f3 _ (by omega) (by omega), f2 _ (by omega) (by omega) (by omega) (by omega)]
  have z2 : ∀ a, 3 ≤ a → a < 7 → T7 (o + a) = T2 (o + a) := fun a h3 ha => by
    rw [f7 _ (by omega) (by omega), f6 _ (by omega), f5 _ (by omega) (by omega) (by omega), f4 _ (by omega) (by omega) (by omega) (by omega), f3 _ (by omega) (by omega)]
  have z3 : ∀ a, o + 7 ≤ a → a < o + 41 → T7 a = T3 a := fun a h3 ha => by
    rw [f7 _ (by omega) (by omega), f6 _ (by omega), f5 _ (by omega) (by omega) (by omega), f4 _ (by omega) (by omega) (by omega) (by omega)]
  have z4 : ∀ a, 41 ≤ a → a < 45 → T7 (o + a) = T4 (o + a) := fun a h3 ha => by
    rw [f7 _ (by omega) (by omega), f6 _ (by omega), f5 _ (by omega) (by omega) (by omega)]
  have z5 : ∀ a, 45 ≤ a → a < 48 → T7 (o + a) = T5 (o + a) := fun a h3 ha => by
    rw [f7 _ (by omega) (by omega), f6 _ (by omega)]
  have z6 : T7 (o + 48) = T6 (o + 48) := f7 _ (by omega) (by omega)
  have y0 : T7 o = T1 o := z1 0 (by decide)
  refine ⟨T7, ?_, fun a ha => ?_, ⟨?_, ?_, ?_, k00⟩, ⟨?_, ?_, ?_, ?_⟩, ⟨hPo, ?_, ?_, ?_⟩, ⟨?_, kb9, ?_⟩, ⟨?_, kl20, ?_⟩, ?_, ⟨kj10, ?_, l, hl, ?_, ?_⟩⟩
  · rw [e1]
    simp +decide only [x73_0, x73_1, x73_1N, x73_2, x73_5, x73_8, x73_9, x73_9N, x73_10, x73_13, x73_16, x73_17, x73_17N, x73_18, x73_21, x73_24, x73_25, x73_25N, x73_26, x73_29, x73_32, x73_32N, x73_33, x73_36, x73_37, x73_38, x73_41, x73_42, x73_43, x73_46, x73_46N, x73_47, x73_50, x73_51, x73_52, x73_55, x73_56, x73_57, x73_60, x73_61, x73_64, x73_64N, x73_65, x73_68, x73_71, x73_72, x73_75, x73_75N, x73_76, x73_79, x73_82, x73_83, x73_86, x73_86N, x73_87, x73_90, x73_93, x73_94, x73_97, x73_97N, x73_98, x73_101, x73_104, x73_105, x73_108, x73_108N, x73_109, x73_112, x73_115, x73_116, x73_119, x73_119N, x73_120, x73_123, x73_126, aft_some, aft_void, Option.bind_some, Option.toList_some, Option.toList_none, List.cons_append, List.nil_append, if_true, if_false, ↓reduceIte, eq_self, f0_o ho, ↓f0_0 ho, ↓f0_0p ho, ↓f0_1 ho, ↓f0_1p ho, ↓f0_2 ho, ↓f0_2p ho, ↓f0_3 ho, ↓f0_3p ho, ↓f0_4 ho, ↓f0_5 ho, ↓f0_6 ho, ↓f0_7 ho, ↓f0_8 ho, ↓f0_9 ho, ↓f0_10 ho, ↓f0_11 ho, ↓f1_g ho, ↓f1_s ho, ↓f2_g ho, ↓f2_s ho, f0_o hq, ↓f0_0 hq, ↓f0_0p hq, ↓f0_1 hq, ↓f0_1p hq, ↓f0_2 hq, ↓f0_2p hq, ↓f0_3 hq, ↓f0_3p hq, ↓f0_4 hq, ↓f0_5 hq, ↓f0_6 hq, ↓f0_7 hq, ↓f0_8 hq, ↓f0_9 hq, ↓f0_10 hq, ↓f0_11 hq, ↓f1_g hq, ↓f1_s hq, ↓f2_g hq, ↓f2_s hq, f3_o ho, ↓f3_0 ho, ↓f3_0p ho, ↓f3_1 ho, ↓f3_2 ho, ↓f3_3 ho, ↓f4_g ho, ↓f4_s ho, ↓f5_g ho, ↓f5_s ho, ↓f6_g ho, ↓f6_s ho, f7_o ho, ↓f7_0 ho, ↓f7_1 ho, ↓f7_1p ho, ↓f7_2 ho, ↓f7_2p ho, ↓f8_g ho, f41_o ho, ↓f41_0 ho, ↓f41_1 ho, ↓f41_2 ho, ↓f41_3 ho, ↓f41_3p ho, ↓f42_g ho, ↓f42_s ho, ↓f43_g ho, ↓f43_s ho, ↓f44_g ho, ↓f44_s ho, f45_o ho, ↓f45_0 ho, ↓f45_1 ho, ↓f45_2 ho, ↓f45_2p ho, ↓f46_g ho, ↓f46_s ho, ↓f47_g ho, ↓f47_s ho, f48_o ho, ↓f48_0 ho, ↓f48_0p ho, ↓f48_1 ho, ↓f48_1p ho, ↓f48_2 ho, ↓f48_2p ho, ↓f48_3 ho, ↓f48_3p ho, f49_o ho, ↓f49_0 ho, ↓f49_1 ho, ↓f49_1p ho, ↓f49_2 ho, ↓f49_2p ho, ↓f50_g ho, ↓f50_s ho, ↓aft_of (e2), ↓aft_of (e3), ↓aft_of (e4), ↓aft_of (e5), ↓aft_of (e6), ↓aft_of (e7)]
  · rw [f7 _ (by omega) (by omega), f6 _ (by omega), f5 _ (by omega) (by omega) (by omega), f4 _ (by omega) (by omega) (by omega) (by omega), f3 _ (by omega) (by omega), f2 _ (by omega) (by omega) (by omega) (by omega), f1 _ (by omega) (by omega) (by omega)]
  · intro k hk; rw [y0, a1 k hk, k0 k hk]
  · intro k hk; rw [z1 1 (by decide), b1 k hk, k1 k hk]
  · intro k hk; rw [z1 2 (by decide), c1 k hk, k2 k hk]
  · rw [z2 3 (by decide) (by decide)]; exact a2
  · intro k hk; rw [z2 4 (by decide) (by decide), (b2 k hk).1, g1 4 (by decide) (by decide), k4 k hk]
  · intro k hk; rw [z2 5 (by decide) (by decide), (b2 k hk).2.1, g1 5 (by decide) (by decide), k5 k hk]
  · intro k hk; rw [z2 6 (by decide) (by decide), (b2 k hk).2.2, g1 6 (by decide) (by decide), k6 k hk]
  · rw [z3 (o + 7) (by omega) (by omega)]; exact a3
  · rw [z3 (o + 7) (by omega) (by omega), b3, g2 7 (by decide) (by decide)]; exact kc
  · intro i b hb
    have hi : i < K.length := (List.getElem?_eq_some_iff.mp hb).1
    have hk := kK i b hb
    have hr := hPo.rg (show i < 8 by omega)
    have hr2 := kP.rg (show i < 8 by omega)
    obtain ⟨d1, d2⟩ := c3 i hi
    have q0 : ∀ x, x < 4 → T2 (P (q + 8) i + x) = T (P (q + 8) i + x) := fun x hx => by
      have := g2 (P (q + 8) i + x - q) (by omega) (by omega)
      rwa [show q + (P (q + 8) i + x - q) = P (q + 8) i + x by omega] at this
    have p0 : ∀ x, x < 4 → T7 (P (o + 8) i + x) = T3 (P (o + 8) i + x) := fun x hx => z3 _ (by omega) (by omega)
    have q00 := q0 0 (by decide)
    have p00 := p0 0 (by decide)
    rw [Nat.add_zero] at q00 p00
    refine ⟨fun k hk5 => ?_, fun k hk4 => ?_⟩
    · rw [p00, d1 k hk5, q00]; exact hk.1 k hk5
    · obtain ⟨x1, x2, x3⟩ := d2 k hk4
      rw [p0 1 (by decide), p0 2 (by decide), p0 3 (by decide), x1, x2, x3, q0 1 (by decide), q0 2 (by decide), q0 3 (by decide)]
      exact hk.2 k hk4
  · rw [z4 41 (by decide) (by decide)]; exact a4
  · intro i c d n hi
    have hil : i < B.length := (List.getElem?_eq_some_iff.mp hi).1
    rw [z4 42 (by decide) (by decide), z4 43 (by decide) (by decide), z4 44 (by decide) (by decide), (b4 i hil).1, (b4 i hil).2.1, (b4 i hil).2.2, g3 42 (by decide) (by decide), g3 43 (by decide) (by decide), g3 44 (by decide) (by decide)]
    exact kB i c d n hi
  · rw [z5 45 (by decide) (by decide)]; exact a5
  · intro i hi
    rw [z5 46 (by decide) (by decide), z5 47 (by decide) (by decide), (b5 i hi).1, (b5 i hi).2, g4 46 (by decide) (by decide), g4 47 (by decide) (by decide)]
    exact kL i hi
  · intro k hk; rw [z6, a6 k hk, g5 48 (by decide) (by decide), k48 k hk]
  · rw [a7, g6 49 (by decide) (by decide)]; exact kj
  · rw [b7, g6 49 (by decide) (by decide)]; exact ej
  · intro g hg k hk
    rw [c7 _ (by omega), g6 50 (by decide) (by decide)]
    exact kJ g hg k hk
end SC
end
