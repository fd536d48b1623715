/-! a basket comes -/
def newK (x c q s d p : Int32) : kT := fun r k => match r with
  | 0 => (match k with | 0 => x | 1 => c | 2 => q | 3 => s | _ => d)
  | 1 => digI p k
  | _ => 0
theorem usI_congr {f g : Nat → Int32} : ∀ {n : Nat}, (∀ i, i < n → f i = g i) → usI f n = usI g n
  | 0, _ => rfl
  | n + 1, h => by
    simp only [usI]
    rw [usI_congr (fun i hi => h i (by omega)), h n (by omega)]
theorem LO.same {T U : Nat → Nat → Int32} {o n : Nat} {f g : Nat → Int32} (h : LO T o n f g) (h1 : U (o + 45) = T (o + 45)) (h2 : U (o + 46) = T (o + 46)) (h3 : U (o + 47) = T (o + 47)) : LO U o n f g := by
  unfold LO at h ⊢; rw [h1, h2, h3]; exact h
theorem JO.same {T U : Nat → Nat → Int32} {o n : Nat} {R : Nat → Nat → Int32} (h : JO T o n R) (h1 : U (o + 49) = T (o + 49)) (h2 : U (o + 50) = T (o + 50)) : JO U o n R := by
  unfold JO at h ⊢; rw [h1, h2]; exact h
section RC
variable {T : Nat → Nat → Int32} {P : Nat → Nat → Nat} {o : Nat} {N : Nat → Nat} {V : Nat → Nat → Int32} {K : List kT} {B : List bT} {R : Nat → Nat → Int32} {p st : Int32}
abbrev rcN (N : Nat → Nat) : Nat → Nat := upA (upA N 2 (N 2 + 1)) 4 (min (N 4 + 1) 10)
abbrev rcK (N : Nat → Nat) (V : Nat → Nat → Int32) (K : List kT) (c : Nat) (p st : Int32) : List kT := K ++ [newK (nI (N 2)) (nI c) (fpI (usI (fun i => gK K i 0 2) K.length)) st (V 0 0) p]
theorem c_receive (ho : isB o) (h : CS o T P N V K B R) (hw : WF N V K B) {c g : Nat} (hc : c < N 1) (h8 : K.length < 8) (hg : g ≤ 99) : ∃ T', X 75 0 [.ref o, .int (nI c), .int p, .int st, .int (nI g), .long 0] [] (H T P) = some (some (.int (nI (N 2))), H T' P) ∧ (∀ a, (a < o ∨ o + 51 ≤ a) → T' a = T a) ∧
    CS o T' P (rcN N) (up1 V 0 1 (V 0 1 + nI g)) (rcK N V K c p st) (dropE (tkL c g B)) (wrB R 0 (V 0 0) (nI (N 2)) (nI g)) := by
  have hN1 : N 1 ≤ 10 := hw.1.2.1
  obtain ⟨⟨k0, k1, k2, k00⟩, ⟨k3, k4, k5, k6⟩, ⟨kP, kn, kc, kK⟩, kB, kL, k48, kJ⟩ := h
  obtain ⟨T1, e1, f1, a1, a2, a3, a4⟩ := c_add ho kP kn h8
  have hk := kP.k ho h8
  have hr := kP.rg h8
  obtain ⟨b, hb⟩ : ∃ b, b = P (o + 8) K.length := ⟨_, rfl⟩
  rw [← hb] at hk hr e1 f1 a3 a4
  have g1 : ∀ (U : Nat → Nat → Int32) f, upA U b f o = U o := fun U f => upA_n _ _ (by omega)
  have hday : T1 o 0 = V 0 0 := by rw [f1 o (by omega) (by omega)]; exact k0 0 (by decide)
  obtain ⟨T3, e3, f3, g3⟩ := c_fill (T := up1 (up1 (up1 T1 b 1 (nI c)) b 3 st) b 4 (V 0 0)) (P := P) hk p
  have hT3 : ∀ a, a ≠ o + 7 → (a < b ∨ b + 3 < a) → T3 a = T a := by
    intro a h7 ha
    rw [f3 a (by omega) (by omega) (by omega)]
    simp only [upA_n _ _ (show a ≠ b by omega)]
    exact f1 a h7 (by omega)
  have hB3 : OB T3 o B := kB.other (hT3 _ (by omega) (by omega)) (hT3 _ (by omega) (by omega)) (hT3 _ (by omega) (by omega)) (hT3 _ (by omega) (by omega))
  obtain ⟨T4, e4, f4, g4⟩ := c_takeBack (P := P) (c := c) (g := g) ho hB3 (OS.of_wf hw) (by omega) (by omega)
  have hstock : T4 o 1 = V 0 1 := by rw [f4 o (by omega) (by omega) (by omega) (by omega), hT3 o (by omega) (by omega)]; exact k0 1 (by decide)
  have hT5 : ∀ a, a ≠ o → a ≠ o + 7 → (a < b ∨ b + 3 < a) → (a < o + 41 ∨ o + 44 < a) → up1 T4 o 1 (V 0 1 + nI g) a = T a := by
    intro a h0 h7 ha h41
    simp only [upA_n _ _ h0]
    rw [f4 a (by omega) (by omega) (by omega) (by omega)]
    exact hT3 a h7 ha
  have hJ5 : JO (up1 T4 o 1 (V 0 1 + nI g)) o (N 4) R := kJ.same (hT5 _ (by omega) (by omega) (by omega) (by omega)) (hT5 _ (by omega) (by omega) (by omega) (by omega))
  obtain ⟨T6, e6, f6, g6⟩ := c_write (P := P) (e := 0) (d := V 0 0) (x := nI (N 2)) (y := nI g) ho hJ5
  have hT6 : ∀ a, a ≠ o → a ≠ o + 7 → (a < b ∨ b + 3 < a) → (a < o + 41 ∨ o + 44 < a) → a ≠ o + 49 → a ≠ o + 50 → T6 a = T a := by
    intro a h0 h7 ha h41 h49 h50
    rw [f6 a h49 h50]
    exact hT5 a h0 h7 ha h41
  have hT6b : T6 b = upA (upA (upA (T1 b) 1 (nI c)) 3 st) 4 (V 0 0) := by
    rw [f6 b (by omega) (by omega)]
    simp only [upA_n _ _ (show b ≠ o by omega)]
    rw [f4 b (by omega) (by omega) (by omega) (by omega), f3 b (by omega) (by omega) (by omega)]
    simp only [upA_s]
  have hT6r : ∀ x, 1 ≤ x → x < 4 → T6 (b + x) = T3 (b + x) := by
    intro x h1 h4
    rw [f6 _ (by omega) (by omega)]
    simp only [upA_n _ _ (show b + x ≠ o by omega)]
    exact f4 _ (by omega) (by omega) (by omega) (by omega)
  have hT6o : T6 o = upA (T4 o) 1 (V 0 1 + nI g) := by
    rw [f6 o (by omega) (by omega)]; simp only [upA_s]
  have hnum : T4 b 0 = nI (N 2) := by
    rw [f4 b (by omega) (by omega) (by omega) (by omega), f3 b (by omega) (by omega) (by omega)]
    simp +decide only [upA_s, u_n]
    rw [a3, kc]
  have hnum5 : up1 T4 o 1 (V 0 1 + nI g) b 0 = nI (N 2) := by
    simp only [upA_n _ _ (show b ≠ o by omega)]; exact hnum
  have hday5 : up1 T4 o 1 (V 0 1 + nI g) o 0 = V 0 0 := by
    simp +decide only [upA_s, u_n]
    rw [f4 o (by omega) (by omega) (by omega) (by omega), hT3 o (by omega) (by omega)]; exact k0 0 (by decide)
  have hnum6 : T6 b 0 = nI (N 2) := by rw [f6 b (by omega) (by omega)]; exact hnum5
  refine ⟨T6, by
    simp +decide only [x75_0, x75_1, x75_4, x75_7, x75_7N, x75_9, x75_9N, x75_11, x75_12, x75_15, x75_15N, x75_17, x75_18, x75_21, x75_21N, x75_23, x75_24, x75_27, x75_30, x75_30N, x75_32, x75_33, x75_36, x75_37, x75_40, x75_41, x75_43, x75_46, x75_47, x75_48, x75_51, x75_53, x75_54, x75_57, x75_58, x75_61, x75_62, x75_63, x75_66, x75_66N, x75_68, x75_71, x75_73, x75_76, x75_76N, x75_78, x75_81, aft_some, aft_void, Option.bind_some, Option.toList_some, Option.toList_none, List.cons_append, List.nil_append, if_true, if_false, ↓reduceIte, eq_self, f0_o ho, ↓f0_0 ho, ↓f0_0p ho, ↓f0_1 ho, ↓f0_1p ho, ↓f0_2 ho, ↓f0_2p ho, ↓f0_3 ho, ↓f0_3p ho, ↓f0_4 ho, ↓f0_5 ho, ↓f0_6 ho, ↓f0_7 ho, ↓f0_8 ho, ↓f0_9 ho, ↓f0_10 ho, ↓f0_11 ho, ↓f1_g ho, ↓f1_s ho, ↓f2_g ho, ↓f2_s ho, fK_o hk, ↓fK_0 hk, ↓fK_0p hk, ↓fK_1 hk, ↓fK_1p hk, ↓fK_2 hk, ↓fK_2p hk, ↓fK_3 hk, ↓fK_3p hk, ↓fK_4 hk, ↓fK_4p hk, ↓fK_5 hk, ↓fK_6 hk, ↓fK_7 hk, ↓fK1_g hk, ↓fK1_s hk, ↓fK2_g hk, ↓fK2_s hk, ↓fK3_g hk, ↓fK3_s hk, f7_o ho, f41_o ho, f49_o ho, ↓aft_of (e1), ↓aft_of (e3), ↓aft_of (e4), ↓aft_of (e6), g1, hday, hstock, hnum5, hday5, hnum6], fun a ha => hT6 a (by omega) (by omega) (by omega) (by omega) (by omega) (by omega), ?_, ?_, ?_, ?_, ?_, ?_, ?_⟩
  · refine ⟨?_, ?_, ?_, ?_⟩
    · intro k hk4
      rw [hT6o]
      simp only [upA_s]
      unfold upA
      by_cases hk1 : k = 1
      · rw [if_pos hk1, if_pos hk1]
      · rw [if_neg hk1, if_neg hk1, f4 o (by omega) (by omega) (by omega) (by omega), hT3 o (by omega) (by omega)]
        exact k0 k hk4
    · intro k hk4
      rw [hT6 _ (by omega) (by omega) (by omega) (by omega) (by omega) (by omega)]
      simp +decide only [u_n]; exact k1 k hk4
    · intro k hk4
      rw [hT6 _ (by omega) (by omega) (by omega) (by omega) (by omega) (by omega)]
      simp +decide only [u_n]; exact k2 k hk4
    · simp +decide only [upA_s, u_n]; exact k00
  · refine ⟨?_, ?_, ?_, ?_⟩
    · rw [hT6 _ (by omega) (by omega) (by omega) (by omega) (by omega) (by omega)]
      simp +decide only [u_n]; exact k3
    · intro k hk4
      rw [hT6 _ (by omega) (by omega) (by omega) (by omega) (by omega) (by omega)]
      simp +decide only [u_n] at hk4 ⊢; exact k4 k hk4
    · intro k hk4
      rw [hT6 _ (by omega) (by omega) (by omega) (by omega) (by omega) (by omega)]
      simp +decide only [u_n] at hk4 ⊢; exact k5 k hk4
    · intro k hk4
      rw [hT6 _ (by omega) (by omega) (by omega) (by omega) (by omega) (by omega)]
      simp +decide only [u_n] at hk4 ⊢; exact k6 k hk4
  · have h7 : T6 (o + 7) = T1 (o + 7) := by
      rw [f6 _ (by omega) (by omega)]
      simp only [upA_n _ _ (show o + 7 ≠ o by omega)]
      rw [f4 _ (by omega) (by omega) (by omega) (by omega), f3 _ (by omega) (by omega) (by omega)]
      simp only [upA_n _ _ (show o + 7 ≠ b by omega)]
    refine ⟨kP, by rw [h7, a1, List.length_append]; rfl, ?_, ?_⟩
    · rw [h7, a2, kc]
      simp +decide only [upA_s, u_n]
      exact nI_1 _
    · intro i q hq
      by_cases hi : i < K.length
      · rw [List.getElem?_append_left hi] at hq
        have ap := kP.ap (show i < 8 by omega) h8 (by omega)
        rw [← hb] at ap
        have hri := kP.rg (show i < 8 by omega)
        refine (kK i q hq).same (fun x hx => hT6 _ (by omega) (by omega) ?_ (by omega) (by omega) (by omega))
        have h0 := ap x 0 hx (by decide)
        have h1 := ap x 1 hx (by decide)
        have h2 := ap x 2 hx (by decide)
        have h3 := ap x 3 hx (by decide)
        omega
      · rw [List.getElem?_append_right (by omega)] at hq
        have hz : i - K.length < 1 := (List.getElem?_eq_some_iff.mp hq).1
        have hie : i = K.length := by omega
        subst hie
        rw [Nat.sub_self] at hq
        cases hq
        rw [← hb]
        refine ⟨fun k hk5 => ?_, fun k hk4 => ?_⟩
        · rw [hT6b]
          match k, hk5 with
          | 0, _ => simp +decide only [u_n]; rw [a3, kc]; rfl
          | 1, _ => simp +decide only [upA_s, u_n]; rfl
          | 2, _ =>
            simp +decide only [u_n]
            rw [a4, usI_congr (fun i hi => (kK i _ (by
              show K[i]? = some (gK K i)
              simp [gK, List.getD_eq_getElem?_getD, List.getElem?_eq_getElem hi])).1 2 (by decide))]
            rfl
          | 3, _ => simp +decide only [upA_s, u_n]; rfl
          | 4, _ => simp +decide only [upA_s, u_n]; rfl
        · rw [hT6r 1 (by decide) (by decide), hT6r 2 (by decide) (by decide), hT6r 3 (by decide) (by decide)]
          exact g3 k hk4
  · exact g4.other (by rw [f6 _ (by omega) (by omega)]; exact upA_n _ _ (by omega)) (by rw [f6 _ (by omega) (by omega)]; exact upA_n _ _ (by omega)) (by rw [f6 _ (by omega) (by omega)]; exact upA_n _ _ (by omega)) (by rw [f6 _ (by omega) (by omega)]; exact upA_n _ _ (by omega))
  · have := kL.same (U := T6) (hT6 _ (by omega) (by omega) (by omega) (by omega) (by omega) (by omega)) (hT6 _ (by omega) (by omega) (by omega) (by omega) (by omega) (by omega)) (hT6 _ (by omega) (by omega) (by omega) (by omega) (by omega) (by omega))
    simp +decide only [u_n]; exact this
  · intro k hk4
    rw [hT6 _ (by omega) (by omega) (by omega) (by omega) (by omega) (by omega)]
    simp +decide only [u_n]; exact k48 k hk4
  · simp +decide only [upA_s]; exact g6
end RC
