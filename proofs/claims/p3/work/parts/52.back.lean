/-! hangers come back -/
theorem outL_tk (c : Nat) : ∀ (g : Nat) (B : List bT), outL c (tkL c g B) = outL c B - g
  | g, [] => by simp [tkL, outL]
  | g, q :: B => by
    simp only [tkL]
    by_cases h : q.1 = c
    · simp only [h, if_true, outL]
      rw [outL_tk c _ B]; omega
    · simp only [h, if_false, outL]
      rw [outL_tk c _ B]; omega
theorem NR.tk {D : Nat} (c : Nat) : ∀ (g : Nat) {B : List bT}, NR D B → NR D (tkL c g B)
  | _, [], h => h
  | g, q :: B, h => by
    have ih := fun g => NR.tk c g h.tl
    have hm : ∀ (g : Nat) (B : List bT), ∀ p ∈ tkL c g B, ∃ x ∈ B, p.2.1 = x.2.1 := by
      intro g B
      induction B generalizing g with
      | nil => intro p hp; cases hp
      | cons x B ih =>
        intro p hp
        simp only [tkL] at hp
        split at hp
        · rcases List.mem_cons.mp hp with rfl | hp
          · exact ⟨x, List.mem_cons_self, rfl⟩
          · obtain ⟨y, h1, h2⟩ := ih _ p hp; exact ⟨y, List.mem_cons_of_mem _ h1, h2⟩
        · rcases List.mem_cons.mp hp with rfl | hp
          · exact ⟨p, List.mem_cons_self, rfl⟩
          · obtain ⟨y, h1, h2⟩ := ih _ p hp; exact ⟨y, List.mem_cons_of_mem _ h1, h2⟩
    have h1 := List.pairwise_cons.mp h.2
    refine ⟨fun p hp => ?_, ?_⟩
    · obtain ⟨x, hx, e⟩ := hm g (q :: B) p hp
      rw [e]; exact h.1 x hx
    · simp only [tkL]
      split
      · exact List.pairwise_cons.mpr ⟨fun p hp => by obtain ⟨x, hx, e⟩ := hm _ B p hp; rw [e]; exact h1.1 x hx, (ih _).2⟩
      · exact List.pairwise_cons.mpr ⟨fun p hp => by obtain ⟨x, hx, e⟩ := hm _ B p hp; rw [e]; exact h1.1 x hx, (ih _).2⟩
section CB
variable {T : Nat → Nat → Int32} {P : Nat → Nat → Nat} {f : Nat → Int32} {c D : Nat} {B : List bT}
theorem r_comeBack {g : Nat} (hc : c < 10) (h4 : f 4 = nI D) (hD : D ≤ 10100) (hN : NR D B) (hO : outL c B < 100000) (hg : g ≤ outL c B) (hr : ∀ k, k < 64 → f (54 + 64 * c + k) = nI (rgL c k B)) :
    ∃ f', X 144 0 [.ref 366, .int (nI c), .int (nI g), .long 0, .long 0, .long 0] [] (H (upA T 367 f) P) = some (none, H (upA T 367 f') P) ∧ (∀ a, (a < 54 + 64 * c ∨ 54 + 64 * c + 64 ≤ a) → a ≠ 7 → f' a = f a) ∧ f' 7 = f 7 + nI g ∧ ∀ k, k < 64 → f' (54 + 64 * c + k) = nI (rgL c k (tkL c g B)) := by
  have key : ∀ (n l : Nat) (f : Nat → Int32) (B : List bT) (v4 v5 : Value), l ≤ n → f 4 = nI D → NR D B → outL c B < 100000 → l ≤ outL c B → (∀ k, k < 64 → f (54 + 64 * c + k) = nI (rgL c k B)) →
      ∃ f', X 144 2 [.ref 366, .int (nI c), .int (nI g), .int (nI l), v4, v5] [] (H (upA T 367 f) P) = some (none, H (upA T 367 f') P) ∧ (∀ a, (a < 54 + 64 * c ∨ 54 + 64 * c + 64 ≤ a) → a ≠ 7 → f' a = f a) ∧ f' 7 = f 7 + nI g ∧ ∀ k, k < 64 → f' (54 + 64 * c + k) = nI (rgL c k (tkL c l B)) := by
    intro n
    induction n with
    | zero =>
      intro l f B v4 v5 hl h4 hN hO hlo hr
      have hl : l = 0 := by omega
      subst hl
      refine ⟨upA f 7 (f 7 + nI g), ?_, fun a ha h7 => upA_n _ _ h7, upA_s _ _ _, fun k hk => ?_⟩
      · rw [x144_2]
        simp +decide only [x144_0, x144_1, x144_3, x144_6, x144_8, x144_10, x144_11, x144_12, x144_13, x144_13N, x144_14, x144_15, x144_18, x144_19, x144_21, x144_22, x144_22N, x144_23, x144_26, x144_28, x144_29, x144_32, x144_33, x144_36, x144_36N, x144_37, x144_40, x144_42, x144_43, x144_45, x144_45N, x144_46, x144_49, x144_51, x144_52, x144_53, x144_55, x144_56, x144_57, x144_58, x144_60, x144_61, x144_62, x144_65, x144_65N, x144_66, x144_69, x144_71, x144_72, x144_73, x144_74, x144_75, x144_76, aft_some, aft_void, Option.bind_some, Option.toList_some, Option.toList_none, List.cons_append, List.nil_append, if_true, if_false, ↓reduceIte, eq_self, z366_o, ↓z366_0, ↓z366_0p, ↓z366_1, ↓z366_2, ↓z366_3, ↓z366_4, ↓z366_4p, ↓z366_5, ↓z366_6, ↓z366_6p0, ↓z366_6p1, ↓z366_7, ↓z366_8, ↓z366_8p, ↓z366_9, ↓z366_9p, ↓z366_10, ↓z366_10p0, ↓z366_10p1, ↓z366_11, ↓z366_12, ↓z366_12p, ↓sg0, ↓sg1, ↓sg2, ↓sg3, ↓sg4, ↓sg5, ↓sg6, ↓sg7, ↓sg8, ↓sg9, ↓sg10, ↓sg11, ↓sg12, ↓sg13, ↓sg14, ↓sg15, ↓sg16, ↓sg17, ↓ss0, ↓ss1, ↓ss2, ↓ss3, ↓ss4, ↓ss5, ↓ss6, ↓ss7, ↓ss8, ↓ss9, ↓ss10, ↓ss11, ↓ss12, ↓ss13, ↓ss14, ↓ss15, ↓ss16, ↓ss17, nl0]
      · rw [tk_zero, upA_n _ _ (by omega)]; exact hr k hk
    | succ n ih =>
      intro l f B v4 v5 hl h4 hN hO hlo hr
      by_cases hl0 : l = 0
      · subst hl0
        refine ⟨upA f 7 (f 7 + nI g), ?_, fun a ha h7 => upA_n _ _ h7, upA_s _ _ _, fun k hk => ?_⟩
        · rw [x144_2]
          simp +decide only [x144_0, x144_1, x144_3, x144_6, x144_8, x144_10, x144_11, x144_12, x144_13, x144_13N, x144_14, x144_15, x144_18, x144_19, x144_21, x144_22, x144_22N, x144_23, x144_26, x144_28, x144_29, x144_32, x144_33, x144_36, x144_36N, x144_37, x144_40, x144_42, x144_43, x144_45, x144_45N, x144_46, x144_49, x144_51, x144_52, x144_53, x144_55, x144_56, x144_57, x144_58, x144_60, x144_61, x144_62, x144_65, x144_65N, x144_66, x144_69, x144_71, x144_72, x144_73, x144_74, x144_75, x144_76, aft_some, aft_void, Option.bind_some, Option.toList_some, Option.toList_none, List.cons_append, List.nil_append, if_true, if_false, ↓reduceIte, eq_self, z366_o, ↓z366_0, ↓z366_0p, ↓z366_1, ↓z366_2, ↓z366_3, ↓z366_4, ↓z366_4p, ↓z366_5, ↓z366_6, ↓z366_6p0, ↓z366_6p1, ↓z366_7, ↓z366_8, ↓z366_8p, ↓z366_9, ↓z366_9p, ↓z366_10, ↓z366_10p0, ↓z366_10p1, ↓z366_11, ↓z366_12, ↓z366_12p, ↓sg0, ↓sg1, ↓sg2, ↓sg3, ↓sg4, ↓sg5, ↓sg6, ↓sg7, ↓sg8, ↓sg9, ↓sg10, ↓sg11, ↓sg12, ↓sg13, ↓sg14, ↓sg15, ↓sg16, ↓sg17, ↓ss0, ↓ss1, ↓ss2, ↓ss3, ↓ss4, ↓ss5, ↓ss6, ↓ss7, ↓ss8, ↓ss9, ↓ss10, ↓ss11, ↓ss12, ↓ss13, ↓ss14, ↓ss15, ↓ss16, ↓ss17, nl0]
        · rw [tk_zero, upA_n _ _ (by omega)]; exact hr k hk
      · have eo := r_oldest (T := T) (P := P) hc h4 hD (r := fun k => rgL c k B) (fun k hk => ⟨hr k hk, by have := rg_le c k B; omega⟩)
        cases hq : olF (fun k => rgL c k B) D 64 with
        | none =>
          have := ol_all hN (olF_none hq)
          omega
        | some k =>
          rw [hq] at eo
          simp only at eo
          obtain ⟨d0, hd, hk, hpos, hQ⟩ := ol_ok hN hq
          have hk64 : k < 64 := by rw [hk]; exact Nat.mod_lt _ (by decide)
          have hix : 54 + 64 * nI c + nI k = nI (54 + 64 * c + k) := ixO rfl
          have hik : 54 + 64 * c + k < 912 := by omega
          have hv := hr k hk64
          have hle := rg_le c k B
          obtain ⟨m, hm⟩ : ∃ m, m = min l (rgL c k B) := ⟨_, rfl⟩
          have hlpos : 0 < nI l := by rw [nI_posn (by omega)]; omega
          have es : nI (rgL c k B) - nI m = nI (rgL c k B - m) := nI_sub (by omega)
          have el : nI l - nI m = nI (l - m) := nI_sub (by omega)
          have ht := rg_tk (c := c) hd m B hN hQ (by rw [← hk]; omega)
          have ho1 := outL_tk c m B
          obtain ⟨f', e2, f2, s2, r2⟩ := ih (l - m) (upA f (54 + 64 * c + k) (nI (rgL c k B - m))) (tkL c m B) (.int (nI (54 + 64 * c + k))) (.int (nI m)) (by omega) (by rw [upA_n _ _ (by omega)]; exact h4) (NR.tk c m hN) (by rw [ho1]; omega) (by rw [ho1]; omega) (fun j hj => by
            rw [ht j]
            by_cases hjk : j = k
            · subst hjk; rw [upA_s, if_pos hk]
            · rw [upA_n _ _ (by omega), if_neg (by rw [← hk]; exact hjk)]; exact hr j hj)
          refine ⟨f', ?_, fun a ha h7 => ?_, ?_, fun j hj => ?_⟩
          · rw [← e2, x144_2]
            by_cases q : nI l < nI (rgL c k B)
            · have hml : m = l := by
                have := nI_ltp (a := l) (b := rgL c k B) (by omega) (by omega)
                rw [this] at q; omega
              rw [hml] at es el ⊢
              simp +decide only [x144_0, x144_1, x144_3, x144_6, x144_8, x144_10, x144_11, x144_12, x144_13, x144_13N, x144_14, x144_15, x144_18, x144_19, x144_21, x144_22, x144_22N, x144_23, x144_26, x144_28, x144_29, x144_32, x144_33, x144_36, x144_36N, x144_37, x144_40, x144_42, x144_43, x144_45, x144_45N, x144_46, x144_49, x144_51, x144_52, x144_53, x144_55, x144_56, x144_57, x144_58, x144_60, x144_61, x144_62, x144_65, x144_65N, x144_66, x144_69, x144_71, x144_72, x144_73, x144_74, x144_75, x144_76, aft_some, aft_void, Option.bind_some, Option.toList_some, Option.toList_none, List.cons_append, List.nil_append, if_true, if_false, ↓reduceIte, eq_self, z366_o, ↓z366_0, ↓z366_0p, ↓z366_1, ↓z366_2, ↓z366_3, ↓z366_4, ↓z366_4p, ↓z366_5, ↓z366_6, ↓z366_6p0, ↓z366_6p1, ↓z366_7, ↓z366_8, ↓z366_8p, ↓z366_9, ↓z366_9p, ↓z366_10, ↓z366_10p0, ↓z366_10p1, ↓z366_11, ↓z366_12, ↓z366_12p, ↓sg0, ↓sg1, ↓sg2, ↓sg3, ↓sg4, ↓sg5, ↓sg6, ↓sg7, ↓sg8, ↓sg9, ↓sg10, ↓sg11, ↓sg12, ↓sg13, ↓sg14, ↓sg15, ↓sg16, ↓sg17, ↓ss0, ↓ss1, ↓ss2, ↓ss3, ↓ss4, ↓ss5, ↓ss6, ↓ss7, ↓ss8, ↓ss9, ↓ss10, ↓ss11, ↓ss12, ↓ss13, ↓ss14, ↓ss15, ↓ss16, ↓ss17, hlpos, ↓aft_of (eo), hix, ↓s_g hik, ↓s_s hik, hv, q, es, el]
            · have hml : m = rgL c k B := by
                have := nI_ltp (a := l) (b := rgL c k B) (by omega) (by omega)
                rw [this] at q; omega
              rw [hml] at es el ⊢
              simp +decide only [x144_0, x144_1, x144_3, x144_6, x144_8, x144_10, x144_11, x144_12, x144_13, x144_13N, x144_14, x144_15, x144_18, x144_19, x144_21, x144_22, x144_22N, x144_23, x144_26, x144_28, x144_29, x144_32, x144_33, x144_36, x144_36N, x144_37, x144_40, x144_42, x144_43, x144_45, x144_45N, x144_46, x144_49, x144_51, x144_52, x144_53, x144_55, x144_56, x144_57, x144_58, x144_60, x144_61, x144_62, x144_65, x144_65N, x144_66, x144_69, x144_71, x144_72, x144_73, x144_74, x144_75, x144_76, aft_some, aft_void, Option.bind_some, Option.toList_some, Option.toList_none, List.cons_append, List.nil_append, if_true, if_false, ↓reduceIte, eq_self, z366_o, ↓z366_0, ↓z366_0p, ↓z366_1, ↓z366_2, ↓z366_3, ↓z366_4, ↓z366_4p, ↓z366_5, ↓z366_6, ↓z366_6p0, ↓z366_6p1, ↓z366_7, ↓z366_8, ↓z366_8p, ↓z366_9, ↓z366_9p, ↓z366_10, ↓z366_10p0, ↓z366_10p1, ↓z366_11, ↓z366_12, ↓z366_12p, ↓sg0, ↓sg1, ↓sg2, ↓sg3, ↓sg4, ↓sg5, ↓sg6, ↓sg7, ↓sg8, ↓sg9, ↓sg10, ↓sg11, ↓sg12, ↓sg13, ↓sg14, ↓sg15, ↓sg16, ↓sg17, ↓ss0, ↓ss1, ↓ss2, ↓ss3, ↓ss4, ↓ss5, ↓ss6, ↓ss7, ↓ss8, ↓ss9, ↓ss10, ↓ss11, ↓ss12, ↓ss13, ↓ss14, ↓ss15, ↓ss16, ↓ss17, hlpos, ↓aft_of (eo), hix, ↓s_g hik, ↓s_s hik, hv, q, es, el]
          · rw [f2 a ha h7, upA_n _ _ (by omega)]
          · rw [s2, upA_n _ _ (by omega)]
          · rw [r2 j hj, ← tk_two c m (l - m) B (by omega), show m + (l - m) = l by omega]
  obtain ⟨f', e, r⟩ := key g g f B (.long 0) (.long 0) (Nat.le_refl _) h4 hN hO hg hr
  refine ⟨f', ?_, r⟩
  simp +decide only [x144_0, x144_1, x144_3, x144_6, x144_8, x144_10, x144_11, x144_12, x144_13, x144_13N, x144_14, x144_15, x144_18, x144_19, x144_21, x144_22, x144_22N, x144_23, x144_26, x144_28, x144_29, x144_32, x144_33, x144_36, x144_36N, x144_37, x144_40, x144_42, x144_43, x144_45, x144_45N, x144_46, x144_49, x144_51, x144_52, x144_53, x144_55, x144_56, x144_57, x144_58, x144_60, x144_61, x144_62, x144_65, x144_65N, x144_66, x144_69, x144_71, x144_72, x144_73, x144_74, x144_75, x144_76, aft_some, aft_void, Option.bind_some, Option.toList_some, Option.toList_none, List.cons_append, List.nil_append, if_true, if_false, ↓reduceIte, eq_self]
  exact e
end CB
