/-! a day goes by, in the reference -/
theorem chV_n {V : Nat → Nat → Int32} {c m r : Nat} (h5 : r ≠ 5) (h6 : r ≠ 6) : chV V c m r = V r := by
  show upA _ 5 _ r = _
  rw [upA_n _ _ h5, upA_n _ _ h6]
theorem hoV_n {V : Nat → Nat → Int32} {b : kT} {r : Nat} (h5 : r ≠ 5) : hoV V b r = V r := up1_n h5
/-- what holds of the numbers while the day is told -/
def CI (D n1 : Nat) (v1 v2 v4 : Nat → Int32) (s : sT) : Prop := s.1 0 = D ∧ s.1 1 = n1 ∧ s.1 3 ≤ 20 ∧ s.1 4 ≤ 10 ∧ s.2.1 1 = v1 ∧ s.2.1 2 = v2 ∧ s.2.1 4 = v4
theorem NR.drop {D : Nat} {B : List bT} (h : NR D B) : NR D (dropE B) := ⟨fun q hq => h.1 q (List.mem_filter.mp hq).1, h.2.sublist List.filter_sublist⟩
theorem NR.zero {D l0 c : Nat} {B : List bT} (h : NR D B) : NR D (zeroL l0 c B) := by
  have key : ∀ q : bT, (if q.1 = c ∧ q.2.1 < l0 then (q.1, q.2.1, 0) else q).2.1 = q.2.1 := fun q => by split <;> rfl
  refine ⟨fun q hq => ?_, ?_⟩
  · obtain ⟨p, hp, rfl⟩ := List.mem_map.mp hq
    rw [key]; exact h.1 p hp
  · unfold zeroL
    rw [List.pairwise_map]
    exact h.2.imp (fun {a b} hab => by rw [key, key]; exact hab)
theorem all_drop : ∀ B : List bT, allL (dropE B) ≤ allL B
  | [] => Nat.le_refl _
  | q :: B => by
    have ih := all_drop B
    unfold dropE at ih ⊢
    rw [List.filter_cons]
    split
    · simp only [allL]; omega
    · simp only [allL]; omega
theorem all_zero (l0 c : Nat) : ∀ B : List bT, allL (zeroL l0 c B) ≤ allL B
  | [] => Nat.le_refl _
  | q :: B => by
    have ih := all_zero l0 c B
    have ez : zeroL l0 c (q :: B) = (if q.1 = c ∧ q.2.1 < l0 then (q.1, q.2.1, 0) else q) :: zeroL l0 c B := rfl
    rw [ez]
    simp only [allL]
    split
    · simp only []; omega
    · omega
theorem chS_B (l0 : Nat) (s : sT) (c : Nat) : (chS l0 s c).2.2.1 = dropE (zeroL l0 c s.2.2.1) := by
  unfold chS
  split <;> rfl
theorem CI.ch {D n1 l0 c : Nat} {v1 v2 v4 : Nat → Int32} {s : sT} (h : CI D n1 v1 v2 v4 s) : CI D n1 v1 v2 v4 (chS l0 s c) := by
  obtain ⟨h0, h1, h3, h4, g1, g2, g4⟩ := h
  unfold chS
  split
  · refine ⟨?_, ?_, ?_, ?_, ?_, ?_, ?_⟩
    · show upA s.1 4 (min (s.1 4 + 1) 10) 0 = _
      rw [upA_n _ _ (by decide)]; exact h0
    · show upA s.1 4 (min (s.1 4 + 1) 10) 1 = _
      rw [upA_n _ _ (by decide)]; exact h1
    · show hoN s.1 3 ≤ 20
      rw [show hoN s.1 3 = s.1 3 from upA_n _ _ (by decide)]; exact h3
    · show hoN s.1 4 ≤ 10
      rw [show hoN s.1 4 = min (s.1 4 + 1) 10 from upA_s _ _ _]; omega
    · show chV s.2.1 c (oldL l0 c s.2.2.1) 1 = v1
      rw [chV_n (by decide) (by decide)]; exact g1
    · show chV s.2.1 c (oldL l0 c s.2.2.1) 2 = v2
      rw [chV_n (by decide) (by decide)]; exact g2
    · show chV s.2.1 c (oldL l0 c s.2.2.1) 4 = v4
      rw [chV_n (by decide) (by decide)]; exact g4
  · exact ⟨h0, h1, h3, h4, g1, g2, g4⟩
theorem CI.ho {D n1 : Nat} {v1 v2 v4 : Nat → Int32} {s : sT} {b : kT} (h : CI D n1 v1 v2 v4 s) : CI D n1 v1 v2 v4 (hoS s b) := by
  obtain ⟨h0, h1, h3, h4, g1, g2, g4⟩ := h
  refine ⟨?_, ?_, ?_, ?_, ?_, ?_, ?_⟩
  · show upA s.1 4 (min (s.1 4 + 1) 10) 0 = _
    rw [upA_n _ _ (by decide)]; exact h0
  · show upA s.1 4 (min (s.1 4 + 1) 10) 1 = _
    rw [upA_n _ _ (by decide)]; exact h1
  · show hoN s.1 3 ≤ 20
    rw [show hoN s.1 3 = s.1 3 from upA_n _ _ (by decide)]; exact h3
  · show hoN s.1 4 ≤ 10
    rw [show hoN s.1 4 = min (s.1 4 + 1) 10 from upA_s _ _ _]; omega
  · show hoV s.2.1 b 1 = v1
    rw [hoV_n (by decide)]; exact g1
  · show hoV s.2.1 b 2 = v2
    rw [hoV_n (by decide)]; exact g2
  · show hoV s.2.1 b 4 = v4
    rw [hoV_n (by decide)]; exact g4
section GB
variable {T : Nat → Nat → Int32} {P : Nat → Nat → Nat} {f : Nat → Int32} {N : Nat → Nat} {V : Nat → Nat → Int32} {K : List kT} {B : List bT} {R : Nat → Nat → Int32}
/-- what a basket that may leave must be -/
def LK (n1 : Nat) (v4 : Nat → Int32) (b : kT) : Prop := (∃ c d, c < n1 ∧ b 0 1 = nI c ∧ d < 5 ∧ v4 c = nI d) ∧ (∀ k, k < 4 → ∃ x y z, x ≤ 9 ∧ y + z ≤ x ∧ b 1 k = nI x ∧ b 2 k = nI y ∧ b 3 k = nI z)
theorem LK.ready {n1 : Nat} {v4 : Nat → Int32} {b : kT} (h : LK n1 v4 b) (hr : rdK b = 1) : (∀ k, k < 4 → b 2 k = b 1 k) ∧ ∃ x, x ≤ 27 ∧ nhI (b 2) = nI x := by
  have e := rd_E h.2
  rw [hr] at e
  unfold rdE at e
  have key : b 2 0 = b 1 0 ∧ b 2 1 = b 1 1 ∧ b 2 2 = b 1 2 ∧ b 2 3 = b 1 3 := by
    by_cases c0 : b 2 0 = b 1 0
    · rw [if_pos c0] at e
      by_cases c1 : b 2 1 = b 1 1
      · rw [if_pos c1] at e
        by_cases c2 : b 2 2 = b 1 2
        · rw [if_pos c2] at e
          by_cases c3 : b 2 3 = b 1 3
          · exact ⟨c0, c1, c2, c3⟩
          · rw [if_neg c3] at e; exact absurd e (by decide)
        · rw [if_neg c2] at e; exact absurd e (by decide)
      · rw [if_neg c1] at e; exact absurd e (by decide)
    · rw [if_neg c0] at e; exact absurd e (by decide)
  refine ⟨fun k hk => ?_, ?_⟩
  · match k, hk with
    | 0, _ => exact key.1
    | 1, _ => exact key.2.1
    | 2, _ => exact key.2.2.1
    | 3, _ => exact key.2.2.2
  · obtain ⟨x0, y0, z0, p0, q0, -, r0, -⟩ := h.2 0 (by decide)
    obtain ⟨x1, y1, z1, p1, q1, -, r1, -⟩ := h.2 1 (by decide)
    obtain ⟨x2, y2, z2, p2, q2, -, r2, -⟩ := h.2 2 (by decide)
    refine ⟨y0 + y1 + y2, by omega, ?_⟩
    unfold nhI
    rw [r0, r1, r2, Int32.zero_add, nI_add, nI_add]
theorem r_vanLoop {D n1 : Nat} {v1 v2 v4 : Nat → Int32} (hD : D ≤ 10100) (hn1 : n1 ≤ 10) (gp : kT → Prop) (hgp : ∀ b, gp b ↔ (rdK b = 1 ∧ ¬ vsI (v2 (v4 (cuK b)).toNatClampNeg) D = 0)) : ∀ (L A : List kT) (s : sT) (f : Nat → Int32) (n : Nat) (w3 w4 : Value), (∀ b ∈ L, LK n1 v4 b) → (A ++ L).length ≤ 8 → CI D n1 v1 v2 v4 s → sS f s (A ++ L) →
    ∃ f', X 166 37 [.ref 366, .int (nI n), .int (nI A.length), w3, w4] [] (H (upA T 367 f) P) = some (some (.int (nI (n + (L.length - (lvK gp L).length)))), H (upA T 367 f') P) ∧ sS f' (lvE gp s L) (A ++ lvK gp L)
  | [], A, s, f, n, w3, w4, hL, h8, hC, hS => by
    refine ⟨f, ?_, hS⟩
    have h16 := hS.1.n
    rw [List.append_nil] at h16 h8
    rw [x166_37]
    simp +decide only [x166_0, x166_0N, x166_1, x166_4, x166_5, x166_6, x166_7, x166_8, x166_9, x166_10, x166_11, x166_13, x166_13N, x166_14, x166_17, x166_18, x166_19, x166_22, x166_22N, x166_23, x166_24, x166_27, x166_30, x166_33, x166_34, x166_35, x166_36, x166_38, x166_38N, x166_39, x166_42, x166_44, x166_45, x166_48, x166_48N, x166_49, x166_52, x166_54, x166_54N, x166_55, x166_55N, x166_56, x166_57, x166_58, x166_61, x166_62, x166_65, x166_66, x166_67, x166_67N, x166_68, x166_71, x166_72, x166_73, x166_75, x166_76, x166_77, x166_78, x166_79, x166_80, x166_83, x166_84, x166_87, x166_88, x166_89, x166_90, x166_93, x166_93N, x166_94, x166_95, x166_98, x166_101, x166_102, x166_105, x166_106, x166_108, x166_110, x166_113, x166_113N, x166_114, x166_115, x166_118, x166_119, x166_121, x166_124, x166_125, x166_128, x166_129, x166_130, x166_131, x166_132, x166_134, x166_137, x166_138, x166_141, x166_142, x166_143, x166_144, x166_147, x166_148, aft_some, aft_void, Option.bind_some, Option.toList_some, Option.toList_none, List.cons_append, List.nil_append, if_true, if_false, ↓reduceIte, eq_self, z366_o, ↓z366_0, ↓z366_0p, ↓z366_1, ↓z366_2, ↓z366_3, ↓z366_4, ↓z366_4p, ↓z366_5, ↓z366_6, ↓z366_6p0, ↓z366_6p1, ↓z366_7, ↓z366_8, ↓z366_8p, ↓z366_9, ↓z366_9p, ↓z366_10, ↓z366_10p0, ↓z366_10p1, ↓z366_11, ↓z366_12, ↓z366_12p, ↓sg0, ↓sg1, ↓sg2, ↓sg3, ↓sg4, ↓sg5, ↓sg6, ↓sg7, ↓sg8, ↓sg9, ↓sg10, ↓sg11, ↓sg12, ↓sg13, ↓sg14, ↓sg15, ↓sg16, ↓sg17, ↓ss0, ↓ss1, ↓ss2, ↓ss3, ↓ss4, ↓ss5, ↓ss6, ↓ss7, ↓ss8, ↓ss9, ↓ss10, ↓ss11, ↓ss12, ↓ss13, ↓ss14, ↓ss15, ↓ss16, ↓ss17, h16, nI_nlt (Nat.le_refl A.length) (show A.length < 2 ^ 31 by omega), List.length_nil, Nat.zero_sub, Nat.add_zero]
  | b :: L, A, s, f, n, w3, w4, hL, h8, hC, hS => by
    have hLb := hL b List.mem_cons_self
    have hL' := fun x hx => hL x (List.mem_cons_of_mem _ hx)
    obtain ⟨⟨c, d, hc, ec, hd, ed⟩, h4⟩ := id hLb
    obtain ⟨q0, q1, q3, q4, g1, g2, g4⟩ := id hC
    have hlen : (A ++ b :: L).length = A.length + L.length + 1 := by rw [List.length_append, List.length_cons]; omega
    have h16 := hS.1.n
    rw [hlen] at h16
    rw [hlen] at h8
    have hlt : nI A.length < nI (A.length + L.length + 1) := nI_lt (by omega) (by omega)
    have hb : bR f A.length b := by
      have := hS.2.2.2.1 A.length (by rw [hlen]; omega)
      rwa [gK_app_m] at this
    have i8 : A.length < 8 := by omega
    have e1 := r_of (T := T) (P := P) (f := f) (i := A.length) (w := 1) (y := 1) rfl i8 (by decide)
    rw [hb.1.2.1, ec] at e1
    have e2 := r_ofCust (T := T) (P := P) (f := f) (i := c) (w := 0) (y := 0) rfl (by omega) (by decide)
    rw [(hS.2.1 c (by omega)).1 (by rw [q1]; exact hc), g4, ed] at e2
    have e18 : 18 + nI d = nI (18 + d) := nI_add 18 d
    have ev : f (18 + d) = v2 d := by rw [hS.1.2.2.2.2.2.1 d hd, g2]
    have f4 : f 4 = nI D := by rw [hS.1.d, q0]
    have k7 : nI D - nI D / 7 * 7 = nI (D % 7) := nI_modp (b := 7) (by omega) (by decide) (by decide)
    have hv : v2 d >>> (nI (D % 7) &&& 31) &&& 1 = vsI (v2 d) D := rfl
    have h01 := vs_01 (v2 d) D
    have er := r_isReady (T := T) (P := P) hb i8
    rw [rd_E h4] at er
    have hcu : cuK b = c := by unfold cuK; rw [ec, nI_clamp (by omega)]
    have hgb := hgp b
    rw [hcu, ed, nI_clamp (by omega)] at hgb
    have k1 : nI n + 1 = nI (n + 1) := nI_add _ 1
    have ki : nI A.length + 1 = nI (A.length + 1) := nI_add _ 1
    by_cases hg : gp b
    · have hr := hgb.mp hg
      obtain ⟨hrd, x, hx, ex⟩ := hLb.ready hr.1
      obtain ⟨G, el, hS1⟩ := r_leaves (T := T) (P := P) hS (by rw [hlen]; omega) ec (by rw [q1]; exact hc) (by rw [q1]; exact hn1) (by rw [q0]; exact hD) q3 q4 hrd ex hx
      obtain ⟨f', ef, hS2⟩ := r_vanLoop hD hn1 gp hgp L A (hoS s b) G (n + 1) (.int 1) (.int 1) hL' (by rw [List.length_append]; omega) hC.ho hS1
      have hE : lvE gp s (b :: L) = lvE gp (hoS s b) L := by
        show lvE gp (@ite _ (gp b) (Classical.propDecidable _) (hoS s b) s) L = _
        rw [if_pos hg]
      have hK : lvK gp (b :: L) = lvK gp L := by
        show @ite _ (gp b) (Classical.propDecidable _) _ _ = _
        rw [if_pos hg]
      have hle := lvK_le gp L
      rw [hE, hK]
      refine ⟨f', ?_, hS2⟩
      rw [show n + ((b :: L).length - (lvK gp L).length) = n + 1 + (L.length - (lvK gp L).length) by rw [List.length_cons]; omega, ← ef, x166_37]
      have hv1 : (vsI (v2 d) D = 1) = True := by rw [h01]; exact eq_true hr.2
      rw [hr.1] at er
      simp +decide only [x166_0, x166_0N, x166_1, x166_4, x166_5, x166_6, x166_7, x166_8, x166_9, x166_10, x166_11, x166_13, x166_13N, x166_14, x166_17, x166_18, x166_19, x166_22, x166_22N, x166_23, x166_24, x166_27, x166_30, x166_33, x166_34, x166_35, x166_36, x166_38, x166_38N, x166_39, x166_42, x166_44, x166_45, x166_48, x166_48N, x166_49, x166_52, x166_54, x166_54N, x166_55, x166_55N, x166_56, x166_57, x166_58, x166_61, x166_62, x166_65, x166_66, x166_67, x166_67N, x166_68, x166_71, x166_72, x166_73, x166_75, x166_76, x166_77, x166_78, x166_79, x166_80, x166_83, x166_84, x166_87, x166_88, x166_89, x166_90, x166_93, x166_93N, x166_94, x166_95, x166_98, x166_101, x166_102, x166_105, x166_106, x166_108, x166_110, x166_113, x166_113N, x166_114, x166_115, x166_118, x166_119, x166_121, x166_124, x166_125, x166_128, x166_129, x166_130, x166_131, x166_132, x166_134, x166_137, x166_138, x166_141, x166_142, x166_143, x166_144, x166_147, x166_148, aft_some, aft_void, Option.bind_some, Option.toList_some, Option.toList_none, List.cons_append, List.nil_append, if_true, if_false, ↓reduceIte, eq_self, z366_o, ↓z366_0, ↓z366_0p, ↓z366_1, ↓z366_2, ↓z366_3, ↓z366_4, ↓z366_4p, ↓z366_5, ↓z366_6, ↓z366_6p0, ↓z366_6p1, ↓z366_7, ↓z366_8, ↓z366_8p, ↓z366_9, ↓z366_9p, ↓z366_10, ↓z366_10p0, ↓z366_10p1, ↓z366_11, ↓z366_12, ↓z366_12p, ↓sg0, ↓sg1, ↓sg2, ↓sg3, ↓sg4, ↓sg5, ↓sg6, ↓sg7, ↓sg8, ↓sg9, ↓sg10, ↓sg11, ↓sg12, ↓sg13, ↓sg14, ↓sg15, ↓sg16, ↓sg17, ↓ss0, ↓ss1, ↓ss2, ↓ss3, ↓ss4, ↓ss5, ↓ss6, ↓ss7, ↓ss8, ↓ss9, ↓ss10, ↓ss11, ↓ss12, ↓ss13, ↓ss14, ↓ss15, ↓ss16, ↓ss17, h16, hlt, ↓aft_of (e1), ↓aft_of (e2), e18, ↓s_g (show 18 + d < 912 by omega), ev, f4, k7, hv, hv1, ↓aft_of (er), ↓aft_of (el), k1, Int32.add_zero]
    · have hE : lvE gp s (b :: L) = lvE gp s L := by
        show lvE gp (@ite _ (gp b) (Classical.propDecidable _) (hoS s b) s) L = _
        rw [if_neg hg]
      have hK : lvK gp (b :: L) = b :: lvK gp L := by
        show @ite _ (gp b) (Classical.propDecidable _) _ _ = _
        rw [if_neg hg]
      have hS' : sS f s ((A ++ [b]) ++ L) := by rw [List.append_assoc]; exact hS
      have hl1 : (A ++ [b]).length = A.length + 1 := by rw [List.length_append]; rfl
      have hle := lvK_le gp L
      by_cases hv0 : vsI (v2 d) D = 0
      · obtain ⟨f', ef, hS2⟩ := r_vanLoop hD hn1 gp hgp L (A ++ [b]) s f n (.int 0) (.int 0) hL' (by rw [List.length_append, hl1]; omega) hC hS'
        rw [hE, hK]
        refine ⟨f', ?_, by rw [List.append_assoc] at hS2; exact hS2⟩
        rw [show n + ((b :: L).length - (b :: lvK gp L).length) = n + (L.length - (lvK gp L).length) by simp only [List.length_cons]; omega, ← ef, hl1, x166_37]
        have hv1 : (vsI (v2 d) D = 1) = False := by rw [h01]; exact eq_false (fun z => z hv0)
        simp +decide only [x166_0, x166_0N, x166_1, x166_4, x166_5, x166_6, x166_7, x166_8, x166_9, x166_10, x166_11, x166_13, x166_13N, x166_14, x166_17, x166_18, x166_19, x166_22, x166_22N, x166_23, x166_24, x166_27, x166_30, x166_33, x166_34, x166_35, x166_36, x166_38, x166_38N, x166_39, x166_42, x166_44, x166_45, x166_48, x166_48N, x166_49, x166_52, x166_54, x166_54N, x166_55, x166_55N, x166_56, x166_57, x166_58, x166_61, x166_62, x166_65, x166_66, x166_67, x166_67N, x166_68, x166_71, x166_72, x166_73, x166_75, x166_76, x166_77, x166_78, x166_79, x166_80, x166_83, x166_84, x166_87, x166_88, x166_89, x166_90, x166_93, x166_93N, x166_94, x166_95, x166_98, x166_101, x166_102, x166_105, x166_106, x166_108, x166_110, x166_113, x166_113N, x166_114, x166_115, x166_118, x166_119, x166_121, x166_124, x166_125, x166_128, x166_129, x166_130, x166_131, x166_132, x166_134, x166_137, x166_138, x166_141, x166_142, x166_143, x166_144, x166_147, x166_148, aft_some, aft_void, Option.bind_some, Option.toList_some, Option.toList_none, List.cons_append, List.nil_append, if_true, if_false, ↓reduceIte, eq_self, z366_o, ↓z366_0, ↓z366_0p, ↓z366_1, ↓z366_2, ↓z366_3, ↓z366_4, ↓z366_4p, ↓z366_5, ↓z366_6, ↓z366_6p0, ↓z366_6p1, ↓z366_7, ↓z366_8, ↓z366_8p, ↓z366_9, ↓z366_9p, ↓z366_10, ↓z366_10p0, ↓z366_10p1, ↓z366_11, ↓z366_12, ↓z366_12p, ↓sg0, ↓sg1, ↓sg2, ↓sg3, ↓sg4, ↓sg5, ↓sg6, ↓sg7, ↓sg8, ↓sg9, ↓sg10, ↓sg11, ↓sg12, ↓sg13, ↓sg14, ↓sg15, ↓sg16, ↓sg17, ↓ss0, ↓ss1, ↓ss2, ↓ss3, ↓ss4, ↓ss5, ↓ss6, ↓ss7, ↓ss8, ↓ss9, ↓ss10, ↓ss11, ↓ss12, ↓ss13, ↓ss14, ↓ss15, ↓ss16, ↓ss17, h16, hlt, ↓aft_of (e1), ↓aft_of (e2), e18, ↓s_g (show 18 + d < 912 by omega), ev, f4, k7, hv, hv1, ki, Int32.add_zero]
      · have hr0 : rdK b = 0 := by
          have h01r : rdK b = 0 ∨ rdK b = 1 := by
            unfold rdK
            repeat' split
            all_goals simp
          rcases h01r with z | z
          · exact z
          · exact absurd (hgb.mpr ⟨z, hv0⟩) hg
        obtain ⟨f', ef, hS2⟩ := r_vanLoop hD hn1 gp hgp L (A ++ [b]) s f n (.int 1) (.int 0) hL' (by rw [List.length_append, hl1]; omega) hC hS'
        rw [hE, hK]
        refine ⟨f', ?_, by rw [List.append_assoc] at hS2; exact hS2⟩
        rw [show n + ((b :: L).length - (b :: lvK gp L).length) = n + (L.length - (lvK gp L).length) by simp only [List.length_cons]; omega, ← ef, hl1, x166_37]
        have hv1 : (vsI (v2 d) D = 1) = True := by rw [h01]; exact eq_true hv0
        rw [hr0] at er
        simp +decide only [x166_0, x166_0N, x166_1, x166_4, x166_5, x166_6, x166_7, x166_8, x166_9, x166_10, x166_11, x166_13, x166_13N, x166_14, x166_17, x166_18, x166_19, x166_22, x166_22N, x166_23, x166_24, x166_27, x166_30, x166_33, x166_34, x166_35, x166_36, x166_38, x166_38N, x166_39, x166_42, x166_44, x166_45, x166_48, x166_48N, x166_49, x166_52, x166_54, x166_54N, x166_55, x166_55N, x166_56, x166_57, x166_58, x166_61, x166_62, x166_65, x166_66, x166_67, x166_67N, x166_68, x166_71, x166_72, x166_73, x166_75, x166_76, x166_77, x166_78, x166_79, x166_80, x166_83, x166_84, x166_87, x166_88, x166_89, x166_90, x166_93, x166_93N, x166_94, x166_95, x166_98, x166_101, x166_102, x166_105, x166_106, x166_108, x166_110, x166_113, x166_113N, x166_114, x166_115, x166_118, x166_119, x166_121, x166_124, x166_125, x166_128, x166_129, x166_130, x166_131, x166_132, x166_134, x166_137, x166_138, x166_141, x166_142, x166_143, x166_144, x166_147, x166_148, aft_some, aft_void, Option.bind_some, Option.toList_some, Option.toList_none, List.cons_append, List.nil_append, if_true, if_false, ↓reduceIte, eq_self, z366_o, ↓z366_0, ↓z366_0p, ↓z366_1, ↓z366_2, ↓z366_3, ↓z366_4, ↓z366_4p, ↓z366_5, ↓z366_6, ↓z366_6p0, ↓z366_6p1, ↓z366_7, ↓z366_8, ↓z366_8p, ↓z366_9, ↓z366_9p, ↓z366_10, ↓z366_10p0, ↓z366_10p1, ↓z366_11, ↓z366_12, ↓z366_12p, ↓sg0, ↓sg1, ↓sg2, ↓sg3, ↓sg4, ↓sg5, ↓sg6, ↓sg7, ↓sg8, ↓sg9, ↓sg10, ↓sg11, ↓sg12, ↓sg13, ↓sg14, ↓sg15, ↓sg16, ↓sg17, ↓ss0, ↓ss1, ↓ss2, ↓ss3, ↓ss4, ↓ss5, ↓ss6, ↓ss7, ↓ss8, ↓ss9, ↓ss10, ↓ss11, ↓ss12, ↓ss13, ↓ss14, ↓ss15, ↓ss16, ↓ss17, h16, hlt, ↓aft_of (e1), ↓aft_of (e2), e18, ↓s_g (show 18 + d < 912 by omega), ev, f4, k7, hv, hv1, ↓aft_of (er), ki, Int32.add_zero]
theorem chE_ci {D n1 l0 : Nat} {v1 v2 v4 : Nat → Int32} {s : sT} (h : CI D n1 v1 v2 v4 s) : ∀ n, CI D n1 v1 v2 v4 (chE l0 n s)
  | 0 => h
  | n + 1 => (chE_ci h n).ch
theorem chE_nr {D l0 : Nat} {s : sT} (h : NR D s.2.2.1) (hA : allL s.2.2.1 ≤ 2673) : ∀ n, NR D (chE l0 n s).2.2.1 ∧ allL (chE l0 n s).2.2.1 ≤ 2673
  | 0 => ⟨h, hA⟩
  | n + 1 => by
    obtain ⟨h1, h2⟩ := chE_nr (l0 := l0) h hA n
    show NR D (chS l0 (chE l0 n s) n).2.2.1 ∧ allL (chS l0 (chE l0 n s) n).2.2.1 ≤ 2673
    rw [chS_B]
    refine ⟨h1.zero.drop, ?_⟩
    have := all_drop (zeroL l0 n (chE l0 n s).2.2.1)
    have := all_zero l0 n (chE l0 n s).2.2.1
    omega
theorem r_goesBy (h : sR f N V K B R) (hw : WF N V K B) (hd : N 0 < 10100) : ∃ f', X 166 0 [.ref 366, .long 0, .long 0, .long 0, .long 0] [] (H (upA T 367 f) P) = some (some (.int (nI (K.length - (dyK (N, V, B, R) K).length))), H (upA T 367 f') P) ∧ sS f' (dyS (N, V, B, R) K) (dyK (N, V, B, R) K) := by
  obtain ⟨⟨w0, w1, -, w8, w20, w10⟩, w2, ⟨-, ⟨g, g1, g2, eg⟩, -⟩, w4, -⟩ := id hw
  obtain ⟨⟨a1, ⟨a2, a3, a4, a5⟩, ⟨a6, a7, a8⟩, a9, ⟨a10, a11, a12⟩, a13, a14⟩, hC, hO, hK, hL, hJ⟩ := id h
  have hG : dyG V = g := by unfold dyG; rw [eg, nI_clamp (by omega)]
  have k1 : nI (N 0) + 1 = nI (N 0 + 1) := nI_add _ 1
  obtain ⟨s0, hs0⟩ : ∃ s0, s0 = dy0 (N, V, B, R) := ⟨_, rfl⟩
  have hCI : CI (N 0 + 1) (N 1) (V 1) (V 2) (V 4) s0 := by
    rw [hs0]
    refine ⟨?_, ?_, ?_, ?_, ?_, ?_, ?_⟩
    · show upA N 0 (N 0 + 1) 0 = _; rw [upA_s]
    · show upA N 0 (N 0 + 1) 1 = _; rw [upA_n _ _ (by decide)]
    rotate_left 2
    · show up1 V 0 0 (nI (N 0 + 1)) 1 = _; rw [up1_n (by decide)]
    · show up1 V 0 0 (nI (N 0 + 1)) 2 = _; rw [up1_n (by decide)]
    · show up1 V 0 0 (nI (N 0 + 1)) 4 = _; rw [up1_n (by decide)]
    · show upA N 0 (N 0 + 1) 3 ≤ 20; rw [upA_n _ _ (by decide)]; exact w20
    · show upA N 0 (N 0 + 1) 4 ≤ 10; rw [upA_n _ _ (by decide)]; exact w10
  have hNR : NR (N 0 + 1) s0.2.2.1 := by
    rw [hs0]
    exact ⟨fun q hq => by have := hw.2.2.2.2.2.1.1 q hq; omega, hw.2.2.2.2.2.1.2.1⟩
  have hA : allL s0.2.2.1 ≤ 2673 := by rw [hs0]; exact hw.all
  have hS0 : sS (upA f 4 (nI (N 0 + 1))) s0 K := by
    rw [hs0]
    have hn : ∀ r, r ≠ 0 → upA N 0 (N 0 + 1) r = N r := fun r hr => upA_n _ _ hr
    have vn : ∀ r, r ≠ 0 → up1 V 0 0 (nI (N 0 + 1)) r = V r := fun r hr => up1_n hr
    have fn : ∀ a, a ≠ 4 → upA f 4 (nI (N 0 + 1)) a = f a := fun a ha => upA_n _ _ ha
    have v0 : ∀ k, k ≠ 0 → up1 V 0 0 (nI (N 0 + 1)) 0 k = V 0 k := fun k hk => by rw [up1_s, upA_n _ _ hk]
    refine ⟨⟨fun j hj => ?_, ⟨?_, ?_, ?_, ?_⟩, ⟨?_, ?_, ?_⟩, fun j hj => ?_, ⟨?_, ?_, ?_⟩, fun d hd => ?_, ?_⟩, ?_, ?_, ?_, ?_, ?_⟩
    · show upA f 4 (nI (N 0 + 1)) j = up1 V 0 0 (nI (N 0 + 1)) 1 j
      rw [fn j (by omega), vn 1 (by decide)]; exact a1 j hj
    · show upA f 4 (nI (N 0 + 1)) 4 = nI (upA N 0 (N 0 + 1) 0)
      rw [upA_s, upA_s]
    · show upA f 4 (nI (N 0 + 1)) 5 = nI (upA N 0 (N 0 + 1) 1)
      rw [fn 5 (by decide), hn 1 (by decide)]; exact a3
    · show upA f 4 (nI (N 0 + 1)) 6 = nI (upA N 0 (N 0 + 1) 2)
      rw [fn 6 (by decide), hn 2 (by decide)]; exact a4
    · show upA f 4 (nI (N 0 + 1)) 7 = up1 V 0 0 (nI (N 0 + 1)) 0 1
      rw [fn 7 (by decide), v0 1 (by decide)]; exact a5
    · show upA f 4 (nI (N 0 + 1)) 8 = smI (up1 V 0 0 (nI (N 0 + 1)) 6) (upA N 0 (N 0 + 1) 1)
      rw [fn 8 (by decide), vn 6 (by decide), hn 1 (by decide)]; exact a6
    · show upA f 4 (nI (N 0 + 1)) 9 = up1 V 0 0 (nI (N 0 + 1)) 0 2
      rw [fn 9 (by decide), v0 2 (by decide)]; exact a7
    · show upA f 4 (nI (N 0 + 1)) 10 = nI (upA N 0 (N 0 + 1) 3)
      rw [fn 10 (by decide), hn 3 (by decide)]; exact a8
    · show upA f 4 (nI (N 0 + 1)) (11 + j) = up1 V 0 0 (nI (N 0 + 1)) 48 j
      rw [fn _ (by omega), vn 48 (by decide)]; exact a9 j hj
    · show upA f 4 (nI (N 0 + 1)) 15 = up1 V 0 0 (nI (N 0 + 1)) 0 3
      rw [fn 15 (by decide), v0 3 (by decide)]; exact a10
    · rw [fn 16 (by decide)]; exact a11
    · show upA f 4 (nI (N 0 + 1)) 17 = nI (upA N 0 (N 0 + 1) 4)
      rw [fn 17 (by decide), hn 4 (by decide)]; exact a12
    · show upA f 4 (nI (N 0 + 1)) (18 + d) = up1 V 0 0 (nI (N 0 + 1)) 2 d
      rw [fn _ (by omega), vn 2 (by decide)]; exact a13 d hd
    · show up1 V 0 0 (nI (N 0 + 1)) 0 0 = nI (upA N 0 (N 0 + 1) 0)
      rw [up1_s, upA_s, upA_s]
    · intro c hc
      show (c < upA N 0 (N 0 + 1) 1 → upA f 4 (nI (N 0 + 1)) _ = up1 V 0 0 (nI (N 0 + 1)) 4 c) ∧ upA f 4 (nI (N 0 + 1)) _ = (if c < upA N 0 (N 0 + 1) 1 then up1 V 0 0 (nI (N 0 + 1)) 5 c else 0) ∧ upA f 4 (nI (N 0 + 1)) _ = (if c < upA N 0 (N 0 + 1) 1 then up1 V 0 0 (nI (N 0 + 1)) 6 c else 0)
      rw [hn 1 (by decide), vn 4 (by decide), vn 5 (by decide), vn 6 (by decide)]
      exact hC.same (fun a h1 h2 => fn a (by omega)) c hc
    · exact hO.same (fun a h1 h2 => fn a (by omega))
    · exact hK.same w8 (fun a h1 h2 => fn a (by omega))
    · show sL _ (upA N 0 (N 0 + 1) 3) (up1 V 0 0 (nI (N 0 + 1)))
      rw [hn 3 (by decide)]
      intro i hi
      rw [vn 46 (by decide), vn 47 (by decide)]
      exact hL.same w20 (fun a h1 h2 => fn a (by omega)) i hi
    · show sJ _ (upA N 0 (N 0 + 1) 4) R
      rw [hn 4 (by decide)]
      exact hJ.same w10 (fun a h1 h2 => fn a (by omega))
  obtain ⟨G, eG, hSG⟩ := loop_ex (fun i (G : Nat → Int32) => X 166 12 [.ref 366, .int (nI i), .long 0, .long 0, .long 0] [] (H (upA T 367 G) P)) (fun i G => sS G (chE (N 0 + 1 - g) i s0) K) (N 1) (upA f 4 (nI (N 0 + 1))) hS0 (by
    intro i G hi hSi
    obtain ⟨q0, q1, q3, q4, r1, r2, r4⟩ := chE_ci (l0 := N 0 + 1 - g) hCI i
    obtain ⟨p1, p2⟩ := chE_nr (l0 := N 0 + 1 - g) hNR hA i
    obtain ⟨G', e, hS'⟩ := r_pays (T := T) (P := P) (c := i) (g := g) hSi (by rw [q1]; exact hi) (by rw [q1]; exact w1) (by rw [q0]; omega) w8 q3 q4 (by rw [q0]; exact p1) p2 (by rw [r1]; exact eg) g2
    refine ⟨G', ?_, ?_⟩
    · have hlt : nI i < nI (N 1) := nI_lt hi (by omega)
      have h5 : G 5 = nI (N 1) := by rw [hSi.1.2.1.2.1, q1]
      show X 166 12 [.ref 366, .int (nI i), .long 0, .long 0, .long 0] [] (H (upA T 367 G) P) = _
      rw [x166_12]
      simp +decide only [x166_0, x166_0N, x166_1, x166_4, x166_5, x166_6, x166_7, x166_8, x166_9, x166_10, x166_11, x166_13, x166_13N, x166_14, x166_17, x166_18, x166_19, x166_22, x166_22N, x166_23, x166_24, x166_27, x166_30, x166_33, x166_34, x166_35, x166_36, x166_38, x166_38N, x166_39, x166_42, x166_44, x166_45, x166_48, x166_48N, x166_49, x166_52, x166_54, x166_54N, x166_55, x166_55N, x166_56, x166_57, x166_58, x166_61, x166_62, x166_65, x166_66, x166_67, x166_67N, x166_68, x166_71, x166_72, x166_73, x166_75, x166_76, x166_77, x166_78, x166_79, x166_80, x166_83, x166_84, x166_87, x166_88, x166_89, x166_90, x166_93, x166_93N, x166_94, x166_95, x166_98, x166_101, x166_102, x166_105, x166_106, x166_108, x166_110, x166_113, x166_113N, x166_114, x166_115, x166_118, x166_119, x166_121, x166_124, x166_125, x166_128, x166_129, x166_130, x166_131, x166_132, x166_134, x166_137, x166_138, x166_141, x166_142, x166_143, x166_144, x166_147, x166_148, aft_some, aft_void, Option.bind_some, Option.toList_some, Option.toList_none, List.cons_append, List.nil_append, if_true, if_false, ↓reduceIte, eq_self, z366_o, ↓z366_0, ↓z366_0p, ↓z366_1, ↓z366_2, ↓z366_3, ↓z366_4, ↓z366_4p, ↓z366_5, ↓z366_6, ↓z366_6p0, ↓z366_6p1, ↓z366_7, ↓z366_8, ↓z366_8p, ↓z366_9, ↓z366_9p, ↓z366_10, ↓z366_10p0, ↓z366_10p1, ↓z366_11, ↓z366_12, ↓z366_12p, ↓sg0, ↓sg1, ↓sg2, ↓sg3, ↓sg4, ↓sg5, ↓sg6, ↓sg7, ↓sg8, ↓sg9, ↓sg10, ↓sg11, ↓sg12, ↓sg13, ↓sg14, ↓sg15, ↓sg16, ↓sg17, ↓ss0, ↓ss1, ↓ss2, ↓ss3, ↓ss4, ↓ss5, ↓ss6, ↓ss7, ↓ss8, ↓ss9, ↓ss10, ↓ss11, ↓ss12, ↓ss13, ↓ss14, ↓ss15, ↓ss16, ↓ss17, hlt, h5, ↓aft_of (e), nI_1]
    · rw [q0] at hS'; exact hS')
  have eG : X 166 12 [.ref 366, .int 0, .long 0, .long 0, .long 0] [] (H (upA T 367 (upA f 4 (nI (N 0 + 1)))) P) = X 166 12 [.ref 366, .int (nI (N 1)), .long 0, .long 0, .long 0] [] (H (upA T 367 G) P) := eG
  have hCE := chE_ci (l0 := N 0 + 1 - g) hCI (N 1)
  obtain ⟨q0, q1, q3, q4, r1, r2, r4⟩ := id hCE
  have hd1 : dy1 (N, V, B, R) = chE (N 0 + 1 - g) (N 1) s0 := by
    show chE (N 0 + 1 - dyG V) (N 1) (dy0 (N, V, B, R)) = _
    rw [hG, hs0]
  have hLK : ∀ b ∈ K, LK (N 1) (V 4) b := by
    intro b hb
    obtain ⟨i, hi⟩ := List.getElem?_of_mem hb
    obtain ⟨⟨c, hc, ec⟩, -, -, -, h4⟩ := w4 i b hi
    obtain ⟨d, hd5, ed⟩ := w2 c hc
    exact ⟨⟨c, d, hc, ec, hd5, ed⟩, h4⟩
  obtain ⟨f', ef, hSf⟩ := r_vanLoop (T := T) (P := P) (D := N 0 + 1) (n1 := N 1) (v1 := V 1) (v2 := V 2) (v4 := V 4) (by omega) w1 (goK (dy1 (N, V, B, R)).1 (dy1 (N, V, B, R)).2.1) (fun b => by
    unfold goK
    rw [hd1, q0, r2, r4]) K [] (chE (N 0 + 1 - g) (N 1) s0) G 0 (.long 0) (.long 0) hLK (by rw [List.nil_append]; exact w8) hCE hSG
  refine ⟨f', ?_, ?_⟩
  · have h5 : G 5 = nI (N 1) := by rw [hSG.1.2.1.2.1, q1]
    have ef : X 166 37 [.ref 366, .int 0, .int 0, .long 0, .long 0] [] (H (upA T 367 G) P) = some (some (.int (nI (0 + (K.length - (dyK (N, V, B, R) K).length)))), H (upA T 367 f') P) := ef
    rw [Nat.zero_add] at ef
    simp +decide only [x166_0, x166_0N, x166_1, x166_4, x166_5, x166_6, x166_7, x166_8, x166_9, x166_10, x166_11, x166_13, x166_13N, x166_14, x166_17, x166_18, x166_19, x166_22, x166_22N, x166_23, x166_24, x166_27, x166_30, x166_33, x166_34, x166_35, x166_36, x166_38, x166_38N, x166_39, x166_42, x166_44, x166_45, x166_48, x166_48N, x166_49, x166_52, x166_54, x166_54N, x166_55, x166_55N, x166_56, x166_57, x166_58, x166_61, x166_62, x166_65, x166_66, x166_67, x166_67N, x166_68, x166_71, x166_72, x166_73, x166_75, x166_76, x166_77, x166_78, x166_79, x166_80, x166_83, x166_84, x166_87, x166_88, x166_89, x166_90, x166_93, x166_93N, x166_94, x166_95, x166_98, x166_101, x166_102, x166_105, x166_106, x166_108, x166_110, x166_113, x166_113N, x166_114, x166_115, x166_118, x166_119, x166_121, x166_124, x166_125, x166_128, x166_129, x166_130, x166_131, x166_132, x166_134, x166_137, x166_138, x166_141, x166_142, x166_143, x166_144, x166_147, x166_148, aft_some, aft_void, Option.bind_some, Option.toList_some, Option.toList_none, List.cons_append, List.nil_append, if_true, if_false, ↓reduceIte, eq_self, z366_o, ↓z366_0, ↓z366_0p, ↓z366_1, ↓z366_2, ↓z366_3, ↓z366_4, ↓z366_4p, ↓z366_5, ↓z366_6, ↓z366_6p0, ↓z366_6p1, ↓z366_7, ↓z366_8, ↓z366_8p, ↓z366_9, ↓z366_9p, ↓z366_10, ↓z366_10p0, ↓z366_10p1, ↓z366_11, ↓z366_12, ↓z366_12p, ↓sg0, ↓sg1, ↓sg2, ↓sg3, ↓sg4, ↓sg5, ↓sg6, ↓sg7, ↓sg8, ↓sg9, ↓sg10, ↓sg11, ↓sg12, ↓sg13, ↓sg14, ↓sg15, ↓sg16, ↓sg17, ↓ss0, ↓ss1, ↓ss2, ↓ss3, ↓ss4, ↓ss5, ↓ss6, ↓ss7, ↓ss8, ↓ss9, ↓ss10, ↓ss11, ↓ss12, ↓ss13, ↓ss14, ↓ss15, ↓ss16, ↓ss17, a2, k1]
    rw [eG, x166_12]
    simp +decide only [x166_0, x166_0N, x166_1, x166_4, x166_5, x166_6, x166_7, x166_8, x166_9, x166_10, x166_11, x166_13, x166_13N, x166_14, x166_17, x166_18, x166_19, x166_22, x166_22N, x166_23, x166_24, x166_27, x166_30, x166_33, x166_34, x166_35, x166_36, x166_38, x166_38N, x166_39, x166_42, x166_44, x166_45, x166_48, x166_48N, x166_49, x166_52, x166_54, x166_54N, x166_55, x166_55N, x166_56, x166_57, x166_58, x166_61, x166_62, x166_65, x166_66, x166_67, x166_67N, x166_68, x166_71, x166_72, x166_73, x166_75, x166_76, x166_77, x166_78, x166_79, x166_80, x166_83, x166_84, x166_87, x166_88, x166_89, x166_90, x166_93, x166_93N, x166_94, x166_95, x166_98, x166_101, x166_102, x166_105, x166_106, x166_108, x166_110, x166_113, x166_113N, x166_114, x166_115, x166_118, x166_119, x166_121, x166_124, x166_125, x166_128, x166_129, x166_130, x166_131, x166_132, x166_134, x166_137, x166_138, x166_141, x166_142, x166_143, x166_144, x166_147, x166_148, aft_some, aft_void, Option.bind_some, Option.toList_some, Option.toList_none, List.cons_append, List.nil_append, if_true, if_false, ↓reduceIte, eq_self, z366_o, ↓z366_0, ↓z366_0p, ↓z366_1, ↓z366_2, ↓z366_3, ↓z366_4, ↓z366_4p, ↓z366_5, ↓z366_6, ↓z366_6p0, ↓z366_6p1, ↓z366_7, ↓z366_8, ↓z366_8p, ↓z366_9, ↓z366_9p, ↓z366_10, ↓z366_10p0, ↓z366_10p1, ↓z366_11, ↓z366_12, ↓z366_12p, ↓sg0, ↓sg1, ↓sg2, ↓sg3, ↓sg4, ↓sg5, ↓sg6, ↓sg7, ↓sg8, ↓sg9, ↓sg10, ↓sg11, ↓sg12, ↓sg13, ↓sg14, ↓sg15, ↓sg16, ↓sg17, ↓ss0, ↓ss1, ↓ss2, ↓ss3, ↓ss4, ↓ss5, ↓ss6, ↓ss7, ↓ss8, ↓ss9, ↓ss10, ↓ss11, ↓ss12, ↓ss13, ↓ss14, ↓ss15, ↓ss16, ↓ss17, h5, nI_nlt (Nat.le_refl (N 1)) (show N 1 < 2 ^ 31 by omega)]
    exact ef
  · show sS f' (lvE (goK (dy1 (N, V, B, R)).1 (dy1 (N, V, B, R)).2.1) (dy1 (N, V, B, R)) K) (lvK (goK (dy1 (N, V, B, R)).1 (dy1 (N, V, B, R)).2.1) K)
    rw [hd1] at hSf ⊢
    exact hSf
end GB
