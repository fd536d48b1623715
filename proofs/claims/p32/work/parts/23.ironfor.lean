/-! ironing for some minutes -/
abbrev sgI (V : Nat → Nat → Int32) : Int32 := if 0 < V 0 1 then 1 else 0
abbrev kdN (V : Nat → Nat → Int32) (b : kT) : Nat := (lkK b (sgI V)).toNatClampNeg
noncomputable def irS (N : Nat → Nat) : Nat → (Nat → Nat → Int32) → List kT → Int32 → Nat × (Nat → Nat → Int32) × List kT
  | 0, V, K, _ => (0, V, K)
  | n + 1, V, K, left => match nxS (fun i => irK V (gK K i)) (fun i => tnK N V (gK K i)) K.length with
    | none => (0, V, K)
    | some i => if left < ndI V (gK K i) (kdN V (gK K i)) then (0, V, K) else
      ((irS N n (inV V (gK K i) (kdN V (gK K i))) (K.set i (inB (gK K i) (kdN V (gK K i)))) (left - ndI V (gK K i) (kdN V (gK K i)))).1 + 1,
       (irS N n (inV V (gK K i) (kdN V (gK K i))) (K.set i (inB (gK K i) (kdN V (gK K i)))) (left - ndI V (gK K i) (kdN V (gK K i)))).2)
theorem nxS_ok {f : Nat → Prop} {t : Nat → Int32} : ∀ {n j : Nat}, nxS f t n = some j → j < n ∧ f j
  | 0, j, h => by simp [nxS] at h
  | n + 1, j, h => by
    by_cases hf : f n
    · rw [nxS_s hf] at h
      cases hq : nxS f t n with
      | none => rw [hq] at h; cases h; exact ⟨by omega, hf⟩
      | some q =>
        rw [hq] at h
        simp only at h
        have := nxS_ok hq
        split at h
        · cases h; exact ⟨by omega, hf⟩
        · cases h; exact ⟨by omega, this.2⟩
    · rw [nxS_n hf] at h
      have := nxS_ok h
      exact ⟨by omega, this.2⟩
theorem gK_at {K : List kT} {i : Nat} (hi : i < K.length) : K[i]? = some (gK K i) := by
  simp [gK, List.getD_eq_getElem?_getD, List.getElem?_eq_getElem hi]
theorem nd_small {N : Nat → Nat} {V : Nat → Nat → Int32} {K : List kT} {B : List bT} (hw : WF N V K B) {i k : Nat} (hi : i < K.length) (hk : k < 4) : ∃ x, 4 ≤ x ∧ x ≤ 40 ∧ ndI V (gK K i) k = nI x := by
  obtain ⟨-, -, -, ⟨s, hs, es⟩, -⟩ := hw.2.2.2.1 i _ (gK_at hi)
  obtain ⟨m, hm, em⟩ := hw.2.2.1.2.2
  have hmn : ∃ y, 4 ≤ y ∧ y ≤ 20 ∧ mnI (gK K i 0 3) k = nI y := by
    rw [es]
    match k, hk with
    | 0, _ => exact ⟨5 + s, by omega, by omega, nI_add 5 s⟩
    | 1, _ => exact ⟨4 + s, by omega, by omega, nI_add 4 s⟩
    | 2, _ => exact ⟨6, by decide, by decide, rfl⟩
    | 3, _ => exact ⟨8, by decide, by decide, rfl⟩
  obtain ⟨y, h1, h2, ey⟩ := hmn
  rcases sb_or V (gK K i) k with ⟨-, -, e⟩ | ⟨-, -, e⟩
  · exact ⟨y + m, by omega, by omega, by rw [e, ey, em, nI_add]⟩
  · exact ⟨y, h1, by omega, by rw [e, ey, Int32.add_zero]⟩
theorem ir_kind {V : Nat → Nat → Int32} {b : kT} (h : irK V b) : ∃ k, k < 4 ∧ lkK b (sgI V) = nI k ∧ 0 < opK b k ∧ (k < 3 → 0 < V 0 1) := by
  rcases lkK_or b (sgI V) with q | ⟨k, h1, h2, h3, h4⟩
  · exact absurd q h
  · refine ⟨k, h1, h2, h3, fun hk => ?_⟩
    have := h4 hk
    unfold sgI at this
    by_cases s : 0 < V 0 1
    · exact s
    · rw [if_neg s] at this; exact absurd rfl this
section IF
variable {P : Nat → Nat → Nat} {o : Nat} {N : Nat → Nat} {B : List bT} {R : Nat → Nat → Int32} {m0 : Int32}
theorem c_ironFor (ho : isB o) {T : Nat → Nat → Int32} {V : Nat → Nat → Int32} {K : List kT} (h : CS o T P N V K B R) (hw : WF N V K B) : ∃ T', X 83 0 [.ref o, .int m0, .long 0, .long 0, .long 0, .long 0] [] (H T P) = some (some (.int (nI (irS N 288 V K m0).1)), H T' P) ∧ (∀ a, (a < o ∨ o + 51 ≤ a) → T' a = T a) ∧ CS o T' P N (irS N 288 V K m0).2.1 (irS N 288 V K m0).2.2 B R ∧ WF N (irS N 288 V K m0).2.1 (irS N 288 V K m0).2.2 B := by
  have key : ∀ (n d : Nat) (V : Nat → Nat → Int32) (K : List kT) (left : Int32) (T : Nat → Nat → Int32) (v4 v5 : Value), d + n = 288 → CS o T P N V K B R → WF N V K B → ∃ T', X 83 4 [.ref o, .int m0, .int left, .int (nI d), v4, v5] [] (H T P) = some (some (.int (nI (d + (irS N n V K left).1))), H T' P) ∧ (∀ a, (a < o ∨ o + 51 ≤ a) → T' a = T a) ∧ CS o T' P N (irS N n V K left).2.1 (irS N n V K left).2.2 B R ∧ WF N (irS N n V K left).2.1 (irS N n V K left).2.2 B := by
    intro n
    induction n with
    | zero =>
      intro d V K left T v4 v5 hd h hw
      have hd : d = 288 := by omega
      subst hd
      refine ⟨T, ?_, fun _ _ => rfl, h, hw⟩
      rw [x83_4]
      simp +decide only [x83_0, x83_1, x83_2, x83_3, x83_5, x83_8, x83_11, x83_12, x83_15, x83_15N, x83_17, x83_17N, x83_19, x83_19N, x83_22, x83_23, x83_26, x83_27, x83_27N, x83_29, x83_30, x83_33, x83_35, x83_37, x83_40, x83_41, x83_42, x83_43, x83_45, x83_46, x83_47, x83_50, x83_53, x83_56, aft_some, aft_void, Option.bind_some, Option.toList_some, Option.toList_none, List.cons_append, List.nil_append, if_true, if_false, ↓reduceIte, eq_self, show nI 288 = 288 from rfl, irS, Nat.add_zero]
    | succ n ih =>
      intro d V K left T v4 v5 hd h hw
      have e0 := c_nextToIron ho h hw
      have hdl : nI d < 288 := nI_lt (show d < 288 by omega) (by decide)
      cases hq : nxS (fun i => irK V (gK K i)) (fun i => tnK N V (gK K i)) K.length with
      | none =>
        rw [hq] at e0
        simp only at e0
        simp only [irS, hq]
        refine ⟨T, ?_, fun _ _ => rfl, h, hw⟩
        rw [x83_4]
        simp +decide only [x83_0, x83_1, x83_2, x83_3, x83_5, x83_8, x83_11, x83_12, x83_15, x83_15N, x83_17, x83_17N, x83_19, x83_19N, x83_22, x83_23, x83_26, x83_27, x83_27N, x83_29, x83_30, x83_33, x83_35, x83_37, x83_40, x83_41, x83_42, x83_43, x83_45, x83_46, x83_47, x83_50, x83_53, x83_56, aft_some, aft_void, Option.bind_some, Option.toList_some, Option.toList_none, List.cons_append, List.nil_append, if_true, if_false, ↓reduceIte, eq_self, f0_o ho, ↓f0_0 ho, ↓f0_0p ho, ↓f0_1 ho, ↓f0_1p ho, ↓f0_2 ho, ↓f0_2p ho, ↓f0_3 ho, ↓f0_3p ho, ↓f0_4 ho, ↓f0_5 ho, ↓f0_6 ho, ↓f0_7 ho, ↓f0_8 ho, ↓f0_9 ho, ↓f0_10 ho, ↓f0_11 ho, ↓f1_g ho, ↓f1_s ho, ↓f2_g ho, ↓f2_s ho, hdl, ↓aft_of (e0), Nat.add_zero]
      | some i =>
        rw [hq] at e0
        simp only at e0
        obtain ⟨hi, hir⟩ := nxS_ok hq
        obtain ⟨k, hk, hlk, hop, -⟩ := ir_kind hir
        have hkd : kdN V (gK K i) = k := by unfold kdN; rw [hlk, nI_clamp (by omega)]
        obtain ⟨x, hx1, hx2, hx3⟩ := nd_small hw hi hk
        simp only [irS, hq, hkd]
        by_cases hl : left < ndI V (gK K i) k
        · have e1 := c_ironStop ho h hw hi hk hlk hl
          simp only [hl, if_true]
          refine ⟨T, ?_, fun _ _ => rfl, h, hw⟩
          rw [x83_4]
          simp +decide only [x83_0, x83_1, x83_2, x83_3, x83_5, x83_8, x83_11, x83_12, x83_15, x83_15N, x83_17, x83_17N, x83_19, x83_19N, x83_22, x83_23, x83_26, x83_27, x83_27N, x83_29, x83_30, x83_33, x83_35, x83_37, x83_40, x83_41, x83_42, x83_43, x83_45, x83_46, x83_47, x83_50, x83_53, x83_56, aft_some, aft_void, Option.bind_some, Option.toList_some, Option.toList_none, List.cons_append, List.nil_append, if_true, if_false, ↓reduceIte, eq_self, f0_o ho, ↓f0_0 ho, ↓f0_0p ho, ↓f0_1 ho, ↓f0_1p ho, ↓f0_2 ho, ↓f0_2p ho, ↓f0_3 ho, ↓f0_3p ho, ↓f0_4 ho, ↓f0_5 ho, ↓f0_6 ho, ↓f0_7 ho, ↓f0_8 ho, ↓f0_9 ho, ↓f0_10 ho, ↓f0_11 ho, ↓f1_g ho, ↓f1_s ho, ↓f2_g ho, ↓f2_s ho, hdl, ↓aft_of (e0), ↓aft_of (e1), Nat.add_zero]
        · obtain ⟨T1, e1, f1, h1⟩ := c_ironDo ho h hw hi hk hlk hl
          have hw1 := WF_iron hw (gK_at hi) hk hop
          simp only [hl, if_false]
          have hne : (ndI V (gK K i) k = 0) = False := by
            rw [hx3, show (0 : Int32) = nI 0 from rfl, nI_inj (by omega) (by decide)]
            exact eq_false (by omega)
          obtain ⟨T2, e2, f2, h2, w2⟩ := ih (d + 1) _ _ (left - ndI V (gK K i) k) T1 (.ref (P (o + 8) i)) (.int (ndI V (gK K i) k)) (by omega) h1 hw1
          refine ⟨T2, ?_, fun a ha => (f2 a ha).trans (f1 a ha), h2, w2⟩
          rw [x83_4]
          simp +decide only [x83_0, x83_1, x83_2, x83_3, x83_5, x83_8, x83_11, x83_12, x83_15, x83_15N, x83_17, x83_17N, x83_19, x83_19N, x83_22, x83_23, x83_26, x83_27, x83_27N, x83_29, x83_30, x83_33, x83_35, x83_37, x83_40, x83_41, x83_42, x83_43, x83_45, x83_46, x83_47, x83_50, x83_53, x83_56, aft_some, aft_void, Option.bind_some, Option.toList_some, Option.toList_none, List.cons_append, List.nil_append, if_true, if_false, ↓reduceIte, eq_self, f0_o ho, ↓f0_0 ho, ↓f0_0p ho, ↓f0_1 ho, ↓f0_1p ho, ↓f0_2 ho, ↓f0_2p ho, ↓f0_3 ho, ↓f0_3p ho, ↓f0_4 ho, ↓f0_5 ho, ↓f0_6 ho, ↓f0_7 ho, ↓f0_8 ho, ↓f0_9 ho, ↓f0_10 ho, ↓f0_11 ho, ↓f1_g ho, ↓f1_s ho, ↓f2_g ho, ↓f2_s ho, hdl, ↓aft_of (e0), ↓aft_of (e1), hne, nI_1]
          rw [e2]
          congr 4
          congr 1
          omega
  obtain ⟨T', e, r⟩ := key 288 0 V K m0 T (.long 0) (.long 0) (by omega) h hw
  refine ⟨T', ?_, r⟩
  simp +decide only [x83_0, x83_1, x83_2, x83_3, x83_5, x83_8, x83_11, x83_12, x83_15, x83_15N, x83_17, x83_17N, x83_19, x83_19N, x83_22, x83_23, x83_26, x83_27, x83_27N, x83_29, x83_30, x83_33, x83_35, x83_37, x83_40, x83_41, x83_42, x83_43, x83_45, x83_46, x83_47, x83_50, x83_53, x83_56, aft_some, aft_void, Option.bind_some, Option.toList_some, Option.toList_none, List.cons_append, List.nil_append, if_true, if_false, ↓reduceIte, eq_self]
  rw [show X 83 4 [.ref o, .int m0, .int m0, .int 0, .long 0, .long 0] [] (H T P) = _ from e, Nat.zero_add]
end IF
