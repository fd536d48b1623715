/-! set, the text's letters, undo, keep, restore -/
def loI (w : Int32) : Int32 := if w = 2 then 1 else 0
def hiI (w : Int32) : Int32 := if w = 0 then 2 else if w = 1 then 20 else if w = 2 then 60 else 99
def gSet (w v : Int32) (s : gT) : Int32 × gT := if inI w 0 3 = 0 then (-2, s) else if inI v (loI w) (hiI w) = 0 then (-2, s) else if s.1.1.2.1 1 w.toNatClampNeg = v then (-5, s) else (s.1.1.2.1 1 w.toNatClampNeg, sV s (up1 s.1.1.2.1 1 w.toNatClampNeg v))
def gType (c : Int32) (s : gT) : Int32 × gT := if s.2.2.2.1 < 60 then (nI (s.2.2.2.1 + 1), s.1, s.2.1, s.2.2.1, s.2.2.2.1 + 1, upA s.2.2.2.2 s.2.2.2.1 c) else (-3, s)
def gClear (s : gT) : Int32 × gT := (nI s.2.2.2.1, s.1, s.2.1, s.2.2.1, 0, s.2.2.2.2)
def gUndo : gT → Int32 × gT
  | (u, k, [], t) => (-5, u, k, [], t)
  | (_, k, v :: L, t) => (nI L.length, v, k, L, t)
def gKeep (s : gT) : Int32 × gT := (nI (s.1.1.1 0), s.1, some s.1, s.2.2)
def gRest : gT → Int32 × gT
  | (u, none, r) => (-5, u, none, r)
  | (u, some v, L, t) => (nI (v.1.1 0), v, some v, (u :: L).take 4, t)
section CL2
variable {T U EE : Nat → Nat → Int32} {P Q : Nat → Nat → Nat} {o q : Nat} {s : gT} {u : uT} {N : Nat → Nat} {V W : Nat → Nat → Int32} {K : List kT} {B : List bT} {R : Nat → Nat → Int32}
theorem c_lo {w : Int32} {h0 : List hC} : X 121 0 [.int w] [] h0 = some (some (.int (loI w)), h0) := by
  unfold loI
  by_cases c : w = 2
  · simp +decide only [x121_0, x121_1, x121_2, x121_5, x121_6, x121_9, x121_10, aft_some, aft_void, Option.bind_some, Option.toList_some, Option.toList_none, List.cons_append, List.nil_append, if_true, if_false, ↓reduceIte, eq_self, c]
  · simp +decide only [x121_0, x121_1, x121_2, x121_5, x121_6, x121_9, x121_10, aft_some, aft_void, Option.bind_some, Option.toList_some, Option.toList_none, List.cons_append, List.nil_append, if_true, if_false, ↓reduceIte, eq_self, c]
theorem c_hi {w : Int32} {h0 : List hC} : X 122 0 [.int w] [] h0 = some (some (.int (hiI w)), h0) := by
  unfold hiI
  by_cases c0 : w = 0
  · simp +decide only [x122_0, x122_1, x122_28, x122_29, x122_30, x122_32, x122_33, x122_35, x122_36, x122_38, aft_some, aft_void, Option.bind_some, Option.toList_some, Option.toList_none, List.cons_append, List.nil_append, if_true, if_false, ↓reduceIte, eq_self, c0]
  by_cases c1 : w = 1
  · simp +decide only [x122_0, x122_1, x122_28, x122_29, x122_30, x122_32, x122_33, x122_35, x122_36, x122_38, aft_some, aft_void, Option.bind_some, Option.toList_some, Option.toList_none, List.cons_append, List.nil_append, if_true, if_false, ↓reduceIte, eq_self, c0, c1]
  by_cases c2 : w = 2
  · simp +decide only [x122_0, x122_1, x122_28, x122_29, x122_30, x122_32, x122_33, x122_35, x122_36, x122_38, aft_some, aft_void, Option.bind_some, Option.toList_some, Option.toList_none, List.cons_append, List.nil_append, if_true, if_false, ↓reduceIte, eq_self, c0, c1, c2]
  simp +decide only [x122_0, x122_1, x122_28, x122_29, x122_30, x122_32, x122_33, x122_35, x122_36, x122_38, aft_some, aft_void, Option.bind_some, Option.toList_some, Option.toList_none, List.cons_append, List.nil_append, if_true, if_false, ↓reduceIte, eq_self, c0, c1, c2]
theorem inI_ex2 {d : Int32} {m n : Nat} (hm : m < 2 ^ 31) (hn : n < 2 ^ 31) (h : ¬ inI d (nI m) (nI n) = 0) : ∃ k, m ≤ k ∧ k ≤ n ∧ d = nI k := by
  unfold inI at h
  by_cases h1 : d < nI m
  · rw [if_pos h1] at h; exact absurd rfl h
  · rw [if_neg h1] at h
    by_cases h2 : nI n < d
    · rw [if_pos h2] at h; exact absurd rfl h
    · have h0 : ¬ d < 0 := by
        intro z
        apply h1
        rw [Int32.lt_iff_toInt_lt] at z ⊢
        rw [nI_toInt hm]
        have : (0 : Int32).toInt = 0 := rfl
        omega
      obtain ⟨j, hj, rfl⟩ := nI_of h0
      rw [nI_ltp hj hm] at h1
      rw [nI_ltp hn hj] at h2
      exact ⟨j, by omega, by omega, rfl⟩
theorem g_set (h1 : o = 1) (h : CG EE T P s) (w v : Int32) : ∃ T', X 100 0 [.ref 0, .int w, .int v, .long 0] [] (H T P) = some (some (.int (gSet w v s).1), H T' P) ∧ CG EE T' P (gSet w v s).2 := by
  have ho : isB o := by subst h1; exact isB_1
  unfold gSet
  by_cases c1 : inI w 0 3 = 0
  · rw [if_pos c1]
    refine ⟨T, ?_, h⟩
    simp +decide only [x100_0, x100_1, x100_2, x100_3, x100_6, x100_9, x100_10, x100_11, x100_14, x100_15, x100_18, x100_21, x100_24, x100_26, x100_27, x100_28, x100_31, x100_34, x100_35, x100_36, x100_37, x100_38, x100_39, x100_42, x100_44, x100_45, x100_46, x100_49, x100_50, x100_53, x100_56, x100_57, x100_60, x100_63, x100_64, x100_65, x100_66, x100_67, aft_some, aft_void, Option.bind_some, Option.toList_some, Option.toList_none, List.cons_append, List.nil_append, if_true, if_false, ↓reduceIte, eq_self, z0_o, ↓z0_0, ↓z0_1, ↓z0_2, ↓z0_3, ↓z0_4, ↓z0_5, ↓z0_5p0, ↓z0_5p1, ↓aft_of (c_within), c1]
  rw [if_neg c1]
  by_cases c2 : inI v (loI w) (hiI w) = 0
  · rw [if_pos c2]
    refine ⟨T, ?_, h⟩
    simp +decide only [x100_0, x100_1, x100_2, x100_3, x100_6, x100_9, x100_10, x100_11, x100_14, x100_15, x100_18, x100_21, x100_24, x100_26, x100_27, x100_28, x100_31, x100_34, x100_35, x100_36, x100_37, x100_38, x100_39, x100_42, x100_44, x100_45, x100_46, x100_49, x100_50, x100_53, x100_56, x100_57, x100_60, x100_63, x100_64, x100_65, x100_66, x100_67, aft_some, aft_void, Option.bind_some, Option.toList_some, Option.toList_none, List.cons_append, List.nil_append, if_true, if_false, ↓reduceIte, eq_self, z0_o, ↓z0_0, ↓z0_1, ↓z0_2, ↓z0_3, ↓z0_4, ↓z0_5, ↓z0_5p0, ↓z0_5p1, ↓aft_of (c_within), ↓aft_of (c_lo), ↓aft_of (c_hi), c1, c2]
  rw [if_neg c2]
  obtain ⟨k, hk, rfl⟩ := inI_ex (n := 3) (by decide) c1
  have cl := nI_clamp (show k < 2 ^ 31 by omega)
  have ok := okx_nI (show k < 4 by omega) (show (4 : Nat) < 2 ^ 31 by decide)
  rw [cl]
  have hc : CSu o T P s.1 := by subst h1; exact h.2.1.1
  have hv : T (o + 1) k = s.1.1.2.1 1 k := hc.1.2.1 k (by omega)
  by_cases c3 : s.1.1.2.1 1 k = v
  · rw [if_pos c3]
    refine ⟨T, ?_, h⟩
    simp +decide only [x100_0, x100_1, x100_2, x100_3, x100_6, x100_9, x100_10, x100_11, x100_14, x100_15, x100_18, x100_21, x100_24, x100_26, x100_27, x100_28, x100_31, x100_34, x100_35, x100_36, x100_37, x100_38, x100_39, x100_42, x100_44, x100_45, x100_46, x100_49, x100_50, x100_53, x100_56, x100_57, x100_60, x100_63, x100_64, x100_65, x100_66, x100_67, aft_some, aft_void, Option.bind_some, Option.toList_some, Option.toList_none, List.cons_append, List.nil_append, if_true, if_false, ↓reduceIte, eq_self, z0_o, ↓z0_0, ↓z0_1, ↓z0_2, ↓z0_3, ↓z0_4, ↓z0_5, ↓z0_5p0, ↓z0_5p1, ↓z0n h1, f0_o ho, ↓f0_0 ho, ↓f0_0p ho, ↓f0_1 ho, ↓f0_1p ho, ↓f0_2 ho, ↓f0_2p ho, ↓f0_3 ho, ↓f0_3p ho, ↓f0_4 ho, ↓f0_5 ho, ↓f0_6 ho, ↓f0_7 ho, ↓f0_8 ho, ↓f0_9 ho, ↓f0_10 ho, ↓f0_11 ho, ↓f1_g ho, ↓f1_s ho, ↓f2_g ho, ↓f2_s ho, ↓aft_of (c_within), ↓aft_of (c_lo), ↓aft_of (c_hi), c1, c2, ok, cl, hv, c3]
  rw [if_neg c3]
  obtain ⟨T1, e1, f1, g1⟩ := h.push h1
  refine ⟨up1 T1 (o + 1) k v, ?_, ?_⟩
  · simp +decide only [x100_0, x100_1, x100_2, x100_3, x100_6, x100_9, x100_10, x100_11, x100_14, x100_15, x100_18, x100_21, x100_24, x100_26, x100_27, x100_28, x100_31, x100_34, x100_35, x100_36, x100_37, x100_38, x100_39, x100_42, x100_44, x100_45, x100_46, x100_49, x100_50, x100_53, x100_56, x100_57, x100_60, x100_63, x100_64, x100_65, x100_66, x100_67, aft_some, aft_void, Option.bind_some, Option.toList_some, Option.toList_none, List.cons_append, List.nil_append, if_true, if_false, ↓reduceIte, eq_self, z0_o, ↓z0_0, ↓z0_1, ↓z0_2, ↓z0_3, ↓z0_4, ↓z0_5, ↓z0_5p0, ↓z0_5p1, ↓z0n h1, f0_o ho, ↓f0_0 ho, ↓f0_0p ho, ↓f0_1 ho, ↓f0_1p ho, ↓f0_2 ho, ↓f0_2p ho, ↓f0_3 ho, ↓f0_3p ho, ↓f0_4 ho, ↓f0_5 ho, ↓f0_6 ho, ↓f0_7 ho, ↓f0_8 ho, ↓f0_9 ho, ↓f0_10 ho, ↓f0_11 ho, ↓f1_g ho, ↓f1_s ho, ↓f2_g ho, ↓f2_s ho, z154_o, ↓z154_0, ↓z154_1, ↓z154_1p, ↓z154_2, ↓z154_2p, ↓z155_g, ↓aft_of (c_within), ↓aft_of (c_lo), ↓aft_of (c_hi), c1, c2, ok, cl, hv, c3, ↓aft_of (e1)]
  · subst h1
    have h8 := h.2.1.2.1.1.2.2.2.1
    obtain ⟨⟨d0, hd0, ed0⟩, ⟨g0, hg0, hg1, eg0⟩, m0, hm0, em0⟩ := h.2.1.2.1.2.2.1
    refine g1.now (CS.set1 g1.2.1.1 h8 (Or.inl rfl)) ⟨h.2.1.2.1.v ?_ ?_ ?_ ?_ ?_, h.2.1.2.2⟩ (fun a ha => ?_) (fun _ _ => rfl)
    · simp +decide only [u_n]
    · simp +decide only [u_n]
    · simp +decide only [u_n]
    · simp +decide only [u_n]
    · simp only [upA_s]
      match k, hk with
      | 0, _ =>
        obtain ⟨x, -, hx, rfl⟩ := inI_ex2 (m := 0) (n := 2) (by decide) (by decide) c2
        exact ⟨⟨x, by omega, by simp +decide only [upA_s]⟩, ⟨g0, hg0, hg1, by simp +decide only [u_n]; exact eg0⟩, m0, hm0, by simp +decide only [u_n]; exact em0⟩
      | 1, _ =>
        obtain ⟨x, -, hx, rfl⟩ := inI_ex2 (m := 0) (n := 20) (by decide) (by decide) c2
        exact ⟨⟨d0, hd0, by simp +decide only [u_n]; exact ed0⟩, ⟨g0, hg0, hg1, by simp +decide only [u_n]; exact eg0⟩, x, by omega, by simp +decide only [upA_s]⟩
      | 2, _ =>
        obtain ⟨x, hx0, hx, rfl⟩ := inI_ex2 (m := 1) (n := 60) (by decide) (by decide) c2
        exact ⟨⟨d0, hd0, by simp +decide only [u_n]; exact ed0⟩, ⟨x, hx0, hx, by simp +decide only [upA_s]⟩, m0, hm0, by simp +decide only [u_n]; exact em0⟩
      | 3, _ =>
        exact ⟨⟨d0, hd0, by simp +decide only [u_n]; exact ed0⟩, ⟨g0, hg0, hg1, by simp +decide only [u_n]; exact eg0⟩, m0, hm0, by simp +decide only [u_n]; exact em0⟩
    · exact upA_n _ _ (by omega)
theorem g_undo (h1 : o = 1) (h : CG EE T P s) : ∃ T', X 104 0 [.ref 0] [] (H T P) = some (some (.int (gUndo s).1), H T' P) ∧ CG EE T' P (gUndo s).2 := by
  have ho : isB o := by subst h1; exact isB_1
  obtain ⟨h01, h2, h3, h4, h5⟩ := id h
  obtain ⟨u, k, L, t⟩ := s
  cases L with
  | nil =>
    have hn : T 154 1 = 0 := h4.2.1
    refine ⟨T, ?_, h⟩
    unfold gUndo
    simp +decide only [x104_0, x104_1, x104_4, x104_7, x104_10, x104_12, x104_13, x104_14, x104_17, x104_18, x104_21, x104_24, x104_25, x104_28, x104_31, aft_some, aft_void, Option.bind_some, Option.toList_some, Option.toList_none, List.cons_append, List.nil_append, if_true, if_false, ↓reduceIte, eq_self, z0_o, ↓z0_0, ↓z0_1, ↓z0_2, ↓z0_3, ↓z0_4, ↓z0_5, ↓z0_5p0, ↓z0_5p1, z154_o, ↓z154_0, ↓z154_1, ↓z154_1p, ↓z154_2, ↓z154_2p, ↓z155_g, hn]
  | cons v L =>
    have hn : T 154 1 = nI (L.length + 1) := h4.2.1
    have hL : L.length + 1 ≤ 4 := h4.1
    have hne : (nI (L.length + 1) = 0) = False := by
      have := nI_inj (a := L.length + 1) (b := 0) (by omega) (by decide)
      rw [show nI 0 = 0 from rfl] at this
      rw [this]; simp
    obtain ⟨T1, e1, f1, c1, w1, i1⟩ := c_pop h01 h4
    have hn1 : T1 154 1 = nI L.length := i1.2.1
    refine ⟨T1, ?_, h01, ⟨c1, w1⟩, ?_, i1, ?_⟩
    · unfold gUndo
      rw [← h1] at e1
      simp +decide only [x104_0, x104_1, x104_4, x104_7, x104_10, x104_12, x104_13, x104_14, x104_17, x104_18, x104_21, x104_24, x104_25, x104_28, x104_31, aft_some, aft_void, Option.bind_some, Option.toList_some, Option.toList_none, List.cons_append, List.nil_append, if_true, if_false, ↓reduceIte, eq_self, z0_o, ↓z0_0, ↓z0_1, ↓z0_2, ↓z0_3, ↓z0_4, ↓z0_5, ↓z0_5p0, ↓z0_5p1, ↓z0n h1, f0_o ho, ↓f0_0 ho, ↓f0_0p ho, ↓f0_1 ho, ↓f0_1p ho, ↓f0_2 ho, ↓f0_2p ho, ↓f0_3 ho, ↓f0_3p ho, ↓f0_4 ho, ↓f0_5 ho, ↓f0_6 ho, ↓f0_7 ho, ↓f0_8 ho, ↓f0_9 ho, ↓f0_10 ho, ↓f0_11 ho, ↓f1_g ho, ↓f1_s ho, ↓f2_g ho, ↓f2_s ho, z154_o, ↓z154_0, ↓z154_1, ↓z154_1p, ↓z154_2, ↓z154_2p, ↓z155_g, hn, hne, hn1, ↓aft_of (e1)]
    · exact KP.same h3 (f1 0 (by decide)) (fun a ha hb => f1 a (by omega)) rfl
    · exact TX.same h5 (fun a ha => f1 a (by omega))
theorem g_keep (h1 : o = 1) (hq1 : q = 52) (h : CG EE T P s) : ∃ T', X 105 0 [.ref 0] [] (H T P) = some (some (.int (gKeep s).1), H T' P) ∧ CG EE T' P (gKeep s).2 := by
  have ho : isB o := by subst h1; exact isB_1
  have hq : isB q := by subst hq1; exact isB_52
  obtain ⟨h01, h2, h3, h4, h5⟩ := id h
  have hc : CSu o T P s.1 := by subst h1; exact h2.1
  have h8 := h2.2.1.1.2.2.2.1
  obtain ⟨T1, e1, f1, c1⟩ := c_stCopy (o := q) (q := o) hq ho (by omega) (h01.1 _ hq) hc h2.2.1.1.2.1 h8
  have hd : T1 o 0 = nI (s.1.1.1 0) := by
    rw [f1 o (by omega), hc.1.1 0 (by decide)]; exact hc.1.2.2.2
  have hd1 : up1 T1 0 5 1 o 0 = nI (s.1.1.1 0) := by rw [← hd]; simp only [upA_n _ _ (show o ≠ 0 by omega)]
  have hf : ∀ a, a ≠ 0 → up1 T1 0 5 1 a = T1 a := fun a ha => upA_n _ _ ha
  refine ⟨up1 T1 0 5 1, ?_, h01, ⟨?_, h2.2⟩, ⟨?_, ?_, h2.2⟩, ?_, ?_⟩
  · unfold gKeep
    simp +decide only [x105_0, x105_1, x105_4, x105_5, x105_8, x105_11, x105_12, x105_13, x105_16, x105_17, x105_20, x105_23, aft_some, aft_void, Option.bind_some, Option.toList_some, Option.toList_none, List.cons_append, List.nil_append, if_true, if_false, ↓reduceIte, eq_self, z0_o, ↓z0_0, ↓z0_1, ↓z0_2, ↓z0_3, ↓z0_4, ↓z0_5, ↓z0_5p0, ↓z0_5p1, ↓z0n h1, ↓z0k hq1, f0_o ho, ↓f0_0 ho, ↓f0_0p ho, ↓f0_1 ho, ↓f0_1p ho, ↓f0_2 ho, ↓f0_2p ho, ↓f0_3 ho, ↓f0_3p ho, ↓f0_4 ho, ↓f0_5 ho, ↓f0_6 ho, ↓f0_7 ho, ↓f0_8 ho, ↓f0_9 ho, ↓f0_10 ho, ↓f0_11 ho, ↓f1_g ho, ↓f1_s ho, ↓f2_g ho, ↓f2_s ho, f0_o hq, ↓f0_0 hq, ↓f0_0p hq, ↓f0_1 hq, ↓f0_1p hq, ↓f0_2 hq, ↓f0_2p hq, ↓f0_3 hq, ↓f0_3p hq, ↓f0_4 hq, ↓f0_5 hq, ↓f0_6 hq, ↓f0_7 hq, ↓f0_8 hq, ↓f0_9 hq, ↓f0_10 hq, ↓f0_11 hq, ↓f1_g hq, ↓f1_s hq, ↓f2_g hq, ↓f2_s hq, hd1, ↓aft_of (e1)]
  · subst h1; subst hq1
    exact CS.same h2.1 h8 (fun a ha hb => by rw [hf a (by omega), f1 a (by omega)]) rfl
  · simp only [upA_s]
  · subst hq1
    exact CS.same c1 h8 (fun a ha hb => hf a (by omega)) rfl
  · exact h4.same (fun a ha hb => by rw [hf a (by omega), f1 a (by omega)]) (fun _ _ _ => rfl)
  · exact h5.same (fun a ha => by rw [hf a (by omega), f1 a (by omega)])
theorem g_rest (h1 : o = 1) (hq1 : q = 52) (h : CG EE T P s) : ∃ T', X 106 0 [.ref 0] [] (H T P) = some (some (.int (gRest s).1), H T' P) ∧ CG EE T' P (gRest s).2 := by
  have ho : isB o := by subst h1; exact isB_1
  have hq : isB q := by subst hq1; exact isB_52
  obtain ⟨u, k, L, t⟩ := s
  cases k with
  | none =>
    have hn : T 0 5 = 0 := h.2.2.1
    refine ⟨T, ?_, h⟩
    unfold gRest
    simp +decide only [x106_0, x106_1, x106_4, x106_7, x106_9, x106_10, x106_11, x106_14, x106_15, x106_18, x106_21, x106_22, x106_25, x106_26, x106_29, x106_32, x106_33, x106_36, x106_39, aft_some, aft_void, Option.bind_some, Option.toList_some, Option.toList_none, List.cons_append, List.nil_append, if_true, if_false, ↓reduceIte, eq_self, z0_o, ↓z0_0, ↓z0_1, ↓z0_2, ↓z0_3, ↓z0_4, ↓z0_5, ↓z0_5p0, ↓z0_5p1, hn]
  | some v =>
    have hn : T 0 5 = 1 := h.2.2.1.1
    obtain ⟨T1, e1, f1, g1⟩ := h.push h1
    obtain ⟨-, hv, wv⟩ := g1.2.2.1
    have hv : CSu q T1 P v := by subst hq1; exact hv
    obtain ⟨T2, e2, f2, c2⟩ := c_stCopy (o := o) (q := q) ho hq (by omega) (h.1.1 _ ho) hv wv.1.1.2.1 wv.1.1.2.2.2.1
    have hd : T2 o 0 = nI (v.1.1 0) := by rw [c2.1.1 0 (by decide)]; exact c2.1.2.2.2
    refine ⟨T2, ?_, ?_⟩
    · unfold gRest
      simp +decide only [x106_0, x106_1, x106_4, x106_7, x106_9, x106_10, x106_11, x106_14, x106_15, x106_18, x106_21, x106_22, x106_25, x106_26, x106_29, x106_32, x106_33, x106_36, x106_39, aft_some, aft_void, Option.bind_some, Option.toList_some, Option.toList_none, List.cons_append, List.nil_append, if_true, if_false, ↓reduceIte, eq_self, z0_o, ↓z0_0, ↓z0_1, ↓z0_2, ↓z0_3, ↓z0_4, ↓z0_5, ↓z0_5p0, ↓z0_5p1, ↓z0n h1, ↓z0k hq1, f0_o ho, ↓f0_0 ho, ↓f0_0p ho, ↓f0_1 ho, ↓f0_1p ho, ↓f0_2 ho, ↓f0_2p ho, ↓f0_3 ho, ↓f0_3p ho, ↓f0_4 ho, ↓f0_5 ho, ↓f0_6 ho, ↓f0_7 ho, ↓f0_8 ho, ↓f0_9 ho, ↓f0_10 ho, ↓f0_11 ho, ↓f1_g ho, ↓f1_s ho, ↓f2_g ho, ↓f2_s ho, f0_o hq, ↓f0_0 hq, ↓f0_0p hq, ↓f0_1 hq, ↓f0_1p hq, ↓f0_2 hq, ↓f0_2p hq, ↓f0_3 hq, ↓f0_3p hq, ↓f0_4 hq, ↓f0_5 hq, ↓f0_6 hq, ↓f0_7 hq, ↓f0_8 hq, ↓f0_9 hq, ↓f0_10 hq, ↓f0_11 hq, ↓f1_g hq, ↓f1_s hq, ↓f2_g hq, ↓f2_s hq, z154_o, ↓z154_0, ↓z154_1, ↓z154_1p, ↓z154_2, ↓z154_2p, ↓z155_g, hn, hd, ↓aft_of (e1), ↓aft_of (e2)]
    · subst h1
      exact g1.now c2 wv (fun a ha => f2 a (by omega)) (fun _ _ => rfl)
end CL2
