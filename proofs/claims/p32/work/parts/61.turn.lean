/-! a turn of the law, as mathematics -/
theorem low_nn (v : Int32) : ∃ y, y < 2 ^ 31 ∧ v &&& 2147483647 = nI y := by
  refine ⟨(v &&& 2147483647).toBitVec.toNat, ?_, ?_⟩
  · rw [Int32.toBitVec_and, BitVec.toNat_and, show (2147483647 : Int32).toBitVec.toNat = 2 ^ 31 - 1 by decide, Nat.and_two_pow_sub_one_eq_mod]
    exact Nat.mod_lt _ (by decide)
  · apply Int32.toBitVec.inj
    apply BitVec.eq_of_toNat_eq
    rw [show (nI (v &&& 2147483647).toBitVec.toNat).toBitVec = BitVec.ofNat 32 (v &&& 2147483647).toBitVec.toNat from rfl, BitVec.toNat_ofNat, Nat.mod_eq_of_lt (BitVec.isLt _)]
theorem lw_nn (v : Int32) {n : Nat} (h0 : 0 < n) (hn : n < 2 ^ 31) : ∃ r, r < n ∧ lwI v (nI n) = nI r := by
  obtain ⟨y, hy, ey⟩ := low_nn v
  refine ⟨y % n, Nat.mod_lt _ h0, ?_⟩
  unfold lwI
  rw [ey]
  exact nI_modp hy hn h0
theorem ir_min (N : Nat → Nat) {B : List bT} : ∀ (n : Nat) (V : Nat → Nat → Int32) (K : List kT) (M : Nat), M < 2 ^ 31 → WF N V K B → ∃ t, t ≤ M ∧ (irS N n V K (nI M)).2.1 48 3 = V 48 3 + nI t
  | 0, V, _, _, _, _ => ⟨0, Nat.zero_le _, (Int32.add_zero _).symm⟩
  | n + 1, V, K, M, hM, hw => by
    unfold irS
    split
    · exact ⟨0, Nat.zero_le _, (Int32.add_zero _).symm⟩
    · rename_i i hq
      split
      · exact ⟨0, Nat.zero_le _, (Int32.add_zero _).symm⟩
      · rename_i hl
        obtain ⟨hi, hir⟩ := nxS_ok hq
        obtain ⟨k, hk, hlk, hop, -⟩ := ir_kind hir
        have hkd : kdN V (gK K i) = k := by unfold kdN; rw [hlk, nI_clamp (by omega)]
        rw [hkd] at hl ⊢
        obtain ⟨x, hx1, hx2, hx3⟩ := nd_small hw hi hk
        rw [hx3, nI_ltp (by omega) (by omega)] at hl
        obtain ⟨t, h1, h2⟩ := ir_min N n (inV V (gK K i) k) (K.set i (inB (gK K i) k)) (M - x) (by omega) (WF_iron hw (gK_at hi) hk hop)
        refine ⟨x + t, by omega, ?_⟩
        have e1 : nI M - ndI V (gK K i) k = nI (M - x) := by rw [hx3, nI_sub (by omega)]
        show (irS N n (inV V (gK K i) k) (K.set i (inB (gK K i) k)) (nI M - ndI V (gK K i) k)).2.1 48 3 = _
        rw [e1, h2]
        have e2 : inV V (gK K i) k 48 3 = V 48 3 + ndI V (gK K i) k := rfl
        rw [e2, hx3, ← nI_add]
        generalize V 48 3 = a
        generalize nI x = b
        generalize nI t = c
        grind
section TURN
variable {n : Nat} {s : gT}
/-- the minutes that a turn irons -/
theorem mins_ok (w : Int32) : ∃ M, 1 ≤ M ∧ M ≤ 90 ∧ 1 + lwI w 90 = nI M := by
  obtain ⟨r, hr, e⟩ := lw_nn w (n := 90) (by decide) (by decide)
  have e : lwI w 90 = nI r := e
  exact ⟨1 + r, by omega, by omega, by rw [e]; exact nI_add 1 r⟩
theorem in_600 {M : Nat} (h1 : 1 ≤ M) (h2 : M ≤ 90) : ¬ inI (nI M) 1 600 = 0 := by
  have a1 : ¬ nI M < 1 := by rw [show (1 : Int32) = nI 1 from rfl, nI_ltp (by omega) (by decide)]; omega
  have a2 : ¬ (600 : Int32) < nI M := by rw [show (600 : Int32) = nI 600 from rfl, nI_ltp (by decide) (by omega)]; omega
  unfold inI
  rw [if_neg a1, if_neg a2]
  decide
theorem iron_is {M : Nat} (h1 : 1 ≤ M) (h2 : M ≤ 90) : gIron (nI M) s = (nI (irS s.1.1.1 288 s.1.1.2.1 s.1.2 (nI M)).1, irU s.1 (nI M), s.2.1, psL s, s.2.2.2) := by
  unfold gIron
  rw [if_neg (in_600 h1 h2)]
theorem if_is (hw : WG s) {M : Nat} (h1 : 1 ≤ M) (h2 : M ≤ 90) : gIf (s.1.1.2.1 1 0) (nI M) 0 s = (gIron (nI M) s).1 := by
  obtain ⟨d, hd, ed⟩ := hw.1.1.2.2.1.1
  have a0 : ¬ inI (s.1.1.2.1 1 0) 0 2 = 0 := by
    rw [ed]
    have a1 : ¬ nI d < 0 := nI_nn (by omega)
    have a2 : ¬ (2 : Int32) < nI d := by rw [show (2 : Int32) = nI 2 from rfl, nI_ltp (by decide) (by omega)]; omega
    unfold inI
    rw [if_neg a1, if_neg a2]
    decide
  rw [iron_is h1 h2]
  unfold gIf
  rw [if_neg a0, if_neg (in_600 h1 h2), if_neg (by decide), if_pos rfl]
  show nI (irS s.1.1.1 288 (up1 s.1.1.2.1 1 0 (s.1.1.2.1 1 0)) s.1.2 (nI M)).1 = _
  rw [show up1 s.1.1.2.1 1 0 (s.1.1.2.1 1 0) = s.1.1.2.1 by
    show upA s.1.1.2.1 1 (upA (s.1.1.2.1 1) 0 (s.1.1.2.1 1 0)) = _
    rw [upA_self, upA_self]]
/-- undo, behind a call that went on -/
theorem undo_ps (u : uT) : gUndo (u, s.2.1, psL s, s.2.2.2) = (nI ((s.2.2.1.take 3).length), s.1, s.2.1, s.2.2.1.take 3, s.2.2.2) := rfl
theorem ps_len : (psL s).length = (s.2.2.1.take 3).length + 1 := by
  show (s.1 :: s.2.2.1.take 3).length = _
  rfl
theorem IG.back (h : IG n s) : IG n (s.1, s.2.1, s.2.2.1.take 3, s.2.2.2) := ⟨h.1, h.2.1, fun v hv => h.2.2 v (List.mem_of_mem_take hv)⟩
theorem c17 (s : gT) : gCount 17 s = nI s.2.2.1.length := by simp +decide only [gCount, if_true, if_false]
theorem c14 (s : gT) : gCount 14 s = s.1.1.2.1 48 3 := by simp +decide only [gCount, if_true, if_false]
theorem c19 (s : gT) : gCount 19 s = s.1.1.2.1 1 0 := by simp +decide only [gCount, if_true, if_false]
/-- the same act on the same state again -/
theorem act_again {v w : Int32} (hs : STQ n s (aT v w s)) (h0 : ¬ (aT v w s).1 < 0) : (aT v w (s.1, s.2.1, s.2.2.1.take 3, s.2.2.2)).1 = (aT v w s).1 ∧ (aT v w (s.1, s.2.1, s.2.2.1.take 3, s.2.2.2)).2.1 = (aT v w s).2.1 := by
  obtain ⟨u, k, L, t⟩ := s
  exact sm_act v w u k (L.take 3) t L t
end TURN
