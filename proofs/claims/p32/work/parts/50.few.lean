/-! how many hangers are in stock: never many more than calls were made -/
def SQ (n : Nat) (u : uT) : Prop := ∃ st, st ≤ n ∧ u.1.2.1 0 1 = nI st
theorem chE_0 {l0 : Nat} {s : sT} (n : Nat) : (chE l0 n s).2.1 0 = s.2.1 0 := (ch_keep n).2.2.2.2.1 0 (by decide) (by decide)
theorem dyU_0 (u : uT) : (dyU u).1.2.1 0 1 = u.1.2.1 0 1 := by
  have h1 := (lvE_keep (goK (dy1 u.1).1 (dy1 u.1).2.1) (dy1 u.1) u.2).2.2.2.2.1 0 (by decide)
  have h2 := chE_0 (l0 := u.1.1 0 + 1 - dyG u.1.2.1) (s := dy0 u.1) (u.1.1 1)
  have h3 : (dy0 u.1).2.1 0 1 = u.1.2.1 0 1 := rfl
  exact (congrFun h1 1).trans ((congrFun h2 1).trans h3)
theorem psU_0 (u : uT) : ∀ n, (psU n u).1.2.1 0 1 = u.1.2.1 0 1
  | 0 => rfl
  | n + 1 => (dyU_0 (psU n u)).trans (psU_0 u n)
theorem irS_few (N : Nat → Nat) {b : Nat} (hb : b < 2 ^ 31) : ∀ (n : Nat) (V : Nat → Nat → Int32) (K : List kT) (m : Int32), (∃ st, st ≤ b ∧ V 0 1 = nI st) → ∃ st, st ≤ b ∧ (irS N n V K m).2.1 0 1 = nI st
  | 0, _, _, _, h => h
  | n + 1, V, K, m, h => by
    unfold irS
    split
    · exact h
    · rename_i i hq
      split
      · exact h
      · obtain ⟨-, hir⟩ := nxS_ok hq
        obtain ⟨k, hk, hlk, -, h0⟩ := ir_kind hir
        have hkd : kdN V (gK K i) = k := by unfold kdN; rw [hlk, nI_clamp (by omega)]
        refine irS_few N hb n (inV V (gK K i) (kdN V (gK K i))) (K.set i (inB (gK K i) (kdN V (gK K i)))) (m - ndI V (gK K i) (kdN V (gK K i))) ?_
        rw [hkd]
        obtain ⟨st, h1, h2⟩ := h
        have h9 : inV V (gK K i) k 0 1 = if k < 3 then V 0 1 - 1 else V 0 1 := rfl
        by_cases h3 : k < 3
        · have h5 := h0 h3
          rw [h2, nI_posn (by omega)] at h5
          have e1 : nI st - nI 1 = nI (st - 1) := nI_sub h5
          exact ⟨st - 1, by omega, by rw [h9, if_pos h3, h2]; exact e1⟩
        · exact ⟨st, h1, by rw [h9, if_neg h3]; exact h2⟩
section FEW
variable {n m : Nat} {u v : uT}
theorem SQ.mono (h : SQ n u) (hm : n ≤ m) : SQ m u := by
  obtain ⟨st, h1, h2⟩ := h
  exact ⟨st, Nat.le_trans h1 hm, h2⟩
theorem SQ.same (h : SQ n u) (e : v.1.2.1 0 1 = u.1.2.1 0 1) : SQ n v := by
  obtain ⟨st, h1, h2⟩ := h
  exact ⟨st, h1, e.trans h2⟩
theorem SQ.bk {c p st g : Int32} (h : SQ n u) (hw : WFu u) (hr : ¬ rfU u c p st g < 0) : SQ (n + 99) (bkU u c.toNatClampNeg g.toNatClampNeg p st) := by
  obtain ⟨-, k, x, y, z, hk, rfl, hx, rfl, hy, rfl, hz, hzo, rfl, h8, h99⟩ := rf_ok hw hr
  have hN1 := hw.1.1.2.1
  obtain ⟨q, h1, h2⟩ := h
  rw [nI_clamp (by omega), nI_clamp (by omega)]
  refine ⟨q + z, by omega, ?_⟩
  show u.1.2.1 0 1 + nI z = _
  rw [h2, nI_add]
end FEW
/-- what always holds of the whole object -/
def WG (s : gT) : Prop := WFu s.1 ∧ (∀ v ∈ s.2.2.1, WFu v) ∧ ∀ v, s.2.1 = some v → WFu v
section CGW
variable {T EE : Nat → Nat → Int32} {P : Nat → Nat → Nat} {s : gT}
theorem CG.wg (h : CG EE T P s) : WG s := by
  obtain ⟨-, ⟨-, h1⟩, h2, ⟨-, -, l, -, -, h3⟩, -⟩ := h
  refine ⟨h1, fun v hv => ?_, fun v hv => ?_⟩
  · obtain ⟨g, hg⟩ := List.mem_iff_getElem?.mp hv
    exact (h3 g v hg).2
  · rw [hv] at h2; exact h2.2.2
end CGW
