set_option maxRecDepth 100000 in
theorem stab_ok : stab.all (fun e => decide (e.2.2.1 < 4) && decide (lw_tbl[e.2.2.2]? = some (Cond.fieldLink (fR e.1) e.2.1 RX0 (sNm e.2.2.1) "[I"))) = true := by decide +kernel
theorem sref_ok {oc i k : Nat} (h : sref oc i = some k) : k < 4 ∧ Cond.fieldLink (fR oc) i RX0 (sNm k) "[I" ∈ gw := by
  unfold sref at h
  cases he : stab.find? (fun e => e.1 == oc && e.2.1 == i) with
  | none => rw [he] at h; cases h
  | some e =>
    rw [he] at h
    have h1 := List.find?_some he
    have h2 := List.all_eq_true.mp stab_ok e (List.mem_of_find?_eq_some he)
    obtain ⟨a, b, c, q⟩ := e
    cases h
    simp only [Bool.and_eq_true, beq_iff_eq, decide_eq_true_eq] at h1 h2
    obtain ⟨rfl, rfl⟩ := h1
    exact ⟨h2.1, lw_at h2.2 rfl⟩
def insQ (ci : Nat) : Nat := match ci with
  | 0 => 128 | 1 => 340 | 2 => 228 | 3 => 93 | 4 => 190 | 5 => 320 | 6 => 255 | 7 => 209 | 8 => 121 | 9 => 87 | 10 => 79 | _ => 884
