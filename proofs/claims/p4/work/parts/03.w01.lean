set_option maxRecDepth 100000 in
theorem ftab_ok : ftab.all (fun e => decide (e.2.2.1 < 12) && decide (e.2.2.2.1 < fN e.2.2.1) && decide (lw_tbl[e.2.2.2.2]? = some (Cond.fieldLink (fR e.1) e.2.1 (fT e.2.2.1 e.2.2.2.1).1 (fT e.2.2.1 e.2.2.2.1).2.1 (fT e.2.2.1 e.2.2.2.1).2.2.1))) = true := by decide +kernel
theorem fref_ok {oc i ci k : Nat} (h : fref oc i = some (ci, k)) : ci < 12 ∧ k < fN ci ∧ Cond.fieldLink (fR oc) i (fT ci k).1 (fT ci k).2.1 (fT ci k).2.2.1 ∈ gw := by
  unfold fref at h
  cases he : ftab.find? (fun e => e.1 == oc && e.2.1 == i) with
  | none => rw [he] at h; cases h
  | some e =>
    rw [he] at h
    have h1 := List.find?_some he
    have h2 := List.all_eq_true.mp ftab_ok e (List.mem_of_find?_eq_some he)
    obtain ⟨a, b, c, d, q⟩ := e
    cases h
    simp only [Bool.and_eq_true, beq_iff_eq, decide_eq_true_eq] at h1 h2
    obtain ⟨rfl, rfl⟩ := h1
    exact ⟨h2.1.1, h2.1.2, lw_at h2.2 rfl⟩
def sNm (k : Nat) : String := match k with
  | 0 => "MINUTES"
  | 1 => "WEIGHTS"
  | 2 => "MINUTES_A_DEGREE"
  | _ => "HANGERS_TAKEN"
