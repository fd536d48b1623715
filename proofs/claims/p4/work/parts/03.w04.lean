set_option maxRecDepth 100000 in
theorem ctab_ok : ctab.all (fun e => decide (e.2.2.1 < 12) && decide (lw_tbl[e.2.2.2]? = some (Cond.classLink (fR e.1) e.2.1 (fR e.2.2.1)))) = true := by decide +kernel
theorem nref_ok {oc i ci : Nat} (h : nref oc i = some ci) : ci < 12 ∧ Cond.classLink (fR oc) i (fR ci) ∈ gw := by
  unfold nref at h
  cases he : ctab.find? (fun e => e.1 == oc && e.2.1 == i) with
  | none => rw [he] at h; cases h
  | some e =>
    rw [he] at h
    have h1 := List.find?_some he
    have h2 := List.all_eq_true.mp ctab_ok e (List.mem_of_find?_eq_some he)
    obtain ⟨a, b, c, q⟩ := e
    cases h
    simp only [Bool.and_eq_true, beq_iff_eq, decide_eq_true_eq] at h1 h2
    obtain ⟨rfl, rfl⟩ := h1
    exact ⟨h2.1, lw_at h2.2 rfl⟩
