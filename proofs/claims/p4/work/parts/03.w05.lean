set_option maxRecDepth 100000 in
theorem atab_ok : atab.all (fun e => decide (lw_tbl[e.2.2.2]? = some (Cond.classLink (fR e.1) e.2.1 (fR (qcl e.2.2.1))))) = true := by decide +kernel
theorem aref_ok {oc i t : Nat} (h : aref oc i = some t) : Cond.classLink (fR oc) i (fR (qcl t)) ∈ gw := by
  unfold aref at h
  cases he : atab.find? (fun e => e.1 == oc && e.2.1 == i) with
  | none => rw [he] at h; cases h
  | some e =>
    rw [he] at h
    have h1 := List.find?_some he
    have h2 := List.all_eq_true.mp atab_ok e (List.mem_of_find?_eq_some he)
    obtain ⟨a, b, c, q⟩ := e
    cases h
    simp only [Bool.and_eq_true, beq_iff_eq, decide_eq_true_eq] at h1 h2
    obtain ⟨rfl, rfl⟩ := h1
    exact lw_at h2 rfl
