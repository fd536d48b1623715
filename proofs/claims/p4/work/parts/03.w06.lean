set_option maxRecDepth 100000 in
theorem ktab_ok : ktab.all (fun e => decide (lw_tbl[e.2.2.2]? = some (Cond.constant (fR e.1) e.2.1 e.2.2.1))) = true := by decide +kernel
theorem kref_ok {oc i : Nat} {v : Int32} (h : kref oc i = some v) : Cond.constant (fR oc) i v ∈ gw := by
  unfold kref at h
  cases he : ktab.find? (fun e => e.1 == oc && e.2.1 == i) with
  | none => rw [he] at h; cases h
  | some e =>
    rw [he] at h
    have h1 := List.find?_some he
    have h2 := List.all_eq_true.mp ktab_ok e (List.mem_of_find?_eq_some he)
    obtain ⟨a, b, c, q⟩ := e
    cases h
    simp only [Bool.and_eq_true, beq_iff_eq, decide_eq_true_eq] at h1 h2
    obtain ⟨rfl, rfl⟩ := h1
    exact lw_at h2 rfl
/-- the words of a method: kind (0 of an object, 1 a constructor, 2 static), and the places of its words -/
def mP (i : Nat) : Nat × Nat × Nat × Nat × Nat := mpos.getD i (0, 0, 0, 0, 0)
