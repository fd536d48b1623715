set_option maxRecDepth 100000 in
theorem cls_ok : (List.range 12).all (fun ci => decide (lw_tbl[insQ ci]? = some (Cond.instantiable (fR ci) (fN ci))) && decide (Cond.initialized (fR ci) ∈ lw_tbl) && (u_ws (fR ci) (fT ci) (fN ci)).all (fun w => decide (w ∈ lw_tbl))) = true := by decide +kernel
theorem vw_at {ci : Nat} (h : ci < 12) : vwCl[ci]? = some (fR ci, fT ci, fN ci) := by
  match ci, h with
  | 0, _ => rfl
  | 1, _ => rfl
  | 2, _ => rfl
  | 3, _ => rfl
  | 4, _ => rfl
  | 5, _ => rfl
  | 6, _ => rfl
  | 7, _ => rfl
  | 8, _ => rfl
  | 9, _ => rfl
  | 10, _ => rfl
  | 11, _ => rfl
theorem cls_at {ci : Nat} (h : ci < 12) : Cond.instantiable (fR ci) (fN ci) ∈ gw ∧ Cond.initialized (fR ci) ∈ gw ∧ ∀ w ∈ u_ws (fR ci) (fT ci) (fN ci), w ∈ gw := by
  have h1 := List.all_eq_true.mp cls_ok ci (List.mem_range.mpr h)
  simp only [Bool.and_eq_true, decide_eq_true_eq] at h1
  refine ⟨lw_at h1.1.1 rfl, gw_in h1.1.2 rfl, fun w hw => ?_⟩
  have h2 := List.all_eq_true.mp h1.2 w hw
  refine gw_in (of_decide_eq_true h2) ?_
  obtain ⟨k, -, rfl⟩ := List.mem_map.mp hw
  unfold u_lay
  split <;> rfl
