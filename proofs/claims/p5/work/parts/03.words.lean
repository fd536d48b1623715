/-! what the tables say, held against the claim's words -/
theorem lw_at {q : Nat} {w : Cond} (h : lw_tbl[q]? = some w) (g : goodWord w = true) : w ∈ gw := gw_in (List.mem_of_getElem? h) g
set_option maxRecDepth 100000 in
theorem ftab_ok : ftab.all (fun e => decide (e.2.2.1 < 12) && decide (e.2.2.2.1 < fN e.2.2.1) && decide (lw_tbl[e.2.2.2.2]? = some (Cond.fieldLink (fR e.1) e.2.1 (fT e.2.2.1 e.2.2.2.1).1 (fT e.2.2.1 e.2.2.2.1).2.1 (fT e.2.2.1 e.2.2.2.1).2.2.1))) = true := by decide +kernel
theorem fref_ok {oc i ci k : Nat} (h : fref oc i = some (ci, k)) : ci < 12 ∧ k < fN ci ∧ Cond.fieldLink (fR oc) i (fT ci k).1 (fT ci k).2.1 (fT ci k).2.2.1 ∈ gw := by
  unfold fref at h
  cases he : ftab.find? (fun e => e.1 == oc && e.2.1 == i) with
  | none => rw [he] at h; cases h
  | some e =>
    rw [he] at h
    have h1 := List.find?_some he
    have h2 := List.all_eq_true.mp ftab_ok e (List.mem_of_find?_eq_some he)
    obtain ⟨a, b, c, d, q⟩ := e
    cases h
    simp only [Bool.and_eq_true, beq_iff_eq, decide_eq_true_eq] at h1 h2
    obtain ⟨rfl, rfl⟩ := h1
    exact ⟨h2.1.1, h2.1.2, lw_at h2.2 rfl⟩
def sNm (k : Nat) : String := match k with
  | 0 => "MINUTES"
  | 1 => "WEIGHTS"
  | 2 => "MINUTES_A_DEGREE"
  | _ => "HANGERS_TAKEN"
set_option maxRecDepth 100000 in
theorem stab_ok : stab.all (fun e => decide (e.2.2.1 < 4) && decide (lw_tbl[e.2.2.2]? = some (Cond.fieldLink (fR e.1) e.2.1 RX0 (sNm e.2.2.1) "[I"))) = true := by decide +kernel
theorem sref_ok {oc i k : Nat} (h : sref oc i = some k) : k < 4 ∧ Cond.fieldLink (fR oc) i RX0 (sNm k) "[I" ∈ gw := by
  unfold sref at h
  cases he : stab.find? (fun e => e.1 == oc && e.2.1 == i) with
  | none => rw [he] at h; cases h
  | some e =>
    rw [he] at h
    have h1 := List.find?_some he
    have h2 := List.all_eq_true.mp stab_ok e (List.mem_of_find?_eq_some he)
    obtain ⟨a, b, c, q⟩ := e
    cases h
    simp only [Bool.and_eq_true, beq_iff_eq, decide_eq_true_eq] at h1 h2
    obtain ⟨rfl, rfl⟩ := h1
    exact ⟨h2.1, lw_at h2.2 rfl⟩
def insQ (ci : Nat) : Nat := match ci with
  | 0 => 128 | 1 => 340 | 2 => 228 | 3 => 93 | 4 => 190 | 5 => 320 | 6 => 255 | 7 => 209 | 8 => 121 | 9 => 87 | 10 => 79 | _ => 884
set_option maxRecDepth 100000 in
theorem cls_ok : (List.range 12).all (fun ci => decide (lw_tbl[insQ ci]? = some (Cond.instantiable (fR ci) (fN ci))) && decide (Cond.initialized (fR ci) ∈ lw_tbl) && (u_ws (fR ci) (fT ci) (fN ci)).all (fun w => decide (w ∈ lw_tbl))) = true := by decide +kernel
theorem vw_at {ci : Nat} (h : ci < 12) : vwCl[ci]? = some (fR ci, fT ci, fN ci) := by
  match ci, h with
  | 0, _ => rfl
  | 1, _ => rfl
  | 2, _ => rfl
  | 3, _ => rfl
  | 4, _ => rfl
  | 5, _ => rfl
  | 6, _ => rfl
  | 7, _ => rfl
  | 8, _ => rfl
  | 9, _ => rfl
  | 10, _ => rfl
  | 11, _ => rfl
theorem cls_at {ci : Nat} (h : ci < 12) : Cond.instantiable (fR ci) (fN ci) ∈ gw ∧ Cond.initialized (fR ci) ∈ gw ∧ ∀ w ∈ u_ws (fR ci) (fT ci) (fN ci), w ∈ gw := by
  have h1 := List.all_eq_true.mp cls_ok ci (List.mem_range.mpr h)
  simp only [Bool.and_eq_true, decide_eq_true_eq] at h1
  refine ⟨lw_at h1.1.1 rfl, gw_in h1.1.2 rfl, fun w hw => ?_⟩
  have h2 := List.all_eq_true.mp h1.2 w hw
  refine gw_in (of_decide_eq_true h2) ?_
  obtain ⟨k, -, rfl⟩ := List.mem_map.mp hw
  unfold u_lay
  split <;> rfl
set_option maxRecDepth 100000 in
theorem ctab_ok : ctab.all (fun e => decide (e.2.2.1 < 12) && decide (lw_tbl[e.2.2.2]? = some (Cond.classLink (fR e.1) e.2.1 (fR e.2.2.1)))) = true := by decide +kernel
theorem nref_ok {oc i ci : Nat} (h : nref oc i = some ci) : ci < 12 ∧ Cond.classLink (fR oc) i (fR ci) ∈ gw := by
  unfold nref at h
  cases he : ctab.find? (fun e => e.1 == oc && e.2.1 == i) with
  | none => rw [he] at h; cases h
  | some e =>
    rw [he] at h
    have h1 := List.find?_some he
    have h2 := List.all_eq_true.mp ctab_ok e (List.mem_of_find?_eq_some he)
    obtain ⟨a, b, c, q⟩ := e
    cases h
    simp only [Bool.and_eq_true, beq_iff_eq, decide_eq_true_eq] at h1 h2
    obtain ⟨rfl, rfl⟩ := h1
    exact ⟨h2.1, lw_at h2.2 rfl⟩
set_option maxRecDepth 100000 in
theorem atab_ok : atab.all (fun e => decide (lw_tbl[e.2.2.2]? = some (Cond.classLink (fR e.1) e.2.1 (fR (qcl e.2.2.1))))) = true := by decide +kernel
theorem aref_ok {oc i t : Nat} (h : aref oc i = some t) : Cond.classLink (fR oc) i (fR (qcl t)) ∈ gw := by
  unfold aref at h
  cases he : atab.find? (fun e => e.1 == oc && e.2.1 == i) with
  | none => rw [he] at h; cases h
  | some e =>
    rw [he] at h
    have h1 := List.find?_some he
    have h2 := List.all_eq_true.mp atab_ok e (List.mem_of_find?_eq_some he)
    obtain ⟨a, b, c, q⟩ := e
    cases h
    simp only [Bool.and_eq_true, beq_iff_eq, decide_eq_true_eq] at h1 h2
    obtain ⟨rfl, rfl⟩ := h1
    exact lw_at h2 rfl
set_option maxRecDepth 100000 in
theorem ktab_ok : ktab.all (fun e => decide (lw_tbl[e.2.2.2]? = some (Cond.constant (fR e.1) e.2.1 e.2.2.1))) = true := by decide +kernel
theorem kref_ok {oc i : Nat} {v : Int32} (h : kref oc i = some v) : Cond.constant (fR oc) i v ∈ gw := by
  unfold kref at h
  cases he : ktab.find? (fun e => e.1 == oc && e.2.1 == i) with
  | none => rw [he] at h; cases h
  | some e =>
    rw [he] at h
    have h1 := List.find?_some he
    have h2 := List.all_eq_true.mp ktab_ok e (List.mem_of_find?_eq_some he)
    obtain ⟨a, b, c, q⟩ := e
    cases h
    simp only [Bool.and_eq_true, beq_iff_eq, decide_eq_true_eq] at h1 h2
    obtain ⟨rfl, rfl⟩ := h1
    exact lw_at h2 rfl
set_option maxRecDepth 100000 in
theorem mtab_ok : (List.range mtab.length).all (fun i => decide (lw_tbl[(mP i).2.2.2.2]? = some (Cond.initialized (mN i).cls)) && decide ((mN i).cls = fR (mC i)) && decide (mC i < 12) && plainName (mN i).cls && decide ((mN i).cls ≠ "java/lang/invoke/MethodHandle") && decide ((mN i).cls ≠ "java/lang/invoke/VarHandle")
    && (match (mP i).1 with
      | 0 => decide (lw_tbl[(mP i).2.2.1]? = some (Cond.instanceMethod (mN i))) && decide (lw_tbl[(mP i).2.2.2.1]? = some (Cond.selects (mN i).cls (mN i) (mN i))) && decide ((parseMethodDescriptor (mN i).desc).map (fun d => d.parameters.length + 1) = some (mA i))
      | 1 => decide (lw_tbl[(mP i).2.2.1]? = some (Cond.instanceMethod (mN i))) && decide ((mN i).name = "<init>") && decide (mR i = none) && decide ((parseMethodDescriptor (mN i).desc).map (fun d => d.parameters.length + 1) = some (mA i))
      | _ => decide (lw_tbl[(mP i).2.2.1]? = some (Cond.static (mN i))) && decide ((parseMethodDescriptor (mN i).desc).map (fun d => d.parameters.length) = some (mA i)))) = true := by decide +kernel
set_option maxRecDepth 100000 in
theorem ltab_ok : ltab.all (fun e => match e.2.2.1 with
    | 0 => decide (e.2.2.2.1 < mtab.length) && decide ((mP e.2.2.2.1).1 = 0) && decide (lw_tbl[e.2.2.2.2]? = some (Cond.methodLink (fR e.1) e.2.1 (mN e.2.2.2.1)))
    | 1 => decide (e.2.2.2.1 < mtab.length) && decide ((mP e.2.2.2.1).1 = 2) && decide (lw_tbl[e.2.2.2.2]? = some (Cond.methodLink (fR e.1) e.2.1 (mN e.2.2.2.1)))
    | 2 => decide (e.2.2.2.1 < mtab.length) && decide ((mP e.2.2.2.1).1 = 1) && decide (lw_tbl[e.2.2.2.2]? = some (Cond.methodLink (fR e.1) e.2.1 (mN e.2.2.2.1)))
    | 3 => decide (e.2.2.2.1 < mtab.length) && decide ((mP e.2.2.2.1).1 = 1) && decide (ntab[e.2.2.2.2]? = some (fR e.1, e.2.1, mN e.2.2.2.1, RX10))
    | 4 => decide (e.2.2.2.1 < mtab.length) && decide ((mP e.2.2.2.1).1 = 2) && decide (ntab[e.2.2.2.2]? = some (fR e.1, e.2.1, mN e.2.2.2.1, RX10))
    | 5 => decide (lw_tbl[e.2.2.2.2]? = some (Cond.methodLink (fR e.1) e.2.1 Lib.objectInit))
    | 6 => decide (lw_tbl[e.2.2.2.2]? = some (Cond.methodLink (fR e.1) e.2.1 Lib.Math.max.name))
    | 7 => decide (lw_tbl[e.2.2.2.2]? = some (Cond.methodLink (fR e.1) e.2.1 Lib.Math.min.name))
    | _ => decide (lw_tbl[e.2.2.2.2]? = some (Cond.methodLink (fR e.1) e.2.1 arraycopyName))) = true := by decide +kernel
set_option maxRecDepth 100000 in
theorem jdk_ok : (decide (lw_tbl[84]? = some (Cond.instanceMethod Lib.objectInit)) && decide (lw_tbl[85]? = some (Cond.code Lib.objectInit ⟨#[0xb1]⟩ 1 none)) && decide (lw_tbl[76]? = some (Cond.initialized "java/lang/Math")) && decide (lw_tbl[77]? = some (Cond.initialized "java/lang/System")) && decide (lw_tbl[411]? = some (Cond.static Lib.Math.min.name)) && decide (lw_tbl[412]? = some (Cond.code Lib.Math.min.name Lib.Math.min.code 2 (some .int))) && decide (lw_tbl[418]? = some (Cond.static arraycopyName)) && decide (lw_tbl[419]? = some (Cond.native arraycopyName)) && decide (lw_tbl[877]? = some (Cond.static Lib.Math.max.name)) && decide (lw_tbl[878]? = some (Cond.code Lib.Math.max.name Lib.Math.max.code 2 (some .int))) && decide (lw_tbl[119]? = some (Cond.arrayClass .int)) && decide (lw_tbl[379]? = some (Cond.arrayClass .char))) = true := by decide +kernel
set_option maxRecDepth 100000 in
theorem codes_ok : (List.range 209).map (fun i => lw_tbl[(mP i).2.1]?) = (List.range 209).map (fun i => some (Cond.code (mN i) (mB i) (mL i) (mR i))) := rfl
theorem room_nat : nativeFrameWords "java/lang/System" "arraycopy" 5 + 11 + 8 ≤ 100 := by decide +kernel
