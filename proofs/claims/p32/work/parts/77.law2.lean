/-! what holds at the law's entry -/
def sLp (k : Nat) : Nat := match k with
  | 0 => 425
  | 1 => 643
  | 2 => 427
  | _ => 402
def sTm (k : Nat) : Term := .static RX0 (sNm k) "[I"
def sWd (k : Nat) : List Cond := [.arrayOf (sTm k) .int, .eq (.length (sTm k)) (.int 4), .eq (.elem (sTm k) (.int 0)) (.int (sArr k 0)), .eq (.elem (sTm k) (.int 1)) (.int (sArr k 1)), .eq (.elem (sTm k) (.int 2)) (.int (sArr k 2)), .eq (.elem (sTm k) (.int 3)) (.int (sArr k 3))]
set_option maxRecDepth 100000 in
theorem sWd_ok : ∀ k, k < 4 → ∀ w ∈ sWd k, w ∈ flatC (Jvm.Cond.and given_1 narrow_1) := by decide +kernel
set_option maxRecDepth 100000 in
theorem sLp_ok : ∀ k, k < 4 → lw_tbl[sLp k]? = some (Cond.laysStatic RX0 (sNm k) "[I") := by decide +kernel
set_option maxRecDepth 100000 in
theorem npL_ok : (List.range ntab.length).all (fun k => decide ((ntab[k]?).map (fun q => Cond.methodLinkNest q.1 q.2.1 q.2.2.1 q.2.2.2) = lw_tbl[npL.getD k 0]?)) = true := by decide +kernel
set_option maxRecDepth 100000 in
theorem aO_ok : lw_tbl[66]? = some (Cond.arrayOver (.object RX0)) ∧ lw_tbl[264]? = some (Cond.arrayOver (.object RX9)) := by decide +kernel
theorem EV_at {p : Program} {s : State} {m : MethodId} {meth : Method} {c : Code} {b0 L : Nat} {xs : Nat → Int32} (C0 : lw_At p s m meth c b0 L xs) : ∃ (t : Nat → Nat) (ac : Nat → ClassId) (D : va_G), EV s.heap.size t ac D s := by
  obtain ⟨hx, hb, hr, hml, hown, hts0, hX, hbl, hlocks, hgv⟩ := C0
  have hts : ∀ w ∈ gw, w.before #[Value.ref b0] s = true := fun w h => hts0 w (gw_tbl w h)
  have hk : ∀ ci : Nat, ∃ q : ClassId × (Nat → Nat), ci < 12 → u_Kn s (fR ci) (fT ci) (fN ci) q.1 q.2 := fun ci => by
    by_cases h : ci < 12
    · obtain ⟨c, iS, hh⟩ := u_known (n := fN ci) hts (cls_at h).2.2 (hts _ (cls_at h).1)
      exact ⟨(c, iS), fun _ => hh⟩
    · exact ⟨(m.cls, fun _ => 0), fun q => absurd q h⟩
  have jd := jdk_at
  obtain ⟨c0, k0, p0, x1, x2, x3⟩ := Cond.arrayClass_spec (hts _ jd.2.2.2.2.2.2.2.2.1)
  obtain ⟨c1, k1, p1, y1, y2, y3⟩ := Cond.arrayClass_spec (hts _ jd.2.2.2.2.2.2.2.2.2)
  have o0 := hts0 _ (List.mem_of_getElem? aO_ok.1)
  have o9 := hts0 _ (List.mem_of_getElem? aO_ok.2)
  obtain ⟨p2, c2, k2, a1, a2, a3, a4, a5⟩ := Cond.arrayOver_spec o0
  obtain ⟨p3, c3, k3, b1, b2, b3, b4, b5⟩ := Cond.arrayOver_spec o9
  have hs := flat_of_before _ hgv
  have hA : ∀ a : Nat, a < s.heap.size → ¬ s.heap.size ≤ a := fun a h q => absurd h (Nat.not_lt.mpr q)
  have st : ∀ k : Nat, ∃ t : Nat, k < 4 → va_Z RX0 (sNm k) "[I" (.ref t) (fun q => s.heap.size ≤ q) s s.heap ∧ va_T .int t 4 (fun j => .int (sArr k j)) (fun q => s.heap.size ≤ q) s s.heap := fun k => by
    by_cases hk4 : k < 4
    · have hw := fun w h => hs w (sWd_ok k hk4 w h)
      obtain ⟨t, e, hT⟩ := va_Tof (N := 4) (f := fun j => .int (sArr k j)) (A := fun q => s.heap.size ≤ q) (by decide) (hw (.arrayOf (sTm k) .int) (by simp [sWd])) (va_eqt (z := 4) (hw _ (by simp [sWd]))) (fun j hj => by
        match j, hj with
        | 0, _ => exact va_eqt (hw (.eq (.elem (sTm k) (.int 0)) (.int (sArr k 0))) (by simp [sWd]))
        | 1, _ => exact va_eqt (hw (.eq (.elem (sTm k) (.int 1)) (.int (sArr k 1))) (by simp [sWd]))
        | 2, _ => exact va_eqt (hw (.eq (.elem (sTm k) (.int 2)) (.int (sArr k 2))) (by simp [sWd]))
        | 3, _ => exact va_eqt (hw (.eq (.elem (sTm k) (.int 3)) (.int (sArr k 3))) (by simp [sWd]))
        | j + 4, q => exact absurd q (by omega)) hA
      exact ⟨t, fun _ => ⟨va_Zof (hts0 _ (List.mem_of_getElem? (sLp_ok k hk4))) (hts _ (cls_at (show 0 < 12 by decide)).2.1) e hA, hT⟩⟩
    · exact ⟨0, fun q => absurd q hk4⟩
  refine ⟨fun k => Classical.choose (st k), fun k => match k with | 0 => c0 | 1 => c1 | 2 => c2 | _ => c3, (fun ci => (Classical.choose (hk ci)).1, fun ci => (Classical.choose (hk ci)).2), ⟨?_, ?_⟩, fun q hq => ?_, fun k hk4 => Classical.choose_spec (st k) hk4, va_AO.of o0, va_AO.of o9⟩
  · intro ci q hq
    have h12 : ci < 12 := (List.getElem?_eq_some_iff.mp hq).1
    have := vw_at h12
    rw [hq] at this
    rw [Option.some.inj this]
    exact Classical.choose_spec (hk ci) h12
  · intro k q hq
    match k, hq with
    | 0, hq => cases hq; exact ⟨fun n z => ⟨(fun k h => by cases h), k0, x2, p0, x3⟩, x1⟩
    | 1, hq => cases hq; exact ⟨fun n z => ⟨(fun k h => by cases h), k1, y2, p1, y3⟩, y1⟩
    | 2, hq => cases hq; exact ⟨fun n z => ⟨(fun k h => by cases h), k2, a3, p2, a4⟩, k2, p2, a3, a4, a1, a5⟩
    | 3, hq => cases hq; exact ⟨fun n z => ⟨(fun k h => by cases h), k3, b3, p3, b4⟩, k3, p3, b3, b4, b1, b5⟩
    | k + 4, hq => simp at hq
  · obtain ⟨k, hk2⟩ := List.mem_iff_getElem?.mp hq
    have hl := (List.getElem?_eq_some_iff.mp hk2).1
    have := of_decide_eq_true (List.all_eq_true.mp npL_ok k (List.mem_range.mpr hl))
    rw [hk2] at this
    exact va_Nw.of rfl (hts0 _ (List.mem_of_getElem? this.symm))
