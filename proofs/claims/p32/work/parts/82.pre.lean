/-! small things for the law -/
theorem nar_c (x : Int32) : vp_nar .char (x.toUInt32 % 65536).toInt32 = (x.toUInt32 % 65536).toInt32 := by
  rw [vp_nar_char]
  generalize x.toUInt32 = z
  rw [show (z % 65536).toInt32.toUInt32 = z % 65536 from rfl]
  refine congrArg UInt32.toInt32 ?_
  apply UInt32.toNat_inj.mp
  rw [UInt16.toNat_toUInt32, UInt32.toNat_toUInt16, UInt32.toNat_mod]
  exact Nat.mod_mod _ _
theorem arrV_cg {cA : ClassId} {n : Nat} {f g : Nat → Value} (h : ∀ j, j < n → f j = g j) : arrV cA n f = arrV cA n g := by
  have : (fun j : Fin n => f j.val) = fun j : Fin n => g j.val := funext fun j => h j.val j.isLt
  unfold arrV
  rw [this]
theorem WH_nrm {b : Nat} {t : Nat → Nat} {ac : Nat → ClassId} {D : va_G} {h : List hC} {Hp : Heap} (hW : WH b t ac D h Hp) : WH b t ac D (h.map nrm) Hp := by
  intro k q hq
  obtain ⟨x, hx, rfl⟩ := wz_of hq
  rw [List.getElem?_map] at hx
  cases hy : h[k]? with
  | none => rw [hy] at hx; cases hx
  | some y =>
    rw [hy] at hx
    have hx : nrm y = x := Option.some.inj hx
    subst hx
    have h0 := hW k _ (wz_at hy)
    rcases y with ⟨ci, fs⟩ | ⟨u, n, f | g⟩
    · exact h0
    · exact h0
    · have h0 : Hp[ad b t k]? = some (arrV (ac u) n (fun j => va_rf ((g j).map (ad b t)))) := h0
      show Hp[ad b t k]? = some (arrV (ac u) n (fun j => va_rf ((if j < n then g j else none).map (ad b t))))
      rw [h0]
      exact congrArg some (arrV_cg (fun j hj => by rw [if_pos hj]))
