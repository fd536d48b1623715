/-! meanMinutes: floats, no NaN comes -/
theorem dm113_0 : decode (mB 113) 0 = .ok (.aload_n 0, 1) := by decide +kernel
theorem dm113_1 : decode (mB 113) 1 = .ok (.getfield 12, 3) := by decide +kernel
theorem dm113_4 : decode (mB 113) 4 = .ok (.getfield 279, 3) := by decide +kernel
theorem dm113_7 : decode (mB 113) 7 = .ok (.getfield 291, 3) := by decide +kernel
theorem dm113_10 : decode (mB 113) 10 = .ok (.ifCond .ne 5, 3) := by decide +kernel
theorem dm113_13 : decode (mB 113) 13 = .ok (.fconst 0, 1) := by decide +kernel
theorem dm113_14 : decode (mB 113) 14 = .ok (.freturn, 1) := by decide +kernel
theorem dm113_15 : decode (mB 113) 15 = .ok (.aload_n 0, 1) := by decide +kernel
theorem dm113_16 : decode (mB 113) 16 = .ok (.getfield 12, 3) := by decide +kernel
theorem dm113_19 : decode (mB 113) 19 = .ok (.getfield 279, 3) := by decide +kernel
theorem dm113_22 : decode (mB 113) 22 = .ok (.getfield 293, 3) := by decide +kernel
theorem dm113_25 : decode (mB 113) 25 = .ok (.i2f, 1) := by decide +kernel
theorem dm113_26 : decode (mB 113) 26 = .ok (.aload_n 0, 1) := by decide +kernel
theorem dm113_27 : decode (mB 113) 27 = .ok (.getfield 12, 3) := by decide +kernel
theorem dm113_30 : decode (mB 113) 30 = .ok (.getfield 279, 3) := by decide +kernel
theorem dm113_33 : decode (mB 113) 33 = .ok (.getfield 291, 3) := by decide +kernel
theorem dm113_36 : decode (mB 113) 36 = .ok (.i2f, 1) := by decide +kernel
theorem dm113_37 : decode (mB 113) 37 = .ok (.fdiv, 1) := by decide +kernel
theorem dm113_38 : decode (mB 113) 38 = .ok (.freturn, 1) := by decide +kernel
theorem vf32_of {x : UInt32} (h : Jvm.FP.Core.fIsNaN x = false) : vf_n32 x := by
  have h1 : ¬ 2139095040 < x.toNat % 2 ^ 31 := fun q => by
    rw [(Jvm.FP.Core.isNaN_bits32 x).mpr q] at h; cases h
  show (x &&& 0x7fffffff) ≤ 0x7f800000
  rw [UInt32.le_iff_toNat_le, UInt32.toNat_and, show (0x7fffffff : UInt32).toNat = 2 ^ 31 - 1 by decide, Nat.and_two_pow_sub_one_eq_mod, show (0x7f800000 : UInt32).toNat = 2139095040 by decide]
  omega
theorem vf64_of {x : UInt64} (h : Jvm.FP.Core.dIsNaN x = false) : vf_n64 x := by
  have h1 : ¬ 9218868437227405312 < x.toNat % 2 ^ 63 := fun q => by
    rw [(Jvm.FP.Core.isNaN_bits x).mpr q] at h; cases h
  show (x &&& 0x7fffffffffffffff) ≤ 0x7ff0000000000000
  rw [UInt64.le_iff_toNat_le, UInt64.toNat_and, show (0x7fffffffffffffff : UInt64).toNat = 2 ^ 63 - 1 by decide, Nat.and_two_pow_sub_one_eq_mod, show (0x7ff0000000000000 : UInt64).toNat = 9218868437227405312 by decide]
  omega
/-- minutes a piece: p pieces, m minutes -/
def mnF (p m : Int32) : UInt32 := if p = 0 then FP.fconst0 else FP.fdiv (FP.i2f m) (FP.i2f p)
theorem mnF_div {p m : Int32} (h : ¬ p = 0) : Jvm.FP.Core.fIsNaN (FP.fdiv (FP.i2f m) (FP.i2f p)) = false :=
  Jvm.FP.Core.fdiv_out (Jvm.FP.Core.i2f_fin m).notNaN (Jvm.FP.Core.i2f_fin p) (fun z => Jvm.FP.Core.i2f_ne_zero h ((Jvm.FP.Core.zero_bits232 _).mp z))
theorem mnF_nn {p m : Int32} : Jvm.FP.Core.fIsNaN (mnF p m) = false := by
  unfold mnF
  by_cases h : p = 0
  · rw [if_pos h]
    cases q : Jvm.FP.Core.fIsNaN FP.fconst0 with
    | false => rfl
    | true => exact absurd ((Jvm.FP.Core.isNaN_bits32 _).mp q) (by decide)
  · rw [if_neg h]; exact mnF_div h
theorem mnF_d {p m : Int32} : vf_n64 (FP.f2d (mnF p m)) := vf64_of ((Jvm.FP.f2d_nan _).trans mnF_nn)
section MEAN
variable {b : Nat} {t : Nat → Nat} {ac : Nat → ClassId} {D : va_G} {T : Nat → Nat → Int32} {P : Nat → Nat → Nat}
theorem sh49 : shapes[49]? = some (.inl (2, [none, none, none, none])) := by decide +kernel
theorem sh1 : shapes[1]? = some (.inl (9, [none, none, none, none, some 2, some 3, some 4, some 8, some 42, some 46, some 49, some 50])) := by decide +kernel
theorem sh0 : shapes[0]? = some (.inl (10, [some 1, some 52, some 103, some 154, some 360, none])) := by decide +kernel
theorem met_m1 (l : Launch) : Met l (mN 113) (wsm 113) (rmm 113 0 0) (Pm b t ac D [.ref 0] (H T P)) (Qm b t ac D (some (.float (mnF (T 49 2) (T 49 3)))) (H T P)) 0 0 (fun q => b ≤ q) := by
  have hj : 113 < mtab.length := by rw [mlen]; decide
  have hr := mrow_at hj
  have g0 : getF (H T P)[0]? 10 0 = some (.ref 1) := g_fr sh0 rfl
  have g1 : getF (H T P)[1]? 9 10 = some (.ref 49) := g_fr sh1 rfl
  have g2 : getF (H T P)[49]? 2 2 = some (.int (T 49 2)) := g_fi sh49 rfl
  have g3 : getF (H T P)[49]? 2 3 = some (.int (T 49 3)) := g_fi sh49 rfl
  have f0 : fref (mC 113) 12 = some (10, 0) := by decide +kernel
  have f1 : fref (mC 113) 279 = some (9, 10) := by decide +kernel
  have f2 : fref (mC 113) 291 = some (2, 2) := by decide +kernel
  have f3 : fref (mC 113) 293 = some (2, 3) := by decide +kernel
  refine Met.ofW (cc := mB 113) (maxL := mL 113) (ret := mR 113) hr.2.2.2.1 rfl ?_
  intro p e s m args below meth c s₁ B hml hv
  obtain ⟨rfl, hW, hE, hb0, hsz⟩ := hv
  have hts := atoms_spec (ws := wsm 113) B.pre
  have hown : s.vm.findClass (mN 113).cls = some m.cls := findClass_of_methodNamed B.named
  rw [hr.2.1] at hown
  rw [lg_entry_eq]
  have hlen : (H T P).length ≤ sB := by rw [H_len]; decide
  have C : Ctx b t ac D p s m (([.ref 0] : List Value).map (cv (ad b t))).toArray meth c (rmm 113 0 0) 113 := ⟨B.exec, B.bytes, B.returns, hml, hown, fun w hw => hts w (List.mem_cons_of_mem _ hw), B.notSynchronized, fun hn => by rw [← hn]; exact (name_of_methodNamed B.named B.method).1, hE, Nat.le_refl _, Nat.le_refl _, hb0⟩
  have hL : LR (ad b t) ((lg_sl (([.ref 0] : List Value).map (cv (ad b t))) ++ List.replicate (mL 113 - (lg_sl (([.ref 0] : List Value).map (cv (ad b t)))).length) Slot.unset).toArray) (mL 113) [.ref 0] := pad_LR (j := 113) rfl (by decide +kernel)
  have hS : va_S (fun q => b ≤ q) s.heap s.heap [] := va_S.rf
  have hx := B.exec
  have hb := B.bytes
  have hrt : meth.sig.returnType = some .float := B.returns
  have cs : (0 : Nat) ≤ (rmm 113 0 0).cells ∧ 0 ≤ (rmm 113 0 0).slots := ⟨Nat.le_refl _, Nat.le_refl _⟩
  generalize ((lg_sl (([.ref 0] : List Value).map (cv (ad b t))) ++ List.replicate (mL 113 - (lg_sl (([.ref 0] : List Value).map (cv (ad b t)))).length) Slot.unset).toArray) = ls at hL ⊢
  refine s_aload_n (pc' := 1) (S := []) (S' := [.ref 0]) (L' := [.ref 0]) (h' := H T P) C dm113_0 rfl hL hW hS hlen cs (fun ls H1 locs hL hW hS => ?_)
  refine s_getfield (pc' := 4) (S := [.ref 0]) (S' := [.ref 1]) (L' := [.ref 0]) (h' := H T P) C dm113_1 (by simp [act, f0, g0]) hL hW hS hlen cs (fun ls H1 locs hL hW hS => ?_)
  refine s_getfield (pc' := 7) (S := [.ref 1]) (S' := [.ref 49]) (L' := [.ref 0]) (h' := H T P) C dm113_4 (by simp [act, f1, g1]) hL hW hS hlen cs (fun ls H1 locs hL hW hS => ?_)
  refine s_getfield (pc' := 10) (S := [.ref 49]) (S' := [.int (T 49 2)]) (L' := [.ref 0]) (h' := H T P) C dm113_7 (by simp [act, f2, g2]) hL hW hS hlen cs (fun ls H1 locs hL hW hS => ?_)
  refine lv_if_ne (x := T 49 2) (rest := []) (tgt := 15) hx hb dm113_10 (by decide) (fun hp => ?_) (fun hp => ?_)
  · refine s_aload_n (pc' := 16) (S := []) (S' := [.ref 0]) (L' := [.ref 0]) (h' := H T P) C dm113_15 rfl hL hW hS hlen cs (fun ls H1 locs hL hW hS => ?_)
    refine s_getfield (pc' := 19) (S := [.ref 0]) (S' := [.ref 1]) (L' := [.ref 0]) (h' := H T P) C dm113_16 (by simp [act, f0, g0]) hL hW hS hlen cs (fun ls H1 locs hL hW hS => ?_)
    refine s_getfield (pc' := 22) (S := [.ref 1]) (S' := [.ref 49]) (L' := [.ref 0]) (h' := H T P) C dm113_19 (by simp [act, f1, g1]) hL hW hS hlen cs (fun ls H1 locs hL hW hS => ?_)
    refine s_getfield (pc' := 25) (S := [.ref 49]) (S' := [.int (T 49 3)]) (L' := [.ref 0]) (h' := H T P) C dm113_22 (by simp [act, f3, g3]) hL hW hS hlen cs (fun ls H1 locs hL hW hS => ?_)
    refine lv_i2f (x := T 49 3) (rest := []) hx hb dm113_25 ?_
    refine s_aload_n (pc' := 27) (S := [.float (FP.i2f (T 49 3))]) (S' := [.ref 0, .float (FP.i2f (T 49 3))]) (L' := [.ref 0]) (h' := H T P) C dm113_26 rfl hL hW hS hlen cs (fun ls H1 locs hL hW hS => ?_)
    refine s_getfield (pc' := 30) (S := [.ref 0, .float (FP.i2f (T 49 3))]) (S' := [.ref 1, .float (FP.i2f (T 49 3))]) (L' := [.ref 0]) (h' := H T P) C dm113_27 (by simp [act, f0, g0]) hL hW hS hlen cs (fun ls H1 locs hL hW hS => ?_)
    refine s_getfield (pc' := 33) (S := [.ref 1, .float (FP.i2f (T 49 3))]) (S' := [.ref 49, .float (FP.i2f (T 49 3))]) (L' := [.ref 0]) (h' := H T P) C dm113_30 (by simp [act, f1, g1]) hL hW hS hlen cs (fun ls H1 locs hL hW hS => ?_)
    refine s_getfield (pc' := 36) (S := [.ref 49, .float (FP.i2f (T 49 3))]) (S' := [.int (T 49 2), .float (FP.i2f (T 49 3))]) (L' := [.ref 0]) (h' := H T P) C dm113_33 (by simp [act, f2, g2]) hL hW hS hlen cs (fun ls H1 locs hL hW hS => ?_)
    refine lv_i2f (x := T 49 2) (rest := [.float (FP.i2f (T 49 3))]) hx hb dm113_36 ?_
    refine lv_fdiv (rest := []) hx hb dm113_37 (vf32_of (mnF_div hp)) ?_
    exact W.fret hx hb hrt (fun u hu _ => ⟨by rw [mnF, if_neg hp]; rfl, by rw [hu]; exact hW, hS.F hu⟩) (fun q hq => hS.2.2 q hq) dm113_38 B.notSynchronized
  · refine lv_fconst0 (rest := []) hx hb dm113_13 ?_
    exact W.fret hx hb hrt (fun u hu _ => ⟨by rw [mnF, if_pos hp]; rfl, by rw [hu]; exact hW, hS.F hu⟩) (fun q hq => hS.2.2 q hq) dm113_14 B.notSynchronized
end MEAN

