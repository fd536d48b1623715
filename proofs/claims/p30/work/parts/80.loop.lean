section
/-! the law's loop -/
/-- a call on the class, then on the reference; behind them K; if e, the answers are equal -/
def STP (e : Prop) (jc jr : Nat) (A B : List Value) (T : Nat → Nat → Int32) (P : Nat → Nat → Nat) (K : (Nat → Nat → Int32) → (Nat → Nat → Nat) → Prop) : Prop := ∃ a b T1 P1 T2, X jc 0 (pad jc A) [] (H T P) = some (some (.int a), H T1 P1) ∧ X jr 0 (pad jr B) [] (H T1 P1) = some (some (.int b), H T2 P1) ∧ K T2 P1 ∧ (e → a = b)
theorem hc0 {T : Nat → Nat → Int32} {P : Nat → Nat → Nat} {j : Nat} (h : mC j = 10) : (H T P)[0]? = some (.inl (mC j, mkF (T 0) 0 [some 1, some 52, some 103, some 154, some 360, none])) := by rw [h, H_at, sh0]; rfl
theorem hc366 {T : Nat → Nat → Int32} {P : Nat → Nat → Nat} {j : Nat} (h : mC j = 11) : (H T P)[366]? = some (.inl (mC j, mkF (T 366) 0 [none, some 367, some 368, some 369, none, some 370, none, some 371, none, none, none, some 372, none])) := by rw [h, H_at, sh366]; rfl
/-- the law at work on a heap of both objects: L ints xs at b0, i read -/
def LA (p : Program) (s : State) (m : MethodId) (c : Code) (b0 L : Nat) (xs : Nat → Int32) (t : Nat → Nat) (ac : Nat → ClassId) (D : va_G) (T : Nat → Nat → Int32) (P : Nat → Nat → Nat) (Hp : Heap) (locs : List Loc) (ls : Array Slot) (i : Nat) (sl : Nat) : Prop :=
  LC s.heap.size t ac D p s m #[Value.ref b0] c ∧ va_X b0 L xs s s.heap ∧ b0 < s.heap.size ∧ L ≤ 2560 ∧ lv_has ls 8 [(3, .int (nI i)), (2, .ref (ad s.heap.size t 366)), (1, .ref (ad s.heap.size t 0)), (0, .ref b0)] ∧ WH s.heap.size t ac D (H T P) Hp ∧ va_S (fun q => s.heap.size ≤ q) s.heap Hp locs ∧ sl ≤ 7302249
section LAWC
variable {p : Program} {l : Launch} {e : Env} {s : State} {m : MethodId} {below : List Frame} {meth : Method} {c : Code} {Q : State → Prop} {b0 L : Nat} {xs : Nat → Int32} {t : Nat → Nat} {ac : Nat → ClassId} {D : va_G} {T : Nat → Nat → Int32} {P : Nat → Nat → Nat} {Hp : Heap} {locs : List Loc} {ls : Array Slot} {i sl : Nat} {K : (Nat → Nat → Int32) → (Nat → Nat → Nat) → Prop}
theorem hp_sz : (H T P).length ≤ sB := by rw [H_len]; decide
theorem hp_at : s.heap.size + 373 ≤ s.heap.size + (H T P).length := by rw [H_len]; exact Nat.le_refl _

theorem lc_0 (hA : LA p s m c b0 L xs t ac D T P Hp locs ls i sl) (hi : i + 5 ≤ L) (hs : STP False 90 146 [.ref 0, .int (xs (nI i + 1).toNatClampNeg)] [.ref 366, .int (xs (nI i + 1).toNatClampNeg)] T P K) (k : ∀ (T1 : Nat → Nat → Int32) (P1 : Nat → Nat → Nat) (Hp1 : Heap) (locs1 : List Loc) (ls1 : Array Slot), K T1 P1 → LA p s m c b0 L xs t ac D T1 P1 Hp1 locs1 ls1 i sl → W p l e room_1 s m #[Value.ref b0] below meth c Hp1 locs1 373 sl Q (F0 m 887 ls1 [])) : W p l e room_1 s m #[Value.ref b0] below meth c Hp locs 373 sl Q (F0 m 164 ls []) := by
  obtain ⟨hC, hX, hbl, hL, hl, hW, hS, hsl⟩ := hA
  have hx := hC.1
  have hb := hC.2.1
  have hbA : ¬ (fun q : Nat => s.heap.size ≤ q) b0 := Nat.not_le.mpr hbl
  have cs : 373 ≤ room_1.cells ∧ sl ≤ room_1.slots := ⟨by decide, hsl⟩
  have v1 : vp_in (nI i + 1) L := by rw [show nI i + 1 = nI (i + 1) from nI_add i 1]; exact vp_in_nI (by omega) (by omega)
  obtain ⟨a, b, T1, P1, T2, e1, e2, hK, hab⟩ := hs
  refine lv_aload_n hx hb dl_164 rfl (lv_at hl 2 rfl) ?_
  refine lv_aload_n hx hb dl_165 rfl (lv_at hl 3 rfl) ?_
  refine lv_iload_n hx hb dl_166 rfl (lv_at hl 0 rfl) ?_
  refine lv_iconst (v := 1) hx hb dl_167 (by decide) ?_
  refine lv_iadd hx hb dl_168 ?_
  refine va_sld hx hb hX hbl hbA hS v1 dl_169 ?_
  refine L_call (i := 13) (j := 90) (q := 399) (a := 0) (as := [.int (xs (nI i + 1).toNatClampNeg)]) (rest := []) (by decide) hC dl_170 (by decide +kernel) e1 (hc0 (by decide +kernel)) rfl (show 2 = mA 90 from by decide +kernel) (by decide +kernel) (by decide +kernel) hl.1 (Nat.le_of_ble_eq_true rfl) hW hS hp_sz hp_at cs (fun Hp locs hW hS => ?_)
  change W p l e room_1 s m #[Value.ref b0] below meth c Hp locs 373 sl Q (F0 m 173 ls [.int a])
  refine lv_pop hx hb dl_173 rfl ?_
  refine lv_aload_n hx hb dl_174 rfl (lv_at hl 1 rfl) ?_
  refine lv_aload_n hx hb dl_175 rfl (lv_at hl 3 rfl) ?_
  refine lv_iload_n hx hb dl_176 rfl (lv_at hl 0 rfl) ?_
  refine lv_iconst (v := 1) hx hb dl_177 (by decide) ?_
  refine lv_iadd hx hb dl_178 ?_
  refine va_sld hx hb hX hbl hbA hS v1 dl_179 ?_
  refine L_call (i := 17) (j := 146) (q := 929) (a := 366) (as := [.int (xs (nI i + 1).toNatClampNeg)]) (rest := []) (by decide) hC dl_180 (by decide +kernel) e2 (hc366 (by decide +kernel)) rfl (show 2 = mA 146 from by decide +kernel) (by decide +kernel) (by decide +kernel) hl.1 (Nat.le_of_ble_eq_true rfl) hW hS hp_sz hp_at cs (fun Hp locs hW hS => ?_)
  change W p l e room_1 s m #[Value.ref b0] below meth c Hp locs 373 sl Q (F0 m 183 ls [.int b])
  refine lv_pop hx hb dl_183 rfl ?_
  refine lv_goto (tgt := 887) hx hb dl_184 (by decide) ?_
  exact k _ _ _ _ _ hK ⟨hC, hX, hbl, hL, hl, hW, hS, hsl⟩
theorem lc_1 (hA : LA p s m c b0 L xs t ac D T P Hp locs ls i sl) (hi : i + 5 ≤ L) (hs : STP False 91 147 [.ref 0, .int (xs (nI i + 1).toNatClampNeg), .int (xs (nI i + 2).toNatClampNeg)] [.ref 366, .int (xs (nI i + 1).toNatClampNeg), .int (xs (nI i + 2).toNatClampNeg)] T P K) (k : ∀ (T1 : Nat → Nat → Int32) (P1 : Nat → Nat → Nat) (Hp1 : Heap) (locs1 : List Loc) (ls1 : Array Slot), K T1 P1 → LA p s m c b0 L xs t ac D T1 P1 Hp1 locs1 ls1 i sl → W p l e room_1 s m #[Value.ref b0] below meth c Hp1 locs1 373 sl Q (F0 m 887 ls1 [])) : W p l e room_1 s m #[Value.ref b0] below meth c Hp locs 373 sl Q (F0 m 187 ls []) := by
  obtain ⟨hC, hX, hbl, hL, hl, hW, hS, hsl⟩ := hA
  have hx := hC.1
  have hb := hC.2.1
  have hbA : ¬ (fun q : Nat => s.heap.size ≤ q) b0 := Nat.not_le.mpr hbl
  have cs : 373 ≤ room_1.cells ∧ sl ≤ room_1.slots := ⟨by decide, hsl⟩
  have v1 : vp_in (nI i + 1) L := by rw [show nI i + 1 = nI (i + 1) from nI_add i 1]; exact vp_in_nI (by omega) (by omega)
  have v2 : vp_in (nI i + 2) L := by rw [show nI i + 2 = nI (i + 2) from nI_add i 2]; exact vp_in_nI (by omega) (by omega)
  obtain ⟨a, b, T1, P1, T2, e1, e2, hK, hab⟩ := hs
  refine lv_aload_n hx hb dl_187 rfl (lv_at hl 2 rfl) ?_
  refine lv_aload_n hx hb dl_188 rfl (lv_at hl 3 rfl) ?_
  refine lv_iload_n hx hb dl_189 rfl (lv_at hl 0 rfl) ?_
  refine lv_iconst (v := 1) hx hb dl_190 (by decide) ?_
  refine lv_iadd hx hb dl_191 ?_
  refine va_sld hx hb hX hbl hbA hS v1 dl_192 ?_
  refine lv_aload_n hx hb dl_193 rfl (lv_at hl 3 rfl) ?_
  refine lv_iload_n hx hb dl_194 rfl (lv_at hl 0 rfl) ?_
  refine lv_iconst (v := 2) hx hb dl_195 (by decide) ?_
  refine lv_iadd hx hb dl_196 ?_
  refine va_sld hx hb hX hbl hbA hS v2 dl_197 ?_
  refine L_call (i := 18) (j := 91) (q := 457) (a := 0) (as := [.int (xs (nI i + 1).toNatClampNeg), .int (xs (nI i + 2).toNatClampNeg)]) (rest := []) (by decide) hC dl_198 (by decide +kernel) e1 (hc0 (by decide +kernel)) rfl (show 3 = mA 91 from by decide +kernel) (by decide +kernel) (by decide +kernel) hl.1 (Nat.le_of_ble_eq_true rfl) hW hS hp_sz hp_at cs (fun Hp locs hW hS => ?_)
  change W p l e room_1 s m #[Value.ref b0] below meth c Hp locs 373 sl Q (F0 m 201 ls [.int a])
  refine lv_pop hx hb dl_201 rfl ?_
  refine lv_aload_n hx hb dl_202 rfl (lv_at hl 1 rfl) ?_
  refine lv_aload_n hx hb dl_203 rfl (lv_at hl 3 rfl) ?_
  refine lv_iload_n hx hb dl_204 rfl (lv_at hl 0 rfl) ?_
  refine lv_iconst (v := 1) hx hb dl_205 (by decide) ?_
  refine lv_iadd hx hb dl_206 ?_
  refine va_sld hx hb hX hbl hbA hS v1 dl_207 ?_
  refine lv_aload_n hx hb dl_208 rfl (lv_at hl 3 rfl) ?_
  refine lv_iload_n hx hb dl_209 rfl (lv_at hl 0 rfl) ?_
  refine lv_iconst (v := 2) hx hb dl_210 (by decide) ?_
  refine lv_iadd hx hb dl_211 ?_
  refine va_sld hx hb hX hbl hbA hS v2 dl_212 ?_
  refine L_call (i := 22) (j := 147) (q := 944) (a := 366) (as := [.int (xs (nI i + 1).toNatClampNeg), .int (xs (nI i + 2).toNatClampNeg)]) (rest := []) (by decide) hC dl_213 (by decide +kernel) e2 (hc366 (by decide +kernel)) rfl (show 3 = mA 147 from by decide +kernel) (by decide +kernel) (by decide +kernel) hl.1 (Nat.le_of_ble_eq_true rfl) hW hS hp_sz hp_at cs (fun Hp locs hW hS => ?_)
  change W p l e room_1 s m #[Value.ref b0] below meth c Hp locs 373 sl Q (F0 m 216 ls [.int b])
  refine lv_pop hx hb dl_216 rfl ?_
  refine lv_goto (tgt := 887) hx hb dl_217 (by decide) ?_
  exact k _ _ _ _ _ hK ⟨hC, hX, hbl, hL, hl, hW, hS, hsl⟩
theorem lc_2 (hA : LA p s m c b0 L xs t ac D T P Hp locs ls i sl) (hi : i + 5 ≤ L) (hs : STP False 92 151 [.ref 0, .int (xs (nI i + 1).toNatClampNeg), .int (xs (nI i + 2).toNatClampNeg), .int (xs (nI i + 3).toNatClampNeg), .int (xs (nI i + 4).toNatClampNeg)] [.ref 366, .int (xs (nI i + 1).toNatClampNeg), .int (xs (nI i + 2).toNatClampNeg), .int (xs (nI i + 3).toNatClampNeg), .int (xs (nI i + 4).toNatClampNeg)] T P K) (k : ∀ (T1 : Nat → Nat → Int32) (P1 : Nat → Nat → Nat) (Hp1 : Heap) (locs1 : List Loc) (ls1 : Array Slot), K T1 P1 → LA p s m c b0 L xs t ac D T1 P1 Hp1 locs1 ls1 i sl → W p l e room_1 s m #[Value.ref b0] below meth c Hp1 locs1 373 sl Q (F0 m 887 ls1 [])) : W p l e room_1 s m #[Value.ref b0] below meth c Hp locs 373 sl Q (F0 m 220 ls []) := by
  obtain ⟨hC, hX, hbl, hL, hl, hW, hS, hsl⟩ := hA
  have hx := hC.1
  have hb := hC.2.1
  have hbA : ¬ (fun q : Nat => s.heap.size ≤ q) b0 := Nat.not_le.mpr hbl
  have cs : 373 ≤ room_1.cells ∧ sl ≤ room_1.slots := ⟨by decide, hsl⟩
  have v1 : vp_in (nI i + 1) L := by rw [show nI i + 1 = nI (i + 1) from nI_add i 1]; exact vp_in_nI (by omega) (by omega)
  have v2 : vp_in (nI i + 2) L := by rw [show nI i + 2 = nI (i + 2) from nI_add i 2]; exact vp_in_nI (by omega) (by omega)
  have v3 : vp_in (nI i + 3) L := by rw [show nI i + 3 = nI (i + 3) from nI_add i 3]; exact vp_in_nI (by omega) (by omega)
  have v4 : vp_in (nI i + 4) L := by rw [show nI i + 4 = nI (i + 4) from nI_add i 4]; exact vp_in_nI (by omega) (by omega)
  obtain ⟨a, b, T1, P1, T2, e1, e2, hK, hab⟩ := hs
  refine lv_aload_n hx hb dl_220 rfl (lv_at hl 2 rfl) ?_
  refine lv_aload_n hx hb dl_221 rfl (lv_at hl 3 rfl) ?_
  refine lv_iload_n hx hb dl_222 rfl (lv_at hl 0 rfl) ?_
  refine lv_iconst (v := 1) hx hb dl_223 (by decide) ?_
  refine lv_iadd hx hb dl_224 ?_
  refine va_sld hx hb hX hbl hbA hS v1 dl_225 ?_
  refine lv_aload_n hx hb dl_226 rfl (lv_at hl 3 rfl) ?_
  refine lv_iload_n hx hb dl_227 rfl (lv_at hl 0 rfl) ?_
  refine lv_iconst (v := 2) hx hb dl_228 (by decide) ?_
  refine lv_iadd hx hb dl_229 ?_
  refine va_sld hx hb hX hbl hbA hS v2 dl_230 ?_
  refine lv_aload_n hx hb dl_231 rfl (lv_at hl 3 rfl) ?_
  refine lv_iload_n hx hb dl_232 rfl (lv_at hl 0 rfl) ?_
  refine lv_iconst (v := 3) hx hb dl_233 (by decide) ?_
  refine lv_iadd hx hb dl_234 ?_
  refine va_sld hx hb hX hbl hbA hS v3 dl_235 ?_
  refine lv_aload_n hx hb dl_236 rfl (lv_at hl 3 rfl) ?_
  refine lv_iload_n hx hb dl_237 rfl (lv_at hl 0 rfl) ?_
  refine lv_iconst (v := 4) hx hb dl_238 (by decide) ?_
  refine lv_iadd hx hb dl_239 ?_
  refine va_sld hx hb hX hbl hbA hS v4 dl_240 ?_
  refine L_call (i := 23) (j := 92) (q := 461) (a := 0) (as := [.int (xs (nI i + 1).toNatClampNeg), .int (xs (nI i + 2).toNatClampNeg), .int (xs (nI i + 3).toNatClampNeg), .int (xs (nI i + 4).toNatClampNeg)]) (rest := []) (by decide) hC dl_241 (by decide +kernel) e1 (hc0 (by decide +kernel)) rfl (show 5 = mA 92 from by decide +kernel) (by decide +kernel) (by decide +kernel) hl.1 (Nat.le_of_ble_eq_true rfl) hW hS hp_sz hp_at cs (fun Hp locs hW hS => ?_)
  change W p l e room_1 s m #[Value.ref b0] below meth c Hp locs 373 sl Q (F0 m 244 ls [.int a])
  refine lv_pop hx hb dl_244 rfl ?_
  refine lv_aload_n hx hb dl_245 rfl (lv_at hl 1 rfl) ?_
  refine lv_aload_n hx hb dl_246 rfl (lv_at hl 3 rfl) ?_
  refine lv_iload_n hx hb dl_247 rfl (lv_at hl 0 rfl) ?_
  refine lv_iconst (v := 1) hx hb dl_248 (by decide) ?_
  refine lv_iadd hx hb dl_249 ?_
  refine va_sld hx hb hX hbl hbA hS v1 dl_250 ?_
  refine lv_aload_n hx hb dl_251 rfl (lv_at hl 3 rfl) ?_
  refine lv_iload_n hx hb dl_252 rfl (lv_at hl 0 rfl) ?_
  refine lv_iconst (v := 2) hx hb dl_253 (by decide) ?_
  refine lv_iadd hx hb dl_254 ?_
  refine va_sld hx hb hX hbl hbA hS v2 dl_255 ?_
  refine lv_aload_n hx hb dl_256 rfl (lv_at hl 3 rfl) ?_
  refine lv_iload_n hx hb dl_257 rfl (lv_at hl 0 rfl) ?_
  refine lv_iconst (v := 3) hx hb dl_258 (by decide) ?_
  refine lv_iadd hx hb dl_259 ?_
  refine va_sld hx hb hX hbl hbA hS v3 dl_260 ?_
  refine lv_aload_n hx hb dl_261 rfl (lv_at hl 3 rfl) ?_
  refine lv_iload_n hx hb dl_262 rfl (lv_at hl 0 rfl) ?_
  refine lv_iconst (v := 4) hx hb dl_263 (by decide) ?_
  refine lv_iadd hx hb dl_264 ?_
  refine va_sld hx hb hX hbl hbA hS v4 dl_265 ?_
  refine L_call (i := 27) (j := 151) (q := 948) (a := 366) (as := [.int (xs (nI i + 1).toNatClampNeg), .int (xs (nI i + 2).toNatClampNeg), .int (xs (nI i + 3).toNatClampNeg), .int (xs (nI i + 4).toNatClampNeg)]) (rest := []) (by decide) hC dl_266 (by decide +kernel) e2 (hc366 (by decide +kernel)) rfl (show 5 = mA 151 from by decide +kernel) (by decide +kernel) (by decide +kernel) hl.1 (Nat.le_of_ble_eq_true rfl) hW hS hp_sz hp_at cs (fun Hp locs hW hS => ?_)
  change W p l e room_1 s m #[Value.ref b0] below meth c Hp locs 373 sl Q (F0 m 269 ls [.int b])
  refine lv_pop hx hb dl_269 rfl ?_
  refine lv_goto (tgt := 887) hx hb dl_270 (by decide) ?_
  exact k _ _ _ _ _ hK ⟨hC, hX, hbl, hL, hl, hW, hS, hsl⟩
theorem lc_3 (hA : LA p s m c b0 L xs t ac D T P Hp locs ls i sl) (hi : i + 5 ≤ L) (hs : STP False 93 152 [.ref 0] [.ref 366] T P K) (k : ∀ (T1 : Nat → Nat → Int32) (P1 : Nat → Nat → Nat) (Hp1 : Heap) (locs1 : List Loc) (ls1 : Array Slot), K T1 P1 → LA p s m c b0 L xs t ac D T1 P1 Hp1 locs1 ls1 i sl → W p l e room_1 s m #[Value.ref b0] below meth c Hp1 locs1 373 sl Q (F0 m 887 ls1 [])) : W p l e room_1 s m #[Value.ref b0] below meth c Hp locs 373 sl Q (F0 m 273 ls []) := by
  obtain ⟨hC, hX, hbl, hL, hl, hW, hS, hsl⟩ := hA
  have hx := hC.1
  have hb := hC.2.1
  have hbA : ¬ (fun q : Nat => s.heap.size ≤ q) b0 := Nat.not_le.mpr hbl
  have cs : 373 ≤ room_1.cells ∧ sl ≤ room_1.slots := ⟨by decide, hsl⟩
  obtain ⟨a, b, T1, P1, T2, e1, e2, hK, hab⟩ := hs
  refine lv_aload_n hx hb dl_273 rfl (lv_at hl 2 rfl) ?_
  refine L_call (i := 28) (j := 93) (q := 514) (a := 0) (as := []) (rest := []) (by decide) hC dl_274 (by decide +kernel) e1 (hc0 (by decide +kernel)) rfl (show 1 = mA 93 from by decide +kernel) (by decide +kernel) (by decide +kernel) hl.1 (Nat.le_of_ble_eq_true rfl) hW hS hp_sz hp_at cs (fun Hp locs hW hS => ?_)
  change W p l e room_1 s m #[Value.ref b0] below meth c Hp locs 373 sl Q (F0 m 277 ls [.int a])
  refine lv_pop hx hb dl_277 rfl ?_
  refine lv_aload_n hx hb dl_278 rfl (lv_at hl 1 rfl) ?_
  refine L_call (i := 32) (j := 152) (q := 992) (a := 366) (as := []) (rest := []) (by decide) hC dl_279 (by decide +kernel) e2 (hc366 (by decide +kernel)) rfl (show 1 = mA 152 from by decide +kernel) (by decide +kernel) (by decide +kernel) hl.1 (Nat.le_of_ble_eq_true rfl) hW hS hp_sz hp_at cs (fun Hp locs hW hS => ?_)
  change W p l e room_1 s m #[Value.ref b0] below meth c Hp locs 373 sl Q (F0 m 282 ls [.int b])
  refine lv_pop hx hb dl_282 rfl ?_
  refine lv_goto (tgt := 887) hx hb dl_283 (by decide) ?_
  exact k _ _ _ _ _ hK ⟨hC, hX, hbl, hL, hl, hW, hS, hsl⟩
theorem lc_4 (hA : LA p s m c b0 L xs t ac D T P Hp locs ls i sl) (hi : i + 5 ≤ L) (hs : STP False 94 154 [.ref 0, .int (xs (nI i + 1).toNatClampNeg), .int (xs (nI i + 2).toNatClampNeg)] [.ref 366, .int (xs (nI i + 1).toNatClampNeg), .int (xs (nI i + 2).toNatClampNeg)] T P K) (k : ∀ (T1 : Nat → Nat → Int32) (P1 : Nat → Nat → Nat) (Hp1 : Heap) (locs1 : List Loc) (ls1 : Array Slot), K T1 P1 → LA p s m c b0 L xs t ac D T1 P1 Hp1 locs1 ls1 i sl → W p l e room_1 s m #[Value.ref b0] below meth c Hp1 locs1 373 sl Q (F0 m 887 ls1 [])) : W p l e room_1 s m #[Value.ref b0] below meth c Hp locs 373 sl Q (F0 m 286 ls []) := by
  obtain ⟨hC, hX, hbl, hL, hl, hW, hS, hsl⟩ := hA
  have hx := hC.1
  have hb := hC.2.1
  have hbA : ¬ (fun q : Nat => s.heap.size ≤ q) b0 := Nat.not_le.mpr hbl
  have cs : 373 ≤ room_1.cells ∧ sl ≤ room_1.slots := ⟨by decide, hsl⟩
  have v1 : vp_in (nI i + 1) L := by rw [show nI i + 1 = nI (i + 1) from nI_add i 1]; exact vp_in_nI (by omega) (by omega)
  have v2 : vp_in (nI i + 2) L := by rw [show nI i + 2 = nI (i + 2) from nI_add i 2]; exact vp_in_nI (by omega) (by omega)
  obtain ⟨a, b, T1, P1, T2, e1, e2, hK, hab⟩ := hs
  refine lv_aload_n hx hb dl_286 rfl (lv_at hl 2 rfl) ?_
  refine lv_aload_n hx hb dl_287 rfl (lv_at hl 3 rfl) ?_
  refine lv_iload_n hx hb dl_288 rfl (lv_at hl 0 rfl) ?_
  refine lv_iconst (v := 1) hx hb dl_289 (by decide) ?_
  refine lv_iadd hx hb dl_290 ?_
  refine va_sld hx hb hX hbl hbA hS v1 dl_291 ?_
  refine lv_aload_n hx hb dl_292 rfl (lv_at hl 3 rfl) ?_
  refine lv_iload_n hx hb dl_293 rfl (lv_at hl 0 rfl) ?_
  refine lv_iconst (v := 2) hx hb dl_294 (by decide) ?_
  refine lv_iadd hx hb dl_295 ?_
  refine va_sld hx hb hX hbl hbA hS v2 dl_296 ?_
  refine L_call (i := 33) (j := 94) (q := 566) (a := 0) (as := [.int (xs (nI i + 1).toNatClampNeg), .int (xs (nI i + 2).toNatClampNeg)]) (rest := []) (by decide) hC dl_297 (by decide +kernel) e1 (hc0 (by decide +kernel)) rfl (show 3 = mA 94 from by decide +kernel) (by decide +kernel) (by decide +kernel) hl.1 (Nat.le_of_ble_eq_true rfl) hW hS hp_sz hp_at cs (fun Hp locs hW hS => ?_)
  change W p l e room_1 s m #[Value.ref b0] below meth c Hp locs 373 sl Q (F0 m 300 ls [.int a])
  refine lv_pop hx hb dl_300 rfl ?_
  refine lv_aload_n hx hb dl_301 rfl (lv_at hl 1 rfl) ?_
  refine lv_aload_n hx hb dl_302 rfl (lv_at hl 3 rfl) ?_
  refine lv_iload_n hx hb dl_303 rfl (lv_at hl 0 rfl) ?_
  refine lv_iconst (v := 1) hx hb dl_304 (by decide) ?_
  refine lv_iadd hx hb dl_305 ?_
  refine va_sld hx hb hX hbl hbA hS v1 dl_306 ?_
  refine lv_aload_n hx hb dl_307 rfl (lv_at hl 3 rfl) ?_
  refine lv_iload_n hx hb dl_308 rfl (lv_at hl 0 rfl) ?_
  refine lv_iconst (v := 2) hx hb dl_309 (by decide) ?_
  refine lv_iadd hx hb dl_310 ?_
  refine va_sld hx hb hX hbl hbA hS v2 dl_311 ?_
  refine L_call (i := 36) (j := 154) (q := 1038) (a := 366) (as := [.int (xs (nI i + 1).toNatClampNeg), .int (xs (nI i + 2).toNatClampNeg)]) (rest := []) (by decide) hC dl_312 (by decide +kernel) e2 (hc366 (by decide +kernel)) rfl (show 3 = mA 154 from by decide +kernel) (by decide +kernel) (by decide +kernel) hl.1 (Nat.le_of_ble_eq_true rfl) hW hS hp_sz hp_at cs (fun Hp locs hW hS => ?_)
  change W p l e room_1 s m #[Value.ref b0] below meth c Hp locs 373 sl Q (F0 m 315 ls [.int b])
  refine lv_pop hx hb dl_315 rfl ?_
  refine lv_goto (tgt := 887) hx hb dl_316 (by decide) ?_
  exact k _ _ _ _ _ hK ⟨hC, hX, hbl, hL, hl, hW, hS, hsl⟩
theorem lc_5 (hA : LA p s m c b0 L xs t ac D T P Hp locs ls i sl) (hi : i + 5 ≤ L) (hs : STP False 95 157 [.ref 0, .int (xs (nI i + 1).toNatClampNeg), .int (xs (nI i + 2).toNatClampNeg)] [.ref 366, .int (xs (nI i + 1).toNatClampNeg), .int (xs (nI i + 2).toNatClampNeg)] T P K) (k : ∀ (T1 : Nat → Nat → Int32) (P1 : Nat → Nat → Nat) (Hp1 : Heap) (locs1 : List Loc) (ls1 : Array Slot), K T1 P1 → LA p s m c b0 L xs t ac D T1 P1 Hp1 locs1 ls1 i sl → W p l e room_1 s m #[Value.ref b0] below meth c Hp1 locs1 373 sl Q (F0 m 887 ls1 [])) : W p l e room_1 s m #[Value.ref b0] below meth c Hp locs 373 sl Q (F0 m 319 ls []) := by
  obtain ⟨hC, hX, hbl, hL, hl, hW, hS, hsl⟩ := hA
  have hx := hC.1
  have hb := hC.2.1
  have hbA : ¬ (fun q : Nat => s.heap.size ≤ q) b0 := Nat.not_le.mpr hbl
  have cs : 373 ≤ room_1.cells ∧ sl ≤ room_1.slots := ⟨by decide, hsl⟩
  have v1 : vp_in (nI i + 1) L := by rw [show nI i + 1 = nI (i + 1) from nI_add i 1]; exact vp_in_nI (by omega) (by omega)
  have v2 : vp_in (nI i + 2) L := by rw [show nI i + 2 = nI (i + 2) from nI_add i 2]; exact vp_in_nI (by omega) (by omega)
  obtain ⟨a, b, T1, P1, T2, e1, e2, hK, hab⟩ := hs
  refine lv_aload_n hx hb dl_319 rfl (lv_at hl 2 rfl) ?_
  refine lv_aload_n hx hb dl_320 rfl (lv_at hl 3 rfl) ?_
  refine lv_iload_n hx hb dl_321 rfl (lv_at hl 0 rfl) ?_
  refine lv_iconst (v := 1) hx hb dl_322 (by decide) ?_
  refine lv_iadd hx hb dl_323 ?_
  refine va_sld hx hb hX hbl hbA hS v1 dl_324 ?_
  refine lv_aload_n hx hb dl_325 rfl (lv_at hl 3 rfl) ?_
  refine lv_iload_n hx hb dl_326 rfl (lv_at hl 0 rfl) ?_
  refine lv_iconst (v := 2) hx hb dl_327 (by decide) ?_
  refine lv_iadd hx hb dl_328 ?_
  refine va_sld hx hb hX hbl hbA hS v2 dl_329 ?_
  refine L_call (i := 37) (j := 95) (q := 592) (a := 0) (as := [.int (xs (nI i + 1).toNatClampNeg), .int (xs (nI i + 2).toNatClampNeg)]) (rest := []) (by decide) hC dl_330 (by decide +kernel) e1 (hc0 (by decide +kernel)) rfl (show 3 = mA 95 from by decide +kernel) (by decide +kernel) (by decide +kernel) hl.1 (Nat.le_of_ble_eq_true rfl) hW hS hp_sz hp_at cs (fun Hp locs hW hS => ?_)
  change W p l e room_1 s m #[Value.ref b0] below meth c Hp locs 373 sl Q (F0 m 333 ls [.int a])
  refine lv_pop hx hb dl_333 rfl ?_
  refine lv_aload_n hx hb dl_334 rfl (lv_at hl 1 rfl) ?_
  refine lv_aload_n hx hb dl_335 rfl (lv_at hl 3 rfl) ?_
  refine lv_iload_n hx hb dl_336 rfl (lv_at hl 0 rfl) ?_
  refine lv_iconst (v := 1) hx hb dl_337 (by decide) ?_
  refine lv_iadd hx hb dl_338 ?_
  refine va_sld hx hb hX hbl hbA hS v1 dl_339 ?_
  refine lv_aload_n hx hb dl_340 rfl (lv_at hl 3 rfl) ?_
  refine lv_iload_n hx hb dl_341 rfl (lv_at hl 0 rfl) ?_
  refine lv_iconst (v := 2) hx hb dl_342 (by decide) ?_
  refine lv_iadd hx hb dl_343 ?_
  refine va_sld hx hb hX hbl hbA hS v2 dl_344 ?_
  refine L_call (i := 40) (j := 157) (q := 1054) (a := 366) (as := [.int (xs (nI i + 1).toNatClampNeg), .int (xs (nI i + 2).toNatClampNeg)]) (rest := []) (by decide) hC dl_345 (by decide +kernel) e2 (hc366 (by decide +kernel)) rfl (show 3 = mA 157 from by decide +kernel) (by decide +kernel) (by decide +kernel) hl.1 (Nat.le_of_ble_eq_true rfl) hW hS hp_sz hp_at cs (fun Hp locs hW hS => ?_)
  change W p l e room_1 s m #[Value.ref b0] below meth c Hp locs 373 sl Q (F0 m 348 ls [.int b])
  refine lv_pop hx hb dl_348 rfl ?_
  refine lv_goto (tgt := 887) hx hb dl_349 (by decide) ?_
  exact k _ _ _ _ _ hK ⟨hC, hX, hbl, hL, hl, hW, hS, hsl⟩
theorem lc_6 (hA : LA p s m c b0 L xs t ac D T P Hp locs ls i sl) (hi : i + 5 ≤ L) (hs : STP False 96 163 [.ref 0, .int (xs (nI i + 1).toNatClampNeg)] [.ref 366, .int (xs (nI i + 1).toNatClampNeg)] T P K) (k : ∀ (T1 : Nat → Nat → Int32) (P1 : Nat → Nat → Nat) (Hp1 : Heap) (locs1 : List Loc) (ls1 : Array Slot), K T1 P1 → LA p s m c b0 L xs t ac D T1 P1 Hp1 locs1 ls1 i sl → W p l e room_1 s m #[Value.ref b0] below meth c Hp1 locs1 373 sl Q (F0 m 887 ls1 [])) : W p l e room_1 s m #[Value.ref b0] below meth c Hp locs 373 sl Q (F0 m 352 ls []) := by
  obtain ⟨hC, hX, hbl, hL, hl, hW, hS, hsl⟩ := hA
  have hx := hC.1
  have hb := hC.2.1
  have hbA : ¬ (fun q : Nat => s.heap.size ≤ q) b0 := Nat.not_le.mpr hbl
  have cs : 373 ≤ room_1.cells ∧ sl ≤ room_1.slots := ⟨by decide, hsl⟩
  have v1 : vp_in (nI i + 1) L := by rw [show nI i + 1 = nI (i + 1) from nI_add i 1]; exact vp_in_nI (by omega) (by omega)
  obtain ⟨a, b, T1, P1, T2, e1, e2, hK, hab⟩ := hs
  refine lv_aload_n hx hb dl_352 rfl (lv_at hl 2 rfl) ?_
  refine lv_aload_n hx hb dl_353 rfl (lv_at hl 3 rfl) ?_
  refine lv_iload_n hx hb dl_354 rfl (lv_at hl 0 rfl) ?_
  refine lv_iconst (v := 1) hx hb dl_355 (by decide) ?_
  refine lv_iadd hx hb dl_356 ?_
  refine va_sld hx hb hX hbl hbA hS v1 dl_357 ?_
  refine L_call (i := 41) (j := 96) (q := 609) (a := 0) (as := [.int (xs (nI i + 1).toNatClampNeg)]) (rest := []) (by decide) hC dl_358 (by decide +kernel) e1 (hc0 (by decide +kernel)) rfl (show 2 = mA 96 from by decide +kernel) (by decide +kernel) (by decide +kernel) hl.1 (Nat.le_of_ble_eq_true rfl) hW hS hp_sz hp_at cs (fun Hp locs hW hS => ?_)
  change W p l e room_1 s m #[Value.ref b0] below meth c Hp locs 373 sl Q (F0 m 361 ls [.int a])
  refine lv_pop hx hb dl_361 rfl ?_
  refine lv_aload_n hx hb dl_362 rfl (lv_at hl 1 rfl) ?_
  refine lv_aload_n hx hb dl_363 rfl (lv_at hl 3 rfl) ?_
  refine lv_iload_n hx hb dl_364 rfl (lv_at hl 0 rfl) ?_
  refine lv_iconst (v := 1) hx hb dl_365 (by decide) ?_
  refine lv_iadd hx hb dl_366 ?_
  refine va_sld hx hb hX hbl hbA hS v1 dl_367 ?_
  refine L_call (i := 44) (j := 163) (q := 1066) (a := 366) (as := [.int (xs (nI i + 1).toNatClampNeg)]) (rest := []) (by decide) hC dl_368 (by decide +kernel) e2 (hc366 (by decide +kernel)) rfl (show 2 = mA 163 from by decide +kernel) (by decide +kernel) (by decide +kernel) hl.1 (Nat.le_of_ble_eq_true rfl) hW hS hp_sz hp_at cs (fun Hp locs hW hS => ?_)
  change W p l e room_1 s m #[Value.ref b0] below meth c Hp locs 373 sl Q (F0 m 371 ls [.int b])
  refine lv_pop hx hb dl_371 rfl ?_
  refine lv_goto (tgt := 887) hx hb dl_372 (by decide) ?_
  exact k _ _ _ _ _ hK ⟨hC, hX, hbl, hL, hl, hW, hS, hsl⟩
theorem lc_7 (hA : LA p s m c b0 L xs t ac D T P Hp locs ls i sl) (hi : i + 5 ≤ L) (hs : STP False 97 167 [.ref 0, .int (xs (nI i + 1).toNatClampNeg)] [.ref 366, .int (xs (nI i + 1).toNatClampNeg)] T P K) (k : ∀ (T1 : Nat → Nat → Int32) (P1 : Nat → Nat → Nat) (Hp1 : Heap) (locs1 : List Loc) (ls1 : Array Slot), K T1 P1 → LA p s m c b0 L xs t ac D T1 P1 Hp1 locs1 ls1 i sl → W p l e room_1 s m #[Value.ref b0] below meth c Hp1 locs1 373 sl Q (F0 m 887 ls1 [])) : W p l e room_1 s m #[Value.ref b0] below meth c Hp locs 373 sl Q (F0 m 375 ls []) := by
  obtain ⟨hC, hX, hbl, hL, hl, hW, hS, hsl⟩ := hA
  have hx := hC.1
  have hb := hC.2.1
  have hbA : ¬ (fun q : Nat => s.heap.size ≤ q) b0 := Nat.not_le.mpr hbl
  have cs : 373 ≤ room_1.cells ∧ sl ≤ room_1.slots := ⟨by decide, hsl⟩
  have v1 : vp_in (nI i + 1) L := by rw [show nI i + 1 = nI (i + 1) from nI_add i 1]; exact vp_in_nI (by omega) (by omega)
  obtain ⟨a, b, T1, P1, T2, e1, e2, hK, hab⟩ := hs
  refine lv_aload_n hx hb dl_375 rfl (lv_at hl 2 rfl) ?_
  refine lv_aload_n hx hb dl_376 rfl (lv_at hl 3 rfl) ?_
  refine lv_iload_n hx hb dl_377 rfl (lv_at hl 0 rfl) ?_
  refine lv_iconst (v := 1) hx hb dl_378 (by decide) ?_
  refine lv_iadd hx hb dl_379 ?_
  refine va_sld hx hb hX hbl hbA hS v1 dl_380 ?_
  refine L_call (i := 45) (j := 97) (q := 661) (a := 0) (as := [.int (xs (nI i + 1).toNatClampNeg)]) (rest := []) (by decide) hC dl_381 (by decide +kernel) e1 (hc0 (by decide +kernel)) rfl (show 2 = mA 97 from by decide +kernel) (by decide +kernel) (by decide +kernel) hl.1 (Nat.le_of_ble_eq_true rfl) hW hS hp_sz hp_at cs (fun Hp locs hW hS => ?_)
  change W p l e room_1 s m #[Value.ref b0] below meth c Hp locs 373 sl Q (F0 m 384 ls [.int a])
  refine lv_pop hx hb dl_384 rfl ?_
  refine lv_aload_n hx hb dl_385 rfl (lv_at hl 1 rfl) ?_
  refine lv_aload_n hx hb dl_386 rfl (lv_at hl 3 rfl) ?_
  refine lv_iload_n hx hb dl_387 rfl (lv_at hl 0 rfl) ?_
  refine lv_iconst (v := 1) hx hb dl_388 (by decide) ?_
  refine lv_iadd hx hb dl_389 ?_
  refine va_sld hx hb hX hbl hbA hS v1 dl_390 ?_
  refine L_call (i := 48) (j := 167) (q := 1106) (a := 366) (as := [.int (xs (nI i + 1).toNatClampNeg)]) (rest := []) (by decide) hC dl_391 (by decide +kernel) e2 (hc366 (by decide +kernel)) rfl (show 2 = mA 167 from by decide +kernel) (by decide +kernel) (by decide +kernel) hl.1 (Nat.le_of_ble_eq_true rfl) hW hS hp_sz hp_at cs (fun Hp locs hW hS => ?_)
  change W p l e room_1 s m #[Value.ref b0] below meth c Hp locs 373 sl Q (F0 m 394 ls [.int b])
  refine lv_pop hx hb dl_394 rfl ?_
  refine lv_goto (tgt := 887) hx hb dl_395 (by decide) ?_
  exact k _ _ _ _ _ hK ⟨hC, hX, hbl, hL, hl, hW, hS, hsl⟩
theorem lc_8 (hA : LA p s m c b0 L xs t ac D T P Hp locs ls i sl) (hi : i + 5 ≤ L) (hs : STP False 98 168 [.ref 0, .int (xs (nI i + 1).toNatClampNeg)] [.ref 366, .int (xs (nI i + 1).toNatClampNeg)] T P K) (k : ∀ (T1 : Nat → Nat → Int32) (P1 : Nat → Nat → Nat) (Hp1 : Heap) (locs1 : List Loc) (ls1 : Array Slot), K T1 P1 → LA p s m c b0 L xs t ac D T1 P1 Hp1 locs1 ls1 i sl → W p l e room_1 s m #[Value.ref b0] below meth c Hp1 locs1 373 sl Q (F0 m 887 ls1 [])) : W p l e room_1 s m #[Value.ref b0] below meth c Hp locs 373 sl Q (F0 m 398 ls []) := by
  obtain ⟨hC, hX, hbl, hL, hl, hW, hS, hsl⟩ := hA
  have hx := hC.1
  have hb := hC.2.1
  have hbA : ¬ (fun q : Nat => s.heap.size ≤ q) b0 := Nat.not_le.mpr hbl
  have cs : 373 ≤ room_1.cells ∧ sl ≤ room_1.slots := ⟨by decide, hsl⟩
  have v1 : vp_in (nI i + 1) L := by rw [show nI i + 1 = nI (i + 1) from nI_add i 1]; exact vp_in_nI (by omega) (by omega)
  obtain ⟨a, b, T1, P1, T2, e1, e2, hK, hab⟩ := hs
  refine lv_aload_n hx hb dl_398 rfl (lv_at hl 2 rfl) ?_
  refine lv_aload_n hx hb dl_399 rfl (lv_at hl 3 rfl) ?_
  refine lv_iload_n hx hb dl_400 rfl (lv_at hl 0 rfl) ?_
  refine lv_iconst (v := 1) hx hb dl_401 (by decide) ?_
  refine lv_iadd hx hb dl_402 ?_
  refine va_sld hx hb hX hbl hbA hS v1 dl_403 ?_
  refine L_call (i := 49) (j := 98) (q := 704) (a := 0) (as := [.int (xs (nI i + 1).toNatClampNeg)]) (rest := []) (by decide) hC dl_404 (by decide +kernel) e1 (hc0 (by decide +kernel)) rfl (show 2 = mA 98 from by decide +kernel) (by decide +kernel) (by decide +kernel) hl.1 (Nat.le_of_ble_eq_true rfl) hW hS hp_sz hp_at cs (fun Hp locs hW hS => ?_)
  change W p l e room_1 s m #[Value.ref b0] below meth c Hp locs 373 sl Q (F0 m 407 ls [.int a])
  refine lv_pop hx hb dl_407 rfl ?_
  refine lv_aload_n hx hb dl_408 rfl (lv_at hl 1 rfl) ?_
  refine lv_aload_n hx hb dl_409 rfl (lv_at hl 3 rfl) ?_
  refine lv_iload_n hx hb dl_410 rfl (lv_at hl 0 rfl) ?_
  refine lv_iconst (v := 1) hx hb dl_411 (by decide) ?_
  refine lv_iadd hx hb dl_412 ?_
  refine va_sld hx hb hX hbl hbA hS v1 dl_413 ?_
  refine L_call (i := 52) (j := 168) (q := 1134) (a := 366) (as := [.int (xs (nI i + 1).toNatClampNeg)]) (rest := []) (by decide) hC dl_414 (by decide +kernel) e2 (hc366 (by decide +kernel)) rfl (show 2 = mA 168 from by decide +kernel) (by decide +kernel) (by decide +kernel) hl.1 (Nat.le_of_ble_eq_true rfl) hW hS hp_sz hp_at cs (fun Hp locs hW hS => ?_)
  change W p l e room_1 s m #[Value.ref b0] below meth c Hp locs 373 sl Q (F0 m 417 ls [.int b])
  refine lv_pop hx hb dl_417 rfl ?_
  refine lv_goto (tgt := 887) hx hb dl_418 (by decide) ?_
  exact k _ _ _ _ _ hK ⟨hC, hX, hbl, hL, hl, hW, hS, hsl⟩
theorem lc_9 (hA : LA p s m c b0 L xs t ac D T P Hp locs ls i sl) (hi : i + 5 ≤ L) (hs : STP False 99 169 [.ref 0, .int (xs (nI i + 1).toNatClampNeg)] [.ref 366, .int (xs (nI i + 1).toNatClampNeg)] T P K) (k : ∀ (T1 : Nat → Nat → Int32) (P1 : Nat → Nat → Nat) (Hp1 : Heap) (locs1 : List Loc) (ls1 : Array Slot), K T1 P1 → LA p s m c b0 L xs t ac D T1 P1 Hp1 locs1 ls1 i sl → W p l e room_1 s m #[Value.ref b0] below meth c Hp1 locs1 373 sl Q (F0 m 887 ls1 [])) : W p l e room_1 s m #[Value.ref b0] below meth c Hp locs 373 sl Q (F0 m 421 ls []) := by
  obtain ⟨hC, hX, hbl, hL, hl, hW, hS, hsl⟩ := hA
  have hx := hC.1
  have hb := hC.2.1
  have hbA : ¬ (fun q : Nat => s.heap.size ≤ q) b0 := Nat.not_le.mpr hbl
  have cs : 373 ≤ room_1.cells ∧ sl ≤ room_1.slots := ⟨by decide, hsl⟩
  have v1 : vp_in (nI i + 1) L := by rw [show nI i + 1 = nI (i + 1) from nI_add i 1]; exact vp_in_nI (by omega) (by omega)
  obtain ⟨a, b, T1, P1, T2, e1, e2, hK, hab⟩ := hs
  refine lv_aload_n hx hb dl_421 rfl (lv_at hl 2 rfl) ?_
  refine lv_aload_n hx hb dl_422 rfl (lv_at hl 3 rfl) ?_
  refine lv_iload_n hx hb dl_423 rfl (lv_at hl 0 rfl) ?_
  refine lv_iconst (v := 1) hx hb dl_424 (by decide) ?_
  refine lv_iadd hx hb dl_425 ?_
  refine va_sld hx hb hX hbl hbA hS v1 dl_426 ?_
  refine L_call (i := 53) (j := 99) (q := 721) (a := 0) (as := [.int (xs (nI i + 1).toNatClampNeg)]) (rest := []) (by decide) hC dl_427 (by decide +kernel) e1 (hc0 (by decide +kernel)) rfl (show 2 = mA 99 from by decide +kernel) (by decide +kernel) (by decide +kernel) hl.1 (Nat.le_of_ble_eq_true rfl) hW hS hp_sz hp_at cs (fun Hp locs hW hS => ?_)
  change W p l e room_1 s m #[Value.ref b0] below meth c Hp locs 373 sl Q (F0 m 430 ls [.int a])
  refine lv_pop hx hb dl_430 rfl ?_
  refine lv_aload_n hx hb dl_431 rfl (lv_at hl 1 rfl) ?_
  refine lv_aload_n hx hb dl_432 rfl (lv_at hl 3 rfl) ?_
  refine lv_iload_n hx hb dl_433 rfl (lv_at hl 0 rfl) ?_
  refine lv_iconst (v := 1) hx hb dl_434 (by decide) ?_
  refine lv_iadd hx hb dl_435 ?_
  refine va_sld hx hb hX hbl hbA hS v1 dl_436 ?_
  refine L_call (i := 56) (j := 169) (q := 1138) (a := 366) (as := [.int (xs (nI i + 1).toNatClampNeg)]) (rest := []) (by decide) hC dl_437 (by decide +kernel) e2 (hc366 (by decide +kernel)) rfl (show 2 = mA 169 from by decide +kernel) (by decide +kernel) (by decide +kernel) hl.1 (Nat.le_of_ble_eq_true rfl) hW hS hp_sz hp_at cs (fun Hp locs hW hS => ?_)
  change W p l e room_1 s m #[Value.ref b0] below meth c Hp locs 373 sl Q (F0 m 440 ls [.int b])
  refine lv_pop hx hb dl_440 rfl ?_
  refine lv_goto (tgt := 887) hx hb dl_441 (by decide) ?_
  exact k _ _ _ _ _ hK ⟨hC, hX, hbl, hL, hl, hW, hS, hsl⟩
theorem lc_10 (hA : LA p s m c b0 L xs t ac D T P Hp locs ls i sl) (hi : i + 5 ≤ L) (hs : STP False 100 171 [.ref 0, .int (xs (nI i + 1).toNatClampNeg), .int (xs (nI i + 2).toNatClampNeg)] [.ref 366, .int (xs (nI i + 1).toNatClampNeg), .int (xs (nI i + 2).toNatClampNeg)] T P K) (k : ∀ (T1 : Nat → Nat → Int32) (P1 : Nat → Nat → Nat) (Hp1 : Heap) (locs1 : List Loc) (ls1 : Array Slot), K T1 P1 → LA p s m c b0 L xs t ac D T1 P1 Hp1 locs1 ls1 i sl → W p l e room_1 s m #[Value.ref b0] below meth c Hp1 locs1 373 sl Q (F0 m 887 ls1 [])) : W p l e room_1 s m #[Value.ref b0] below meth c Hp locs 373 sl Q (F0 m 444 ls []) := by
  obtain ⟨hC, hX, hbl, hL, hl, hW, hS, hsl⟩ := hA
  have hx := hC.1
  have hb := hC.2.1
  have hbA : ¬ (fun q : Nat => s.heap.size ≤ q) b0 := Nat.not_le.mpr hbl
  have cs : 373 ≤ room_1.cells ∧ sl ≤ room_1.slots := ⟨by decide, hsl⟩
  have v1 : vp_in (nI i + 1) L := by rw [show nI i + 1 = nI (i + 1) from nI_add i 1]; exact vp_in_nI (by omega) (by omega)
  have v2 : vp_in (nI i + 2) L := by rw [show nI i + 2 = nI (i + 2) from nI_add i 2]; exact vp_in_nI (by omega) (by omega)
  obtain ⟨a, b, T1, P1, T2, e1, e2, hK, hab⟩ := hs
  refine lv_aload_n hx hb dl_444 rfl (lv_at hl 2 rfl) ?_
  refine lv_aload_n hx hb dl_445 rfl (lv_at hl 3 rfl) ?_
  refine lv_iload_n hx hb dl_446 rfl (lv_at hl 0 rfl) ?_
  refine lv_iconst (v := 1) hx hb dl_447 (by decide) ?_
  refine lv_iadd hx hb dl_448 ?_
  refine va_sld hx hb hX hbl hbA hS v1 dl_449 ?_
  refine lv_aload_n hx hb dl_450 rfl (lv_at hl 3 rfl) ?_
  refine lv_iload_n hx hb dl_451 rfl (lv_at hl 0 rfl) ?_
  refine lv_iconst (v := 2) hx hb dl_452 (by decide) ?_
  refine lv_iadd hx hb dl_453 ?_
  refine va_sld hx hb hX hbl hbA hS v2 dl_454 ?_
  refine L_call (i := 57) (j := 100) (q := 726) (a := 0) (as := [.int (xs (nI i + 1).toNatClampNeg), .int (xs (nI i + 2).toNatClampNeg)]) (rest := []) (by decide) hC dl_455 (by decide +kernel) e1 (hc0 (by decide +kernel)) rfl (show 3 = mA 100 from by decide +kernel) (by decide +kernel) (by decide +kernel) hl.1 (Nat.le_of_ble_eq_true rfl) hW hS hp_sz hp_at cs (fun Hp locs hW hS => ?_)
  change W p l e room_1 s m #[Value.ref b0] below meth c Hp locs 373 sl Q (F0 m 458 ls [.int a])
  refine lv_pop hx hb dl_458 rfl ?_
  refine lv_aload_n hx hb dl_459 rfl (lv_at hl 1 rfl) ?_
  refine lv_aload_n hx hb dl_460 rfl (lv_at hl 3 rfl) ?_
  refine lv_iload_n hx hb dl_461 rfl (lv_at hl 0 rfl) ?_
  refine lv_iconst (v := 1) hx hb dl_462 (by decide) ?_
  refine lv_iadd hx hb dl_463 ?_
  refine va_sld hx hb hX hbl hbA hS v1 dl_464 ?_
  refine lv_aload_n hx hb dl_465 rfl (lv_at hl 3 rfl) ?_
  refine lv_iload_n hx hb dl_466 rfl (lv_at hl 0 rfl) ?_
  refine lv_iconst (v := 2) hx hb dl_467 (by decide) ?_
  refine lv_iadd hx hb dl_468 ?_
  refine va_sld hx hb hX hbl hbA hS v2 dl_469 ?_
  refine L_call (i := 60) (j := 171) (q := 1142) (a := 366) (as := [.int (xs (nI i + 1).toNatClampNeg), .int (xs (nI i + 2).toNatClampNeg)]) (rest := []) (by decide) hC dl_470 (by decide +kernel) e2 (hc366 (by decide +kernel)) rfl (show 3 = mA 171 from by decide +kernel) (by decide +kernel) (by decide +kernel) hl.1 (Nat.le_of_ble_eq_true rfl) hW hS hp_sz hp_at cs (fun Hp locs hW hS => ?_)
  change W p l e room_1 s m #[Value.ref b0] below meth c Hp locs 373 sl Q (F0 m 473 ls [.int b])
  refine lv_pop hx hb dl_473 rfl ?_
  refine lv_goto (tgt := 887) hx hb dl_474 (by decide) ?_
  exact k _ _ _ _ _ hK ⟨hC, hX, hbl, hL, hl, hW, hS, hsl⟩
theorem lc_11 (hA : LA p s m c b0 L xs t ac D T P Hp locs ls i sl) (hi : i + 5 ≤ L) (hs : STP False 101 172 [.ref 0, .int (((xs (nI i + 1).toNatClampNeg).toUInt32 % 65536).toInt32)] [.ref 366, .int (((xs (nI i + 1).toNatClampNeg).toUInt32 % 65536).toInt32)] T P K) (k : ∀ (T1 : Nat → Nat → Int32) (P1 : Nat → Nat → Nat) (Hp1 : Heap) (locs1 : List Loc) (ls1 : Array Slot), K T1 P1 → LA p s m c b0 L xs t ac D T1 P1 Hp1 locs1 ls1 i sl → W p l e room_1 s m #[Value.ref b0] below meth c Hp1 locs1 373 sl Q (F0 m 887 ls1 [])) : W p l e room_1 s m #[Value.ref b0] below meth c Hp locs 373 sl Q (F0 m 477 ls []) := by
  obtain ⟨hC, hX, hbl, hL, hl, hW, hS, hsl⟩ := hA
  have hx := hC.1
  have hb := hC.2.1
  have hbA : ¬ (fun q : Nat => s.heap.size ≤ q) b0 := Nat.not_le.mpr hbl
  have cs : 373 ≤ room_1.cells ∧ sl ≤ room_1.slots := ⟨by decide, hsl⟩
  have v1 : vp_in (nI i + 1) L := by rw [show nI i + 1 = nI (i + 1) from nI_add i 1]; exact vp_in_nI (by omega) (by omega)
  obtain ⟨a, b, T1, P1, T2, e1, e2, hK, hab⟩ := hs
  refine lv_aload_n hx hb dl_477 rfl (lv_at hl 2 rfl) ?_
  refine lv_aload_n hx hb dl_478 rfl (lv_at hl 3 rfl) ?_
  refine lv_iload_n hx hb dl_479 rfl (lv_at hl 0 rfl) ?_
  refine lv_iconst (v := 1) hx hb dl_480 (by decide) ?_
  refine lv_iadd hx hb dl_481 ?_
  refine va_sld hx hb hX hbl hbA hS v1 dl_482 ?_
  refine lv_i2c hx hb dl_483 rfl ?_
  refine L_call (i := 61) (j := 101) (q := 736) (a := 0) (as := [.int (((xs (nI i + 1).toNatClampNeg).toUInt32 % 65536).toInt32)]) (rest := []) (by decide) hC dl_484 (by decide +kernel) e1 (hc0 (by decide +kernel)) rfl (show 2 = mA 101 from by decide +kernel) (by decide +kernel) (by decide +kernel) hl.1 (Nat.le_of_ble_eq_true rfl) hW hS hp_sz hp_at cs (fun Hp locs hW hS => ?_)
  change W p l e room_1 s m #[Value.ref b0] below meth c Hp locs 373 sl Q (F0 m 487 ls [.int a])
  refine lv_pop hx hb dl_487 rfl ?_
  refine lv_aload_n hx hb dl_488 rfl (lv_at hl 1 rfl) ?_
  refine lv_aload_n hx hb dl_489 rfl (lv_at hl 3 rfl) ?_
  refine lv_iload_n hx hb dl_490 rfl (lv_at hl 0 rfl) ?_
  refine lv_iconst (v := 1) hx hb dl_491 (by decide) ?_
  refine lv_iadd hx hb dl_492 ?_
  refine va_sld hx hb hX hbl hbA hS v1 dl_493 ?_
  refine lv_i2c hx hb dl_494 rfl ?_
  refine L_call (i := 65) (j := 172) (q := 1149) (a := 366) (as := [.int (((xs (nI i + 1).toNatClampNeg).toUInt32 % 65536).toInt32)]) (rest := []) (by decide) hC dl_495 (by decide +kernel) e2 (hc366 (by decide +kernel)) rfl (show 2 = mA 172 from by decide +kernel) (by decide +kernel) (by decide +kernel) hl.1 (Nat.le_of_ble_eq_true rfl) hW hS hp_sz hp_at cs (fun Hp locs hW hS => ?_)
  change W p l e room_1 s m #[Value.ref b0] below meth c Hp locs 373 sl Q (F0 m 498 ls [.int b])
  refine lv_pop hx hb dl_498 rfl ?_
  refine lv_goto (tgt := 887) hx hb dl_499 (by decide) ?_
  exact k _ _ _ _ _ hK ⟨hC, hX, hbl, hL, hl, hW, hS, hsl⟩
theorem lc_12 (hA : LA p s m c b0 L xs t ac D T P Hp locs ls i sl) (hi : i + 5 ≤ L) (hs : STP False 102 173 [.ref 0] [.ref 366] T P K) (k : ∀ (T1 : Nat → Nat → Int32) (P1 : Nat → Nat → Nat) (Hp1 : Heap) (locs1 : List Loc) (ls1 : Array Slot), K T1 P1 → LA p s m c b0 L xs t ac D T1 P1 Hp1 locs1 ls1 i sl → W p l e room_1 s m #[Value.ref b0] below meth c Hp1 locs1 373 sl Q (F0 m 887 ls1 [])) : W p l e room_1 s m #[Value.ref b0] below meth c Hp locs 373 sl Q (F0 m 502 ls []) := by
  obtain ⟨hC, hX, hbl, hL, hl, hW, hS, hsl⟩ := hA
  have hx := hC.1
  have hb := hC.2.1
  have hbA : ¬ (fun q : Nat => s.heap.size ≤ q) b0 := Nat.not_le.mpr hbl
  have cs : 373 ≤ room_1.cells ∧ sl ≤ room_1.slots := ⟨by decide, hsl⟩
  obtain ⟨a, b, T1, P1, T2, e1, e2, hK, hab⟩ := hs
  refine lv_aload_n hx hb dl_502 rfl (lv_at hl 2 rfl) ?_
  refine L_call (i := 66) (j := 102) (q := 744) (a := 0) (as := []) (rest := []) (by decide) hC dl_503 (by decide +kernel) e1 (hc0 (by decide +kernel)) rfl (show 1 = mA 102 from by decide +kernel) (by decide +kernel) (by decide +kernel) hl.1 (Nat.le_of_ble_eq_true rfl) hW hS hp_sz hp_at cs (fun Hp locs hW hS => ?_)
  change W p l e room_1 s m #[Value.ref b0] below meth c Hp locs 373 sl Q (F0 m 506 ls [.int a])
  refine lv_pop hx hb dl_506 rfl ?_
  refine lv_aload_n hx hb dl_507 rfl (lv_at hl 1 rfl) ?_
  refine L_call (i := 69) (j := 173) (q := 1153) (a := 366) (as := []) (rest := []) (by decide) hC dl_508 (by decide +kernel) e2 (hc366 (by decide +kernel)) rfl (show 1 = mA 173 from by decide +kernel) (by decide +kernel) (by decide +kernel) hl.1 (Nat.le_of_ble_eq_true rfl) hW hS hp_sz hp_at cs (fun Hp locs hW hS => ?_)
  change W p l e room_1 s m #[Value.ref b0] below meth c Hp locs 373 sl Q (F0 m 511 ls [.int b])
  refine lv_pop hx hb dl_511 rfl ?_
  refine lv_goto (tgt := 887) hx hb dl_512 (by decide) ?_
  exact k _ _ _ _ _ hK ⟨hC, hX, hbl, hL, hl, hW, hS, hsl⟩
theorem lc_13 (hA : LA p s m c b0 L xs t ac D T P Hp locs ls i sl) (hi : i + 5 ≤ L) (hs : STP False 103 183 [.ref 0] [.ref 366] T P K) (k : ∀ (T1 : Nat → Nat → Int32) (P1 : Nat → Nat → Nat) (Hp1 : Heap) (locs1 : List Loc) (ls1 : Array Slot), K T1 P1 → LA p s m c b0 L xs t ac D T1 P1 Hp1 locs1 ls1 i sl → W p l e room_1 s m #[Value.ref b0] below meth c Hp1 locs1 373 sl Q (F0 m 887 ls1 [])) : W p l e room_1 s m #[Value.ref b0] below meth c Hp locs 373 sl Q (F0 m 515 ls []) := by
  obtain ⟨hC, hX, hbl, hL, hl, hW, hS, hsl⟩ := hA
  have hx := hC.1
  have hb := hC.2.1
  have hbA : ¬ (fun q : Nat => s.heap.size ≤ q) b0 := Nat.not_le.mpr hbl
  have cs : 373 ≤ room_1.cells ∧ sl ≤ room_1.slots := ⟨by decide, hsl⟩
  obtain ⟨a, b, T1, P1, T2, e1, e2, hK, hab⟩ := hs
  refine lv_aload_n hx hb dl_515 rfl (lv_at hl 2 rfl) ?_
  refine L_call (i := 70) (j := 103) (q := 748) (a := 0) (as := []) (rest := []) (by decide) hC dl_516 (by decide +kernel) e1 (hc0 (by decide +kernel)) rfl (show 1 = mA 103 from by decide +kernel) (by decide +kernel) (by decide +kernel) hl.1 (Nat.le_of_ble_eq_true rfl) hW hS hp_sz hp_at cs (fun Hp locs hW hS => ?_)
  change W p l e room_1 s m #[Value.ref b0] below meth c Hp locs 373 sl Q (F0 m 519 ls [.int a])
  refine lv_pop hx hb dl_519 rfl ?_
  refine lv_aload_n hx hb dl_520 rfl (lv_at hl 1 rfl) ?_
  refine L_call (i := 73) (j := 183) (q := 1157) (a := 366) (as := []) (rest := []) (by decide) hC dl_521 (by decide +kernel) e2 (hc366 (by decide +kernel)) rfl (show 1 = mA 183 from by decide +kernel) (by decide +kernel) (by decide +kernel) hl.1 (Nat.le_of_ble_eq_true rfl) hW hS hp_sz hp_at cs (fun Hp locs hW hS => ?_)
  change W p l e room_1 s m #[Value.ref b0] below meth c Hp locs 373 sl Q (F0 m 524 ls [.int b])
  refine lv_pop hx hb dl_524 rfl ?_
  refine lv_goto (tgt := 887) hx hb dl_525 (by decide) ?_
  exact k _ _ _ _ _ hK ⟨hC, hX, hbl, hL, hl, hW, hS, hsl⟩
theorem lc_14 (hA : LA p s m c b0 L xs t ac D T P Hp locs ls i sl) (hi : i + 5 ≤ L) (hs : STP False 104 184 [.ref 0] [.ref 366] T P K) (k : ∀ (T1 : Nat → Nat → Int32) (P1 : Nat → Nat → Nat) (Hp1 : Heap) (locs1 : List Loc) (ls1 : Array Slot), K T1 P1 → LA p s m c b0 L xs t ac D T1 P1 Hp1 locs1 ls1 i sl → W p l e room_1 s m #[Value.ref b0] below meth c Hp1 locs1 373 sl Q (F0 m 887 ls1 [])) : W p l e room_1 s m #[Value.ref b0] below meth c Hp locs 373 sl Q (F0 m 528 ls []) := by
  obtain ⟨hC, hX, hbl, hL, hl, hW, hS, hsl⟩ := hA
  have hx := hC.1
  have hb := hC.2.1
  have hbA : ¬ (fun q : Nat => s.heap.size ≤ q) b0 := Nat.not_le.mpr hbl
  have cs : 373 ≤ room_1.cells ∧ sl ≤ room_1.slots := ⟨by decide, hsl⟩
  obtain ⟨a, b, T1, P1, T2, e1, e2, hK, hab⟩ := hs
  refine lv_aload_n hx hb dl_528 rfl (lv_at hl 2 rfl) ?_
  refine L_call (i := 74) (j := 104) (q := 752) (a := 0) (as := []) (rest := []) (by decide) hC dl_529 (by decide +kernel) e1 (hc0 (by decide +kernel)) rfl (show 1 = mA 104 from by decide +kernel) (by decide +kernel) (by decide +kernel) hl.1 (Nat.le_of_ble_eq_true rfl) hW hS hp_sz hp_at cs (fun Hp locs hW hS => ?_)
  change W p l e room_1 s m #[Value.ref b0] below meth c Hp locs 373 sl Q (F0 m 532 ls [.int a])
  refine lv_pop hx hb dl_532 rfl ?_
  refine lv_aload_n hx hb dl_533 rfl (lv_at hl 1 rfl) ?_
  refine L_call (i := 77) (j := 184) (q := 1161) (a := 366) (as := []) (rest := []) (by decide) hC dl_534 (by decide +kernel) e2 (hc366 (by decide +kernel)) rfl (show 1 = mA 184 from by decide +kernel) (by decide +kernel) (by decide +kernel) hl.1 (Nat.le_of_ble_eq_true rfl) hW hS hp_sz hp_at cs (fun Hp locs hW hS => ?_)
  change W p l e room_1 s m #[Value.ref b0] below meth c Hp locs 373 sl Q (F0 m 537 ls [.int b])
  refine lv_pop hx hb dl_537 rfl ?_
  refine lv_goto (tgt := 887) hx hb dl_538 (by decide) ?_
  exact k _ _ _ _ _ hK ⟨hC, hX, hbl, hL, hl, hW, hS, hsl⟩
theorem lc_15 (hA : LA p s m c b0 L xs t ac D T P Hp locs ls i sl) (hi : i + 5 ≤ L) (hs : STP False 105 185 [.ref 0] [.ref 366] T P K) (k : ∀ (T1 : Nat → Nat → Int32) (P1 : Nat → Nat → Nat) (Hp1 : Heap) (locs1 : List Loc) (ls1 : Array Slot), K T1 P1 → LA p s m c b0 L xs t ac D T1 P1 Hp1 locs1 ls1 i sl → W p l e room_1 s m #[Value.ref b0] below meth c Hp1 locs1 373 sl Q (F0 m 887 ls1 [])) : W p l e room_1 s m #[Value.ref b0] below meth c Hp locs 373 sl Q (F0 m 541 ls []) := by
  obtain ⟨hC, hX, hbl, hL, hl, hW, hS, hsl⟩ := hA
  have hx := hC.1
  have hb := hC.2.1
  have hbA : ¬ (fun q : Nat => s.heap.size ≤ q) b0 := Nat.not_le.mpr hbl
  have cs : 373 ≤ room_1.cells ∧ sl ≤ room_1.slots := ⟨by decide, hsl⟩
  obtain ⟨a, b, T1, P1, T2, e1, e2, hK, hab⟩ := hs
  refine lv_aload_n hx hb dl_541 rfl (lv_at hl 2 rfl) ?_
  refine L_call (i := 78) (j := 105) (q := 760) (a := 0) (as := []) (rest := []) (by decide) hC dl_542 (by decide +kernel) e1 (hc0 (by decide +kernel)) rfl (show 1 = mA 105 from by decide +kernel) (by decide +kernel) (by decide +kernel) hl.1 (Nat.le_of_ble_eq_true rfl) hW hS hp_sz hp_at cs (fun Hp locs hW hS => ?_)
  change W p l e room_1 s m #[Value.ref b0] below meth c Hp locs 373 sl Q (F0 m 545 ls [.int a])
  refine lv_pop hx hb dl_545 rfl ?_
  refine lv_aload_n hx hb dl_546 rfl (lv_at hl 1 rfl) ?_
  refine L_call (i := 81) (j := 185) (q := 1165) (a := 366) (as := []) (rest := []) (by decide) hC dl_547 (by decide +kernel) e2 (hc366 (by decide +kernel)) rfl (show 1 = mA 185 from by decide +kernel) (by decide +kernel) (by decide +kernel) hl.1 (Nat.le_of_ble_eq_true rfl) hW hS hp_sz hp_at cs (fun Hp locs hW hS => ?_)
  change W p l e room_1 s m #[Value.ref b0] below meth c Hp locs 373 sl Q (F0 m 550 ls [.int b])
  refine lv_pop hx hb dl_550 rfl ?_
  refine lv_goto (tgt := 887) hx hb dl_551 (by decide) ?_
  exact k _ _ _ _ _ hK ⟨hC, hX, hbl, hL, hl, hW, hS, hsl⟩
theorem lc_16 (hA : LA p s m c b0 L xs t ac D T P Hp locs ls i sl) (hi : i + 5 ≤ L) (hs : STP False 106 186 [.ref 0] [.ref 366] T P K) (k : ∀ (T1 : Nat → Nat → Int32) (P1 : Nat → Nat → Nat) (Hp1 : Heap) (locs1 : List Loc) (ls1 : Array Slot), K T1 P1 → LA p s m c b0 L xs t ac D T1 P1 Hp1 locs1 ls1 i sl → W p l e room_1 s m #[Value.ref b0] below meth c Hp1 locs1 373 sl Q (F0 m 887 ls1 [])) : W p l e room_1 s m #[Value.ref b0] below meth c Hp locs 373 sl Q (F0 m 554 ls []) := by
  obtain ⟨hC, hX, hbl, hL, hl, hW, hS, hsl⟩ := hA
  have hx := hC.1
  have hb := hC.2.1
  have hbA : ¬ (fun q : Nat => s.heap.size ≤ q) b0 := Nat.not_le.mpr hbl
  have cs : 373 ≤ room_1.cells ∧ sl ≤ room_1.slots := ⟨by decide, hsl⟩
  obtain ⟨a, b, T1, P1, T2, e1, e2, hK, hab⟩ := hs
  refine lv_aload_n hx hb dl_554 rfl (lv_at hl 2 rfl) ?_
  refine L_call (i := 82) (j := 106) (q := 764) (a := 0) (as := []) (rest := []) (by decide) hC dl_555 (by decide +kernel) e1 (hc0 (by decide +kernel)) rfl (show 1 = mA 106 from by decide +kernel) (by decide +kernel) (by decide +kernel) hl.1 (Nat.le_of_ble_eq_true rfl) hW hS hp_sz hp_at cs (fun Hp locs hW hS => ?_)
  change W p l e room_1 s m #[Value.ref b0] below meth c Hp locs 373 sl Q (F0 m 558 ls [.int a])
  refine lv_pop hx hb dl_558 rfl ?_
  refine lv_aload_n hx hb dl_559 rfl (lv_at hl 1 rfl) ?_
  refine L_call (i := 85) (j := 186) (q := 1169) (a := 366) (as := []) (rest := []) (by decide) hC dl_560 (by decide +kernel) e2 (hc366 (by decide +kernel)) rfl (show 1 = mA 186 from by decide +kernel) (by decide +kernel) (by decide +kernel) hl.1 (Nat.le_of_ble_eq_true rfl) hW hS hp_sz hp_at cs (fun Hp locs hW hS => ?_)
  change W p l e room_1 s m #[Value.ref b0] below meth c Hp locs 373 sl Q (F0 m 563 ls [.int b])
  refine lv_pop hx hb dl_563 rfl ?_
  refine lv_goto (tgt := 887) hx hb dl_564 (by decide) ?_
  exact k _ _ _ _ _ hK ⟨hC, hX, hbl, hL, hl, hW, hS, hsl⟩
theorem lc_17 (hA : LA p s m c b0 L xs t ac D T P Hp locs ls i sl) (hi : i + 5 ≤ L) (hs : STP False 107 189 [.ref 0, .int (xs (nI i + 1).toNatClampNeg), .int (xs (nI i + 2).toNatClampNeg)] [.ref 366, .int (xs (nI i + 1).toNatClampNeg), .int (xs (nI i + 2).toNatClampNeg)] T P K) (k : ∀ (T1 : Nat → Nat → Int32) (P1 : Nat → Nat → Nat) (Hp1 : Heap) (locs1 : List Loc) (ls1 : Array Slot), K T1 P1 → LA p s m c b0 L xs t ac D T1 P1 Hp1 locs1 ls1 i sl → W p l e room_1 s m #[Value.ref b0] below meth c Hp1 locs1 373 sl Q (F0 m 887 ls1 [])) : W p l e room_1 s m #[Value.ref b0] below meth c Hp locs 373 sl Q (F0 m 567 ls []) := by
  obtain ⟨hC, hX, hbl, hL, hl, hW, hS, hsl⟩ := hA
  have hx := hC.1
  have hb := hC.2.1
  have hbA : ¬ (fun q : Nat => s.heap.size ≤ q) b0 := Nat.not_le.mpr hbl
  have cs : 373 ≤ room_1.cells ∧ sl ≤ room_1.slots := ⟨by decide, hsl⟩
  have v1 : vp_in (nI i + 1) L := by rw [show nI i + 1 = nI (i + 1) from nI_add i 1]; exact vp_in_nI (by omega) (by omega)
  have v2 : vp_in (nI i + 2) L := by rw [show nI i + 2 = nI (i + 2) from nI_add i 2]; exact vp_in_nI (by omega) (by omega)
  obtain ⟨a, b, T1, P1, T2, e1, e2, hK, hab⟩ := hs
  refine lv_aload_n hx hb dl_567 rfl (lv_at hl 2 rfl) ?_
  refine lv_aload_n hx hb dl_568 rfl (lv_at hl 3 rfl) ?_
  refine lv_iload_n hx hb dl_569 rfl (lv_at hl 0 rfl) ?_
  refine lv_iconst (v := 1) hx hb dl_570 (by decide) ?_
  refine lv_iadd hx hb dl_571 ?_
  refine va_sld hx hb hX hbl hbA hS v1 dl_572 ?_
  refine lv_aload_n hx hb dl_573 rfl (lv_at hl 3 rfl) ?_
  refine lv_iload_n hx hb dl_574 rfl (lv_at hl 0 rfl) ?_
  refine lv_iconst (v := 2) hx hb dl_575 (by decide) ?_
  refine lv_iadd hx hb dl_576 ?_
  refine va_sld hx hb hX hbl hbA hS v2 dl_577 ?_
  refine L_call (i := 86) (j := 107) (q := 768) (a := 0) (as := [.int (xs (nI i + 1).toNatClampNeg), .int (xs (nI i + 2).toNatClampNeg)]) (rest := []) (by decide) hC dl_578 (by decide +kernel) e1 (hc0 (by decide +kernel)) rfl (show 3 = mA 107 from by decide +kernel) (by decide +kernel) (by decide +kernel) hl.1 (Nat.le_of_ble_eq_true rfl) hW hS hp_sz hp_at cs (fun Hp locs hW hS => ?_)
  change W p l e room_1 s m #[Value.ref b0] below meth c Hp locs 373 sl Q (F0 m 581 ls [.int a])
  refine lv_pop hx hb dl_581 rfl ?_
  refine lv_aload_n hx hb dl_582 rfl (lv_at hl 1 rfl) ?_
  refine lv_aload_n hx hb dl_583 rfl (lv_at hl 3 rfl) ?_
  refine lv_iload_n hx hb dl_584 rfl (lv_at hl 0 rfl) ?_
  refine lv_iconst (v := 1) hx hb dl_585 (by decide) ?_
  refine lv_iadd hx hb dl_586 ?_
  refine va_sld hx hb hX hbl hbA hS v1 dl_587 ?_
  refine lv_aload_n hx hb dl_588 rfl (lv_at hl 3 rfl) ?_
  refine lv_iload_n hx hb dl_589 rfl (lv_at hl 0 rfl) ?_
  refine lv_iconst (v := 2) hx hb dl_590 (by decide) ?_
  refine lv_iadd hx hb dl_591 ?_
  refine va_sld hx hb hX hbl hbA hS v2 dl_592 ?_
  refine L_call (i := 89) (j := 189) (q := 1173) (a := 366) (as := [.int (xs (nI i + 1).toNatClampNeg), .int (xs (nI i + 2).toNatClampNeg)]) (rest := []) (by decide) hC dl_593 (by decide +kernel) e2 (hc366 (by decide +kernel)) rfl (show 3 = mA 189 from by decide +kernel) (by decide +kernel) (by decide +kernel) hl.1 (Nat.le_of_ble_eq_true rfl) hW hS hp_sz hp_at cs (fun Hp locs hW hS => ?_)
  change W p l e room_1 s m #[Value.ref b0] below meth c Hp locs 373 sl Q (F0 m 596 ls [.int b])
  refine lv_pop hx hb dl_596 rfl ?_
  refine lv_goto (tgt := 887) hx hb dl_597 (by decide) ?_
  exact k _ _ _ _ _ hK ⟨hC, hX, hbl, hL, hl, hW, hS, hsl⟩
theorem lc_18 (hA : LA p s m c b0 L xs t ac D T P Hp locs ls i sl) (hi : i + 5 ≤ L) (hs : STP False 108 191 [.ref 0, .int (xs (nI i + 1).toNatClampNeg), .int (xs (nI i + 2).toNatClampNeg)] [.ref 366, .int (xs (nI i + 1).toNatClampNeg), .int (xs (nI i + 2).toNatClampNeg)] T P K) (k : ∀ (T1 : Nat → Nat → Int32) (P1 : Nat → Nat → Nat) (Hp1 : Heap) (locs1 : List Loc) (ls1 : Array Slot), K T1 P1 → LA p s m c b0 L xs t ac D T1 P1 Hp1 locs1 ls1 i sl → W p l e room_1 s m #[Value.ref b0] below meth c Hp1 locs1 373 sl Q (F0 m 887 ls1 [])) : W p l e room_1 s m #[Value.ref b0] below meth c Hp locs 373 sl Q (F0 m 600 ls []) := by
  obtain ⟨hC, hX, hbl, hL, hl, hW, hS, hsl⟩ := hA
  have hx := hC.1
  have hb := hC.2.1
  have hbA : ¬ (fun q : Nat => s.heap.size ≤ q) b0 := Nat.not_le.mpr hbl
  have cs : 373 ≤ room_1.cells ∧ sl ≤ room_1.slots := ⟨by decide, hsl⟩
  have v1 : vp_in (nI i + 1) L := by rw [show nI i + 1 = nI (i + 1) from nI_add i 1]; exact vp_in_nI (by omega) (by omega)
  have v2 : vp_in (nI i + 2) L := by rw [show nI i + 2 = nI (i + 2) from nI_add i 2]; exact vp_in_nI (by omega) (by omega)
  obtain ⟨a, b, T1, P1, T2, e1, e2, hK, hab⟩ := hs
  refine lv_aload_n hx hb dl_600 rfl (lv_at hl 2 rfl) ?_
  refine lv_aload_n hx hb dl_601 rfl (lv_at hl 3 rfl) ?_
  refine lv_iload_n hx hb dl_602 rfl (lv_at hl 0 rfl) ?_
  refine lv_iconst (v := 1) hx hb dl_603 (by decide) ?_
  refine lv_iadd hx hb dl_604 ?_
  refine va_sld hx hb hX hbl hbA hS v1 dl_605 ?_
  refine lv_aload_n hx hb dl_606 rfl (lv_at hl 3 rfl) ?_
  refine lv_iload_n hx hb dl_607 rfl (lv_at hl 0 rfl) ?_
  refine lv_iconst (v := 2) hx hb dl_608 (by decide) ?_
  refine lv_iadd hx hb dl_609 ?_
  refine va_sld hx hb hX hbl hbA hS v2 dl_610 ?_
  refine L_call (i := 90) (j := 108) (q := 782) (a := 0) (as := [.int (xs (nI i + 1).toNatClampNeg), .int (xs (nI i + 2).toNatClampNeg)]) (rest := []) (by decide) hC dl_611 (by decide +kernel) e1 (hc0 (by decide +kernel)) rfl (show 3 = mA 108 from by decide +kernel) (by decide +kernel) (by decide +kernel) hl.1 (Nat.le_of_ble_eq_true rfl) hW hS hp_sz hp_at cs (fun Hp locs hW hS => ?_)
  change W p l e room_1 s m #[Value.ref b0] below meth c Hp locs 373 sl Q (F0 m 614 ls [.int a])
  refine lv_pop hx hb dl_614 rfl ?_
  refine lv_aload_n hx hb dl_615 rfl (lv_at hl 1 rfl) ?_
  refine lv_aload_n hx hb dl_616 rfl (lv_at hl 3 rfl) ?_
  refine lv_iload_n hx hb dl_617 rfl (lv_at hl 0 rfl) ?_
  refine lv_iconst (v := 1) hx hb dl_618 (by decide) ?_
  refine lv_iadd hx hb dl_619 ?_
  refine va_sld hx hb hX hbl hbA hS v1 dl_620 ?_
  refine lv_aload_n hx hb dl_621 rfl (lv_at hl 3 rfl) ?_
  refine lv_iload_n hx hb dl_622 rfl (lv_at hl 0 rfl) ?_
  refine lv_iconst (v := 2) hx hb dl_623 (by decide) ?_
  refine lv_iadd hx hb dl_624 ?_
  refine va_sld hx hb hX hbl hbA hS v2 dl_625 ?_
  refine L_call (i := 93) (j := 191) (q := 1185) (a := 366) (as := [.int (xs (nI i + 1).toNatClampNeg), .int (xs (nI i + 2).toNatClampNeg)]) (rest := []) (by decide) hC dl_626 (by decide +kernel) e2 (hc366 (by decide +kernel)) rfl (show 3 = mA 191 from by decide +kernel) (by decide +kernel) (by decide +kernel) hl.1 (Nat.le_of_ble_eq_true rfl) hW hS hp_sz hp_at cs (fun Hp locs hW hS => ?_)
  change W p l e room_1 s m #[Value.ref b0] below meth c Hp locs 373 sl Q (F0 m 629 ls [.int b])
  refine lv_pop hx hb dl_629 rfl ?_
  refine lv_goto (tgt := 887) hx hb dl_630 (by decide) ?_
  exact k _ _ _ _ _ hK ⟨hC, hX, hbl, hL, hl, hW, hS, hsl⟩
theorem lc_19 (hA : LA p s m c b0 L xs t ac D T P Hp locs ls i sl) (hi : i + 5 ≤ L) (hs : STP False 109 194 [.ref 0, .int (xs (nI i + 1).toNatClampNeg), .int (xs (nI i + 2).toNatClampNeg)] [.ref 366, .int (xs (nI i + 1).toNatClampNeg), .int (xs (nI i + 2).toNatClampNeg)] T P K) (k : ∀ (T1 : Nat → Nat → Int32) (P1 : Nat → Nat → Nat) (Hp1 : Heap) (locs1 : List Loc) (ls1 : Array Slot), K T1 P1 → LA p s m c b0 L xs t ac D T1 P1 Hp1 locs1 ls1 i sl → W p l e room_1 s m #[Value.ref b0] below meth c Hp1 locs1 373 sl Q (F0 m 887 ls1 [])) : W p l e room_1 s m #[Value.ref b0] below meth c Hp locs 373 sl Q (F0 m 633 ls []) := by
  obtain ⟨hC, hX, hbl, hL, hl, hW, hS, hsl⟩ := hA
  have hx := hC.1
  have hb := hC.2.1
  have hbA : ¬ (fun q : Nat => s.heap.size ≤ q) b0 := Nat.not_le.mpr hbl
  have cs : 373 ≤ room_1.cells ∧ sl ≤ room_1.slots := ⟨by decide, hsl⟩
  have v1 : vp_in (nI i + 1) L := by rw [show nI i + 1 = nI (i + 1) from nI_add i 1]; exact vp_in_nI (by omega) (by omega)
  have v2 : vp_in (nI i + 2) L := by rw [show nI i + 2 = nI (i + 2) from nI_add i 2]; exact vp_in_nI (by omega) (by omega)
  obtain ⟨a, b, T1, P1, T2, e1, e2, hK, hab⟩ := hs
  refine lv_aload_n hx hb dl_633 rfl (lv_at hl 2 rfl) ?_
  refine lv_aload_n hx hb dl_634 rfl (lv_at hl 3 rfl) ?_
  refine lv_iload_n hx hb dl_635 rfl (lv_at hl 0 rfl) ?_
  refine lv_iconst (v := 1) hx hb dl_636 (by decide) ?_
  refine lv_iadd hx hb dl_637 ?_
  refine va_sld hx hb hX hbl hbA hS v1 dl_638 ?_
  refine lv_aload_n hx hb dl_639 rfl (lv_at hl 3 rfl) ?_
  refine lv_iload_n hx hb dl_640 rfl (lv_at hl 0 rfl) ?_
  refine lv_iconst (v := 2) hx hb dl_641 (by decide) ?_
  refine lv_iadd hx hb dl_642 ?_
  refine va_sld hx hb hX hbl hbA hS v2 dl_643 ?_
  refine L_call (i := 94) (j := 109) (q := 792) (a := 0) (as := [.int (xs (nI i + 1).toNatClampNeg), .int (xs (nI i + 2).toNatClampNeg)]) (rest := []) (by decide) hC dl_644 (by decide +kernel) e1 (hc0 (by decide +kernel)) rfl (show 3 = mA 109 from by decide +kernel) (by decide +kernel) (by decide +kernel) hl.1 (Nat.le_of_ble_eq_true rfl) hW hS hp_sz hp_at cs (fun Hp locs hW hS => ?_)
  change W p l e room_1 s m #[Value.ref b0] below meth c Hp locs 373 sl Q (F0 m 647 ls [.int a])
  refine lv_pop hx hb dl_647 rfl ?_
  refine lv_aload_n hx hb dl_648 rfl (lv_at hl 1 rfl) ?_
  refine lv_aload_n hx hb dl_649 rfl (lv_at hl 3 rfl) ?_
  refine lv_iload_n hx hb dl_650 rfl (lv_at hl 0 rfl) ?_
  refine lv_iconst (v := 1) hx hb dl_651 (by decide) ?_
  refine lv_iadd hx hb dl_652 ?_
  refine va_sld hx hb hX hbl hbA hS v1 dl_653 ?_
  refine lv_aload_n hx hb dl_654 rfl (lv_at hl 3 rfl) ?_
  refine lv_iload_n hx hb dl_655 rfl (lv_at hl 0 rfl) ?_
  refine lv_iconst (v := 2) hx hb dl_656 (by decide) ?_
  refine lv_iadd hx hb dl_657 ?_
  refine va_sld hx hb hX hbl hbA hS v2 dl_658 ?_
  refine L_call (i := 97) (j := 194) (q := 1193) (a := 366) (as := [.int (xs (nI i + 1).toNatClampNeg), .int (xs (nI i + 2).toNatClampNeg)]) (rest := []) (by decide) hC dl_659 (by decide +kernel) e2 (hc366 (by decide +kernel)) rfl (show 3 = mA 194 from by decide +kernel) (by decide +kernel) (by decide +kernel) hl.1 (Nat.le_of_ble_eq_true rfl) hW hS hp_sz hp_at cs (fun Hp locs hW hS => ?_)
  change W p l e room_1 s m #[Value.ref b0] below meth c Hp locs 373 sl Q (F0 m 662 ls [.int b])
  refine lv_pop hx hb dl_662 rfl ?_
  refine lv_goto (tgt := 887) hx hb dl_663 (by decide) ?_
  exact k _ _ _ _ _ hK ⟨hC, hX, hbl, hL, hl, hW, hS, hsl⟩
theorem lc_20 (hA : LA p s m c b0 L xs t ac D T P Hp locs ls i sl) (hi : i + 5 ≤ L) (hs : STP False 110 195 [.ref 0, .int (xs (nI i + 1).toNatClampNeg)] [.ref 366, .int (xs (nI i + 1).toNatClampNeg)] T P K) (k : ∀ (T1 : Nat → Nat → Int32) (P1 : Nat → Nat → Nat) (Hp1 : Heap) (locs1 : List Loc) (ls1 : Array Slot), K T1 P1 → LA p s m c b0 L xs t ac D T1 P1 Hp1 locs1 ls1 i sl → W p l e room_1 s m #[Value.ref b0] below meth c Hp1 locs1 373 sl Q (F0 m 887 ls1 [])) : W p l e room_1 s m #[Value.ref b0] below meth c Hp locs 373 sl Q (F0 m 666 ls []) := by
  obtain ⟨hC, hX, hbl, hL, hl, hW, hS, hsl⟩ := hA
  have hx := hC.1
  have hb := hC.2.1
  have hbA : ¬ (fun q : Nat => s.heap.size ≤ q) b0 := Nat.not_le.mpr hbl
  have cs : 373 ≤ room_1.cells ∧ sl ≤ room_1.slots := ⟨by decide, hsl⟩
  have v1 : vp_in (nI i + 1) L := by rw [show nI i + 1 = nI (i + 1) from nI_add i 1]; exact vp_in_nI (by omega) (by omega)
  obtain ⟨a, b, T1, P1, T2, e1, e2, hK, hab⟩ := hs
  refine lv_aload_n hx hb dl_666 rfl (lv_at hl 2 rfl) ?_
  refine lv_aload_n hx hb dl_667 rfl (lv_at hl 3 rfl) ?_
  refine lv_iload_n hx hb dl_668 rfl (lv_at hl 0 rfl) ?_
  refine lv_iconst (v := 1) hx hb dl_669 (by decide) ?_
  refine lv_iadd hx hb dl_670 ?_
  refine va_sld hx hb hX hbl hbA hS v1 dl_671 ?_
  refine L_call (i := 98) (j := 110) (q := 805) (a := 0) (as := [.int (xs (nI i + 1).toNatClampNeg)]) (rest := []) (by decide) hC dl_672 (by decide +kernel) e1 (hc0 (by decide +kernel)) rfl (show 2 = mA 110 from by decide +kernel) (by decide +kernel) (by decide +kernel) hl.1 (Nat.le_of_ble_eq_true rfl) hW hS hp_sz hp_at cs (fun Hp locs hW hS => ?_)
  change W p l e room_1 s m #[Value.ref b0] below meth c Hp locs 373 sl Q (F0 m 675 ls [.int a])
  refine lv_pop hx hb dl_675 rfl ?_
  refine lv_aload_n hx hb dl_676 rfl (lv_at hl 1 rfl) ?_
  refine lv_aload_n hx hb dl_677 rfl (lv_at hl 3 rfl) ?_
  refine lv_iload_n hx hb dl_678 rfl (lv_at hl 0 rfl) ?_
  refine lv_iconst (v := 1) hx hb dl_679 (by decide) ?_
  refine lv_iadd hx hb dl_680 ?_
  refine va_sld hx hb hX hbl hbA hS v1 dl_681 ?_
  refine L_call (i := 101) (j := 195) (q := 1205) (a := 366) (as := [.int (xs (nI i + 1).toNatClampNeg)]) (rest := []) (by decide) hC dl_682 (by decide +kernel) e2 (hc366 (by decide +kernel)) rfl (show 2 = mA 195 from by decide +kernel) (by decide +kernel) (by decide +kernel) hl.1 (Nat.le_of_ble_eq_true rfl) hW hS hp_sz hp_at cs (fun Hp locs hW hS => ?_)
  change W p l e room_1 s m #[Value.ref b0] below meth c Hp locs 373 sl Q (F0 m 685 ls [.int b])
  refine lv_pop hx hb dl_685 rfl ?_
  refine lv_goto (tgt := 887) hx hb dl_686 (by decide) ?_
  exact k _ _ _ _ _ hK ⟨hC, hX, hbl, hL, hl, hW, hS, hsl⟩
theorem lc_21 (hA : LA p s m c b0 L xs t ac D T P Hp locs ls i sl) (hi : i + 5 ≤ L) (hs : STP False 111 196 [.ref 0, .int (xs (nI i + 1).toNatClampNeg), .int (xs (nI i + 2).toNatClampNeg)] [.ref 366, .int (xs (nI i + 1).toNatClampNeg), .int (xs (nI i + 2).toNatClampNeg)] T P K) (k : ∀ (T1 : Nat → Nat → Int32) (P1 : Nat → Nat → Nat) (Hp1 : Heap) (locs1 : List Loc) (ls1 : Array Slot), K T1 P1 → LA p s m c b0 L xs t ac D T1 P1 Hp1 locs1 ls1 i sl → W p l e room_1 s m #[Value.ref b0] below meth c Hp1 locs1 373 sl Q (F0 m 887 ls1 [])) : W p l e room_1 s m #[Value.ref b0] below meth c Hp locs 373 sl Q (F0 m 689 ls []) := by
  obtain ⟨hC, hX, hbl, hL, hl, hW, hS, hsl⟩ := hA
  have hx := hC.1
  have hb := hC.2.1
  have hbA : ¬ (fun q : Nat => s.heap.size ≤ q) b0 := Nat.not_le.mpr hbl
  have cs : 373 ≤ room_1.cells ∧ sl ≤ room_1.slots := ⟨by decide, hsl⟩
  have v1 : vp_in (nI i + 1) L := by rw [show nI i + 1 = nI (i + 1) from nI_add i 1]; exact vp_in_nI (by omega) (by omega)
  have v2 : vp_in (nI i + 2) L := by rw [show nI i + 2 = nI (i + 2) from nI_add i 2]; exact vp_in_nI (by omega) (by omega)
  obtain ⟨a, b, T1, P1, T2, e1, e2, hK, hab⟩ := hs
  refine lv_aload_n hx hb dl_689 rfl (lv_at hl 2 rfl) ?_
  refine lv_aload_n hx hb dl_690 rfl (lv_at hl 3 rfl) ?_
  refine lv_iload_n hx hb dl_691 rfl (lv_at hl 0 rfl) ?_
  refine lv_iconst (v := 1) hx hb dl_692 (by decide) ?_
  refine lv_iadd hx hb dl_693 ?_
  refine va_sld hx hb hX hbl hbA hS v1 dl_694 ?_
  refine lv_aload_n hx hb dl_695 rfl (lv_at hl 3 rfl) ?_
  refine lv_iload_n hx hb dl_696 rfl (lv_at hl 0 rfl) ?_
  refine lv_iconst (v := 2) hx hb dl_697 (by decide) ?_
  refine lv_iadd hx hb dl_698 ?_
  refine va_sld hx hb hX hbl hbA hS v2 dl_699 ?_
  refine L_call (i := 102) (j := 111) (q := 817) (a := 0) (as := [.int (xs (nI i + 1).toNatClampNeg), .int (xs (nI i + 2).toNatClampNeg)]) (rest := []) (by decide) hC dl_700 (by decide +kernel) e1 (hc0 (by decide +kernel)) rfl (show 3 = mA 111 from by decide +kernel) (by decide +kernel) (by decide +kernel) hl.1 (Nat.le_of_ble_eq_true rfl) hW hS hp_sz hp_at cs (fun Hp locs hW hS => ?_)
  change W p l e room_1 s m #[Value.ref b0] below meth c Hp locs 373 sl Q (F0 m 703 ls [.int a])
  refine lv_pop hx hb dl_703 rfl ?_
  refine lv_aload_n hx hb dl_704 rfl (lv_at hl 1 rfl) ?_
  refine lv_aload_n hx hb dl_705 rfl (lv_at hl 3 rfl) ?_
  refine lv_iload_n hx hb dl_706 rfl (lv_at hl 0 rfl) ?_
  refine lv_iconst (v := 1) hx hb dl_707 (by decide) ?_
  refine lv_iadd hx hb dl_708 ?_
  refine va_sld hx hb hX hbl hbA hS v1 dl_709 ?_
  refine lv_aload_n hx hb dl_710 rfl (lv_at hl 3 rfl) ?_
  refine lv_iload_n hx hb dl_711 rfl (lv_at hl 0 rfl) ?_
  refine lv_iconst (v := 2) hx hb dl_712 (by decide) ?_
  refine lv_iadd hx hb dl_713 ?_
  refine va_sld hx hb hX hbl hbA hS v2 dl_714 ?_
  refine L_call (i := 105) (j := 196) (q := 1209) (a := 366) (as := [.int (xs (nI i + 1).toNatClampNeg), .int (xs (nI i + 2).toNatClampNeg)]) (rest := []) (by decide) hC dl_715 (by decide +kernel) e2 (hc366 (by decide +kernel)) rfl (show 3 = mA 196 from by decide +kernel) (by decide +kernel) (by decide +kernel) hl.1 (Nat.le_of_ble_eq_true rfl) hW hS hp_sz hp_at cs (fun Hp locs hW hS => ?_)
  change W p l e room_1 s m #[Value.ref b0] below meth c Hp locs 373 sl Q (F0 m 718 ls [.int b])
  refine lv_pop hx hb dl_718 rfl ?_
  refine lv_goto (tgt := 887) hx hb dl_719 (by decide) ?_
  exact k _ _ _ _ _ hK ⟨hC, hX, hbl, hL, hl, hW, hS, hsl⟩
theorem lc_22 (hA : LA p s m c b0 L xs t ac D T P Hp locs ls i sl) (hi : i + 5 ≤ L) (hs : STP False 112 201 [.ref 0, .int (xs (nI i + 1).toNatClampNeg)] [.ref 366, .int (xs (nI i + 1).toNatClampNeg)] T P K) (k : ∀ (T1 : Nat → Nat → Int32) (P1 : Nat → Nat → Nat) (Hp1 : Heap) (locs1 : List Loc) (ls1 : Array Slot), K T1 P1 → LA p s m c b0 L xs t ac D T1 P1 Hp1 locs1 ls1 i sl → W p l e room_1 s m #[Value.ref b0] below meth c Hp1 locs1 373 sl Q (F0 m 887 ls1 [])) : W p l e room_1 s m #[Value.ref b0] below meth c Hp locs 373 sl Q (F0 m 722 ls []) := by
  obtain ⟨hC, hX, hbl, hL, hl, hW, hS, hsl⟩ := hA
  have hx := hC.1
  have hb := hC.2.1
  have hbA : ¬ (fun q : Nat => s.heap.size ≤ q) b0 := Nat.not_le.mpr hbl
  have cs : 373 ≤ room_1.cells ∧ sl ≤ room_1.slots := ⟨by decide, hsl⟩
  have v1 : vp_in (nI i + 1) L := by rw [show nI i + 1 = nI (i + 1) from nI_add i 1]; exact vp_in_nI (by omega) (by omega)
  obtain ⟨a, b, T1, P1, T2, e1, e2, hK, hab⟩ := hs
  refine lv_aload_n hx hb dl_722 rfl (lv_at hl 2 rfl) ?_
  refine lv_aload_n hx hb dl_723 rfl (lv_at hl 3 rfl) ?_
  refine lv_iload_n hx hb dl_724 rfl (lv_at hl 0 rfl) ?_
  refine lv_iconst (v := 1) hx hb dl_725 (by decide) ?_
  refine lv_iadd hx hb dl_726 ?_
  refine va_sld hx hb hX hbl hbA hS v1 dl_727 ?_
  refine L_call (i := 106) (j := 112) (q := 825) (a := 0) (as := [.int (xs (nI i + 1).toNatClampNeg)]) (rest := []) (by decide) hC dl_728 (by decide +kernel) e1 (hc0 (by decide +kernel)) rfl (show 2 = mA 112 from by decide +kernel) (by decide +kernel) (by decide +kernel) hl.1 (Nat.le_of_ble_eq_true rfl) hW hS hp_sz hp_at cs (fun Hp locs hW hS => ?_)
  change W p l e room_1 s m #[Value.ref b0] below meth c Hp locs 373 sl Q (F0 m 731 ls [.int a])
  refine lv_pop hx hb dl_731 rfl ?_
  refine lv_aload_n hx hb dl_732 rfl (lv_at hl 1 rfl) ?_
  refine lv_aload_n hx hb dl_733 rfl (lv_at hl 3 rfl) ?_
  refine lv_iload_n hx hb dl_734 rfl (lv_at hl 0 rfl) ?_
  refine lv_iconst (v := 1) hx hb dl_735 (by decide) ?_
  refine lv_iadd hx hb dl_736 ?_
  refine va_sld hx hb hX hbl hbA hS v1 dl_737 ?_
  refine L_call (i := 109) (j := 201) (q := 1213) (a := 366) (as := [.int (xs (nI i + 1).toNatClampNeg)]) (rest := []) (by decide) hC dl_738 (by decide +kernel) e2 (hc366 (by decide +kernel)) rfl (show 2 = mA 201 from by decide +kernel) (by decide +kernel) (by decide +kernel) hl.1 (Nat.le_of_ble_eq_true rfl) hW hS hp_sz hp_at cs (fun Hp locs hW hS => ?_)
  change W p l e room_1 s m #[Value.ref b0] below meth c Hp locs 373 sl Q (F0 m 741 ls [.int b])
  refine lv_pop hx hb dl_741 rfl ?_
  refine lv_goto (tgt := 887) hx hb dl_742 (by decide) ?_
  exact k _ _ _ _ _ hK ⟨hC, hX, hbl, hL, hl, hW, hS, hsl⟩
theorem lc_23 (hA : LA p s m c b0 L xs t ac D T P Hp locs ls i sl) (hK : K T P) (hm : T 49 2 = T 367 13 ∧ T 49 3 = T 367 14 ∧ T 366 0 = 0) (k : ∀ (T1 : Nat → Nat → Int32) (P1 : Nat → Nat → Nat) (Hp1 : Heap) (locs1 : List Loc) (ls1 : Array Slot), K T1 P1 → LA p s m c b0 L xs t ac D T1 P1 Hp1 locs1 ls1 i sl → W p l e room_1 s m #[Value.ref b0] below meth c Hp1 locs1 373 sl Q (F0 m 887 ls1 [])) : W p l e room_1 s m #[Value.ref b0] below meth c Hp locs 373 sl Q (F0 m 745 ls []) := by
  obtain ⟨hC, hX, hbl, hL, hl, hW, hS, hsl⟩ := hA
  have hx := hC.1
  have hb := hC.2.1
  have hbA : ¬ (fun q : Nat => s.heap.size ≤ q) b0 := Nat.not_le.mpr hbl
  have cs : 373 ≤ room_1.cells ∧ sl ≤ room_1.slots := ⟨by decide, hsl⟩
  refine lv_aload_n hx hb dl_745 rfl (lv_at hl 2 rfl) ?_
  refine L_callM (i := 110) (j := 113) (q := 848) (a := 0) (as := []) (rest := []) (by decide) hC dl_746 (met_m1 l) (hc0 (by decide +kernel)) (by decide +kernel) (by decide +kernel) hl.1 (by decide) hW hS hp_at cs (fun Hp locs hW hS => ?_)
  change W p l e room_1 s m #[Value.ref b0] below meth c Hp locs 373 sl Q (F0 m 749 ls [.float (mnF (T 49 2) (T 49 3))])
  refine lv_f2d hx hb dl_749 mnF_d ?_
  refine lv_dstore (lv' := [(4, .double (FP.f2d (mnF (T 49 2) (T 49 3)))), (3, .int (nI i)), (2, .ref (ad s.heap.size t 366)), (1, .ref (ad s.heap.size t 0)), (0, .ref b0)]) hx hb dl_750 hl (by decide) rfl (fun ls hl => ?_)
  refine lv_aload_n hx hb dl_752 rfl (lv_at hl 2 rfl) ?_
  refine L_callM (i := 114) (j := 202) (q := 1237) (a := 366) (as := []) (rest := []) (by decide) hC dl_753 (met_m2 l hm.2.2) (hc366 (by decide +kernel)) (by decide +kernel) (by decide +kernel) hl.1 (by decide) hW hS hp_at cs (fun Hp locs hW hS => ?_)
  change W p l e room_1 s m #[Value.ref b0] below meth c Hp locs 373 sl Q (F0 m 756 ls [.float (mnF (T 367 13) (T 367 14))])
  refine lv_f2d hx hb dl_756 mnF_d ?_
  refine lv_dstore (lv' := [(6, .double (FP.f2d (mnF (T 367 13) (T 367 14)))), (4, .double (FP.f2d (mnF (T 49 2) (T 49 3)))), (3, .int (nI i)), (2, .ref (ad s.heap.size t 366)), (1, .ref (ad s.heap.size t 0)), (0, .ref b0)]) hx hb dl_757 hl (by decide) rfl (fun ls hl => ?_)
  refine lv_goto (tgt := 887) hx hb dl_759 (by decide) ?_
  exact k _ _ _ _ _ hK ⟨hC, hX, hbl, hL, lv_sub hl [2, 3, 4, 5] rfl, hW, hS, hsl⟩
theorem lc_24 (hA : LA p s m c b0 L xs t ac D T P Hp locs ls i sl) (hi : i + 5 ≤ L) (hs : STP False 114 204 [.ref 0, .int (xs (nI i + 1).toNatClampNeg), .int (xs (nI i + 2).toNatClampNeg), .int (xs (nI i + 3).toNatClampNeg)] [.ref 366, .int (xs (nI i + 1).toNatClampNeg), .int (xs (nI i + 2).toNatClampNeg), .int (xs (nI i + 3).toNatClampNeg)] T P K) (k : ∀ (T1 : Nat → Nat → Int32) (P1 : Nat → Nat → Nat) (Hp1 : Heap) (locs1 : List Loc) (ls1 : Array Slot), K T1 P1 → LA p s m c b0 L xs t ac D T1 P1 Hp1 locs1 ls1 i sl → W p l e room_1 s m #[Value.ref b0] below meth c Hp1 locs1 373 sl Q (F0 m 887 ls1 [])) : W p l e room_1 s m #[Value.ref b0] below meth c Hp locs 373 sl Q (F0 m 762 ls []) := by
  obtain ⟨hC, hX, hbl, hL, hl, hW, hS, hsl⟩ := hA
  have hx := hC.1
  have hb := hC.2.1
  have hbA : ¬ (fun q : Nat => s.heap.size ≤ q) b0 := Nat.not_le.mpr hbl
  have cs : 373 ≤ room_1.cells ∧ sl ≤ room_1.slots := ⟨by decide, hsl⟩
  have v1 : vp_in (nI i + 1) L := by rw [show nI i + 1 = nI (i + 1) from nI_add i 1]; exact vp_in_nI (by omega) (by omega)
  have v2 : vp_in (nI i + 2) L := by rw [show nI i + 2 = nI (i + 2) from nI_add i 2]; exact vp_in_nI (by omega) (by omega)
  have v3 : vp_in (nI i + 3) L := by rw [show nI i + 3 = nI (i + 3) from nI_add i 3]; exact vp_in_nI (by omega) (by omega)
  obtain ⟨a, b, T1, P1, T2, e1, e2, hK, hab⟩ := hs
  refine lv_aload_n hx hb dl_762 rfl (lv_at hl 2 rfl) ?_
  refine lv_aload_n hx hb dl_763 rfl (lv_at hl 3 rfl) ?_
  refine lv_iload_n hx hb dl_764 rfl (lv_at hl 0 rfl) ?_
  refine lv_iconst (v := 1) hx hb dl_765 (by decide) ?_
  refine lv_iadd hx hb dl_766 ?_
  refine va_sld hx hb hX hbl hbA hS v1 dl_767 ?_
  refine lv_aload_n hx hb dl_768 rfl (lv_at hl 3 rfl) ?_
  refine lv_iload_n hx hb dl_769 rfl (lv_at hl 0 rfl) ?_
  refine lv_iconst (v := 2) hx hb dl_770 (by decide) ?_
  refine lv_iadd hx hb dl_771 ?_
  refine va_sld hx hb hX hbl hbA hS v2 dl_772 ?_
  refine lv_aload_n hx hb dl_773 rfl (lv_at hl 3 rfl) ?_
  refine lv_iload_n hx hb dl_774 rfl (lv_at hl 0 rfl) ?_
  refine lv_iconst (v := 3) hx hb dl_775 (by decide) ?_
  refine lv_iadd hx hb dl_776 ?_
  refine va_sld hx hb hX hbl hbA hS v3 dl_777 ?_
  refine L_call (i := 115) (j := 114) (q := 852) (a := 0) (as := [.int (xs (nI i + 1).toNatClampNeg), .int (xs (nI i + 2).toNatClampNeg), .int (xs (nI i + 3).toNatClampNeg)]) (rest := []) (by decide) hC dl_778 (by decide +kernel) e1 (hc0 (by decide +kernel)) rfl (show 4 = mA 114 from by decide +kernel) (by decide +kernel) (by decide +kernel) hl.1 (Nat.le_of_ble_eq_true rfl) hW hS hp_sz hp_at cs (fun Hp locs hW hS => ?_)
  change W p l e room_1 s m #[Value.ref b0] below meth c Hp locs 373 sl Q (F0 m 781 ls [.int a])
  refine lv_pop hx hb dl_781 rfl ?_
  refine lv_aload_n hx hb dl_782 rfl (lv_at hl 1 rfl) ?_
  refine lv_aload_n hx hb dl_783 rfl (lv_at hl 3 rfl) ?_
  refine lv_iload_n hx hb dl_784 rfl (lv_at hl 0 rfl) ?_
  refine lv_iconst (v := 1) hx hb dl_785 (by decide) ?_
  refine lv_iadd hx hb dl_786 ?_
  refine va_sld hx hb hX hbl hbA hS v1 dl_787 ?_
  refine lv_aload_n hx hb dl_788 rfl (lv_at hl 3 rfl) ?_
  refine lv_iload_n hx hb dl_789 rfl (lv_at hl 0 rfl) ?_
  refine lv_iconst (v := 2) hx hb dl_790 (by decide) ?_
  refine lv_iadd hx hb dl_791 ?_
  refine va_sld hx hb hX hbl hbA hS v2 dl_792 ?_
  refine lv_aload_n hx hb dl_793 rfl (lv_at hl 3 rfl) ?_
  refine lv_iload_n hx hb dl_794 rfl (lv_at hl 0 rfl) ?_
  refine lv_iconst (v := 3) hx hb dl_795 (by decide) ?_
  refine lv_iadd hx hb dl_796 ?_
  refine va_sld hx hb hX hbl hbA hS v3 dl_797 ?_
  refine L_call (i := 119) (j := 204) (q := 1241) (a := 366) (as := [.int (xs (nI i + 1).toNatClampNeg), .int (xs (nI i + 2).toNatClampNeg), .int (xs (nI i + 3).toNatClampNeg)]) (rest := []) (by decide) hC dl_798 (by decide +kernel) e2 (hc366 (by decide +kernel)) rfl (show 4 = mA 204 from by decide +kernel) (by decide +kernel) (by decide +kernel) hl.1 (Nat.le_of_ble_eq_true rfl) hW hS hp_sz hp_at cs (fun Hp locs hW hS => ?_)
  change W p l e room_1 s m #[Value.ref b0] below meth c Hp locs 373 sl Q (F0 m 801 ls [.int b])
  refine lv_pop hx hb dl_801 rfl ?_
  refine lv_goto (tgt := 887) hx hb dl_802 (by decide) ?_
  exact k _ _ _ _ _ hK ⟨hC, hX, hbl, hL, hl, hW, hS, hsl⟩
theorem lc_25 (hA : LA p s m c b0 L xs t ac D T P Hp locs ls i sl) (hi : i + 5 ≤ L) (hs : STP False 115 205 [.ref 0, .int (xs (nI i + 1).toNatClampNeg)] [.ref 366, .int (xs (nI i + 1).toNatClampNeg)] T P K) (k : ∀ (T1 : Nat → Nat → Int32) (P1 : Nat → Nat → Nat) (Hp1 : Heap) (locs1 : List Loc) (ls1 : Array Slot), K T1 P1 → LA p s m c b0 L xs t ac D T1 P1 Hp1 locs1 ls1 i sl → W p l e room_1 s m #[Value.ref b0] below meth c Hp1 locs1 373 sl Q (F0 m 887 ls1 [])) : W p l e room_1 s m #[Value.ref b0] below meth c Hp locs 373 sl Q (F0 m 805 ls []) := by
  obtain ⟨hC, hX, hbl, hL, hl, hW, hS, hsl⟩ := hA
  have hx := hC.1
  have hb := hC.2.1
  have hbA : ¬ (fun q : Nat => s.heap.size ≤ q) b0 := Nat.not_le.mpr hbl
  have cs : 373 ≤ room_1.cells ∧ sl ≤ room_1.slots := ⟨by decide, hsl⟩
  have v1 : vp_in (nI i + 1) L := by rw [show nI i + 1 = nI (i + 1) from nI_add i 1]; exact vp_in_nI (by omega) (by omega)
  obtain ⟨a, b, T1, P1, T2, e1, e2, hK, hab⟩ := hs
  refine lv_aload_n hx hb dl_805 rfl (lv_at hl 2 rfl) ?_
  refine lv_aload_n hx hb dl_806 rfl (lv_at hl 3 rfl) ?_
  refine lv_iload_n hx hb dl_807 rfl (lv_at hl 0 rfl) ?_
  refine lv_iconst (v := 1) hx hb dl_808 (by decide) ?_
  refine lv_iadd hx hb dl_809 ?_
  refine va_sld hx hb hX hbl hbA hS v1 dl_810 ?_
  refine L_call (i := 120) (j := 115) (q := 860) (a := 0) (as := [.int (xs (nI i + 1).toNatClampNeg)]) (rest := []) (by decide) hC dl_811 (by decide +kernel) e1 (hc0 (by decide +kernel)) rfl (show 2 = mA 115 from by decide +kernel) (by decide +kernel) (by decide +kernel) hl.1 (Nat.le_of_ble_eq_true rfl) hW hS hp_sz hp_at cs (fun Hp locs hW hS => ?_)
  change W p l e room_1 s m #[Value.ref b0] below meth c Hp locs 373 sl Q (F0 m 814 ls [.int a])
  refine lv_pop hx hb dl_814 rfl ?_
  refine lv_aload_n hx hb dl_815 rfl (lv_at hl 1 rfl) ?_
  refine lv_aload_n hx hb dl_816 rfl (lv_at hl 3 rfl) ?_
  refine lv_iload_n hx hb dl_817 rfl (lv_at hl 0 rfl) ?_
  refine lv_iconst (v := 1) hx hb dl_818 (by decide) ?_
  refine lv_iadd hx hb dl_819 ?_
  refine va_sld hx hb hX hbl hbA hS v1 dl_820 ?_
  refine L_call (i := 123) (j := 205) (q := 1249) (a := 366) (as := [.int (xs (nI i + 1).toNatClampNeg)]) (rest := []) (by decide) hC dl_821 (by decide +kernel) e2 (hc366 (by decide +kernel)) rfl (show 2 = mA 205 from by decide +kernel) (by decide +kernel) (by decide +kernel) hl.1 (Nat.le_of_ble_eq_true rfl) hW hS hp_sz hp_at cs (fun Hp locs hW hS => ?_)
  change W p l e room_1 s m #[Value.ref b0] below meth c Hp locs 373 sl Q (F0 m 824 ls [.int b])
  refine lv_pop hx hb dl_824 rfl ?_
  refine lv_goto (tgt := 887) hx hb dl_825 (by decide) ?_
  exact k _ _ _ _ _ hK ⟨hC, hX, hbl, hL, hl, hW, hS, hsl⟩
theorem lc_26 (hA : LA p s m c b0 L xs t ac D T P Hp locs ls i sl) (hi : i + 5 ≤ L) (hs : STP False 116 206 [.ref 0, .int (xs (nI i + 1).toNatClampNeg), .int (xs (nI i + 2).toNatClampNeg)] [.ref 366, .int (xs (nI i + 1).toNatClampNeg), .int (xs (nI i + 2).toNatClampNeg)] T P K) (k : ∀ (T1 : Nat → Nat → Int32) (P1 : Nat → Nat → Nat) (Hp1 : Heap) (locs1 : List Loc) (ls1 : Array Slot), K T1 P1 → LA p s m c b0 L xs t ac D T1 P1 Hp1 locs1 ls1 i sl → W p l e room_1 s m #[Value.ref b0] below meth c Hp1 locs1 373 sl Q (F0 m 887 ls1 [])) : W p l e room_1 s m #[Value.ref b0] below meth c Hp locs 373 sl Q (F0 m 828 ls []) := by
  obtain ⟨hC, hX, hbl, hL, hl, hW, hS, hsl⟩ := hA
  have hx := hC.1
  have hb := hC.2.1
  have hbA : ¬ (fun q : Nat => s.heap.size ≤ q) b0 := Nat.not_le.mpr hbl
  have cs : 373 ≤ room_1.cells ∧ sl ≤ room_1.slots := ⟨by decide, hsl⟩
  have v1 : vp_in (nI i + 1) L := by rw [show nI i + 1 = nI (i + 1) from nI_add i 1]; exact vp_in_nI (by omega) (by omega)
  have v2 : vp_in (nI i + 2) L := by rw [show nI i + 2 = nI (i + 2) from nI_add i 2]; exact vp_in_nI (by omega) (by omega)
  obtain ⟨a, b, T1, P1, T2, e1, e2, hK, hab⟩ := hs
  refine lv_aload_n hx hb dl_828 rfl (lv_at hl 2 rfl) ?_
  refine lv_aload_n hx hb dl_829 rfl (lv_at hl 3 rfl) ?_
  refine lv_iload_n hx hb dl_830 rfl (lv_at hl 0 rfl) ?_
  refine lv_iconst (v := 1) hx hb dl_831 (by decide) ?_
  refine lv_iadd hx hb dl_832 ?_
  refine va_sld hx hb hX hbl hbA hS v1 dl_833 ?_
  refine lv_aload_n hx hb dl_834 rfl (lv_at hl 3 rfl) ?_
  refine lv_iload_n hx hb dl_835 rfl (lv_at hl 0 rfl) ?_
  refine lv_iconst (v := 2) hx hb dl_836 (by decide) ?_
  refine lv_iadd hx hb dl_837 ?_
  refine va_sld hx hb hX hbl hbA hS v2 dl_838 ?_
  refine L_call (i := 124) (j := 116) (q := 864) (a := 0) (as := [.int (xs (nI i + 1).toNatClampNeg), .int (xs (nI i + 2).toNatClampNeg)]) (rest := []) (by decide) hC dl_839 (by decide +kernel) e1 (hc0 (by decide +kernel)) rfl (show 3 = mA 116 from by decide +kernel) (by decide +kernel) (by decide +kernel) hl.1 (Nat.le_of_ble_eq_true rfl) hW hS hp_sz hp_at cs (fun Hp locs hW hS => ?_)
  change W p l e room_1 s m #[Value.ref b0] below meth c Hp locs 373 sl Q (F0 m 842 ls [.int a])
  refine lv_pop hx hb dl_842 rfl ?_
  refine lv_aload_n hx hb dl_843 rfl (lv_at hl 1 rfl) ?_
  refine lv_aload_n hx hb dl_844 rfl (lv_at hl 3 rfl) ?_
  refine lv_iload_n hx hb dl_845 rfl (lv_at hl 0 rfl) ?_
  refine lv_iconst (v := 1) hx hb dl_846 (by decide) ?_
  refine lv_iadd hx hb dl_847 ?_
  refine va_sld hx hb hX hbl hbA hS v1 dl_848 ?_
  refine lv_aload_n hx hb dl_849 rfl (lv_at hl 3 rfl) ?_
  refine lv_iload_n hx hb dl_850 rfl (lv_at hl 0 rfl) ?_
  refine lv_iconst (v := 2) hx hb dl_851 (by decide) ?_
  refine lv_iadd hx hb dl_852 ?_
  refine va_sld hx hb hX hbl hbA hS v2 dl_853 ?_
  refine L_call (i := 127) (j := 206) (q := 1253) (a := 366) (as := [.int (xs (nI i + 1).toNatClampNeg), .int (xs (nI i + 2).toNatClampNeg)]) (rest := []) (by decide) hC dl_854 (by decide +kernel) e2 (hc366 (by decide +kernel)) rfl (show 3 = mA 206 from by decide +kernel) (by decide +kernel) (by decide +kernel) hl.1 (Nat.le_of_ble_eq_true rfl) hW hS hp_sz hp_at cs (fun Hp locs hW hS => ?_)
  change W p l e room_1 s m #[Value.ref b0] below meth c Hp locs 373 sl Q (F0 m 857 ls [.int b])
  refine lv_pop hx hb dl_857 rfl ?_
  refine lv_goto (tgt := 887) hx hb dl_858 (by decide) ?_
  exact k _ _ _ _ _ hK ⟨hC, hX, hbl, hL, hl, hW, hS, hsl⟩
theorem lc_27 (hA : LA p s m c b0 L xs t ac D T P Hp locs ls i sl) (hi : i + 5 ≤ L) (hs : STP False 117 207 [.ref 0] [.ref 366] T P K) (k : ∀ (T1 : Nat → Nat → Int32) (P1 : Nat → Nat → Nat) (Hp1 : Heap) (locs1 : List Loc) (ls1 : Array Slot), K T1 P1 → LA p s m c b0 L xs t ac D T1 P1 Hp1 locs1 ls1 i sl → W p l e room_1 s m #[Value.ref b0] below meth c Hp1 locs1 373 sl Q (F0 m 887 ls1 [])) : W p l e room_1 s m #[Value.ref b0] below meth c Hp locs 373 sl Q (F0 m 861 ls []) := by
  obtain ⟨hC, hX, hbl, hL, hl, hW, hS, hsl⟩ := hA
  have hx := hC.1
  have hb := hC.2.1
  have hbA : ¬ (fun q : Nat => s.heap.size ≤ q) b0 := Nat.not_le.mpr hbl
  have cs : 373 ≤ room_1.cells ∧ sl ≤ room_1.slots := ⟨by decide, hsl⟩
  obtain ⟨a, b, T1, P1, T2, e1, e2, hK, hab⟩ := hs
  refine lv_aload_n hx hb dl_861 rfl (lv_at hl 2 rfl) ?_
  refine L_call (i := 128) (j := 117) (q := 868) (a := 0) (as := []) (rest := []) (by decide) hC dl_862 (by decide +kernel) e1 (hc0 (by decide +kernel)) rfl (show 1 = mA 117 from by decide +kernel) (by decide +kernel) (by decide +kernel) hl.1 (Nat.le_of_ble_eq_true rfl) hW hS hp_sz hp_at cs (fun Hp locs hW hS => ?_)
  change W p l e room_1 s m #[Value.ref b0] below meth c Hp locs 373 sl Q (F0 m 865 ls [.int a])
  refine lv_pop hx hb dl_865 rfl ?_
  refine lv_aload_n hx hb dl_866 rfl (lv_at hl 1 rfl) ?_
  refine L_call (i := 131) (j := 207) (q := 1257) (a := 366) (as := []) (rest := []) (by decide) hC dl_867 (by decide +kernel) e2 (hc366 (by decide +kernel)) rfl (show 1 = mA 207 from by decide +kernel) (by decide +kernel) (by decide +kernel) hl.1 (Nat.le_of_ble_eq_true rfl) hW hS hp_sz hp_at cs (fun Hp locs hW hS => ?_)
  change W p l e room_1 s m #[Value.ref b0] below meth c Hp locs 373 sl Q (F0 m 870 ls [.int b])
  refine lv_pop hx hb dl_870 rfl ?_
  refine lv_goto (tgt := 887) hx hb dl_871 (by decide) ?_
  exact k _ _ _ _ _ hK ⟨hC, hX, hbl, hL, hl, hW, hS, hsl⟩
theorem lc_28 (hA : LA p s m c b0 L xs t ac D T P Hp locs ls i sl) (hi : i + 5 ≤ L) (hs : STP True 118 208 [.ref 0] [.ref 366] T P K) (k : ∀ (T1 : Nat → Nat → Int32) (P1 : Nat → Nat → Nat) (Hp1 : Heap) (locs1 : List Loc) (ls1 : Array Slot), K T1 P1 → LA p s m c b0 L xs t ac D T1 P1 Hp1 locs1 ls1 i sl → W p l e room_1 s m #[Value.ref b0] below meth c Hp1 locs1 373 sl Q (F0 m 887 ls1 [])) : W p l e room_1 s m #[Value.ref b0] below meth c Hp locs 373 sl Q (F0 m 874 ls []) := by
  obtain ⟨hC, hX, hbl, hL, hl, hW, hS, hsl⟩ := hA
  have hx := hC.1
  have hb := hC.2.1
  have hbA : ¬ (fun q : Nat => s.heap.size ≤ q) b0 := Nat.not_le.mpr hbl
  have cs : 373 ≤ room_1.cells ∧ sl ≤ room_1.slots := ⟨by decide, hsl⟩
  obtain ⟨a, b, T1, P1, T2, e1, e2, hK, hab⟩ := hs
  refine lv_aload_n hx hb dl_874 rfl (lv_at hl 2 rfl) ?_
  refine L_call (i := 132) (j := 118) (q := 879) (a := 0) (as := []) (rest := []) (by decide) hC dl_875 (by decide +kernel) e1 (hc0 (by decide +kernel)) rfl (show 1 = mA 118 from by decide +kernel) (by decide +kernel) (by decide +kernel) hl.1 (Nat.le_of_ble_eq_true rfl) hW hS hp_sz hp_at cs (fun Hp locs hW hS => ?_)
  change W p l e room_1 s m #[Value.ref b0] below meth c Hp locs 373 sl Q (F0 m 878 ls [.int a])
  refine lv_aload_n hx hb dl_878 rfl (lv_at hl 1 rfl) ?_
  refine L_call (i := 135) (j := 208) (q := 1261) (a := 366) (as := []) (rest := [.int a]) (by decide) hC dl_879 (by decide +kernel) e2 (hc366 (by decide +kernel)) rfl (show 1 = mA 208 from by decide +kernel) (by decide +kernel) (by decide +kernel) hl.1 (Nat.le_of_ble_eq_true rfl) hW hS hp_sz hp_at cs (fun Hp locs hW hS => ?_)
  change W p l e room_1 s m #[Value.ref b0] below meth c Hp locs 373 sl Q (F0 m 882 ls [.int b, .int a])
  refine lv_icmp_eq (tgt := 887) hx hb dl_882 (by decide) (fun _ => ?_) (fun hn => absurd (hab trivial) hn)
  exact k _ _ _ _ _ hK ⟨hC, hX, hbl, hL, hl, hW, hS, hsl⟩
end LAWC
def LH (L : Nat) (J : Nat → (Nat → Nat → Int32) → (Nat → Nat → Nat) → Prop) : Prop :=
  (∀ (i : Nat) (T : Nat → Nat → Int32) (P : Nat → Nat → Nat) (x1 : Int32), i + 5 ≤ L → J i T P → STP False 90 146 [.ref 0, .int (x1)] [.ref 366, .int (x1)] T P (J (i + 5))) ∧
  (∀ (i : Nat) (T : Nat → Nat → Int32) (P : Nat → Nat → Nat) (x1 x2 : Int32), i + 5 ≤ L → J i T P → STP False 91 147 [.ref 0, .int (x1), .int (x2)] [.ref 366, .int (x1), .int (x2)] T P (J (i + 5))) ∧
  (∀ (i : Nat) (T : Nat → Nat → Int32) (P : Nat → Nat → Nat) (x1 x2 x3 x4 : Int32), i + 5 ≤ L → J i T P → STP False 92 151 [.ref 0, .int (x1), .int (x2), .int (x3), .int (x4)] [.ref 366, .int (x1), .int (x2), .int (x3), .int (x4)] T P (J (i + 5))) ∧
  (∀ (i : Nat) (T : Nat → Nat → Int32) (P : Nat → Nat → Nat), i + 5 ≤ L → J i T P → STP False 93 152 [.ref 0] [.ref 366] T P (J (i + 5))) ∧
  (∀ (i : Nat) (T : Nat → Nat → Int32) (P : Nat → Nat → Nat) (x1 x2 : Int32), i + 5 ≤ L → J i T P → STP False 94 154 [.ref 0, .int (x1), .int (x2)] [.ref 366, .int (x1), .int (x2)] T P (J (i + 5))) ∧
  (∀ (i : Nat) (T : Nat → Nat → Int32) (P : Nat → Nat → Nat) (x1 x2 : Int32), i + 5 ≤ L → J i T P → STP False 95 157 [.ref 0, .int (x1), .int (x2)] [.ref 366, .int (x1), .int (x2)] T P (J (i + 5))) ∧
  (∀ (i : Nat) (T : Nat → Nat → Int32) (P : Nat → Nat → Nat) (x1 : Int32), i + 5 ≤ L → J i T P → STP False 96 163 [.ref 0, .int (x1)] [.ref 366, .int (x1)] T P (J (i + 5))) ∧
  (∀ (i : Nat) (T : Nat → Nat → Int32) (P : Nat → Nat → Nat) (x1 : Int32), i + 5 ≤ L → J i T P → STP False 97 167 [.ref 0, .int (x1)] [.ref 366, .int (x1)] T P (J (i + 5))) ∧
  (∀ (i : Nat) (T : Nat → Nat → Int32) (P : Nat → Nat → Nat) (x1 : Int32), i + 5 ≤ L → J i T P → STP False 98 168 [.ref 0, .int (x1)] [.ref 366, .int (x1)] T P (J (i + 5))) ∧
  (∀ (i : Nat) (T : Nat → Nat → Int32) (P : Nat → Nat → Nat) (x1 : Int32), i + 5 ≤ L → J i T P → STP False 99 169 [.ref 0, .int (x1)] [.ref 366, .int (x1)] T P (J (i + 5))) ∧
  (∀ (i : Nat) (T : Nat → Nat → Int32) (P : Nat → Nat → Nat) (x1 x2 : Int32), i + 5 ≤ L → J i T P → STP False 100 171 [.ref 0, .int (x1), .int (x2)] [.ref 366, .int (x1), .int (x2)] T P (J (i + 5))) ∧
  (∀ (i : Nat) (T : Nat → Nat → Int32) (P : Nat → Nat → Nat) (x1 : Int32), i + 5 ≤ L → J i T P → STP False 101 172 [.ref 0, .int (((x1).toUInt32 % 65536).toInt32)] [.ref 366, .int (((x1).toUInt32 % 65536).toInt32)] T P (J (i + 5))) ∧
  (∀ (i : Nat) (T : Nat → Nat → Int32) (P : Nat → Nat → Nat), i + 5 ≤ L → J i T P → STP False 102 173 [.ref 0] [.ref 366] T P (J (i + 5))) ∧
  (∀ (i : Nat) (T : Nat → Nat → Int32) (P : Nat → Nat → Nat), i + 5 ≤ L → J i T P → STP False 103 183 [.ref 0] [.ref 366] T P (J (i + 5))) ∧
  (∀ (i : Nat) (T : Nat → Nat → Int32) (P : Nat → Nat → Nat), i + 5 ≤ L → J i T P → STP False 104 184 [.ref 0] [.ref 366] T P (J (i + 5))) ∧
  (∀ (i : Nat) (T : Nat → Nat → Int32) (P : Nat → Nat → Nat), i + 5 ≤ L → J i T P → STP False 105 185 [.ref 0] [.ref 366] T P (J (i + 5))) ∧
  (∀ (i : Nat) (T : Nat → Nat → Int32) (P : Nat → Nat → Nat), i + 5 ≤ L → J i T P → STP False 106 186 [.ref 0] [.ref 366] T P (J (i + 5))) ∧
  (∀ (i : Nat) (T : Nat → Nat → Int32) (P : Nat → Nat → Nat) (x1 x2 : Int32), i + 5 ≤ L → J i T P → STP False 107 189 [.ref 0, .int (x1), .int (x2)] [.ref 366, .int (x1), .int (x2)] T P (J (i + 5))) ∧
  (∀ (i : Nat) (T : Nat → Nat → Int32) (P : Nat → Nat → Nat) (x1 x2 : Int32), i + 5 ≤ L → J i T P → STP False 108 191 [.ref 0, .int (x1), .int (x2)] [.ref 366, .int (x1), .int (x2)] T P (J (i + 5))) ∧
  (∀ (i : Nat) (T : Nat → Nat → Int32) (P : Nat → Nat → Nat) (x1 x2 : Int32), i + 5 ≤ L → J i T P → STP False 109 194 [.ref 0, .int (x1), .int (x2)] [.ref 366, .int (x1), .int (x2)] T P (J (i + 5))) ∧
  (∀ (i : Nat) (T : Nat → Nat → Int32) (P : Nat → Nat → Nat) (x1 : Int32), i + 5 ≤ L → J i T P → STP False 110 195 [.ref 0, .int (x1)] [.ref 366, .int (x1)] T P (J (i + 5))) ∧
  (∀ (i : Nat) (T : Nat → Nat → Int32) (P : Nat → Nat → Nat) (x1 x2 : Int32), i + 5 ≤ L → J i T P → STP False 111 196 [.ref 0, .int (x1), .int (x2)] [.ref 366, .int (x1), .int (x2)] T P (J (i + 5))) ∧
  (∀ (i : Nat) (T : Nat → Nat → Int32) (P : Nat → Nat → Nat) (x1 : Int32), i + 5 ≤ L → J i T P → STP False 112 201 [.ref 0, .int (x1)] [.ref 366, .int (x1)] T P (J (i + 5))) ∧
  (∀ (i : Nat) (T : Nat → Nat → Int32) (P : Nat → Nat → Nat) (x1 x2 x3 : Int32), i + 5 ≤ L → J i T P → STP False 114 204 [.ref 0, .int (x1), .int (x2), .int (x3)] [.ref 366, .int (x1), .int (x2), .int (x3)] T P (J (i + 5))) ∧
  (∀ (i : Nat) (T : Nat → Nat → Int32) (P : Nat → Nat → Nat) (x1 : Int32), i + 5 ≤ L → J i T P → STP False 115 205 [.ref 0, .int (x1)] [.ref 366, .int (x1)] T P (J (i + 5))) ∧
  (∀ (i : Nat) (T : Nat → Nat → Int32) (P : Nat → Nat → Nat) (x1 x2 : Int32), i + 5 ≤ L → J i T P → STP False 116 206 [.ref 0, .int (x1), .int (x2)] [.ref 366, .int (x1), .int (x2)] T P (J (i + 5))) ∧
  (∀ (i : Nat) (T : Nat → Nat → Int32) (P : Nat → Nat → Nat), i + 5 ≤ L → J i T P → STP False 117 207 [.ref 0] [.ref 366] T P (J (i + 5))) ∧
  (∀ (i : Nat) (T : Nat → Nat → Int32) (P : Nat → Nat → Nat), i + 5 ≤ L → J i T P → STP True 118 208 [.ref 0] [.ref 366] T P (J (i + 5))) ∧
  (∀ (i : Nat) (T : Nat → Nat → Int32) (P : Nat → Nat → Nat), J i T P → T 49 2 = T 367 13 ∧ T 49 3 = T 367 14 ∧ T 366 0 = 0) ∧
  ∀ (i : Nat) (T : Nat → Nat → Int32) (P : Nat → Nat → Nat), J i T P → J (i + 5) T P
theorem law_loop {p : Program} {l : Launch} {e : Env} {s : State} {m : MethodId} {below : List Frame} {meth : Method} {c : Code} {b0 L : Nat} {xs : Nat → Int32} {t : Nat → Nat} {ac : Nat → ClassId} {D : va_G} {sl : Nat} {J : Nat → (Nat → Nat → Int32) → (Nat → Nat → Nat) → Prop} (hr : meth.sig.returnType = ret) (hlocks : meth.locks = false) (hJ : LH L J) :
    ∀ (n i : Nat) (T : Nat → Nat → Int32) (P : Nat → Nat → Nat) (Hp : Heap) (locs : List Loc) (ls : Array Slot), L + 1 ≤ i + n → i ≤ 3000 → LA p s m c b0 L xs t ac D T P Hp locs ls i sl → J i T P → W p l e room_1 s m #[Value.ref b0] below meth c Hp locs 373 sl (lw_Z below #[Value.ref b0] s) (F0 m 18 ls []) := by
  obtain ⟨h0, h1, h2, h3, h4, h5, h6, h7, h8, h9, h10, h11, h12, h13, h14, h15, h16, h17, h18, h19, h20, h21, h22, h24, h25, h26, h27, h28, hme, hnx⟩ := hJ
  intro n
  induction n with
  | zero =>
    intro i T P Hp locs ls hn hi3 hA hT
    obtain ⟨hC, hX, hbl, hL, hl, hW, hS, hsl⟩ := hA
    have hx := hC.1
    have hb := hC.2.1
    have hbA : ¬ (fun q : Nat => s.heap.size ≤ q) b0 := Nat.not_le.mpr hbl
    have hcmp : (Int32.ofNat L - 5 < nI i) = (L < i + 5) := by
      refine propext ?_
      rw [Int32.lt_iff_toInt_lt, Int32.toInt_sub, show Int32.ofNat L = nI L from rfl, nI_toInt (by omega), nI_toInt (by omega), show (5 : Int32).toInt = 5 from by decide, Int.bmod_eq_of_le (by omega) (by omega)]
      omega
    refine lv_iload_n hx hb dl_18 rfl (lv_at hl 0 rfl) ?_
    refine lv_aload_n hx hb dl_19 rfl (lv_at hl 3 rfl) ?_
    refine va_slen hx hb hX hbl hbA hS dl_20 ?_
    refine lv_iconst (v := 5) hx hb dl_21 (by decide) ?_
    refine lv_isub hx hb dl_22 ?_
    refine lv_icmp_gt (tgt := 893) hx hb dl_23 (by decide) (fun _ => ?_) (fun h => absurd (by rw [hcmp]; omega) h)
    refine lv_iconst (v := 1) hx hb dl_893 (by decide) ?_
    refine va_forget (fun q hq => hS.2.2 q hq) ?_
    refine W.widen (k := 600000) (n := 7302249) (by omega) hsl ?_
    refine W.base ?_
    exact lw_ret (Drawn.sameBut.refl s.drawn lw_cs) hx hb hr hlocks dl_894
  | succ n ih =>
    intro i T P Hp locs ls hn hi3 hA hT
    have hA0 := hA
    obtain ⟨hC, hX, hbl, hL, hl, hW, hS, hsl⟩ := hA
    have hx := hC.1
    have hb := hC.2.1
    have hbA : ¬ (fun q : Nat => s.heap.size ≤ q) b0 := Nat.not_le.mpr hbl
    have hcmp : (Int32.ofNat L - 5 < nI i) = (L < i + 5) := by
      refine propext ?_
      rw [Int32.lt_iff_toInt_lt, Int32.toInt_sub, show Int32.ofNat L = nI L from rfl, nI_toInt (by omega), nI_toInt (by omega), show (5 : Int32).toInt = 5 from by decide, Int.bmod_eq_of_le (by omega) (by omega)]
      omega
    refine lv_iload_n hx hb dl_18 rfl (lv_at hl 0 rfl) ?_
    refine lv_aload_n hx hb dl_19 rfl (lv_at hl 3 rfl) ?_
    refine va_slen hx hb hX hbl hbA hS dl_20 ?_
    refine lv_iconst (v := 5) hx hb dl_21 (by decide) ?_
    refine lv_isub hx hb dl_22 ?_
    refine lv_icmp_gt (tgt := 893) hx hb dl_23 (by decide) (fun _ => ?_) (fun h => ?_)
    · refine lv_iconst (v := 1) hx hb dl_893 (by decide) ?_
      refine va_forget (fun q hq => hS.2.2 q hq) ?_
      refine W.widen (k := 600000) (n := 7302249) (by omega) hsl ?_
      refine W.base ?_
      exact lw_ret (Drawn.sameBut.refl s.drawn lw_cs) hx hb hr hlocks dl_894
    rw [hcmp] at h
    have hi5 : i + 5 ≤ L := Nat.not_lt.mp h
    have go : ∀ (T1 : Nat → Nat → Int32) (P1 : Nat → Nat → Nat) (Hp1 : Heap) (locs1 : List Loc) (ls1 : Array Slot), J (i + 5) T1 P1 → LA p s m c b0 L xs t ac D T1 P1 Hp1 locs1 ls1 i sl → W p l e room_1 s m #[Value.ref b0] below meth c Hp1 locs1 373 sl (lw_Z below #[Value.ref b0] s) (F0 m 887 ls1 []) := by
      intro T1 P1 Hp1 locs1 ls1 hJ1 hA1
      obtain ⟨hC, hX, hbl, hL, hl, hW, hS, hsl⟩ := hA1
      refine lv_iinc (v := nI (i + 5)) (lv' := [(3, .int (nI (i + 5))), (2, .ref (ad s.heap.size t 366)), (1, .ref (ad s.heap.size t 0)), (0, .ref b0)]) hx hb dl_887 hl (k := 0) rfl (nI_add i 5) (by decide) rfl (fun ls hl => ?_)
      refine lv_goto (tgt := 18) hx hb dl_890 (by decide) ?_
      exact ih (i + 5) T1 P1 Hp1 locs1 ls (by omega) (by omega) ⟨hC, hX, hbl, hL, hl, hW, hS, hsl⟩ hJ1
    have v0 : vp_in (nI i) L := vp_in_nI (by omega) (by omega)
    refine lv_aload_n hx hb dl_26 rfl (lv_at hl 3 rfl) ?_
    refine lv_iload_n hx hb dl_27 rfl (lv_at hl 0 rfl) ?_
    refine va_sld hx hb hX hbl hbA hS v0 dl_28 ?_
    refine lv_bipush (v := 31) hx hb dl_29 (by decide) ?_
    refine lv_iand hx hb dl_31 ?_
    generalize xs (nI i).toNatClampNeg &&& 31 = y
    by_cases hy : y.toInt < 0 ∨ 28 < y.toInt
    · exact lv_tableOut (tgt := 887) hx hb dl_32 hy (by decide) (go _ _ _ _ _ (hnx _ _ _ hT) hA0)
    obtain ⟨q, hq, ey⟩ : ∃ q : Nat, q ≤ 28 ∧ y.toInt = (q : Int) := ⟨y.toInt.toNat, by omega, by omega⟩
    have d0 : q = 0 → W p l e room_1 s m #[Value.ref b0] below meth c Hp locs 373 sl (lw_Z below #[Value.ref b0] s) (F0 m 32 ls [.int y]) := fun hk => lv_tableIn (off := 132) (tgt := 164) hx hb dl_32 (by rw [ey]; omega) (by rw [ey]; omega) (by rw [ey, hk]; rfl) (by decide) (lc_0 hA0 hi5 (h0 i T P _ hi5 hT) go)
    have d1 : q = 1 → W p l e room_1 s m #[Value.ref b0] below meth c Hp locs 373 sl (lw_Z below #[Value.ref b0] s) (F0 m 32 ls [.int y]) := fun hk => lv_tableIn (off := 155) (tgt := 187) hx hb dl_32 (by rw [ey]; omega) (by rw [ey]; omega) (by rw [ey, hk]; rfl) (by decide) (lc_1 hA0 hi5 (h1 i T P _ _ hi5 hT) go)
    have d2 : q = 2 → W p l e room_1 s m #[Value.ref b0] below meth c Hp locs 373 sl (lw_Z below #[Value.ref b0] s) (F0 m 32 ls [.int y]) := fun hk => lv_tableIn (off := 188) (tgt := 220) hx hb dl_32 (by rw [ey]; omega) (by rw [ey]; omega) (by rw [ey, hk]; rfl) (by decide) (lc_2 hA0 hi5 (h2 i T P _ _ _ _ hi5 hT) go)
    have d3 : q = 3 → W p l e room_1 s m #[Value.ref b0] below meth c Hp locs 373 sl (lw_Z below #[Value.ref b0] s) (F0 m 32 ls [.int y]) := fun hk => lv_tableIn (off := 241) (tgt := 273) hx hb dl_32 (by rw [ey]; omega) (by rw [ey]; omega) (by rw [ey, hk]; rfl) (by decide) (lc_3 hA0 hi5 (h3 i T P hi5 hT) go)
    have d4 : q = 4 → W p l e room_1 s m #[Value.ref b0] below meth c Hp locs 373 sl (lw_Z below #[Value.ref b0] s) (F0 m 32 ls [.int y]) := fun hk => lv_tableIn (off := 254) (tgt := 286) hx hb dl_32 (by rw [ey]; omega) (by rw [ey]; omega) (by rw [ey, hk]; rfl) (by decide) (lc_4 hA0 hi5 (h4 i T P _ _ hi5 hT) go)
    have d5 : q = 5 → W p l e room_1 s m #[Value.ref b0] below meth c Hp locs 373 sl (lw_Z below #[Value.ref b0] s) (F0 m 32 ls [.int y]) := fun hk => lv_tableIn (off := 287) (tgt := 319) hx hb dl_32 (by rw [ey]; omega) (by rw [ey]; omega) (by rw [ey, hk]; rfl) (by decide) (lc_5 hA0 hi5 (h5 i T P _ _ hi5 hT) go)
    have d6 : q = 6 → W p l e room_1 s m #[Value.ref b0] below meth c Hp locs 373 sl (lw_Z below #[Value.ref b0] s) (F0 m 32 ls [.int y]) := fun hk => lv_tableIn (off := 320) (tgt := 352) hx hb dl_32 (by rw [ey]; omega) (by rw [ey]; omega) (by rw [ey, hk]; rfl) (by decide) (lc_6 hA0 hi5 (h6 i T P _ hi5 hT) go)
    have d7 : q = 7 → W p l e room_1 s m #[Value.ref b0] below meth c Hp locs 373 sl (lw_Z below #[Value.ref b0] s) (F0 m 32 ls [.int y]) := fun hk => lv_tableIn (off := 343) (tgt := 375) hx hb dl_32 (by rw [ey]; omega) (by rw [ey]; omega) (by rw [ey, hk]; rfl) (by decide) (lc_7 hA0 hi5 (h7 i T P _ hi5 hT) go)
    have d8 : q = 8 → W p l e room_1 s m #[Value.ref b0] below meth c Hp locs 373 sl (lw_Z below #[Value.ref b0] s) (F0 m 32 ls [.int y]) := fun hk => lv_tableIn (off := 366) (tgt := 398) hx hb dl_32 (by rw [ey]; omega) (by rw [ey]; omega) (by rw [ey, hk]; rfl) (by decide) (lc_8 hA0 hi5 (h8 i T P _ hi5 hT) go)
    have d9 : q = 9 → W p l e room_1 s m #[Value.ref b0] below meth c Hp locs 373 sl (lw_Z below #[Value.ref b0] s) (F0 m 32 ls [.int y]) := fun hk => lv_tableIn (off := 389) (tgt := 421) hx hb dl_32 (by rw [ey]; omega) (by rw [ey]; omega) (by rw [ey, hk]; rfl) (by decide) (lc_9 hA0 hi5 (h9 i T P _ hi5 hT) go)
    have d10 : q = 10 → W p l e room_1 s m #[Value.ref b0] below meth c Hp locs 373 sl (lw_Z below #[Value.ref b0] s) (F0 m 32 ls [.int y]) := fun hk => lv_tableIn (off := 412) (tgt := 444) hx hb dl_32 (by rw [ey]; omega) (by rw [ey]; omega) (by rw [ey, hk]; rfl) (by decide) (lc_10 hA0 hi5 (h10 i T P _ _ hi5 hT) go)
    have d11 : q = 11 → W p l e room_1 s m #[Value.ref b0] below meth c Hp locs 373 sl (lw_Z below #[Value.ref b0] s) (F0 m 32 ls [.int y]) := fun hk => lv_tableIn (off := 445) (tgt := 477) hx hb dl_32 (by rw [ey]; omega) (by rw [ey]; omega) (by rw [ey, hk]; rfl) (by decide) (lc_11 hA0 hi5 (h11 i T P _ hi5 hT) go)
    have d12 : q = 12 → W p l e room_1 s m #[Value.ref b0] below meth c Hp locs 373 sl (lw_Z below #[Value.ref b0] s) (F0 m 32 ls [.int y]) := fun hk => lv_tableIn (off := 470) (tgt := 502) hx hb dl_32 (by rw [ey]; omega) (by rw [ey]; omega) (by rw [ey, hk]; rfl) (by decide) (lc_12 hA0 hi5 (h12 i T P hi5 hT) go)
    have d13 : q = 13 → W p l e room_1 s m #[Value.ref b0] below meth c Hp locs 373 sl (lw_Z below #[Value.ref b0] s) (F0 m 32 ls [.int y]) := fun hk => lv_tableIn (off := 483) (tgt := 515) hx hb dl_32 (by rw [ey]; omega) (by rw [ey]; omega) (by rw [ey, hk]; rfl) (by decide) (lc_13 hA0 hi5 (h13 i T P hi5 hT) go)
    have d14 : q = 14 → W p l e room_1 s m #[Value.ref b0] below meth c Hp locs 373 sl (lw_Z below #[Value.ref b0] s) (F0 m 32 ls [.int y]) := fun hk => lv_tableIn (off := 496) (tgt := 528) hx hb dl_32 (by rw [ey]; omega) (by rw [ey]; omega) (by rw [ey, hk]; rfl) (by decide) (lc_14 hA0 hi5 (h14 i T P hi5 hT) go)
    have d15 : q = 15 → W p l e room_1 s m #[Value.ref b0] below meth c Hp locs 373 sl (lw_Z below #[Value.ref b0] s) (F0 m 32 ls [.int y]) := fun hk => lv_tableIn (off := 509) (tgt := 541) hx hb dl_32 (by rw [ey]; omega) (by rw [ey]; omega) (by rw [ey, hk]; rfl) (by decide) (lc_15 hA0 hi5 (h15 i T P hi5 hT) go)
    have d16 : q = 16 → W p l e room_1 s m #[Value.ref b0] below meth c Hp locs 373 sl (lw_Z below #[Value.ref b0] s) (F0 m 32 ls [.int y]) := fun hk => lv_tableIn (off := 522) (tgt := 554) hx hb dl_32 (by rw [ey]; omega) (by rw [ey]; omega) (by rw [ey, hk]; rfl) (by decide) (lc_16 hA0 hi5 (h16 i T P hi5 hT) go)
    have d17 : q = 17 → W p l e room_1 s m #[Value.ref b0] below meth c Hp locs 373 sl (lw_Z below #[Value.ref b0] s) (F0 m 32 ls [.int y]) := fun hk => lv_tableIn (off := 535) (tgt := 567) hx hb dl_32 (by rw [ey]; omega) (by rw [ey]; omega) (by rw [ey, hk]; rfl) (by decide) (lc_17 hA0 hi5 (h17 i T P _ _ hi5 hT) go)
    have d18 : q = 18 → W p l e room_1 s m #[Value.ref b0] below meth c Hp locs 373 sl (lw_Z below #[Value.ref b0] s) (F0 m 32 ls [.int y]) := fun hk => lv_tableIn (off := 568) (tgt := 600) hx hb dl_32 (by rw [ey]; omega) (by rw [ey]; omega) (by rw [ey, hk]; rfl) (by decide) (lc_18 hA0 hi5 (h18 i T P _ _ hi5 hT) go)
    have d19 : q = 19 → W p l e room_1 s m #[Value.ref b0] below meth c Hp locs 373 sl (lw_Z below #[Value.ref b0] s) (F0 m 32 ls [.int y]) := fun hk => lv_tableIn (off := 601) (tgt := 633) hx hb dl_32 (by rw [ey]; omega) (by rw [ey]; omega) (by rw [ey, hk]; rfl) (by decide) (lc_19 hA0 hi5 (h19 i T P _ _ hi5 hT) go)
    have d20 : q = 20 → W p l e room_1 s m #[Value.ref b0] below meth c Hp locs 373 sl (lw_Z below #[Value.ref b0] s) (F0 m 32 ls [.int y]) := fun hk => lv_tableIn (off := 634) (tgt := 666) hx hb dl_32 (by rw [ey]; omega) (by rw [ey]; omega) (by rw [ey, hk]; rfl) (by decide) (lc_20 hA0 hi5 (h20 i T P _ hi5 hT) go)
    have d21 : q = 21 → W p l e room_1 s m #[Value.ref b0] below meth c Hp locs 373 sl (lw_Z below #[Value.ref b0] s) (F0 m 32 ls [.int y]) := fun hk => lv_tableIn (off := 657) (tgt := 689) hx hb dl_32 (by rw [ey]; omega) (by rw [ey]; omega) (by rw [ey, hk]; rfl) (by decide) (lc_21 hA0 hi5 (h21 i T P _ _ hi5 hT) go)
    have d22 : q = 22 → W p l e room_1 s m #[Value.ref b0] below meth c Hp locs 373 sl (lw_Z below #[Value.ref b0] s) (F0 m 32 ls [.int y]) := fun hk => lv_tableIn (off := 690) (tgt := 722) hx hb dl_32 (by rw [ey]; omega) (by rw [ey]; omega) (by rw [ey, hk]; rfl) (by decide) (lc_22 hA0 hi5 (h22 i T P _ hi5 hT) go)
    have d23 : q = 23 → W p l e room_1 s m #[Value.ref b0] below meth c Hp locs 373 sl (lw_Z below #[Value.ref b0] s) (F0 m 32 ls [.int y]) := fun hk => lv_tableIn (off := 713) (tgt := 745) hx hb dl_32 (by rw [ey]; omega) (by rw [ey]; omega) (by rw [ey, hk]; rfl) (by decide) (lc_23 hA0 (hnx _ _ _ hT) (hme _ _ _ hT) go)
    have d24 : q = 24 → W p l e room_1 s m #[Value.ref b0] below meth c Hp locs 373 sl (lw_Z below #[Value.ref b0] s) (F0 m 32 ls [.int y]) := fun hk => lv_tableIn (off := 730) (tgt := 762) hx hb dl_32 (by rw [ey]; omega) (by rw [ey]; omega) (by rw [ey, hk]; rfl) (by decide) (lc_24 hA0 hi5 (h24 i T P _ _ _ hi5 hT) go)
    have d25 : q = 25 → W p l e room_1 s m #[Value.ref b0] below meth c Hp locs 373 sl (lw_Z below #[Value.ref b0] s) (F0 m 32 ls [.int y]) := fun hk => lv_tableIn (off := 773) (tgt := 805) hx hb dl_32 (by rw [ey]; omega) (by rw [ey]; omega) (by rw [ey, hk]; rfl) (by decide) (lc_25 hA0 hi5 (h25 i T P _ hi5 hT) go)
    have d26 : q = 26 → W p l e room_1 s m #[Value.ref b0] below meth c Hp locs 373 sl (lw_Z below #[Value.ref b0] s) (F0 m 32 ls [.int y]) := fun hk => lv_tableIn (off := 796) (tgt := 828) hx hb dl_32 (by rw [ey]; omega) (by rw [ey]; omega) (by rw [ey, hk]; rfl) (by decide) (lc_26 hA0 hi5 (h26 i T P _ _ hi5 hT) go)
    have d27 : q = 27 → W p l e room_1 s m #[Value.ref b0] below meth c Hp locs 373 sl (lw_Z below #[Value.ref b0] s) (F0 m 32 ls [.int y]) := fun hk => lv_tableIn (off := 829) (tgt := 861) hx hb dl_32 (by rw [ey]; omega) (by rw [ey]; omega) (by rw [ey, hk]; rfl) (by decide) (lc_27 hA0 hi5 (h27 i T P hi5 hT) go)
    have d28 : q = 28 → W p l e room_1 s m #[Value.ref b0] below meth c Hp locs 373 sl (lw_Z below #[Value.ref b0] s) (F0 m 32 ls [.int y]) := fun hk => lv_tableIn (off := 842) (tgt := 874) hx hb dl_32 (by rw [ey]; omega) (by rw [ey]; omega) (by rw [ey, hk]; rfl) (by decide) (lc_28 hA0 hi5 (h28 i T P hi5 hT) go)
    have hall : q = 0 ∨ q = 1 ∨ q = 2 ∨ q = 3 ∨ q = 4 ∨ q = 5 ∨ q = 6 ∨ q = 7 ∨ q = 8 ∨ q = 9 ∨ q = 10 ∨ q = 11 ∨ q = 12 ∨ q = 13 ∨ q = 14 ∨ q = 15 ∨ q = 16 ∨ q = 17 ∨ q = 18 ∨ q = 19 ∨ q = 20 ∨ q = 21 ∨ q = 22 ∨ q = 23 ∨ q = 24 ∨ q = 25 ∨ q = 26 ∨ q = 27 ∨ q = 28 := by omega
    rcases hall with hk | hk | hk | hk | hk | hk | hk | hk | hk | hk | hk | hk | hk | hk | hk | hk | hk | hk | hk | hk | hk | hk | hk | hk | hk | hk | hk | hk | hk
    · exact d0 hk
    · exact d1 hk
    · exact d2 hk
    · exact d3 hk
    · exact d4 hk
    · exact d5 hk
    · exact d6 hk
    · exact d7 hk
    · exact d8 hk
    · exact d9 hk
    · exact d10 hk
    · exact d11 hk
    · exact d12 hk
    · exact d13 hk
    · exact d14 hk
    · exact d15 hk
    · exact d16 hk
    · exact d17 hk
    · exact d18 hk
    · exact d19 hk
    · exact d20 hk
    · exact d21 hk
    · exact d22 hk
    · exact d23 hk
    · exact d24 hk
    · exact d25 hk
    · exact d26 hk
    · exact d27 hk
    · exact d28 hk
end
section
/-! the law from its entry -/
theorem law_start {p : Program} {e : Env} {s : State} {m : MethodId} {below : List Frame} {meth : Method} {c : Code} (l : Launch) {b0 L : Nat} {xs : Nat → Int32} {J : Nat → (Nat → Nat → Int32) → (Nat → Nat → Nat) → Prop} (hL : L ≤ 2560) (C0 : lw_At p s m meth c b0 L xs) (hJ : LH L J)
    (hini : ∃ (h h2 : List hC) (bb b2 : Nat), exec 6000 89 0 (pad 89 [.ref 0]) [] [hO 10 ((List.range (fN 10)).map (fun k => dfl (fty 10 k)))] = some (none, h, 365, bb) ∧ bb ≤ 20000 ∧ h.length = 366 ∧ exec 2000 123 0 (pad 123 [.ref 366]) [] (h ++ [hO 11 ((List.range (fN 11)).map (fun k => dfl (fty 11 k)))]) = some (none, h2, 6, b2) ∧ b2 ≤ 20000 ∧ ∃ T P, (∀ (b : Nat) (t : Nat → Nat) (ac : Nat → ClassId) (D : va_G) (Hp : Heap), WH b t ac D h2 Hp → WH b t ac D (H T P) Hp) ∧ J 0 T P) :
    W p l e room_1 s m #[Value.ref b0] below meth c s.heap [] 0 0 (lw_Z below #[Value.ref b0] s) (entryFrame m ([Value.ref b0] : List Value).toArray 8) := by
  obtain ⟨t, ac, D, hE⟩ := EV_at C0
  obtain ⟨hx, hb, hr, hml, hown, hts0, hX, hbl, hlocks, hgv⟩ := id C0
  obtain ⟨h, h2, bb, b2, x1, y1, y2, x2, y3, T, P, hWH, hJ0⟩ := hini
  have hts : ∀ w ∈ gw, w.before #[Value.ref b0] s = true := fun w h => hts0 w (gw_tbl w h)
  have hC : LC s.heap.size t ac D p s m #[Value.ref b0] c := ⟨hx, hb, hml, hown, hts, hE, Nat.le_refl _⟩
  have hl := lv_entry ([.ref b0]) (n := 8) (Nat.le_of_ble_eq_true rfl)
  rw [lg_entry_eq]
  generalize (lg_sl ([.ref b0]) ++ List.replicate (8 - (lg_sl ([.ref b0])).length) Slot.unset).toArray = ls at hl ⊢
  have hl : lv_has ls 8 [(0, .ref b0)] := hl
  have hW : WH s.heap.size t ac D [] s.heap := fun k q h => by simp [wz] at h
  have hS : va_S (fun q => s.heap.size ≤ q) s.heap s.heap [] := va_S.rf
  refine L_new (i := 7) (ci := 10) (q := 78) (h := []) (st := []) (by decide) hC dl_0 hW hS (by decide) (Nat.le_refl _) ⟨by decide, by decide⟩ (fun Hp hW hS => ?_)
  refine lv_dup hx hb dl_3 rfl ?_
  refine L_init (i := 9) (j := 89) (q := 80) (a := 0) (h := [hO 10 ((List.range (fN 10)).map (fun k => dfl (fty 10 k)))]) (rest := [.ref (ad s.heap.size t 0)]) (by decide) hC dl_4 x1 (show 1 = mA 89 from by decide +kernel) (by decide +kernel) (by decide +kernel) hl.1 (Nat.le_of_ble_eq_true rfl) hW hS (by decide) (Nat.le_refl _) ⟨by decide, by show 0 + 6 + bb ≤ 7302249; omega⟩ (fun Hp locs hW hS => ?_)
  refine lv_astore_n (x := ad s.heap.size t 0) (lv' := [(1, .ref (ad s.heap.size t 0)), (0, .ref b0)]) hx hb dl_7 rfl hl (by decide) rfl (fun ls hl => ?_)
  refine L_new (i := 10) (ci := 11) (q := 883) (h := h) (st := []) (by decide) hC dl_8 hW hS (by rw [y2]; decide) (by rw [y2]; exact Nat.le_refl _) ⟨by decide, by show 0 + 6 + bb + 13 ≤ 7302249; omega⟩ (fun Hp hW hS => ?_)
  rw [y2]
  refine lv_dup hx hb dl_11 rfl ?_
  refine L_init (i := 12) (j := 123) (q := 885) (a := 366) (h := h ++ [hO 11 ((List.range (fN 11)).map (fun k => dfl (fty 11 k)))]) (rest := [.ref (ad s.heap.size t 366)]) (by decide) hC dl_12 x2 (show 1 = mA 123 from by decide +kernel) (by decide +kernel) (by decide +kernel) hl.1 (Nat.le_of_ble_eq_true rfl) hW hS (by rw [List.length_append, y2]; decide) (by rw [List.length_append, y2]; exact Nat.le_refl _) ⟨by decide, by show 0 + 6 + bb + 13 + b2 ≤ 7302249; omega⟩ (fun Hp locs hW hS => ?_)
  refine lv_astore_n (x := ad s.heap.size t 366) (lv' := [(2, .ref (ad s.heap.size t 366)), (1, .ref (ad s.heap.size t 0)), (0, .ref b0)]) hx hb dl_15 rfl hl (by decide) rfl (fun ls hl => ?_)
  refine lv_iconst (v := 0) hx hb dl_16 (by decide) ?_
  refine lv_istore_n (lv' := [(3, .int 0), (2, .ref (ad s.heap.size t 366)), (1, .ref (ad s.heap.size t 0)), (0, .ref b0)]) hx hb dl_17 rfl hl (by decide) rfl (fun ls hl => ?_)
  exact law_loop (sl := 0 + 6 + bb + 13 + b2) hr hlocks hJ (L + 1) 0 T P Hp locs ls (by omega) (by decide) ⟨hC, hX, hbl, hL, hl, hWH _ _ _ _ _ hW, hS, by omega⟩ hJ0
end
section
/-! small things for the law -/
theorem nar_c (x : Int32) : vp_nar .char (x.toUInt32 % 65536).toInt32 = (x.toUInt32 % 65536).toInt32 := by
  rw [vp_nar_char]
  generalize x.toUInt32 = z
  rw [show (z % 65536).toInt32.toUInt32 = z % 65536 from rfl]
  refine congrArg UInt32.toInt32 ?_
  apply UInt32.toNat_inj.mp
  rw [UInt16.toNat_toUInt32, UInt32.toNat_toUInt16, UInt32.toNat_mod]
  exact Nat.mod_mod _ _
theorem arrV_cg {cA : ClassId} {n : Nat} {f g : Nat → Value} (h : ∀ j, j < n → f j = g j) : arrV cA n f = arrV cA n g := by
  have : (fun j : Fin n => f j.val) = fun j : Fin n => g j.val := funext fun j => h j.val j.isLt
  unfold arrV
  rw [this]
theorem WH_nrm {b : Nat} {t : Nat → Nat} {ac : Nat → ClassId} {D : va_G} {h : List hC} {Hp : Heap} (hW : WH b t ac D h Hp) : WH b t ac D (h.map nrm) Hp := by
  intro k q hq
  obtain ⟨x, hx, rfl⟩ := wz_of hq
  rw [List.getElem?_map] at hx
  cases hy : h[k]? with
  | none => rw [hy] at hx; cases hx
  | some y =>
    rw [hy] at hx
    have hx : nrm y = x := Option.some.inj hx
    subst hx
    have h0 := hW k _ (wz_at hy)
    rcases y with ⟨ci, fs⟩ | ⟨u, n, f | g⟩
    · exact h0
    · exact h0
    · have h0 : Hp[ad b t k]? = some (arrV (ac u) n (fun j => va_rf ((g j).map (ad b t)))) := h0
      show Hp[ad b t k]? = some (arrV (ac u) n (fun j => va_rf ((if j < n then g j else none).map (ad b t))))
      rw [h0]
      exact congrArg some (arrV_cg (fun j hj => by rw [if_pos hj]))
end
