/-! the law, a turn -/
theorem hp_sz {T : Nat → Nat → Int32} {P : Nat → Nat → Nat} : (H T P).length ≤ sB := by rw [H_len]; decide
theorem hp_at {s : State} {T : Nat → Nat → Int32} {P : Nat → Nat → Nat} : s.heap.size + 366 ≤ s.heap.size + (H T P).length := by rw [H_len]; exact Nat.le_refl _
theorem hc0 {T : Nat → Nat → Int32} {P : Nat → Nat → Nat} {j : Nat} (h : mC j = 10) : (H T P)[0]? = some (.inl (mC j, mkF (T 0) 0 [some 1, some 52, some 103, some 154, some 360, none])) := by rw [h, H_at, sh0]; rfl
/-- the law at work -/
def LA (p : Program) (s : State) (m : MethodId) (c : Code) (b0 L : Nat) (xs : Nat → Int32) (t : Nat → Nat) (ac : Nat → ClassId) (D : va_G) (sl : Nat) : Prop :=
  LC s.heap.size t ac D p s m #[Value.ref b0] c ∧ va_X b0 L xs s s.heap ∧ b0 < s.heap.size ∧ L ≤ 260 ∧ sl ≤ 7302250
theorem cmp_0 (x : Int64) : lg_cmp x x = 0 := by simp [lg_cmp]
section LAWT
variable {p : Program} {l : Launch} {e : Env} {s : State} {m : MethodId} {below : List Frame} {meth : Method} {c : Code} {Q : State → Prop} {b0 L : Nat} {xs : Nat → Int32} {t : Nat → Nat} {ac : Nat → ClassId} {D : va_G} {T EE : Nat → Nat → Int32} {P : Nat → Nat → Nat} {Hp : Heap} {locs : List Loc} {ls : Array Slot} {i n sl : Nat} {g : gT} {v w : Int32}
theorem lw_H (hA : LA p s m c b0 L xs t ac D sl) (hW : WH s.heap.size t ac D (H T P) Hp) (hS : va_S (fun q => s.heap.size ≤ q) s.heap Hp locs) (hl : lv_has ls 14 [(2, .int (nI i)), (1, .ref (ad s.heap.size t 0)), (0, .ref b0)]) (k : ∀ ls : Array Slot, lv_has ls 14 [(2, .int (nI (i + 1))), (1, .ref (ad s.heap.size t 0)), (0, .ref b0)] → W p l e room_1 s m #[Value.ref b0] below meth c Hp locs 366 sl Q (F0 m 46 ls [])) : W p l e room_1 s m #[Value.ref b0] below meth c Hp locs 366 sl Q (F0 m 330 ls []) := by
  obtain ⟨hC, hX, hbl, hL, hsl⟩ := id hA
  have hx := hC.1
  have hb := hC.2.1
  have hbA : ¬ (fun q : Nat => s.heap.size ≤ q) b0 := Nat.not_le.mpr hbl
  have cs : 366 ≤ room_1.cells ∧ sl ≤ room_1.slots := ⟨by decide, hsl⟩
  refine lv_iinc (v := nI (i + 1)) (lv' := [(2, .int (nI (i + 1))), (1, .ref (ad s.heap.size t 0)), (0, .ref b0)]) hx hb dl_330 hl (k := 0) rfl (nI_add i 1) (by decide) rfl (fun ls hl => ?_)
  refine lv_goto (tgt := 46) hx hb dl_333 (by decide) ?_
  exact k ls hl
theorem lw_G {pn mn : Int32} (hg : CG EE T P g) (hi : IG (n + 27000000) g) {M : Nat} (hM1 : 1 ≤ M) (hM2 : M ≤ 90) (hmn : mn = nI M) (hpn : pn = (gIron mn g).1) (hA : LA p s m c b0 L xs t ac D sl) (hW : WH s.heap.size t ac D (H T P) Hp) (hS : va_S (fun q => s.heap.size ≤ q) s.heap Hp locs) (hl : lv_has ls 14 [(12, .int pn), (11, .int mn), (2, .int (nI i)), (1, .ref (ad s.heap.size t 0)), (0, .ref b0)]) (k : ∀ (T : Nat → Nat → Int32) (P : Nat → Nat → Nat) (g : gT) (Hp : Heap) (locs : List Loc) (ls : Array Slot), CG EE T P g → IG (n + 27000000) g → WH s.heap.size t ac D (H T P) Hp → va_S (fun q => s.heap.size ≤ q) s.heap Hp locs → lv_has ls 14 [(2, .int (nI (i + 1))), (1, .ref (ad s.heap.size t 0)), (0, .ref b0)] → W p l e room_1 s m #[Value.ref b0] below meth c Hp locs 366 sl Q (F0 m 46 ls [])) : W p l e room_1 s m #[Value.ref b0] below meth c Hp locs 366 sl Q (F0 m 283 ls []) := by
  obtain ⟨hC, hX, hbl, hL, hsl⟩ := id hA
  have hx := hC.1
  have hb := hC.2.1
  have hbA : ¬ (fun q : Nat => s.heap.size ≤ q) b0 := Nat.not_le.mpr hbl
  have cs : 366 ≤ room_1.cells ∧ sl ≤ room_1.slots := ⟨by decide, hsl⟩
  have e1 := g_count rfl hg 14
  rw [c14] at e1
  obtain ⟨T1, e2, hg1⟩ := g_iron rfl hg (nI M)
  have ei := iron_is (s := g) hM1 hM2
  rw [ei] at hg1
  have e3 := g_count rfl hg1 14
  rw [c14] at e3
  obtain ⟨T2, e4, hg2⟩ := g_undo rfl hg1
  have eu := undo_ps (s := g) (irU g.1 (nI M))
  have hg1' : CG EE T1 P (irU g.1 (nI M), g.2.1, psL g, g.2.2.2) := hg1
  rw [eu] at e4 hg2
  obtain ⟨tt, ht1, ht2⟩ := ir_min g.1.1.1 (B := g.1.1.2.2.1) 288 g.1.1.2.1 g.1.2 M (by omega) hg.wg.1.1
  have e2 : X 96 0 [.ref 0, .int mn] [] (H T P) = some (some (.int pn), H T1 P) := by rw [hpn, hmn]; exact e2
  have e3 : X 112 0 [.ref 0, .int 14] [] (H T1 P) = some (some (.int (g.1.1.2.1 48 3 + nI tt)), H T1 P) := by rw [← ht2]; exact e3
  have e4 : X 104 0 [.ref 0] [] (H T1 P) = some (some (.int (nI (g.2.2.1.take 3).length)), H T2 P) := e4
  refine lv_iload_n hx hb dl_283 rfl (lv_at hl 2 rfl) ?_
  refine lv_iconst (v := 4) hx hb dl_284 (by decide) ?_
  refine lv_irem hx hb dl_285 (by decide) ?_
  refine lv_iconst (v := 3) hx hb dl_286 (by decide) ?_
  refine lv_icmp_ne (tgt := 330) hx hb dl_287 (by decide) (fun _ => ?_) (fun _ => ?_)
  · exact lw_H hA hW hS (lv_sub hl [2, 3, 4] rfl) (fun ls hl => k T P g Hp locs ls hg hi hW hS hl)
  refine lv_aload_n hx hb dl_290 rfl (lv_at hl 3 rfl) ?_
  refine lv_bipush (v := 14) hx hb dl_291 (by decide) ?_
  refine L_call (i := 12) (j := 112) (q := 454) (a := 0) (as := [.int 14]) (rest := []) (by decide) hC dl_293 (by decide +kernel) e1 (hc0 (by decide +kernel)) rfl (show 2 = mA 112 from by decide +kernel) (by decide +kernel) (by decide +kernel) hl.1 (Nat.le_of_ble_eq_true rfl) hW hS hp_sz hp_at cs (fun Hp locs hW hS => ?_)
  change W p l e room_1 s m #[Value.ref b0] below meth c Hp locs 366 sl Q (F0 m 296 ls [.int (g.1.1.2.1 48 3)])
  refine lv_istore (lv' := [(13, .int (g.1.1.2.1 48 3)), (12, .int pn), (11, .int mn), (2, .int (nI i)), (1, .ref (ad s.heap.size t 0)), (0, .ref b0)]) hx hb dl_296 hl (by decide) rfl (fun ls hl => ?_)
  refine lv_aload_n hx hb dl_298 rfl (lv_at hl 4 rfl) ?_
  refine lv_iload hx hb dl_299 (lv_at hl 2 rfl) ?_
  refine L_call (i := 55) (j := 96) (q := 328) (a := 0) (as := [.int mn]) (rest := []) (by decide) hC dl_301 (by decide +kernel) e2 (hc0 (by decide +kernel)) rfl (show 2 = mA 96 from by decide +kernel) (by decide +kernel) (by decide +kernel) hl.1 (Nat.le_of_ble_eq_true rfl) hW hS hp_sz hp_at cs (fun Hp locs hW hS => ?_)
  change W p l e room_1 s m #[Value.ref b0] below meth c Hp locs 366 sl Q (F0 m 304 ls [.int pn])
  refine lv_iload hx hb dl_304 (lv_at hl 1 rfl) ?_
  refine lv_icmp_ne (tgt := 323) hx hb dl_306 (by decide) (fun hn => absurd rfl hn) (fun _ => ?_)
  refine lv_aload_n hx hb dl_309 rfl (lv_at hl 4 rfl) ?_
  refine lv_bipush (v := 14) hx hb dl_310 (by decide) ?_
  refine L_call (i := 12) (j := 112) (q := 454) (a := 0) (as := [.int 14]) (rest := []) (by decide) hC dl_312 (by decide +kernel) e3 (hc0 (by decide +kernel)) rfl (show 2 = mA 112 from by decide +kernel) (by decide +kernel) (by decide +kernel) hl.1 (Nat.le_of_ble_eq_true rfl) hW hS hp_sz hp_at cs (fun Hp locs hW hS => ?_)
  change W p l e room_1 s m #[Value.ref b0] below meth c Hp locs 366 sl Q (F0 m 315 ls [.int (g.1.1.2.1 48 3 + nI tt)])
  refine lv_iload hx hb dl_315 (lv_at hl 0 rfl) ?_
  refine lv_isub hx hb dl_317 ?_
  refine lv_iload hx hb dl_318 (lv_at hl 2 rfl) ?_
  have hle : g.1.1.2.1 48 3 + nI tt - g.1.1.2.1 48 3 ≤ mn := by
    rw [hmn, show g.1.1.2.1 48 3 + nI tt - g.1.1.2.1 48 3 = nI tt by generalize g.1.1.2.1 48 3 = a; grind, Int32.le_iff_toInt_le, nI_toInt (by omega), nI_toInt (by omega)]
    omega
  refine lv_icmp_le (tgt := 325) hx hb dl_320 (by decide) (fun _ => ?_) (fun hn => absurd hle hn)
  refine lv_aload_n hx hb dl_325 rfl (lv_at hl 4 rfl) ?_
  refine L_call (i := 75) (j := 104) (q := 437) (a := 0) (as := []) (rest := []) (by decide) hC dl_326 (by decide +kernel) e4 (hc0 (by decide +kernel)) rfl (show 1 = mA 104 from by decide +kernel) (by decide +kernel) (by decide +kernel) hl.1 (Nat.le_of_ble_eq_true rfl) hW hS hp_sz hp_at cs (fun Hp locs hW hS => ?_)
  change W p l e room_1 s m #[Value.ref b0] below meth c Hp locs 366 sl Q (F0 m 329 ls [.int (nI (g.2.2.1.take 3).length)])
  refine lv_pop hx hb dl_329 rfl ?_
  exact lw_H hA hW hS (lv_sub hl [3, 4, 5] rfl) (fun ls hl => k T2 P (g.1, g.2.1, g.2.2.1.take 3, g.2.2.2) Hp locs ls hg2 hi.back hW hS hl)
theorem lw_F (hg : CG EE T P g) (hi : IG (n + 27000000) g) (hA : LA p s m c b0 L xs t ac D sl) (hW : WH s.heap.size t ac D (H T P) Hp) (hS : va_S (fun q => s.heap.size ≤ q) s.heap Hp locs) (hl : lv_has ls 14 [(4, .int w), (2, .int (nI i)), (1, .ref (ad s.heap.size t 0)), (0, .ref b0)]) (k : ∀ (T : Nat → Nat → Int32) (P : Nat → Nat → Nat) (g : gT) (Hp : Heap) (locs : List Loc) (ls : Array Slot), CG EE T P g → IG (n + 27000000) g → WH s.heap.size t ac D (H T P) Hp → va_S (fun q => s.heap.size ≤ q) s.heap Hp locs → lv_has ls 14 [(2, .int (nI (i + 1))), (1, .ref (ad s.heap.size t 0)), (0, .ref b0)] → W p l e room_1 s m #[Value.ref b0] below meth c Hp locs 366 sl Q (F0 m 46 ls [])) : W p l e room_1 s m #[Value.ref b0] below meth c Hp locs 366 sl Q (F0 m 255 ls []) := by
  obtain ⟨hC, hX, hbl, hL, hsl⟩ := id hA
  have hx := hC.1
  have hb := hC.2.1
  have hbA : ¬ (fun q : Nat => s.heap.size ≤ q) b0 := Nat.not_le.mpr hbl
  have cs : 366 ≤ room_1.cells ∧ sl ≤ room_1.slots := ⟨by decide, hsl⟩
  obtain ⟨M, hM1, hM2, hM⟩ := mins_ok (w >>> (3 &&& 31))
  have e1 := l_low (h := H T P) (x := w >>> (3 &&& 31)) (y := 90) (by decide)
  have e2 := g_count rfl hg 19
  rw [c19] at e2
  obtain ⟨T1, e3, hg1⟩ := g_if rfl rfl hg (g.1.1.2.1 1 0) (nI M) 0
  rw [if_is hg.wg hM1 hM2] at e3
  refine lv_iconst (v := 1) hx hb dl_255 (by decide) ?_
  refine lv_iload hx hb dl_256 (lv_at hl 0 rfl) ?_
  refine lv_iconst (v := 3) hx hb dl_258 (by decide) ?_
  refine lv_ishr hx hb dl_259 ?_
  refine lv_bipush (v := 90) hx hb dl_260 (by decide) ?_
  refine L_callS (i := 34) (j := 123) (q := 504) (as := [.int (w >>> (3 &&& 31)), .int 90]) (rest := [.int 1]) (by decide) hC dl_262 (by decide +kernel) e1 rfl (show 2 = mA 123 from by decide +kernel) (by decide +kernel) (by decide +kernel) hl.1 (Nat.le_of_ble_eq_true rfl) hW hS hp_sz hp_at cs (fun Hp locs hW hS => ?_)
  change W p l e room_1 s m #[Value.ref b0] below meth c Hp locs 366 sl Q (F0 m 265 ls [.int (lwI (w >>> (3 &&& 31)) 90), .int 1])
  refine lv_iadd hx hb dl_265 ?_
  rw [hM]
  refine lv_istore (lv' := [(11, .int (nI M)), (4, .int w), (2, .int (nI i)), (1, .ref (ad s.heap.size t 0)), (0, .ref b0)]) hx hb dl_266 hl (by decide) rfl (fun ls hl => ?_)
  refine lv_aload_n hx hb dl_268 rfl (lv_at hl 3 rfl) ?_
  refine lv_aload_n hx hb dl_269 rfl (lv_at hl 3 rfl) ?_
  refine lv_bipush (v := 19) hx hb dl_270 (by decide) ?_
  refine L_call (i := 12) (j := 112) (q := 454) (a := 0) (as := [.int 19]) (rest := [.ref (ad s.heap.size t 0)]) (by decide) hC dl_272 (by decide +kernel) e2 (hc0 (by decide +kernel)) rfl (show 2 = mA 112 from by decide +kernel) (by decide +kernel) (by decide +kernel) hl.1 (Nat.le_of_ble_eq_true rfl) hW hS hp_sz hp_at cs (fun Hp locs hW hS => ?_)
  change W p l e room_1 s m #[Value.ref b0] below meth c Hp locs 366 sl Q (F0 m 275 ls [.int (g.1.1.2.1 1 0), .ref (ad s.heap.size t 0)])
  refine lv_iload hx hb dl_275 (lv_at hl 0 rfl) ?_
  refine lv_iconst (v := 0) hx hb dl_277 (by decide) ?_
  refine L_call (i := 101) (j := 114) (q := 493) (a := 0) (as := [.int (g.1.1.2.1 1 0), .int (nI M), .int 0]) (rest := []) (by decide) hC dl_278 (by decide +kernel) e3 (hc0 (by decide +kernel)) rfl (show 4 = mA 114 from by decide +kernel) (by decide +kernel) (by decide +kernel) hl.1 (Nat.le_of_ble_eq_true rfl) hW hS hp_sz hp_at cs (fun Hp locs hW hS => ?_)
  change W p l e room_1 s m #[Value.ref b0] below meth c Hp locs 366 sl Q (F0 m 281 ls [.int (gIron (nI M) g).1])
  refine lv_istore (lv' := [(12, .int (gIron (nI M) g).1), (11, .int (nI M)), (4, .int w), (2, .int (nI i)), (1, .ref (ad s.heap.size t 0)), (0, .ref b0)]) hx hb dl_281 hl (by decide) rfl (fun ls hl => ?_)
  exact lw_G hg1 hi hM1 hM2 rfl rfl hA hW hS (lv_sub hl [0, 1, 3, 4, 5] rfl) k
theorem lw_E (hg : CG EE T P g) (hi : IG (n + 27000000) g) (hn : n + 27000000 < 2 ^ 31) (hA : LA p s m c b0 L xs t ac D sl) (hW : WH s.heap.size t ac D (H T P) Hp) (hS : va_S (fun q => s.heap.size ≤ q) s.heap Hp locs) (hl : lv_has ls 14 [(4, .int w), (2, .int (nI i)), (1, .ref (ad s.heap.size t 0)), (0, .ref b0)]) (k : ∀ (T : Nat → Nat → Int32) (P : Nat → Nat → Nat) (g : gT) (Hp : Heap) (locs : List Loc) (ls : Array Slot), CG EE T P g → IG (n + 27000000) g → WH s.heap.size t ac D (H T P) Hp → va_S (fun q => s.heap.size ≤ q) s.heap Hp locs → lv_has ls 14 [(2, .int (nI (i + 1))), (1, .ref (ad s.heap.size t 0)), (0, .ref b0)] → W p l e room_1 s m #[Value.ref b0] below meth c Hp locs 366 sl Q (F0 m 46 ls [])) : W p l e room_1 s m #[Value.ref b0] below meth c Hp locs 366 sl Q (F0 m 246 ls []) := by
  obtain ⟨hC, hX, hbl, hL, hsl⟩ := id hA
  have hx := hC.1
  have hb := hC.2.1
  have hbA : ¬ (fun q : Nat => s.heap.size ≤ q) b0 := Nat.not_le.mpr hbl
  have cs : 366 ≤ room_1.cells ∧ sl ≤ room_1.slots := ⟨by decide, hsl⟩
  have e1 := q_holds hg hi.1 hn
  refine lv_aload_n hx hb dl_246 rfl (lv_at hl 2 rfl) ?_
  refine L_callS (i := 97) (j := 126) (q := 737) (as := [.ref 0]) (rest := []) (by decide) hC dl_247 (by decide +kernel) e1 rfl (show 1 = mA 126 from by decide +kernel) (by decide +kernel) (by decide +kernel) hl.1 (Nat.le_of_ble_eq_true rfl) hW hS hp_sz hp_at cs (fun Hp locs hW hS => ?_)
  change W p l e room_1 s m #[Value.ref b0] below meth c Hp locs 366 sl Q (F0 m 250 ls [.int 1])
  refine lv_if_ne (tgt := 255) hx hb dl_250 (by decide) (fun _ => ?_) (fun hn => absurd hn (by decide))
  exact lw_F hg hi hA hW hS hl k
theorem lw_D {gB : gT} (hs : STQ n gB (aT v w gB)) (hge : g = (aT v w gB).2) (hg : CG EE T P g) (hi : IG (n + 27000000) g) (hiB : IG n gB) (hn : n + 27000000 < 2 ^ 31) (hwB : WG gB) (hA : LA p s m c b0 L xs t ac D sl) (hW : WH s.heap.size t ac D (H T P) Hp) (hS : va_S (fun q => s.heap.size ≤ q) s.heap Hp locs) (hl : lv_has ls 14 [(9, .long (tF g)), (8, .int (aT v w gB).1), (5, .long (tF gB)), (4, .int w), (3, .int v), (2, .int (nI i)), (1, .ref (ad s.heap.size t 0)), (0, .ref b0)]) (k : ∀ (T : Nat → Nat → Int32) (P : Nat → Nat → Nat) (g : gT) (Hp : Heap) (locs : List Loc) (ls : Array Slot), CG EE T P g → IG (n + 27000000) g → WH s.heap.size t ac D (H T P) Hp → va_S (fun q => s.heap.size ≤ q) s.heap Hp locs → lv_has ls 14 [(2, .int (nI (i + 1))), (1, .ref (ad s.heap.size t 0)), (0, .ref b0)] → W p l e room_1 s m #[Value.ref b0] below meth c Hp locs 366 sl Q (F0 m 46 ls [])) : W p l e room_1 s m #[Value.ref b0] below meth c Hp locs 366 sl Q (F0 m 179 ls []) := by
  obtain ⟨hC, hX, hbl, hL, hsl⟩ := id hA
  have hx := hC.1
  have hb := hC.2.1
  have hbA : ¬ (fun q : Nat => s.heap.size ≤ q) b0 := Nat.not_le.mpr hbl
  have cs : 366 ≤ room_1.cells ∧ sl ≤ room_1.slots := ⟨by decide, hsl⟩
  refine lv_iload hx hb dl_179 (lv_at hl 1 rfl) ?_
  refine lv_if_lt (tgt := 246) hx hb dl_181 (by decide) (fun _ => ?_) (fun h0 => ?_)
  · exact lw_E hg hi hn hA hW hS (lv_sub hl [3, 5, 6, 7] rfl) k
  refine lv_iload_n hx hb dl_184 rfl (lv_at hl 4 rfl) ?_
  refine lv_bipush (v := 10) hx hb dl_185 (by decide) ?_
  refine lv_ishr hx hb dl_187 ?_
  refine lv_iconst (v := 1) hx hb dl_188 (by decide) ?_
  refine lv_iand hx hb dl_189 ?_
  refine lv_if_ne (tgt := 246) hx hb dl_190 (by decide) (fun _ => ?_) (fun _ => ?_)
  · exact lw_E hg hi hn hA hW hS (lv_sub hl [3, 5, 6, 7] rfl) k
  obtain ⟨u1, eu1, hu1⟩ : ∃ u1, g = (u1, gB.2.1, psL gB, gB.2.2.2) ∧ IV (n + 27000000) u1 := by
    rcases hs with ⟨a, -⟩ | ⟨-, u1, a, b⟩
    · exact absurd a h0
    · exact ⟨u1, hge.trans a, b⟩
  have e1 := g_count rfl hg 17
  rw [c17] at e1
  have hgl : g.2.2.1.length = (gB.2.2.1.take 3).length + 1 := by rw [eu1]; exact ps_len
  obtain ⟨T1, e2, hg1⟩ := g_undo rfl hg
  obtain ⟨gb, hgb⟩ : ∃ gb, gb = (gB.1, gB.2.1, gB.2.2.1.take 3, gB.2.2.2) := ⟨_, rfl⟩
  have eu : gUndo g = (nI (gB.2.2.1.take 3).length, gb) := by rw [eu1, hgb]; exact undo_ps (s := gB) u1
  rw [eu] at e2 hg1
  have hg1 : CG EE T1 P gb := hg1
  have e3 := l_told hg1
  have et1 : tF gb = tF gB := tF_eq (by rw [hgb])
  rw [et1] at e3
  obtain ⟨T2, P2, e4, hg2⟩ := l_act hg1 v w
  obtain ⟨q1, q2⟩ := act_again hs h0
  rw [← hgb] at q1 q2
  rw [q1] at e4
  have e5 := l_told hg2
  have et2 : tF (aT v w gb).2 = tF g := tF_eq (by rw [q2, hge])
  rw [et2] at e5
  have hiB2 : IG n gb := by rw [hgb]; exact hiB.back
  have hi2 : IG (n + 27000000) (aT v w gb).2 := by
    rcases ok_act (s := gb) hg1.wg hiB2 (by omega) v w with ⟨-, a⟩ | ⟨-, u2, a, b⟩
    · rw [a]; exact hiB2.mono (by omega)
    · rw [a]; exact hiB2.ps b (by omega)
  have e1 : X 112 0 [.ref 0, .int 17] [] (H T P) = some (some (.int (nI ((gB.2.2.1.take 3).length + 1))), H T P) := by rw [← hgl]; exact e1
  have e2 : X 104 0 [.ref 0] [] (H T P) = some (some (.int (nI (gB.2.2.1.take 3).length)), H T1 P) := e2
  have ed : nI ((gB.2.2.1.take 3).length + 1) - 1 = nI (gB.2.2.1.take 3).length := by rw [show (1 : Int32) = nI 1 from rfl, nI_sub (by omega), Nat.add_sub_cancel]
  refine lv_aload_n hx hb dl_193 rfl (lv_at hl 6 rfl) ?_
  refine lv_bipush (v := 17) hx hb dl_194 (by decide) ?_
  refine L_call (i := 12) (j := 112) (q := 454) (a := 0) (as := [.int 17]) (rest := []) (by decide) hC dl_196 (by decide +kernel) e1 (hc0 (by decide +kernel)) rfl (show 2 = mA 112 from by decide +kernel) (by decide +kernel) (by decide +kernel) hl.1 (Nat.le_of_ble_eq_true rfl) hW hS hp_sz hp_at cs (fun Hp locs hW hS => ?_)
  change W p l e room_1 s m #[Value.ref b0] below meth c Hp locs 366 sl Q (F0 m 199 ls [.int (nI ((gB.2.2.1.take 3).length + 1))])
  refine lv_iconst (v := 1) hx hb dl_199 (by decide) ?_
  refine lv_isub hx hb dl_200 ?_
  rw [ed]
  refine lv_istore (lv' := [(11, .int (nI (gB.2.2.1.take 3).length)), (9, .long (tF g)), (8, .int (aT v w gB).1), (5, .long (tF gB)), (4, .int w), (3, .int v), (2, .int (nI i)), (1, .ref (ad s.heap.size t 0)), (0, .ref b0)]) hx hb dl_201 hl (by decide) rfl (fun ls hl => ?_)
  refine lv_aload_n hx hb dl_203 rfl (lv_at hl 7 rfl) ?_
  refine L_call (i := 75) (j := 104) (q := 437) (a := 0) (as := []) (rest := []) (by decide) hC dl_204 (by decide +kernel) e2 (hc0 (by decide +kernel)) rfl (show 1 = mA 104 from by decide +kernel) (by decide +kernel) (by decide +kernel) hl.1 (Nat.le_of_ble_eq_true rfl) hW hS hp_sz hp_at cs (fun Hp locs hW hS => ?_)
  change W p l e room_1 s m #[Value.ref b0] below meth c Hp locs 366 sl Q (F0 m 207 ls [.int (nI (gB.2.2.1.take 3).length)])
  refine lv_iload hx hb dl_207 (lv_at hl 0 rfl) ?_
  refine lv_icmp_ne (tgt := 244) hx hb dl_209 (by decide) (fun hn => absurd rfl hn) (fun _ => ?_)
  refine lv_aload_n hx hb dl_212 rfl (lv_at hl 7 rfl) ?_
  refine L_callS (i := 89) (j := 124) (q := 508) (as := [.ref 0]) (rest := []) (by decide) hC dl_213 (by decide +kernel) e3 rfl (show 1 = mA 124 from by decide +kernel) (by decide +kernel) (by decide +kernel) hl.1 (Nat.le_of_ble_eq_true rfl) hW hS hp_sz hp_at cs (fun Hp locs hW hS => ?_)
  change W p l e room_1 s m #[Value.ref b0] below meth c Hp locs 366 sl Q (F0 m 216 ls [.long (tF gB)])
  refine lv_lload hx hb dl_216 (lv_at hl 3 rfl) ?_
  refine W.lcmp hx hb dl_218 ?_
  refine lv_if_ne (tgt := 244) hx hb dl_219 (by decide) (fun hn => absurd (cmp_0 _) hn) (fun _ => ?_)
  refine lv_aload_n hx hb dl_222 rfl (lv_at hl 7 rfl) ?_
  refine lv_iload_n hx hb dl_223 rfl (lv_at hl 5 rfl) ?_
  refine lv_iload hx hb dl_224 (lv_at hl 4 rfl) ?_
  refine L_callS (i := 93) (j := 125) (q := 596) (as := [.ref 0, .int v, .int w]) (rest := []) (by decide) hC dl_226 (by decide +kernel) e4 rfl (show 3 = mA 125 from by decide +kernel) (by decide +kernel) (by decide +kernel) hl.1 (Nat.le_of_ble_eq_true rfl) hW hS hp_sz hp_at cs (fun Hp locs hW hS => ?_)
  change W p l e room_1 s m #[Value.ref b0] below meth c Hp locs 366 sl Q (F0 m 229 ls [.int (aT v w gB).1])
  refine lv_iload hx hb dl_229 (lv_at hl 2 rfl) ?_
  refine lv_icmp_ne (tgt := 244) hx hb dl_231 (by decide) (fun hn => absurd rfl hn) (fun _ => ?_)
  refine lv_aload_n hx hb dl_234 rfl (lv_at hl 7 rfl) ?_
  refine L_callS (i := 89) (j := 124) (q := 508) (as := [.ref 0]) (rest := []) (by decide) hC dl_235 (by decide +kernel) e5 rfl (show 1 = mA 124 from by decide +kernel) (by decide +kernel) (by decide +kernel) hl.1 (Nat.le_of_ble_eq_true rfl) hW hS hp_sz hp_at cs (fun Hp locs hW hS => ?_)
  change W p l e room_1 s m #[Value.ref b0] below meth c Hp locs 366 sl Q (F0 m 238 ls [.long (tF g)])
  refine lv_lload hx hb dl_238 (lv_at hl 1 rfl) ?_
  refine W.lcmp hx hb dl_240 ?_
  refine lv_if_eq (tgt := 246) hx hb dl_241 (by decide) (fun _ => ?_) (fun hn => absurd (cmp_0 _) hn)
  exact lw_E hg2 hi2 hn hA hW hS (lv_sub hl [4, 6, 7, 8] rfl) k
theorem lw_C {gB : gT} (hs : STQ n gB (aT v w gB)) (hge : g = (aT v w gB).2) (hg : CG EE T P g) (hi : IG (n + 27000000) g) (hiB : IG n gB) (hn : n + 27000000 < 2 ^ 31) (hwB : WG gB) (h4 : gB.2.2.1.length ≤ 4) (hA : LA p s m c b0 L xs t ac D sl) (hW : WH s.heap.size t ac D (H T P) Hp) (hS : va_S (fun q => s.heap.size ≤ q) s.heap Hp locs) (hl : lv_has ls 14 [(9, .long (tF g)), (8, .int (aT v w gB).1), (7, .int (nI gB.2.2.1.length)), (5, .long (tF gB)), (4, .int w), (3, .int v), (2, .int (nI i)), (1, .ref (ad s.heap.size t 0)), (0, .ref b0)]) (k : ∀ (T : Nat → Nat → Int32) (P : Nat → Nat → Nat) (g : gT) (Hp : Heap) (locs : List Loc) (ls : Array Slot), CG EE T P g → IG (n + 27000000) g → WH s.heap.size t ac D (H T P) Hp → va_S (fun q => s.heap.size ≤ q) s.heap Hp locs → lv_has ls 14 [(2, .int (nI (i + 1))), (1, .ref (ad s.heap.size t 0)), (0, .ref b0)] → W p l e room_1 s m #[Value.ref b0] below meth c Hp locs 366 sl Q (F0 m 46 ls [])) : W p l e room_1 s m #[Value.ref b0] below meth c Hp locs 366 sl Q (F0 m 127 ls []) := by
  obtain ⟨hC, hX, hbl, hL, hsl⟩ := id hA
  have hx := hC.1
  have hb := hC.2.1
  have hbA : ¬ (fun q : Nat => s.heap.size ≤ q) b0 := Nat.not_le.mpr hbl
  have cs : 366 ≤ room_1.cells ∧ sl ≤ room_1.slots := ⟨by decide, hsl⟩
  have e1 := g_count rfl hg 17
  rw [c17] at e1
  refine lv_iload hx hb dl_127 (lv_at hl 1 rfl) ?_
  refine lv_if_ge (tgt := 154) hx hb dl_129 (by decide) (fun h0 => ?_) (fun h0 => ?_)
  · have h0 : ¬ (aT v w gB).1 < 0 := Int32.not_lt.mpr h0
    have hgl : g.2.2.1.length = (gB.2.2.1.take 3).length + 1 := by
      rcases hs with ⟨a, -⟩ | ⟨-, u1, a, b⟩
      · exact absurd a h0
      · rw [hge, a]; exact ps_len
    rw [hgl, List.length_take] at e1
    refine lv_aload_n hx hb dl_154 rfl (lv_at hl 7 rfl) ?_
    refine lv_bipush (v := 17) hx hb dl_155 (by decide) ?_
    refine L_call (i := 12) (j := 112) (q := 454) (a := 0) (as := [.int 17]) (rest := []) (by decide) hC dl_157 (by decide +kernel) e1 (hc0 (by decide +kernel)) rfl (show 2 = mA 112 from by decide +kernel) (by decide +kernel) (by decide +kernel) hl.1 (Nat.le_of_ble_eq_true rfl) hW hS hp_sz hp_at cs (fun Hp locs hW hS => ?_)
    change W p l e room_1 s m #[Value.ref b0] below meth c Hp locs 366 sl Q (F0 m 160 ls [.int (nI (min 3 gB.2.2.1.length + 1))])
    refine lv_iload hx hb dl_160 (lv_at hl 2 rfl) ?_
    refine lv_iconst (v := 4) hx hb dl_162 (by decide) ?_
    refine lv_icmp_ge (tgt := 173) hx hb dl_163 (by decide) (fun hq => ?_) (fun hq => ?_)
    · have hq : gB.2.2.1.length = 4 := by
        rw [show (4 : Int32) = nI 4 from rfl, Int32.le_iff_toInt_le, nI_toInt (by decide), nI_toInt (by omega)] at hq
        omega
      refine lv_iconst (v := 4) hx hb dl_173 (by decide) ?_
      refine lv_icmp_eq (tgt := 179) hx hb dl_174 (by decide) (fun _ => ?_) (fun hn => absurd (by rw [hq]; rfl) hn)
      exact lw_D hs hge hg hi hiB hn hwB hA hW hS (lv_sub hl [0, 1, 3, 4, 5, 6, 7, 8] rfl) k
    · have hq : gB.2.2.1.length < 4 := by
        rw [show (4 : Int32) = nI 4 from rfl, Int32.le_iff_toInt_le, nI_toInt (by decide), nI_toInt (by omega)] at hq
        omega
      refine lv_iload hx hb dl_166 (lv_at hl 2 rfl) ?_
      refine lv_iconst (v := 1) hx hb dl_168 (by decide) ?_
      refine lv_iadd hx hb dl_169 ?_
      refine lv_goto (tgt := 174) hx hb dl_170 (by decide) ?_
      refine lv_icmp_eq (tgt := 179) hx hb dl_174 (by decide) (fun _ => ?_) (fun hn => absurd (by rw [show (1 : Int32) = nI 1 from rfl, nI_add, Nat.min_eq_right (by omega)]) hn)
      exact lw_D hs hge hg hi hiB hn hwB hA hW hS (lv_sub hl [0, 1, 3, 4, 5, 6, 7, 8] rfl) k
  · have h0 : (aT v w gB).1 < 0 := Int32.not_le.mp h0
    have hgg : g = gB := by
      rcases hs with ⟨-, a⟩ | ⟨a, -⟩
      · exact hge.trans a
      · exact absurd h0 a
    subst hgg
    refine lv_lload hx hb dl_132 (lv_at hl 0 rfl) ?_
    refine lv_lload hx hb dl_134 (lv_at hl 3 rfl) ?_
    refine W.lcmp hx hb dl_136 ?_
    refine lv_if_ne (tgt := 177) hx hb dl_137 (by decide) (fun hn => absurd (cmp_0 _) hn) (fun _ => ?_)
    refine lv_aload_n hx hb dl_140 rfl (lv_at hl 7 rfl) ?_
    refine lv_bipush (v := 17) hx hb dl_141 (by decide) ?_
    refine L_call (i := 12) (j := 112) (q := 454) (a := 0) (as := [.int 17]) (rest := []) (by decide) hC dl_143 (by decide +kernel) e1 (hc0 (by decide +kernel)) rfl (show 2 = mA 112 from by decide +kernel) (by decide +kernel) (by decide +kernel) hl.1 (Nat.le_of_ble_eq_true rfl) hW hS hp_sz hp_at cs (fun Hp locs hW hS => ?_)
    change W p l e room_1 s m #[Value.ref b0] below meth c Hp locs 366 sl Q (F0 m 146 ls [.int (nI g.2.2.1.length)])
    refine lv_iload hx hb dl_146 (lv_at hl 2 rfl) ?_
    refine lv_icmp_eq (tgt := 179) hx hb dl_148 (by decide) (fun _ => ?_) (fun hn => absurd rfl hn)
    exact lw_D hs hge hg hi hiB hn hwB hA hW hS (lv_sub hl [0, 1, 3, 4, 5, 6, 7, 8] rfl) k
theorem lw_B (hg : CG EE T P g) (hi : IG n g) (hn : n + 27000000 < 2 ^ 31) (hA : LA p s m c b0 L xs t ac D sl) (hW : WH s.heap.size t ac D (H T P) Hp) (hS : va_S (fun q => s.heap.size ≤ q) s.heap Hp locs) (hl : lv_has ls 14 [(4, .int w), (3, .int v), (2, .int (nI i)), (1, .ref (ad s.heap.size t 0)), (0, .ref b0)]) (k : ∀ (T : Nat → Nat → Int32) (P : Nat → Nat → Nat) (g : gT) (Hp : Heap) (locs : List Loc) (ls : Array Slot), CG EE T P g → IG (n + 27000000) g → WH s.heap.size t ac D (H T P) Hp → va_S (fun q => s.heap.size ≤ q) s.heap Hp locs → lv_has ls 14 [(2, .int (nI (i + 1))), (1, .ref (ad s.heap.size t 0)), (0, .ref b0)] → W p l e room_1 s m #[Value.ref b0] below meth c Hp locs 366 sl Q (F0 m 46 ls [])) : W p l e room_1 s m #[Value.ref b0] below meth c Hp locs 366 sl Q (F0 m 98 ls []) := by
  obtain ⟨hC, hX, hbl, hL, hsl⟩ := id hA
  have hx := hC.1
  have hb := hC.2.1
  have hbA : ¬ (fun q : Nat => s.heap.size ≤ q) b0 := Nat.not_le.mpr hbl
  have cs : 366 ≤ room_1.cells ∧ sl ≤ room_1.slots := ⟨by decide, hsl⟩
  have e1 := l_told hg
  have e2 := g_count rfl hg 17
  rw [c17] at e2
  obtain ⟨T1, P1, e3, hg1⟩ := l_act hg v w
  have e4 := l_told hg1
  have h4 := hg.2.2.2.1.1
  have hs := ok_act hg.wg hi (by omega) v w
  have hi1 : IG (n + 27000000) (aT v w g).2 := by
    rcases hs with ⟨-, a⟩ | ⟨-, u2, a, b⟩
    · rw [a]; exact hi.mono (by omega)
    · rw [a]; exact hi.ps b (by omega)
  refine lv_aload_n hx hb dl_98 rfl (lv_at hl 3 rfl) ?_
  refine L_callS (i := 89) (j := 124) (q := 508) (as := [.ref 0]) (rest := []) (by decide) hC dl_99 (by decide +kernel) e1 rfl (show 1 = mA 124 from by decide +kernel) (by decide +kernel) (by decide +kernel) hl.1 (Nat.le_of_ble_eq_true rfl) hW hS hp_sz hp_at cs (fun Hp locs hW hS => ?_)
  change W p l e room_1 s m #[Value.ref b0] below meth c Hp locs 366 sl Q (F0 m 102 ls [.long (tF g)])
  refine lv_lstore (lv' := [(5, .long (tF g)), (4, .int w), (3, .int v), (2, .int (nI i)), (1, .ref (ad s.heap.size t 0)), (0, .ref b0)]) hx hb dl_102 hl (by decide) rfl (fun ls hl => ?_)
  refine lv_aload_n hx hb dl_104 rfl (lv_at hl 4 rfl) ?_
  refine lv_bipush (v := 17) hx hb dl_105 (by decide) ?_
  refine L_call (i := 12) (j := 112) (q := 454) (a := 0) (as := [.int 17]) (rest := []) (by decide) hC dl_107 (by decide +kernel) e2 (hc0 (by decide +kernel)) rfl (show 2 = mA 112 from by decide +kernel) (by decide +kernel) (by decide +kernel) hl.1 (Nat.le_of_ble_eq_true rfl) hW hS hp_sz hp_at cs (fun Hp locs hW hS => ?_)
  change W p l e room_1 s m #[Value.ref b0] below meth c Hp locs 366 sl Q (F0 m 110 ls [.int (nI g.2.2.1.length)])
  refine lv_istore (lv' := [(7, .int (nI g.2.2.1.length)), (5, .long (tF g)), (4, .int w), (3, .int v), (2, .int (nI i)), (1, .ref (ad s.heap.size t 0)), (0, .ref b0)]) hx hb dl_110 hl (by decide) rfl (fun ls hl => ?_)
  refine lv_aload_n hx hb dl_112 rfl (lv_at hl 5 rfl) ?_
  refine lv_iload_n hx hb dl_113 rfl (lv_at hl 3 rfl) ?_
  refine lv_iload hx hb dl_114 (lv_at hl 2 rfl) ?_
  refine L_callS (i := 93) (j := 125) (q := 596) (as := [.ref 0, .int v, .int w]) (rest := []) (by decide) hC dl_116 (by decide +kernel) e3 rfl (show 3 = mA 125 from by decide +kernel) (by decide +kernel) (by decide +kernel) hl.1 (Nat.le_of_ble_eq_true rfl) hW hS hp_sz hp_at cs (fun Hp locs hW hS => ?_)
  change W p l e room_1 s m #[Value.ref b0] below meth c Hp locs 366 sl Q (F0 m 119 ls [.int (aT v w g).1])
  refine lv_istore (lv' := [(8, .int (aT v w g).1), (7, .int (nI g.2.2.1.length)), (5, .long (tF g)), (4, .int w), (3, .int v), (2, .int (nI i)), (1, .ref (ad s.heap.size t 0)), (0, .ref b0)]) hx hb dl_119 hl (by decide) rfl (fun ls hl => ?_)
  refine lv_aload_n hx hb dl_121 rfl (lv_at hl 6 rfl) ?_
  refine L_callS (i := 89) (j := 124) (q := 508) (as := [.ref 0]) (rest := []) (by decide) hC dl_122 (by decide +kernel) e4 rfl (show 1 = mA 124 from by decide +kernel) (by decide +kernel) (by decide +kernel) hl.1 (Nat.le_of_ble_eq_true rfl) hW hS hp_sz hp_at cs (fun Hp locs hW hS => ?_)
  change W p l e room_1 s m #[Value.ref b0] below meth c Hp locs 366 sl Q (F0 m 125 ls [.long (tF (aT v w g).2)])
  refine lv_lstore (lv' := [(9, .long (tF (aT v w g).2)), (8, .int (aT v w g).1), (7, .int (nI g.2.2.1.length)), (5, .long (tF g)), (4, .int w), (3, .int v), (2, .int (nI i)), (1, .ref (ad s.heap.size t 0)), (0, .ref b0)]) hx hb dl_125 hl (by decide) rfl (fun ls hl => ?_)
  exact lw_C hs rfl hg1 hi1 hi hn hg.wg h4 hA hW hS (lv_sub hl [0, 1, 2, 3, 4, 5, 6, 7, 8] rfl) k
theorem lw_v (hi34 : i < 34) (hA : LA p s m c b0 L xs t ac D sl) (hW : WH s.heap.size t ac D (H T P) Hp) (hS : va_S (fun q => s.heap.size ≤ q) s.heap Hp locs) (hl : lv_has ls 14 [(2, .int (nI i)), (1, .ref (ad s.heap.size t 0)), (0, .ref b0)]) (k : ∀ (z : Int32) (Hp : Heap) (locs : List Loc) (ls : Array Slot), WH s.heap.size t ac D (H T P) Hp → va_S (fun q => s.heap.size ≤ q) s.heap Hp locs → lv_has ls 14 [(3, .int z), (2, .int (nI i)), (1, .ref (ad s.heap.size t 0)), (0, .ref b0)] → W p l e room_1 s m #[Value.ref b0] below meth c Hp locs 366 sl Q (F0 m 78 ls [])) : W p l e room_1 s m #[Value.ref b0] below meth c Hp locs 366 sl Q (F0 m 52 ls []) := by
  obtain ⟨hC, hX, hbl, hL, hsl⟩ := id hA
  have hx := hC.1
  have hb := hC.2.1
  have hbA : ¬ (fun q : Nat => s.heap.size ≤ q) b0 := Nat.not_le.mpr hbl
  have cs : 366 ≤ room_1.cells ∧ sl ≤ room_1.slots := ⟨by decide, hsl⟩
  refine lv_iload_n hx hb dl_52 rfl (lv_at hl 0 rfl) ?_
  refine lv_iconst (v := 2) hx hb dl_53 (by decide) ?_
  refine lv_icmp_ge (tgt := 61) hx hb dl_54 (by decide) (fun _ => ?_) (fun _ => ?_)
  ·
    refine lv_iload_n hx hb dl_61 rfl (lv_at hl 0 rfl) ?_
    refine lv_iconst (v := 5) hx hb dl_62 (by decide) ?_
    refine lv_icmp_ge (tgt := 70) hx hb dl_63 (by decide) (fun _ => ?_) (fun _ => ?_)
    ·
      refine lv_aload_n hx hb dl_70 rfl (lv_at hl 2 rfl) ?_
      refine lv_iconst (v := 2) hx hb dl_71 (by decide) ?_
      refine lv_iload_n hx hb dl_72 rfl (lv_at hl 0 rfl) ?_
      refine lv_imul hx hb dl_73 ?_
      refine L_cell (ka := 2 * i) hC hX hbl dl_74 (by rw [show (2 : Int32) = nI 2 from rfl, nI_mul]) (by omega) hl.1 hW hS hp_at cs (by omega) (fun z Hp locs hW hS => ?_)
      refine lv_istore_n (lv' := [(3, .int z), (2, .int (nI i)), (1, .ref (ad s.heap.size t 0)), (0, .ref b0)]) hx hb dl_77 rfl hl (by decide) rfl (fun ls hl => ?_)
      exact k _ Hp locs ls hW hS hl
    ·
      refine lv_iconst (v := 2) hx hb dl_66 (by decide) ?_
      refine lv_goto (tgt := 77) hx hb dl_67 (by decide) ?_
      refine lv_istore_n (lv' := [(3, .int 2), (2, .int (nI i)), (1, .ref (ad s.heap.size t 0)), (0, .ref b0)]) hx hb dl_77 rfl hl (by decide) rfl (fun ls hl => ?_)
      exact k _ Hp locs ls hW hS hl
  ·
    refine lv_iconst (v := 0) hx hb dl_57 (by decide) ?_
    refine lv_goto (tgt := 77) hx hb dl_58 (by decide) ?_
    refine lv_istore_n (lv' := [(3, .int 0), (2, .int (nI i)), (1, .ref (ad s.heap.size t 0)), (0, .ref b0)]) hx hb dl_77 rfl hl (by decide) rfl (fun ls hl => ?_)
    exact k _ Hp locs ls hW hS hl
theorem lw_w (hi34 : i < 34) (hA : LA p s m c b0 L xs t ac D sl) (hW : WH s.heap.size t ac D (H T P) Hp) (hS : va_S (fun q => s.heap.size ≤ q) s.heap Hp locs) (hl : lv_has ls 14 [(3, .int v), (2, .int (nI i)), (1, .ref (ad s.heap.size t 0)), (0, .ref b0)]) (k : ∀ (z : Int32) (Hp : Heap) (locs : List Loc) (ls : Array Slot), WH s.heap.size t ac D (H T P) Hp → va_S (fun q => s.heap.size ≤ q) s.heap Hp locs → lv_has ls 14 [(4, .int z), (3, .int v), (2, .int (nI i)), (1, .ref (ad s.heap.size t 0)), (0, .ref b0)] → W p l e room_1 s m #[Value.ref b0] below meth c Hp locs 366 sl Q (F0 m 98 ls [])) : W p l e room_1 s m #[Value.ref b0] below meth c Hp locs 366 sl Q (F0 m 78 ls []) := by
  obtain ⟨hC, hX, hbl, hL, hsl⟩ := id hA
  have hx := hC.1
  have hb := hC.2.1
  have hbA : ¬ (fun q : Nat => s.heap.size ≤ q) b0 := Nat.not_le.mpr hbl
  have cs : 366 ≤ room_1.cells ∧ sl ≤ room_1.slots := ⟨by decide, hsl⟩
  refine lv_iload_n hx hb dl_78 rfl (lv_at hl 1 rfl) ?_
  refine lv_iconst (v := 2) hx hb dl_79 (by decide) ?_
  refine lv_icmp_ge (tgt := 87) hx hb dl_80 (by decide) (fun _ => ?_) (fun _ => ?_)
  ·
    refine lv_aload_n hx hb dl_87 rfl (lv_at hl 3 rfl) ?_
    refine lv_iconst (v := 2) hx hb dl_88 (by decide) ?_
    refine lv_iload_n hx hb dl_89 rfl (lv_at hl 1 rfl) ?_
    refine lv_imul hx hb dl_90 ?_
    refine lv_iconst (v := 1) hx hb dl_91 (by decide) ?_
    refine lv_iadd hx hb dl_92 ?_
    refine L_cell (ka := 2 * i + 1) hC hX hbl dl_93 (by rw [show (2 : Int32) = nI 2 from rfl, nI_mul]; exact nI_add _ 1) (by omega) hl.1 hW hS hp_at cs (by omega) (fun z Hp locs hW hS => ?_)
    refine lv_istore (lv' := [(4, .int z), (3, .int v), (2, .int (nI i)), (1, .ref (ad s.heap.size t 0)), (0, .ref b0)]) hx hb dl_96 hl (by decide) rfl (fun ls hl => ?_)
    exact k _ Hp locs ls hW hS hl
  ·
    refine lv_iload_n hx hb dl_83 rfl (lv_at hl 1 rfl) ?_
    refine lv_goto (tgt := 96) hx hb dl_84 (by decide) ?_
    refine lv_istore (lv' := [(4, .int (nI i)), (3, .int v), (2, .int (nI i)), (1, .ref (ad s.heap.size t 0)), (0, .ref b0)]) hx hb dl_96 hl (by decide) rfl (fun ls hl => ?_)
    exact k _ Hp locs ls hW hS hl
end LAWT
