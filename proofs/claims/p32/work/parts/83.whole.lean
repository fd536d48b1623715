/-! the law: its loop, from its entry -/
theorem law_loop {p : Program} {l : Launch} {e : Env} {s : State} {m : MethodId} {below : List Frame} {meth : Method} {c : Code} {b0 L : Nat} {xs : Nat → Int32} {t : Nat → Nat} {ac : Nat → ClassId} {D : va_G} {sl : Nat} {EE : Nat → Nat → Int32} (hr : meth.sig.returnType = ret) (hlocks : meth.locks = false) (hA : LA p s m c b0 L xs t ac D sl) :
    ∀ (n i : Nat) (T : Nat → Nat → Int32) (P : Nat → Nat → Nat) (g : gT) (Hp : Heap) (locs : List Loc) (ls : Array Slot), i + n = 34 → CG EE T P g → IG (60 + 27000000 * i) g → WH s.heap.size t ac D (H T P) Hp → va_S (fun q => s.heap.size ≤ q) s.heap Hp locs → lv_has ls 14 [(2, .int (nI i)), (1, .ref (ad s.heap.size t 0)), (0, .ref b0)] → W p l e room_1 s m #[Value.ref b0] below meth c Hp locs 366 sl (lw_Z below #[Value.ref b0] s) (F0 m 46 ls []) := by
  obtain ⟨hC, hX, hbl, hL, hsl⟩ := id hA
  have hx := hC.1
  have hb := hC.2.1
  intro n
  induction n with
  | zero =>
    intro i T P g Hp locs ls hin hg hi hW hS hl
    have hi34 : i = 34 := by omega
    subst hi34
    refine lv_iload_n hx hb dl_46 rfl (lv_at hl 0 rfl) ?_
    refine lv_bipush (v := 34) hx hb dl_47 (by decide) ?_
    refine lv_icmp_ge (tgt := 336) hx hb dl_49 (by decide) (fun _ => ?_) (fun h => absurd (by decide) h)
    refine lv_iconst (v := 1) hx hb dl_336 (by decide) ?_
    refine va_forget (fun q hq => hS.2.2 q hq) ?_
    refine W.widen (k := 600000) (n := 7302250) (by omega) hsl ?_
    refine W.base ?_
    exact lw_ret (Drawn.sameBut.refl s.drawn lw_cs) hx hb hr hlocks dl_337
  | succ n ih =>
    intro i T P g Hp locs ls hin hg hi hW hS hl
    have hi34 : i < 34 := by omega
    have hge : ¬ (34 : Int32) ≤ nI i := by
      rw [show (34 : Int32) = nI 34 from rfl, Int32.le_iff_toInt_le, nI_toInt (by decide), nI_toInt (by omega)]
      omega
    refine lv_iload_n hx hb dl_46 rfl (lv_at hl 0 rfl) ?_
    refine lv_bipush (v := 34) hx hb dl_47 (by decide) ?_
    refine lv_icmp_ge (tgt := 336) hx hb dl_49 (by decide) (fun h => absurd h hge) (fun _ => ?_)
    refine lw_v hi34 hA hW hS hl (fun v Hp locs ls hW hS hl => ?_)
    refine lw_w hi34 hA hW hS hl (fun w Hp locs ls hW hS hl => ?_)
    exact lw_B hg hi (by omega) hA hW hS hl (fun T P g Hp locs ls hg hi hW hS hl => ih (i + 1) T P g Hp locs ls (by omega) hg (hi.mono (by omega)) hW hS hl)
theorem IV00 : IV 60 u00 := ⟨⟨60, Nat.le_refl _, rfl⟩, fun c hc => absurd hc (Nat.not_lt_zero c), ⟨fun d hd => ⟨127, by decide, by
  match d, hd with
  | 0, _ => rfl
  | 1, _ => rfl
  | 2, _ => rfl
  | 3, _ => rfl
  | 4, _ => rfl⟩, 2, by decide, rfl⟩, List.Pairwise.nil, rfl, fun k hk d => rfl⟩
/-- the first state, kept -/
def s01 : gT := (u00, some u00, [], 0, fun _ => 0)
theorem IG01 : IG 60 s01 := ⟨IV00, fun v hv => by
  have hv : some u00 = some v := hv
  rw [← Option.some.inj hv]; exact IV00, fun v hv => absurd hv List.not_mem_nil⟩
theorem fc_0 : Op.cmpValue (FP.fcmp (mnF 0 0) FP.fconst0) CmpOp.l = 0 := by decide +kernel
theorem whole_start {p : Program} {e : Env} {s : State} {m : MethodId} {below : List Frame} {meth : Method} {c : Code} (l : Launch) (hflags : l.flags = flags0) {b L : Nat} {xs : Nat → Int32} (hL : L ≤ 260) (C0 : lw_At p s m meth c b L xs) : W p l e room_1 s m #[Value.ref b] below meth c s.heap [] 0 0 (lw_Z below #[Value.ref b] s) (entryFrame m ([Value.ref b] : List Value).toArray 14) := by
  obtain ⟨h, bb, x1, y1, y2, T, P, hn, hg⟩ := ini
  have hWH : ∀ (b : Nat) (t : Nat → Nat) (ac : Nat → ClassId) (D : va_G) (Hp : Heap), WH b t ac D h Hp → WH b t ac D (H T P) Hp := fun b t ac D Hp hW => by rw [← hn]; exact WH_nrm hW
  obtain ⟨b0, hb0⟩ : ∃ b0, b0 = b := ⟨_, rfl⟩
  subst hb0
  obtain ⟨t, ac, D, hE⟩ := EV_at C0
  obtain ⟨hx, hb, hr, hml, hown, hts0, hX, hbl, hlocks, hgv⟩ := id C0
  have hts : ∀ w ∈ gw, w.before #[Value.ref b0] s = true := fun w h => hts0 w (gw_tbl w h)
  have hC : LC s.heap.size t ac D p s m #[Value.ref b0] c := ⟨hx, hb, hml, hown, hts, hE, Nat.le_refl _⟩
  have hl := lv_entry ([.ref b0]) (n := 14) (Nat.le_of_ble_eq_true rfl)
  rw [lg_entry_eq]
  generalize (lg_sl ([.ref b0]) ++ List.replicate (14 - (lg_sl ([.ref b0])).length) Slot.unset).toArray = ls at hl ⊢
  have hl : lv_has ls 14 [(0, .ref b0)] := hl
  have hW : WH s.heap.size t ac D [] s.heap := fun k q h => by simp [wz] at h
  have hS : va_S (fun q => s.heap.size ≤ q) s.heap s.heap [] := va_S.rf
  obtain ⟨sl, hsle⟩ : ∃ sl, sl = 0 + fN 10 + bb := ⟨_, rfl⟩
  have hf6 : fN 10 = 6 := rfl
  have hA : LA p s m c b0 L xs t ac D sl := ⟨hC, hX, hbl, hL, by omega⟩
  have cs : 366 ≤ room_1.cells ∧ sl ≤ room_1.slots := ⟨by decide, by show sl ≤ 7302250; omega⟩
  -- the calls ahead of the loop
  obtain ⟨T1, e1, hg1⟩ := g_undo rfl hg
  have e1 : X 104 0 [.ref 0] [] (H T P) = some (some (.int (-5)), H T1 P) := e1
  have hg1 : CG T T1 P s00 := hg1
  obtain ⟨T2, e2, hg2⟩ := g_rest rfl rfl hg1
  have e2 : X 106 0 [.ref 0] [] (H T1 P) = some (some (.int (-5)), H T2 P) := e2
  have hg2 : CG T T2 P s00 := hg2
  obtain ⟨T3, e3, hg3⟩ := g_keep rfl rfl hg2
  have e3 : X 105 0 [.ref 0] [] (H T2 P) = some (some (.int 0), H T3 P) := e3
  have hg3 : CG T T3 P s01 := hg3
  have hv : ∀ k, k < 4 → T3 49 k = s01.1.1.2.1 48 k := hg3.2.1.1.2.2.2.2.2.1
  have hv2 : T3 49 2 = 0 := hv 2 (by decide)
  have hv3 : T3 49 3 = 0 := hv 3 (by decide)
  refine L_new (i := 13) (ci := 10) (q := 17) (h := []) (st := []) (by decide) hC dl_0 hW hS (by decide) (Nat.le_refl _) ⟨by decide, by decide⟩ (fun Hp hW hS => ?_)
  refine lv_dup hx hb dl_3 rfl ?_
  refine L_init (i := 74) (j := 89) (q := 19) (a := 0) (h := [hO 10 ((List.range (fN 10)).map (fun k => dfl (fty 10 k)))]) (rest := [.ref (ad s.heap.size t 0)]) (by decide) hC dl_4 x1 (show 1 = mA 89 from by decide +kernel) (by decide +kernel) (by decide +kernel) hl.1 (Nat.le_of_ble_eq_true rfl) hW hS (by decide) (Nat.le_refl _) ⟨by decide, by show 0 + 6 + bb ≤ 7302250; omega⟩ (fun Hp locs hW hS => ?_)
  rw [← hsle]
  have hW := hWH _ _ _ _ _ hW
  refine lv_astore_n (x := ad s.heap.size t 0) (lv' := [(1, .ref (ad s.heap.size t 0)), (0, .ref b0)]) hx hb dl_7 rfl hl (by decide) rfl (fun ls hl => ?_)
  change W p l e room_1 s m #[Value.ref b0] below meth c Hp locs 366 sl (lw_Z below #[Value.ref b0] s) (F0 m 8 ls [])
  refine lv_aload_n hx hb dl_8 rfl (lv_at hl 0 rfl) ?_
  refine L_call (i := 75) (j := 104) (q := 437) (a := 0) (as := []) (rest := []) (by decide) hC dl_9 (by decide +kernel) e1 (hc0 (by decide +kernel)) rfl (show 1 = mA 104 from by decide +kernel) (by decide +kernel) (by decide +kernel) hl.1 (Nat.le_of_ble_eq_true rfl) hW hS hp_sz hp_at cs (fun Hp locs hW hS => ?_)
  change W p l e room_1 s m #[Value.ref b0] below meth c Hp locs 366 sl (lw_Z below #[Value.ref b0] s) (F0 m 12 ls [.int (-5)])
  refine lv_bipush (v := -5) hx hb dl_12 (by decide) ?_
  refine lv_icmp_ne (tgt := 42) hx hb dl_14 (by decide) (fun hn => absurd rfl hn) (fun _ => ?_)
  refine lv_aload_n hx hb dl_17 rfl (lv_at hl 0 rfl) ?_
  refine L_call (i := 61) (j := 106) (q := 450) (a := 0) (as := []) (rest := []) (by decide) hC dl_18 (by decide +kernel) e2 (hc0 (by decide +kernel)) rfl (show 1 = mA 106 from by decide +kernel) (by decide +kernel) (by decide +kernel) hl.1 (Nat.le_of_ble_eq_true rfl) hW hS hp_sz hp_at cs (fun Hp locs hW hS => ?_)
  change W p l e room_1 s m #[Value.ref b0] below meth c Hp locs 366 sl (lw_Z below #[Value.ref b0] s) (F0 m 21 ls [.int (-5)])
  refine lv_bipush (v := -5) hx hb dl_21 (by decide) ?_
  refine lv_icmp_ne (tgt := 42) hx hb dl_23 (by decide) (fun hn => absurd rfl hn) (fun _ => ?_)
  refine lv_aload_n hx hb dl_26 rfl (lv_at hl 0 rfl) ?_
  refine L_call (i := 78) (j := 105) (q := 445) (a := 0) (as := []) (rest := []) (by decide) hC dl_27 (by decide +kernel) e3 (hc0 (by decide +kernel)) rfl (show 1 = mA 105 from by decide +kernel) (by decide +kernel) (by decide +kernel) hl.1 (Nat.le_of_ble_eq_true rfl) hW hS hp_sz hp_at cs (fun Hp locs hW hS => ?_)
  change W p l e room_1 s m #[Value.ref b0] below meth c Hp locs 366 sl (lw_Z below #[Value.ref b0] s) (F0 m 30 ls [.int 0])
  refine lv_if_ne (tgt := 42) hx hb dl_30 (by decide) (fun hn => absurd rfl hn) (fun _ => ?_)
  refine lv_aload_n hx hb dl_33 rfl (lv_at hl 0 rfl) ?_
  refine L_callM (i := 81) (j := 113) (q := 489) (a := 0) (as := []) (rest := []) (by decide) hC dl_34 (met_m1 l) (hc0 (by decide +kernel)) (by decide +kernel) (by decide +kernel) hl.1 (by decide) hW hS hp_at cs (fun Hp locs hW hS => ?_)
  change W p l e room_1 s m #[Value.ref b0] below meth c Hp locs 366 sl (lw_Z below #[Value.ref b0] s) (F0 m 37 ls [.float (mnF (T3 49 2) (T3 49 3))])
  rw [hv2, hv3]
  refine lv_fconst0 hx hb dl_37 ?_
  refine lv_fcmp hx hb dl_38 ?_
  rw [fc_0]
  refine lv_if_eq (tgt := 44) hx hb dl_39 (by decide) (fun _ => ?_) (fun hn => absurd rfl hn)
  refine lv_iconst (v := 0) hx hb dl_44 (by decide) ?_
  refine lv_istore_n (lv' := [(2, .int 0), (1, .ref (ad s.heap.size t 0)), (0, .ref b0)]) hx hb dl_45 rfl hl (by decide) rfl (fun ls hl => ?_)
  exact law_loop hr hlocks hA 34 0 T3 P s01 Hp locs ls rfl hg3 IG01 hW hS hl
