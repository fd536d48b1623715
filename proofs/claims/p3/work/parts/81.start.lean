/-! the law from its entry -/
theorem law_start {p : Program} {e : Env} {s : State} {m : MethodId} {below : List Frame} {meth : Method} {c : Code} (l : Launch) {b0 L : Nat} {xs : Nat → Int32} {J : Nat → (Nat → Nat → Int32) → (Nat → Nat → Nat) → Prop} (hL : L ≤ 2560) (C0 : lw_At p s m meth c b0 L xs) (hJ : LH L J)
    (hini : ∃ (h h2 : List hC) (bb b2 : Nat), exec 6000 89 0 (pad 89 [.ref 0]) [] [hO 10 ((List.range (fN 10)).map (fun k => dfl (fty 10 k)))] = some (none, h, 365, bb) ∧ bb ≤ 20000 ∧ h.length = 366 ∧ exec 2000 123 0 (pad 123 [.ref 366]) [] (h ++ [hO 11 ((List.range (fN 11)).map (fun k => dfl (fty 11 k)))]) = some (none, h2, 6, b2) ∧ b2 ≤ 20000 ∧ ∃ T P, (∀ (b : Nat) (t : Nat → Nat) (ac : Nat → ClassId) (D : va_G) (Hp : Heap), WH b t ac D h2 Hp → WH b t ac D (H T P) Hp) ∧ J 0 T P) :
    W p l e room_1 s m #[Value.ref b0] below meth c s.heap [] 0 0 (lw_Z below #[Value.ref b0] s) (entryFrame m ([Value.ref b0] : List Value).toArray 8) := by
  obtain ⟨t, ac, D, hE⟩ := EV_at C0
  obtain ⟨hx, hb, hr, hml, hown, hts0, hX, hbl, hlocks, hgv⟩ := id C0
  obtain ⟨h, h2, bb, b2, x1, y1, y2, x2, y3, T, P, hWH, hJ0⟩ := hini
  have hts : ∀ w ∈ gw, w.before #[Value.ref b0] s = true := fun w h => hts0 w (gw_tbl w h)
  have hC : LC s.heap.size t ac D p s m #[Value.ref b0] c := ⟨hx, hb, hml, hown, hts, hE, Nat.le_refl _⟩
  have hl := lv_entry ([.ref b0]) (n := 8) (Nat.le_of_ble_eq_true rfl)
  rw [lg_entry_eq]
  generalize (lg_sl ([.ref b0]) ++ List.replicate (8 - (lg_sl ([.ref b0])).length) Slot.unset).toArray = ls at hl ⊢
  have hl : lv_has ls 8 [(0, .ref b0)] := hl
  have hW : WH s.heap.size t ac D [] s.heap := fun k q h => by simp [wz] at h
  have hS : va_S (fun q => s.heap.size ≤ q) s.heap s.heap [] := va_S.rf
  refine L_new (i := 7) (ci := 10) (q := 78) (h := []) (st := []) (by decide) hC dl_0 hW hS (by decide) (Nat.le_refl _) ⟨by decide, by decide⟩ (fun Hp hW hS => ?_)
  refine lv_dup hx hb dl_3 rfl ?_
  refine L_init (i := 9) (j := 89) (q := 80) (a := 0) (h := [hO 10 ((List.range (fN 10)).map (fun k => dfl (fty 10 k)))]) (rest := [.ref (ad s.heap.size t 0)]) (by decide) hC dl_4 x1 (show 1 = mA 89 from by decide +kernel) (by decide +kernel) (by decide +kernel) hl.1 (Nat.le_of_ble_eq_true rfl) hW hS (by decide) (Nat.le_refl _) ⟨by decide, by show 0 + 6 + bb ≤ 7302249; omega⟩ (fun Hp locs hW hS => ?_)
  refine lv_astore_n (x := ad s.heap.size t 0) (lv' := [(1, .ref (ad s.heap.size t 0)), (0, .ref b0)]) hx hb dl_7 rfl hl (by decide) rfl (fun ls hl => ?_)
  refine L_new (i := 10) (ci := 11) (q := 883) (h := h) (st := []) (by decide) hC dl_8 hW hS (by rw [y2]; decide) (by rw [y2]; exact Nat.le_refl _) ⟨by decide, by show 0 + 6 + bb + 13 ≤ 7302249; omega⟩ (fun Hp hW hS => ?_)
  rw [y2]
  refine lv_dup hx hb dl_11 rfl ?_
  refine L_init (i := 12) (j := 123) (q := 885) (a := 366) (h := h ++ [hO 11 ((List.range (fN 11)).map (fun k => dfl (fty 11 k)))]) (rest := [.ref (ad s.heap.size t 366)]) (by decide) hC dl_12 x2 (show 1 = mA 123 from by decide +kernel) (by decide +kernel) (by decide +kernel) hl.1 (Nat.le_of_ble_eq_true rfl) hW hS (by rw [List.length_append, y2]; decide) (by rw [List.length_append, y2]; exact Nat.le_refl _) ⟨by decide, by show 0 + 6 + bb + 13 + b2 ≤ 7302249; omega⟩ (fun Hp locs hW hS => ?_)
  refine lv_astore_n (x := ad s.heap.size t 366) (lv' := [(2, .ref (ad s.heap.size t 366)), (1, .ref (ad s.heap.size t 0)), (0, .ref b0)]) hx hb dl_15 rfl hl (by decide) rfl (fun ls hl => ?_)
  refine lv_iconst (v := 0) hx hb dl_16 (by decide) ?_
  refine lv_istore_n (lv' := [(3, .int 0), (2, .ref (ad s.heap.size t 366)), (1, .ref (ad s.heap.size t 0)), (0, .ref b0)]) hx hb dl_17 rfl hl (by decide) rfl (fun ls hl => ?_)
  exact law_loop (sl := 0 + 6 + bb + 13 + b2) hr hlocks hJ (L + 1) 0 T P Hp locs ls (by omega) (by decide) ⟨hC, hX, hbl, hL, hl, hWH _ _ _ _ _ hW, hS, by omega⟩ hJ0
