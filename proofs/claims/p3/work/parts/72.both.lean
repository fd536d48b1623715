/-! both objects: each call on the class, then on the reference -/
/-- both stand for s -/
def BG (T : Nat → Nat → Int32) (P : Nat → Nat → Nat) (s : gT) : Prop := CG T T P s ∧ CF T (T 367) s
def TWO (e : Prop) (jc jr : Nat) (A B : List Value) (T : Nat → Nat → Int32) (P : Nat → Nat → Nat) (s' : gT) : Prop := ∃ a b T1 P1 T2, X jc 0 (pad jc A) [] (H T P) = some (some (.int a), H T1 P1) ∧ X jr 0 (pad jr B) [] (H T1 P1) = some (some (.int b), H T2 P1) ∧ BG T2 P1 s' ∧ (e → a = b)
section BO
variable {T U EE : Nat → Nat → Int32} {P : Nat → Nat → Nat} {f : Nat → Int32} {s s' : gT} {e : Prop}
theorem CG.wg (h : CG EE T P s) : WG s := by
  obtain ⟨-, ⟨-, h1⟩, h2, ⟨-, -, l, -, -, h3⟩, -⟩ := h
  refine ⟨h1, fun v hv => ?_, fun v hv => ?_⟩
  · obtain ⟨g, hg⟩ := List.mem_iff_getElem?.mp hv
    exact (h3 g v hg).2
  · rw [hv] at h2; exact h2.2.2
theorem CG.mv (h : CG EE T P s) (hU : ∀ a, a < 366 → U a = T a) : CG U U P s := by
  obtain ⟨hP, ⟨h1, hw⟩, h2, ⟨l4, l1, l, hl, l2, h3⟩, t60, t1, t2, -⟩ := h
  have sm : ∀ {o : Nat} {u : uT}, o + 51 ≤ 366 → CSu o T P u → WFu u → CSu o U P u := fun ho hc hw => CS.same hc hw.1.1.2.2.2.1 (fun a ha hb => hU a (by omega)) rfl
  refine ⟨hP, ⟨sm (by decide) h1 hw, hw⟩, ?_, ⟨l4, by rw [hU 154 (by decide)]; exact l1, l, hl, by rw [hU 154 (by decide)]; exact l2, fun g u hg => ⟨sm (by omega) (h3 g u hg).1 (h3 g u hg).2, (h3 g u hg).2⟩⟩, t60, by rw [hU 360 (by decide)]; exact t1, fun i hi => by rw [hU 361 (by decide)]; exact t2 i hi, fun _ _ => rfl⟩
  cases hq : s.2.1 with
  | none => rw [hq] at h2; show U 0 5 = 0; rw [hU 0 (by decide)]; exact h2
  | some v => rw [hq] at h2; exact ⟨by rw [hU 0 (by decide)]; exact h2.1, sm (by decide) h2.2.1 h2.2.2, h2.2.2⟩
theorem CF.mv (h : CF T f s) (h6 : U 366 = T 366) (h9 : U 369 = T 369) (h0 : U 370 = T 370) (h1 : U 371 = T 371) : CF U f s := by
  obtain ⟨⟨c0, hk, hh, hx⟩, hs⟩ := h
  refine ⟨⟨by rw [h6]; exact c0, ?_, hh.same (by rw [h6]) h9, hx.same (by rw [h6]) h1⟩, hs⟩
  cases hq : s.2.1 with
  | none => rw [hq] at hk; show U 366 6 = 0; rw [h6]; exact hk
  | some v => rw [hq] at hk; exact ⟨by rw [h6]; exact hk.1, by rw [h0]; exact hk.2⟩
theorem TWO.mk {jc jr : Nat} {A B : List Value} {a : Int32} (hb : BG T P s) (hc : ∃ T' P', X jc 0 (pad jc A) [] (H T P) = some (some (.int a), H T' P') ∧ CG T T' P' s') (hr : ∀ (T' : Nat → Nat → Int32) (P' : Nat → Nat → Nat), CF T' (T' 367) s → WG s → ∃ b, RQ T' P' (T' 367) jr (pad jr B) (b, s') ∧ (e → a = b)) : TWO e jc jr A B T P s' := by
  obtain ⟨T1, P1, e1, g1⟩ := hc
  have fe : ∀ a, 366 ≤ a → T1 a = T a := g1.2.2.2.2.2.2.2
  have hf : CF T1 (T1 367) s := by
    rw [fe 367 (by decide)]
    exact hb.2.mv (fe _ (by decide)) (fe _ (by decide)) (fe _ (by decide)) (fe _ (by decide))
  obtain ⟨b, ⟨T2, f2, e2, fr, c2⟩, heq⟩ := hr T1 P1 hf hb.1.wg
  rw [upA_self] at e2
  refine ⟨a, b, T1, P1, upA T2 367 f2, e1, e2, ⟨g1.mv (fun a ha => by rw [upA_n _ _ (by omega)]; exact fr a ha), ?_⟩, heq⟩
  rw [upA_s]
  exact c2.mv (upA_n _ _ (by decide)) (upA_n _ _ (by decide)) (upA_n _ _ (by decide)) (upA_n _ _ (by decide))
theorem two_cust (hb : BG T P s) (d : Int32) : TWO True 90 146 [.ref 0, .int d] [.ref 366, .int d] T P (gCust d s).2 := TWO.mk (a := (gCust d s).1) hb (let ⟨T1, e1, c1⟩ := g_cust rfl hb.1 d; ⟨T1, P, e1, c1⟩) (fun T1 P1 hf hw => ⟨(gCust d s).1, q_cust hf hw d, fun _ => rfl⟩)
theorem two_vis (hb : BG T P s) (d x : Int32) : TWO True 91 147 [.ref 0, .int d, .int x] [.ref 366, .int d, .int x] T P (gVis d x s).2 := TWO.mk (a := (gVis d x s).1) hb (let ⟨T1, e1, c1⟩ := g_vis rfl hb.1 d x; ⟨T1, P, e1, c1⟩) (fun T1 P1 hf hw => ⟨(gVis d x s).1, q_vis hf hw d x, fun _ => rfl⟩)
theorem two_bask (hb : BG T P s) (c p st g : Int32) : TWO True 92 151 [.ref 0, .int c, .int p, .int st, .int g] [.ref 366, .int c, .int p, .int st, .int g] T P (gBask c p st g s).2 := TWO.mk (a := (gBask c p st g s).1) hb (let ⟨T1, e1, c1⟩ := g_bask rfl hb.1 c p st g; ⟨T1, P, e1, c1⟩) (fun T1 P1 hf hw => ⟨(gBask c p st g s).1, q_bask hf hw c p st g, fun _ => rfl⟩)
theorem two_bkts (hb : BG T P s) : TWO True 93 152 [.ref 0] [.ref 366] T P (gBkts s).2 := TWO.mk (a := (gBkts s).1) hb (let ⟨T1, e1, c1⟩ := g_bkts rfl rfl hb.1; ⟨T1, P, e1, c1⟩) (fun T1 P1 hf hw => ⟨(gBkts s).1, q_bkts hf hw, fun _ => rfl⟩)
theorem two_find (hb : BG T P s) (p x : Int32) : TWO True 95 157 [.ref 0, .int p, .int x] [.ref 366, .int p, .int x] T P (gFind p x s).2 := TWO.mk (a := (gFind p x s).1) hb (let ⟨T1, e1, c1⟩ := g_find rfl hb.1 p x; ⟨T1, P, e1, c1⟩) (fun T1 P1 hf hw => ⟨(gFind p x s).1, q_find hf hw p x, fun _ => rfl⟩)
theorem two_iron (hb : BG T P s) (m : Int32) : TWO True 96 163 [.ref 0, .int m] [.ref 366, .int m] T P (gIron m s).2 := TWO.mk (a := (gIron m s).1) hb (let ⟨T1, e1, c1⟩ := g_iron rfl hb.1 m; ⟨T1, P, e1, c1⟩) (fun T1 P1 hf hw => ⟨(gIron m s).1, q_iron hf hw m, fun _ => rfl⟩)
theorem two_pass (hb : BG T P s) (d : Int32) : TWO True 97 167 [.ref 0, .int d] [.ref 366, .int d] T P (gPass d s).2 := TWO.mk (a := (gPass d s).1) hb (g_pass rfl hb.1 d) (fun T1 P1 hf hw => ⟨(gPass d s).1, q_pass hf hw d, fun _ => rfl⟩)
theorem two_buy (hb : BG T P s) (n : Int32) : TWO True 98 168 [.ref 0, .int n] [.ref 366, .int n] T P (gBuy n s).2 := TWO.mk (a := (gBuy n s).1) hb (let ⟨T1, e1, c1⟩ := g_buy rfl hb.1 n; ⟨T1, P, e1, c1⟩) (fun T1 P1 hf hw => ⟨(gBuy n s).1, q_buy hf hw n, fun _ => rfl⟩)
theorem two_pay (hb : BG T P s) (c : Int32) : TWO True 99 169 [.ref 0, .int c] [.ref 366, .int c] T P (gPay c s).2 := TWO.mk (a := (gPay c s).1) hb (let ⟨T1, e1, c1⟩ := g_pay rfl hb.1 c; ⟨T1, P, e1, c1⟩) (fun T1 P1 hf hw => ⟨(gPay c s).1, q_pay hf hw c, fun _ => rfl⟩)
theorem two_set (hb : BG T P s) (w v : Int32) : TWO True 100 171 [.ref 0, .int w, .int v] [.ref 366, .int w, .int v] T P (gSet w v s).2 := TWO.mk (a := (gSet w v s).1) hb (let ⟨T1, e1, c1⟩ := g_set rfl hb.1 w v; ⟨T1, P, e1, c1⟩) (fun T1 P1 hf hw => ⟨(gSet w v s).1, q_set hf hw w v, fun _ => rfl⟩)
theorem two_clear (hb : BG T P s) : TWO True 102 173 [.ref 0] [.ref 366] T P (gClear s).2 := TWO.mk (a := (gClear s).1) hb (let ⟨T1, e1, c1⟩ := g_clear hb.1; ⟨T1, P, e1, c1⟩) (fun T1 P1 hf hw => ⟨(gClear s).1, q_clear hf, fun _ => rfl⟩)
theorem two_fault (hb : BG T P s) : TWO True 103 183 [.ref 0] [.ref 366] T P ((gFault s, s)).2 := TWO.mk (a := ((gFault s, s)).1) hb (let ⟨T1, e1, c1⟩ := g_fault hb.1; ⟨T1, P, e1, c1⟩) (fun T1 P1 hf hw => ⟨((gFault s, s)).1, q_fault hf, fun _ => rfl⟩)
theorem two_undo (hb : BG T P s) : TWO True 104 184 [.ref 0] [.ref 366] T P (gUndo s).2 := TWO.mk (a := (gUndo s).1) hb (let ⟨T1, e1, c1⟩ := g_undo rfl hb.1; ⟨T1, P, e1, c1⟩) (fun T1 P1 hf hw => ⟨(gUndo s).1, q_undo hf hw, fun _ => rfl⟩)
theorem two_keep (hb : BG T P s) : TWO True 105 185 [.ref 0] [.ref 366] T P (gKeep s).2 := TWO.mk (a := (gKeep s).1) hb (let ⟨T1, e1, c1⟩ := g_keep rfl rfl hb.1; ⟨T1, P, e1, c1⟩) (fun T1 P1 hf hw => ⟨(gKeep s).1, q_keep hf hw, fun _ => rfl⟩)
theorem two_rest (hb : BG T P s) : TWO True 106 186 [.ref 0] [.ref 366] T P (gRest s).2 := TWO.mk (a := (gRest s).1) hb (let ⟨T1, e1, c1⟩ := g_rest rfl rfl hb.1; ⟨T1, P, e1, c1⟩) (fun T1 P1 hf hw => ⟨(gRest s).1, q_rest hf hw, fun _ => rfl⟩)
theorem two_cus (hb : BG T P s) (c w : Int32) : TWO True 107 189 [.ref 0, .int c, .int w] [.ref 366, .int c, .int w] T P ((gCus c w s, s)).2 := TWO.mk (a := ((gCus c w s, s)).1) hb ⟨T, P, g_cus rfl hb.1 c w, hb.1⟩ (fun T1 P1 hf hw => ⟨((gCus c w s, s)).1, q_cus hf hw c w, fun _ => rfl⟩)
theorem two_basOf (hb : BG T P s) (x w : Int32) : TWO True 108 191 [.ref 0, .int x, .int w] [.ref 366, .int x, .int w] T P ((gBasOf x w s, s)).2 := TWO.mk (a := ((gBasOf x w s, s)).1) hb ⟨T, P, g_basOf rfl hb.1 x w, hb.1⟩ (fun T1 P1 hf hw => ⟨((gBasOf x w s, s)).1, q_basOf hf hw x w, fun _ => rfl⟩)
theorem two_lost (hb : BG T P s) (p w : Int32) : TWO True 109 194 [.ref 0, .int p, .int w] [.ref 366, .int p, .int w] T P ((gLost p w s, s)).2 := TWO.mk (a := ((gLost p w s, s)).1) hb ⟨T, P, g_lost rfl hb.1 p w, hb.1⟩ (fun T1 P1 hf hw => ⟨((gLost p w s, s)).1, q_lost hf hw p w, fun _ => rfl⟩)
theorem two_ord (hb : BG T P s) (r : Int32) : TWO True 110 195 [.ref 0, .int r] [.ref 366, .int r] T P ((if r < 0 then -2 else gOrd' r s.1, s)).2 := TWO.mk (a := ((if r < 0 then -2 else gOrd' r s.1, s)).1) hb ⟨T, P, g_ord rfl hb.1 r, hb.1⟩ (fun T1 P1 hf hw => ⟨((if r < 0 then -2 else gOrd' r s.1, s)).1, q_ord hf hw r, fun _ => rfl⟩)
theorem two_book (hb : BG T P s) (a w : Int32) : TWO True 111 196 [.ref 0, .int a, .int w] [.ref 366, .int a, .int w] T P ((gBook a w s, s)).2 := TWO.mk (a := ((gBook a w s, s)).1) hb ⟨T, P, g_book rfl hb.1 a w, hb.1⟩ (fun T1 P1 hf hw => ⟨((gBook a w s, s)).1, q_book hf hw a w, fun _ => rfl⟩)
theorem two_count (hb : BG T P s) (w : Int32) : TWO True 112 201 [.ref 0, .int w] [.ref 366, .int w] T P ((gCount w s, s)).2 := TWO.mk (a := ((gCount w s, s)).1) hb ⟨T, P, g_count rfl hb.1 w, hb.1⟩ (fun T1 P1 hf hw => ⟨((gCount w s, s)).1, q_count hf hw w, fun _ => rfl⟩)
theorem two_if (hb : BG T P s) (r m w : Int32) : TWO True 114 204 [.ref 0, .int r, .int m, .int w] [.ref 366, .int r, .int m, .int w] T P ((gIf r m w s, s)).2 := TWO.mk (a := ((gIf r m w s, s)).1) hb (let ⟨T1, e1, c1⟩ := g_if rfl rfl hb.1 r m w; ⟨T1, P, e1, c1⟩) (fun T1 P1 hf hw => ⟨((gIf r m w s, s)).1, q_if hf hw r m w, fun _ => rfl⟩)
theorem two_best (hb : BG T P s) (m : Int32) : TWO True 115 205 [.ref 0, .int m] [.ref 366, .int m] T P ((gBest m s, s)).2 := TWO.mk (a := ((gBest m s, s)).1) hb (let ⟨T1, e1, c1⟩ := g_best rfl rfl hb.1 m; ⟨T1, P, e1, c1⟩) (fun T1 P1 hf hw => ⟨((gBest m s, s)).1, q_best hf hw m, fun _ => rfl⟩)
theorem two_home (hb : BG T P s) (x m : Int32) : TWO True 116 206 [.ref 0, .int x, .int m] [.ref 366, .int x, .int m] T P ((gHome x m s, s)).2 := TWO.mk (a := ((gHome x m s, s)).1) hb (g_home rfl rfl hb.1 x m) (fun T1 P1 hf hw => ⟨((gHome x m s, s)).1, q_home hf hw x m, fun _ => rfl⟩)
theorem two_sure (hb : BG T P s) : TWO True 118 208 [.ref 0] [.ref 366] T P ((gSure s, s)).2 := TWO.mk (a := ((gSure s, s)).1) hb ⟨T, P, g_sure rfl hb.1, hb.1⟩ (fun T1 P1 hf hw => ⟨((gSure s, s)).1, q_sure hf hw, fun _ => rfl⟩)
theorem two_type (hb : BG T P s) {c : Int32} (hcc : vp_nar .char c = c) : TWO True 101 172 [.ref 0, .int c] [.ref 366, .int c] T P (gType c s).2 := TWO.mk (a := (gType c s).1) hb (let ⟨T1, e1, c1⟩ := g_type hb.1 hcc; ⟨T1, P, e1, c1⟩) (fun T1 P1 hf hw => ⟨(gType c s).1, q_type hf c, fun _ => rfl⟩)
theorem two_lose (hb : BG T P s) (x k : Int32) : TWO (s.1.2 = []) 94 154 [.ref 0, .int x, .int k] [.ref 366, .int x, .int k] T P (gLose x k s).2 := TWO.mk (a := (gLose x k s).1) hb (let ⟨T1, e1, c1⟩ := g_lose rfl hb.1 x k; ⟨T1, P, e1, c1⟩) (fun T1 P1 hf hw => ⟨rLose x k s, q_lose hf hw x k, fun hK => by unfold rLose gLose; rw [hK]; rfl⟩)
theorem two_want (hb : BG T P s) {st : Nat} (hst : s.1.1.2.1 0 1 = nI st) (h9 : st ≤ 100000) : TWO True 117 207 [.ref 0] [.ref 366] T P s := TWO.mk (a := gWant s) hb ⟨T, P, g_want rfl hb.1, hb.1⟩ (fun T1 P1 hf hw => ⟨gWant s, q_want hf hw hst h9, fun _ => rfl⟩)
theorem two_want0 (hb : BG T P s) : TWO False 117 207 [.ref 0] [.ref 366] T P s := TWO.mk (a := gWant s) hb ⟨T, P, g_want rfl hb.1, hb.1⟩ (fun T1 P1 hf hw => let ⟨b, hq⟩ := q_want0 (P := P1) hf hw; ⟨b, hq, fun h => h.elim⟩)
end BO
