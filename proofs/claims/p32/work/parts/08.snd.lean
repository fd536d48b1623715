/-! the whole: whatever the small machine answers, the machine answers -/
abbrev rmm (j a b : Nat) : Room := { frames := mF j, cells := a, slots := b, locals := mW j }
def Qm (b : Nat) (t : Nat → Nat) (ac : Nat → ClassId) (D : va_G) (v : Option Value) (h' : List hC) : Array Value → State → Outcome → State → Prop := fun _ st oc u => oc = .returned (v.map (cv (ad b t))) ∧ WH b t ac D h' u.heap ∧ va_F (fun q => b ≤ q) st u
def Pm (b : Nat) (t : Nat → Nat) (ac : Nat → ClassId) (D : va_G) (as : List Value) (h : List hC) : Array Value → State → Prop := va_Pc (as.map (cv (ad b t))) (fun U => WH b t ac D h U.heap ∧ EV b t ac D U ∧ b ≤ U.heap.size ∧ U.heap.size ≤ b + h.length)
theorem Pm_blind {b : Nat} {t : Nat → Nat} {ac : Nat → ClassId} {D : va_G} {as : List Value} {h : List hC} : FrameBlind (Pm b t ac D as h) := by
  intro a U g mk hp
  obtain ⟨h1, h2, h3, h4, h5⟩ := hp
  exact ⟨h1, h2, h3.call, h4, h5⟩
def Snd (l : Launch) (n : Nat) : Prop := ∀ (i pc : Nat) (L S : List Value) (h : List hC) (v : Option Value) (h' : List hC) (a bb : Nat), exec n i pc L S h = some (v, h', a, bb) →
  ∀ {p : Program} {e : Env} {R : Room} {s : State} {m : MethodId} {args : Array Value} {below : List Frame} {meth : Method} {c : Code} {b : Nat} {t : Nat → Nat} {ac : Nat → ClassId} {D : va_G} (_ : Ctx b t ac D p s m args meth c R i) (H : Heap) (locs : List Loc) (cells slots : Nat) (ls : Array Slot) (mc ms : Nat), LR (ad b t) ls (mL i) L → WH b t ac D h H → va_S (fun q => b ≤ q) s.heap H locs → h.length + a ≤ sB → s.heap.size + cells ≤ b + h.length → cells + a ≤ mc → slots + bb ≤ ms → mc ≤ R.cells → ms ≤ R.slots →
    W p l e R s m args below meth c H locs cells slots (MQ below (Qm b t ac D v h') args s mc ms (fun q => b ≤ q)) (F0 m pc ls (S.map (cv (ad b t))))
theorem lv_args1 : ∀ (vs : List Value) (i : Nat), (∀ v ∈ vs, v.category = 1) → ∀ (k : Nat) (v : Value), vs[k]? = some v → (i + k, v) ∈ lv_args i vs
  | [], _, _, k, v, h => by simp at h
  | w :: vs, i, hc, k, v, h => by
    have hw : ¬ w.category = 2 := by rw [hc w List.mem_cons_self]; decide
    simp only [lv_args, hw, if_false]
    cases k with
    | zero => rw [List.getElem?_cons_zero] at h; cases h; exact List.mem_cons_self
    | succ k =>
      rw [List.getElem?_cons_succ] at h
      have := lv_args1 vs (i + 1) (fun v hv => hc v (List.mem_cons_of_mem _ hv)) k v h
      rw [show i + (k + 1) = i + 1 + k by omega]
      exact List.mem_cons_of_mem _ this
theorem lg_len1 : ∀ (vs : List Value), (∀ v ∈ vs, v.category = 1) → (lg_sl vs).length = vs.length
  | [], _ => rfl
  | w :: vs, hc => by
    have hw : ¬ w.category = 2 := by rw [hc w List.mem_cons_self]; decide
    have := lg_len1 vs (fun v hv => hc v (List.mem_cons_of_mem _ hv))
    have e : lg_sl (w :: vs) = [Slot.val w] ++ lg_sl vs := by simp [lg_sl, hw]
    rw [e, List.length_append, this, List.length_singleton, List.length_cons]
    omega
theorem pad_LR {r : Nat → Nat} {j : Nat} {as : List Value} (hc : as.all cat1 = true) (hl : as.length ≤ mL j) :
    LR r ((lg_sl (as.map (cv r)) ++ List.replicate (mL j - (lg_sl (as.map (cv r))).length) Slot.unset).toArray) (mL j) (pad j as) := by
  have h1 : ∀ v ∈ as.map (cv r), v.category = 1 := by
    intro v hv
    obtain ⟨w, hw, rfl⟩ := List.mem_map.mp hv
    exact cat1_c (List.all_eq_true.mp hc w hw)
  have h2 := lg_len1 _ h1
  have h3 := lv_entry (as.map (cv r)) (n := mL j) (by rw [h2, List.length_map]; exact hl)
  refine ⟨h3.1, ⟨h3.2.1, fun k x y hk hk2 => ?_⟩, by simp [pad]; omega, fun k v hk hv => ?_⟩
  · unfold pad at hk2
    by_cases q : k + 1 < as.length
    · rw [List.getElem?_append_left q] at hk2
      have := List.all_eq_true.mp hc _ (List.mem_of_getElem? hk2)
      cases this
    · rw [List.getElem?_append_right (by omega)] at hk2
      have := List.eq_of_mem_replicate (List.mem_of_getElem? hk2)
      cases this
  unfold pad at hk
  by_cases hk2 : k < as.length
  · rw [List.getElem?_append_left hk2] at hk
    have := h3.2.2 (k, cv r v) (by
      have := lv_args1 _ 0 h1 k (cv r v) (by rw [List.getElem?_map, hk]; rfl)
      rwa [Nat.zero_add] at this)
    exact this
  · rw [List.getElem?_append_right (by omega)] at hk
    have := List.eq_of_mem_replicate (List.mem_of_getElem? hk)
    subst this
    cases hv
/-- a contract out of a run of the small machine -/
theorem met_of {l : Launch} {n : Nat} (hS : Snd l n) {b : Nat} {t : Nat → Nat} {ac : Nat → ClassId} {D : va_G} {j : Nat} {as : List Value} {h h' : List hC} {v : Option Value} {a bb : Nat} (hj : j < mtab.length) (hx : exec n j 0 (pad j as) [] h = some (v, h', a, bb)) (hc : as.all cat1 = true) (hl : as.length ≤ mL j) (hlen : h.length + a ≤ sB) :
    Met l (mN j) (wsm j) (rmm j a bb) (Pm b t ac D as h) (Qm b t ac D v h') a bb (fun q => b ≤ q) := by
  have hr := mrow_at hj
  refine Met.ofW (cc := mB j) (maxL := mL j) (ret := mR j) hr.2.2.2.1 rfl ?_
  intro p e s m args below meth c s₁ B hml hv
  obtain ⟨rfl, hW, hE, hb0, hsz⟩ := hv
  have hts := atoms_spec (ws := wsm j) B.pre
  have hown : s.vm.findClass (mN j).cls = some m.cls := findClass_of_methodNamed B.named
  rw [hr.2.1] at hown
  rw [lg_entry_eq]
  exact hS j 0 (pad j as) [] h v h' a bb hx (R := rmm j a bb) ⟨B.exec, B.bytes, B.returns, hml, hown, fun w hw => hts w (List.mem_cons_of_mem _ hw), B.notSynchronized, fun hn => by rw [← hn]; exact (name_of_methodNamed B.named B.method).1, hE, Nat.le_refl _, Nat.le_refl _, hb0⟩ s.heap [] 0 0 _ a bb (pad_LR hc hl) hW va_S.rf hlen hsz (by omega) (by omega) (Nat.le_refl _) (Nat.le_refl _)
section SND2
variable {p : Program} {l : Launch} {e : Env} {R : Room} {s : State} {m : MethodId} {args : Array Value} {below : List Frame} {meth : Method} {c : Code} {H : Heap} {locs : List Loc} {cells slots : Nat} {Q : State → Prop} {b : Nat} {t : Nat → Nat} {ac : Nat → ClassId} {D : va_G} {i pc len : Nat} {ls : Array Slot} {L S : List Value} {h : List hC}
theorem W_call {st0 rest : List Value} {a : Array Value} {mc ms : Nat} {v : Option Value} {h1 : List hC} (hr : va_Run p l e R s m args below meth c H locs cells slots mc ms (F0 m pc ls st0) rest (Qm b t ac D v h1 a) (fun q => b ≤ q)) (hS : va_S (fun q => b ≤ q) s.heap H locs)
    (kk : ∀ (H1 : Heap) (locs1 : List Loc), WH b t ac D h1 H1 → va_S (fun q => b ≤ q) s.heap H1 locs1 → W p l e R s m args below meth c H1 locs1 (cells + mc) (slots + ms) Q (F0 m (pc + 3) ls ((v.map (cv (ad b t))).toList ++ rest))) : W p l e R s m args below meth c H locs cells slots Q (F0 m pc ls st0) := by
  intro T hT X
  obtain ⟨w, st₀, u, T', L', h0, X', hL, e1, e2, ⟨hv, hw, hF⟩, st⟩ := hr T hT X
  have hv := Outcome.returned.inj hv
  subst hv
  rw [va_F, h0] at hF
  obtain ⟨u2, a1, b1⟩ := kk T'.heap (locs ++ L') (by rw [e1]; exact hw) ⟨Nat.le_trans hS.1 (by rw [e1]; exact hF.1), fun q g1 g2 => by rw [e1, hF.2 q (Nat.lt_of_lt_of_le g1 hS.1) g2]; exact hS.2.1 q g1 g2, fun q hq => (List.mem_append.mp hq).elim (hS.2.2 q) (hL q)⟩ T' rfl X'
  exact ⟨u2, st u2 a1, b1⟩
theorem s_call {n : Nat} (hSn : Snd l n) {ins : Instr} {j : Nat} {as rest : List Value} {v : Option Value} {h1 : List hC} {a1 b1 : Nat} (C : Ctx b t ac D p s m args meth c R i) (hd : decode (mB i) pc = .ok (ins, len)) (ha : act i pc ins len L S h = some (.inr (.inr (.inr (j, as, rest))))) (he : exec n j 0 (pad j as) [] h = some (v, h1, a1, b1)) (hL : LR (ad b t) ls (mL i) L) (hW : WH b t ac D h H) (hS : va_S (fun q => b ≤ q) s.heap H locs) (hlen : h.length + a1 ≤ sB) (hsz : s.heap.size + cells ≤ b + h.length) (hcs : cells + a1 ≤ R.cells ∧ slots + b1 ≤ R.slots)
    (k : ∀ (H' : Heap) (locs' : List Loc), WH b t ac D h1 H' → va_S (fun q => b ≤ q) s.heap H' locs' → W p l e R s m args below meth c H' locs' (cells + a1) (slots + b1) Q (F0 m (pc + 3) ls ((v.toList ++ rest).map (cv (ad b t))))) : W p l e R s m args below meth c H locs cells slots Q (F0 m pc ls (S.map (cv (ad b t)))) := by
  obtain ⟨hx, hb, hr, hml, hown, hts, hlocks, hin, hE, hfr, hlo, hbs⟩ := C
  obtain ⟨rfl, hroom, has, hrest, hkind⟩ := act_call ha
  obtain ⟨r1, r2, r3, r4, -, r6, r7⟩ := room_z hroom
  have hSS : S = as.reverse ++ rest := by rw [has, hrest, List.reverse_reverse, List.take_append_drop]
  have hall : as.all cat1 = true ∧ cs rest ≤ 8 := ⟨by rw [has, List.all_reverse]; exact r4, by rw [hrest]; exact r3⟩
  have hasl : as.length = mA j := by rw [has, List.length_reverse, List.length_take]; omega
  have hcr : ((rest.map (cv (ad b t))).map fun v => v.category).sum = cs rest := by
    unfold cs
    rw [List.map_map]
    exact congrArg List.sum (List.map_congr_left (fun v _ => cv_c v))
  -- the call can only run when the heap is no larger than told: so it is read off at the machine's own state
  intro T hT X
  have hTs : H.size ≤ b + h.length := by
    have := X.heapSize
    rw [hT] at this
    omega
  have hb2 : b ≤ H.size := Nat.le_trans hbs hS.1
  have hPm : ∀ U : State, U.heap = H → s.WarmedH U.vm → Pm b t ac D as h ((as.map (cv (ad b t))).toArray) U := fun U hU hWm => ⟨rfl, by rw [hU]; exact hW, hE.to hS hWm hU, by rw [hU]; exact hb2, by rw [hU]; exact hTs⟩
  have hmon : 2 * (F0 m pc ls (S.map (cv (ad b t)))).monitorRoom + ((rest.map (cv (ad b t))).map fun v => v.category).sum ≤ 8 := lv_room (by rw [hcr]; exact hall.2)
  have hvl : ((v.toList ++ rest).map (cv (ad b t))) = (v.map (cv (ad b t))).toList ++ rest.map (cv (ad b t)) := by
    cases v <;> simp
  have kk : ∀ (H' : Heap) (locs' : List Loc), WH b t ac D h1 H' → va_S (fun q => b ≤ q) s.heap H' locs' → W p l e R s m args below meth c H' locs' (cells + a1) (slots + b1) Q (F0 m (pc + 3) ls ((v.map (cv (ad b t))).toList ++ rest.map (cv (ad b t)))) := by
    intro H' locs' g1 g2
    rw [← hvl]
    exact k H' locs' g1 g2
  have hfix : CallFix p m c (mB i) (mL i) s args gw (fR (mC i)) := ⟨hx, hb, hml, hown, hts⟩
  rcases hkind with ⟨idx, b0, as', fs, rfl, hl, hb0, hcell⟩ | ⟨idx, kd, rfl, hkd, hl⟩ | ⟨idx, kd, b0, as', rfl, hkd, hl, hb0⟩
  · obtain ⟨hj, hP0, hlink⟩ := (lref_ok hl).1 rfl
    have hM := met_of hSn (b := b) (t := t) (ac := ac) (D := D) hj he hall.1 (by omega) hlen
    obtain ⟨w1, w2, w3, w4, w5, w6, w7, -, -⟩ := mrow_at hj
    obtain ⟨q1, q2, q3⟩ := w7 hP0
    subst hb0
    have hn : (parseMethodDescriptor (mN j).desc).map (fun d => d.parameters.length) = some as'.length := desc_n (by rw [q3, ← hasl]; rfl)
    refine W_call (va_runV (C := (mN j).cls) (As := as'.map (cv (ad b t))) (rest := rest.map (cv (ad b t))) (b := ad b t b0) hfix hM (cwV as'.length hts (gw_all (fun w hw => ?_)) rfl rfl rfl ⟨rfl, w5, w6, hn⟩ ⟨by show mF j + 1 ≤ R.frames; omega, by show 8 + (mL j + 11) + mW j ≤ R.locals; omega⟩) ⟨Pm_blind, ?_, fun U hU hWm => hPm U hU hWm⟩ rfl (by rw [List.length_map]) hL.1 ?_ hmon hd hcs) hS kk T hT X
    · rcases List.mem_append.mp hw with hw | hw
      · simp only [List.mem_cons, List.not_mem_nil, or_false] at hw
        rcases hw with rfl | rfl | rfl | rfl
        · exact hlink
        · exact q1
        · exact q2
        · exact w1
      · exact wsm_in hj w hw
    · rw [w2]
      exact va_recv hE.1 hW (vw_at (w3.resolve_right (fun q => by rw [hP0] at q; cases q))) (wz_at hcell)
    · rw [hSS]
      simp [cv]
  · have hjs : j < mtab.length ∧ (mP j).1 = 2 := by
      rcases hkd with rfl | rfl
      · exact ⟨((lref_ok hl).2.1 rfl).1, ((lref_ok hl).2.1 rfl).2.1⟩
      · exact ⟨((lref_ok hl).2.2.2.2.1 rfl).1, ((lref_ok hl).2.2.2.2.1 rfl).2.1⟩
    obtain ⟨hj, hP0⟩ := hjs
    have hM := met_of hSn (b := b) (t := t) (ac := ac) (D := D) hj he hall.1 (by omega) hlen
    obtain ⟨w1, w2, w3, w4, w5, w6, -, -, w7⟩ := mrow_at hj
    obtain ⟨q1, q3⟩ := w7 hP0
    have hn : (parseMethodDescriptor (mN j).desc).map (fun d => d.parameters.length) = some as.length := by rw [q3, hasl]
    rcases hkd with rfl | rfl
    · have hlink := ((lref_ok hl).2.1 rfl).2.2
      refine W_call (va_runS (As := as.map (cv (ad b t))) (rest := rest.map (cv (ad b t))) hfix hM (va_cwS as.length hts (gw_all (fun w hw => ?_)) rfl rfl rfl ⟨w5, w6, hn⟩ ⟨by show mF j + 1 ≤ R.frames; omega, by show 8 + (mL j + 11) + mW j ≤ R.locals; omega⟩) ⟨Pm_blind, fun U hU hWm => hPm U hU hWm⟩ rfl (by rw [List.length_map]) hL.1 ?_ hmon hd hcs) hS kk T hT X
      · rcases List.mem_append.mp hw with hw | hw
        · simp only [List.mem_cons, List.not_mem_nil, or_false] at hw
          rcases hw with rfl | rfl | rfl
          · exact hlink
          · exact q1
          · exact w1
        · exact wsm_in hj w hw
      · rw [hSS]
        simp
    · have hnest := hE.2.1 _ ((lref_ok hl).2.2.2.2.1 rfl).2.2
      refine W_call (va_runSN (As := as.map (cv (ad b t))) (rest := rest.map (cv (ad b t))) hfix hM ⟨va_cnB as.length hts (gw_all (fun w hw => wsm_in hj w hw)) rfl rfl rfl hnest (hts _ w1) ⟨w5, w6, hn⟩ ⟨by show mF j + 1 ≤ R.frames; omega, by show 8 + (mL j + 11) + mW j ≤ R.locals; omega⟩, hts _ q1, trivial⟩ ⟨Pm_blind, fun U hU hWm => hPm U hU hWm⟩ rfl (by rw [List.length_map]) hL.1 ?_ hmon hd hcs) hS kk T hT X
      rw [hSS]
      simp
  · have hjs : j < mtab.length ∧ (mP j).1 = 1 := by
      rcases hkd with rfl | rfl
      · exact ⟨((lref_ok hl).2.2.1 rfl).1, ((lref_ok hl).2.2.1 rfl).2.1⟩
      · exact ⟨((lref_ok hl).2.2.2.1 rfl).1, ((lref_ok hl).2.2.2.1 rfl).2.1⟩
    obtain ⟨hj, hP0⟩ := hjs
    have hM := met_of hSn (b := b) (t := t) (ac := ac) (D := D) hj he hall.1 (by omega) hlen
    obtain ⟨w1, w2, w3, w4, w5, w6, -, w7, -⟩ := mrow_at hj
    obtain ⟨q1, q2, q4, q3⟩ := w7 hP0
    subst hb0
    have hn : (parseMethodDescriptor (mN j).desc).map (fun d => d.parameters.length) = some as'.length := desc_n (by rw [q3, ← hasl]; rfl)
    have hwr : wsm j = Cond.code (mN j) (mB j) (mL j) none :: gw := by unfold wsm; rw [q4]
    rcases hkd with rfl | rfl
    · have hlink := ((lref_ok hl).2.2.1 rfl).2.2
      refine W_call (va_runI (As := as'.map (cv (ad b t))) (rest := rest.map (cv (ad b t))) (b := ad b t b0) hfix hM (cwI as'.length hts (gw_all (fun w hw => wsm_in hj w hw)) hwr rfl rfl (hts _ w1) (hts _ hlink) (hts _ q1) q2 ⟨w5, w6, hn⟩ ⟨by show mF j + 1 ≤ R.frames; omega, by show 8 + (mL j + 11) + mW j ≤ R.locals; omega⟩) ⟨Pm_blind, fun U hU hWm => hPm U hU hWm⟩ rfl (by rw [List.length_map]) hL.1 ?_ hmon hd hcs) hS kk T hT X
      rw [hSS]
      simp [cv]
    · have hnest := hE.2.1 _ ((lref_ok hl).2.2.2.1 rfl).2.2
      refine W_call (va_runIN (As := as'.map (cv (ad b t))) (rest := rest.map (cv (ad b t))) (b := ad b t b0) hfix hM ⟨va_cnB as'.length hts (gw_all (fun w hw => wsm_in hj w hw)) hwr rfl rfl hnest (hts _ w1) ⟨w5, w6, hn⟩ ⟨by show mF j + 1 ≤ R.frames; omega, by show 8 + (mL j + 11) + mW j ≤ R.locals; omega⟩, q2, hts _ q1⟩ ⟨Pm_blind, fun U hU hWm => hPm U hU hWm⟩ rfl (by rw [List.length_map]) hL.1 ?_ hmon hd hcs) hS kk T hT X
      rw [hSS]
      simp [cv]
theorem s_ret {ins : Instr} {v : Option Value} {mc ms : Nat} (C : Ctx b t ac D p s m args meth c R i) (hd : decode (mB i) pc = .ok (ins, len)) (ha : act i pc ins len L S h = some (.inr (.inl v))) (hW : WH b t ac D h H) (hS : va_S (fun q => b ≤ q) s.heap H locs) (hc : cells ≤ mc) (hs : slots ≤ ms) :
    W p l e R s m args below meth c H locs cells slots (MQ below (Qm b t ac D v h) args s mc ms (fun q => b ≤ q)) (F0 m pc ls (S.map (cv (ad b t)))) := by
  obtain ⟨hx, hb, hr, hml, hown, hts, hlocks, hin, hE, hfr, hlo, hbs⟩ := C
  refine W.widen (k := mc) (n := ms) hc hs ?_
  obtain ⟨rfl, hk⟩ := act_ret ha
  rcases hk with ⟨x, ty, rfl, rfl, hty, hok, rfl⟩ | ⟨x, rfl, rfl, hty, rfl⟩ | ⟨w, n, rfl, rfl, hty, hw, rfl⟩ | ⟨rfl, rfl, hty, rfl⟩
  · exact W.zret (ty := ty) hx hb (by rw [hr, hty]) (okv_n (r := ad b t) hok).1 (fun u hu _ => ⟨rfl, by rw [hu]; exact hW, hS.F hu⟩) (fun q hq => hS.2.2 q hq) hd hlocks
  · exact W.lret hx hb (by rw [hr, hty]) (fun u hu _ => ⟨rfl, by rw [hu]; exact hW, hS.F hu⟩) (fun q hq => hS.2.2 q hq) hd hlocks
  · exact W.aret (v := cv (ad b t) w) (rt := .object n) hx hb (by rw [hr, hty]) (Or.inl ⟨n, rfl⟩) (by
      rcases hw with rfl | ⟨z, rfl⟩
      · exact Or.inl rfl
      · exact Or.inr ⟨_, rfl⟩) (fun u hu _ => ⟨rfl, by rw [hu]; exact hW, hS.F hu⟩) (fun q hq => hS.2.2 q hq) hd hlocks
  · exact W.vret hx hb (by rw [hr, hty]) (fun u hu _ => ⟨rfl, by rw [hu]; exact hW, hS.F hu⟩) (fun q hq => hS.2.2 q hq) hd hlocks
end SND2
theorem snd (l : Launch) : ∀ n : Nat, Snd l n := by
  intro n
  induction n with
  | zero => intro i pc L S h v h' a bb hv; cases hv
  | succ n ih =>
    intro i pc L S h v h' a bb hv p e R s m args below meth c b t ac D C H locs cells slots ls mc ms hL hW hS hlen hsz hc hs hmc hms
    change stp (exec n) i pc L S h = _ at hv
    unfold stp at hv
    cases hd : decode (mB i) pc with
    | error e => rw [hd] at hv; cases hv
    | ok q =>
      obtain ⟨ins, len⟩ := q
      simp only [hd] at hv
      cases ha : act i pc ins len L S h with
      | none => simp only [ha] at hv; cases hv
      | some r =>
        simp only [ha] at hv
        rcases r with ⟨pc', L', S', h1⟩ | v' | ⟨x, pc', S'⟩ | ⟨j, as, rest⟩
        · have hl1 := act_len ha
          exact s_next C hd ha hL hW hS (by omega) ⟨by omega, by omega⟩ (fun ls' H' locs' g1 g2 g3 => ih _ _ _ _ _ _ _ _ _ hv C H' locs' cells slots ls' mc ms g1 g2 g3 (by omega) (by omega) hc hs hmc hms)
        · cases hv
          exact s_ret C hd ha hW hS (by omega) (by omega)
        · simp only at hv
          split at hv
          · cases he : exec n i pc' L (.ref h.length :: S') (h ++ [x]) with
            | none => rw [he] at hv; cases hv
            | some w =>
              obtain ⟨v1, h1, a1, b1⟩ := w
              rw [he] at hv
              cases hv
              refine s_alloc C hd ha hW hS (by omega) hsz ⟨by omega, by omega⟩ (fun H' locs' g1 g2 => ih _ _ _ _ _ _ _ _ _ he C H' locs' (cells + 1) (slots + csz x) ls mc ms hL g1 g2 ?_ ?_ (by omega) (by omega) hmc hms)
              · rw [List.length_append, List.length_singleton]; omega
              · rw [List.length_append, List.length_singleton]; omega
          · cases hv
        · simp only at hv
          cases he : exec n j 0 (pad j as) [] h with
          | none => rw [he] at hv; cases hv
          | some w =>
            obtain ⟨v1, h1, a1, b1⟩ := w
            rw [he] at hv
            simp only at hv
            cases he2 : exec n i (pc + 3) L (v1.toList ++ rest) h1 with
            | none => rw [he2] at hv; cases hv
            | some w2 =>
              obtain ⟨v2, h2, a2, b2⟩ := w2
              rw [he2] at hv
              cases hv
              have hl1 := exec_len _ _ _ _ _ _ _ _ _ _ he
              exact s_call ih C hd ha he hL hW hS (by omega) hsz ⟨by omega, by omega⟩ (fun H' locs' g1 g2 => ih _ _ _ _ _ _ _ _ _ he2 C H' locs' (cells + a1) (slots + b1) ls mc ms hL g1 g2 (by omega) (by omega) (by omega) (by omega) hmc hms)
/-- THE CONTRACT of a method that makes no cell, out of its answer X -/
theorem met_X (l : Launch) {b : Nat} {t : Nat → Nat} {ac : Nat → ClassId} {D : va_G} {j : Nat} {as : List Value} {h h' : List hC} {v : Option Value} (hj : j < mtab.length) (hz : mZ j = false) (hx : X j 0 (pad j as) [] h = some (v, h')) (hc : as.all cat1 = true) (hl : as.length ≤ mL j) (hlen : h.length ≤ sB) :
    Met l (mN j) (wsm j) (rmm j 0 0) (Pm b t ac D as h) (Qm b t ac D v h') 0 0 (fun q => b ≤ q) := by
  obtain ⟨n, a, bb, hn⟩ := X_to hx
  obtain ⟨rfl, rfl⟩ := exec_none _ _ _ _ _ _ _ _ _ _ hz hn
  exact met_of (snd l n) hj hn hc hl (by omega)
