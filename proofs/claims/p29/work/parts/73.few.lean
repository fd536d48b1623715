/-! how many hangers are in stock: never many more than calls were made -/
def SQ (n : Nat) (u : uT) : Prop := ∃ st, st ≤ n ∧ u.1.2.1 0 1 = nI st
/-- of now, of what is kept, of the history -/
def SG (n : Nat) (s : gT) : Prop := SQ n s.1 ∧ (∀ v, s.2.1 = some v → SQ n v) ∧ ∀ v ∈ s.2.2.1, SQ n v
theorem chE_0 {l0 : Nat} {s : sT} (n : Nat) : (chE l0 n s).2.1 0 = s.2.1 0 := (ch_keep n).2.2.2.2.1 0 (by decide) (by decide)
theorem dyU_0 (u : uT) : (dyU u).1.2.1 0 1 = u.1.2.1 0 1 := by
  have h1 := (lvE_keep (goK (dy1 u.1).1 (dy1 u.1).2.1) (dy1 u.1) u.2).2.2.2.2.1 0 (by decide)
  have h2 := chE_0 (l0 := u.1.1 0 + 1 - dyG u.1.2.1) (s := dy0 u.1) (u.1.1 1)
  have h3 : (dy0 u.1).2.1 0 1 = u.1.2.1 0 1 := rfl
  exact (congrFun h1 1).trans ((congrFun h2 1).trans h3)
theorem psU_0 (u : uT) : ∀ n, (psU n u).1.2.1 0 1 = u.1.2.1 0 1
  | 0 => rfl
  | n + 1 => (dyU_0 (psU n u)).trans (psU_0 u n)
theorem irS_few (N : Nat → Nat) {b : Nat} (hb : b < 2 ^ 31) : ∀ (n : Nat) (V : Nat → Nat → Int32) (K : List kT) (m : Int32), (∃ st, st ≤ b ∧ V 0 1 = nI st) → ∃ st, st ≤ b ∧ (irS N n V K m).2.1 0 1 = nI st
  | 0, _, _, _, h => h
  | n + 1, V, K, m, h => by
    unfold irS
    split
    · exact h
    · rename_i i hq
      split
      · exact h
      · obtain ⟨-, hir⟩ := nxS_ok hq
        obtain ⟨k, hk, hlk, -, h0⟩ := ir_kind hir
        have hkd : kdN V (gK K i) = k := by unfold kdN; rw [hlk, nI_clamp (by omega)]
        refine irS_few N hb n (inV V (gK K i) (kdN V (gK K i))) (K.set i (inB (gK K i) (kdN V (gK K i)))) (m - ndI V (gK K i) (kdN V (gK K i))) ?_
        rw [hkd]
        obtain ⟨st, h1, h2⟩ := h
        have h9 : inV V (gK K i) k 0 1 = if k < 3 then V 0 1 - 1 else V 0 1 := rfl
        by_cases h3 : k < 3
        · have h5 := h0 h3
          rw [h2, nI_posn (by omega)] at h5
          have e1 : nI st - nI 1 = nI (st - 1) := nI_sub h5
          exact ⟨st - 1, by omega, by rw [h9, if_pos h3, h2]; exact e1⟩
        · exact ⟨st, h1, by rw [h9, if_neg h3]; exact h2⟩
section FEW
variable {T : Nat → Nat → Int32} {P : Nat → Nat → Nat} {f : Nat → Int32} {n m : Nat} {s : gT} {u v : uT}
theorem SQ.mono (h : SQ n u) (hm : n ≤ m) : SQ m u := by
  obtain ⟨st, h1, h2⟩ := h
  exact ⟨st, Nat.le_trans h1 hm, h2⟩
theorem SQ.same (h : SQ n u) (e : v.1.2.1 0 1 = u.1.2.1 0 1) : SQ n v := by
  obtain ⟨st, h1, h2⟩ := h
  exact ⟨st, h1, e.trans h2⟩
theorem SG.mono (h : SG n s) (hm : n ≤ m) : SG m s := ⟨h.1.mono hm, fun v hv => (h.2.1 v hv).mono hm, fun v hv => (h.2.2 v hv).mono hm⟩
theorem SG.tell (h : SG n s) : SG (n + 1200) s := h.mono (by omega)
/-- another state now; the old one goes into the history -/
theorem SG.ps (h : SG n s) (hu : SQ m u) (hm : n ≤ m) {t : Nat × (Nat → Int32)} : SG m (u, s.2.1, psL s, t) := by
  refine ⟨hu, fun v hv => (h.2.1 v hv).mono hm, fun v hv => ?_⟩
  have hv : v ∈ s.1 :: s.2.2.1 := List.mem_of_mem_take hv
  rcases List.mem_cons.mp hv with hv | hv
  · rw [hv]; exact h.1.mono hm
  · exact (h.2.2 v hv).mono hm
theorem SG.to (h : SG n s) (e : u.1.2.1 0 1 = s.1.1.2.1 0 1) {t : Nat × (Nat → Int32)} : SG (n + 1200) (u, s.2.1, psL s, t) := h.ps ((h.1.same e).mono (by omega)) (by omega)
theorem SG.cust (h : SG n s) (d : Int32) : SG (n + 1200) (gCust d s).2 := by
  unfold gCust
  split
  · exact h.tell
  split
  · exact h.to rfl
  · exact h.tell
theorem SG.vis (h : SG n s) (d x : Int32) : SG (n + 1200) (gVis d x s).2 := by
  unfold gVis
  split
  · exact h.tell
  split
  · exact h.tell
  split
  · exact h.tell
  · exact h.to rfl
theorem SQ.bk {c p st g : Int32} (h : SQ n u) (hw : WFu u) (hr : ¬ rfU u c p st g < 0) : SQ (n + 99) (bkU u c.toNatClampNeg g.toNatClampNeg p st) := by
  obtain ⟨-, k, x, y, z, hk, rfl, hx, rfl, hy, rfl, hz, hzo, rfl, h8, h99⟩ := rf_ok hw hr
  have hN1 := hw.1.1.2.1
  obtain ⟨q, h1, h2⟩ := h
  rw [nI_clamp (by omega), nI_clamp (by omega)]
  refine ⟨q + z, by omega, ?_⟩
  show u.1.2.1 0 1 + nI z = _
  rw [h2, nI_add]
theorem SQ.bs {c p st g : Nat → Int32} : ∀ {m i k : Nat} {u : uT}, SQ k u → WFu u → SQ (k + 99 * m) (bsF c p st g m i u).2
  | 0, _, _, _, h, _ => h
  | m + 1, i, k, u, h, hw => by
    simp only [bsF]
    by_cases q : rfU u (c i) (p i) (st i) (g i) < 0
    · rw [if_pos q]; exact h.mono (by omega)
    · rw [if_neg q]
      exact (SQ.bs (m := m) (i := i + 1) (h.bk hw q) (bkU_wf hw q)).mono (by omega)
theorem SG.bask (h : SG n s) (hw : WG s) (c p st g : Int32) : SG (n + 1200) (gBask c p st g s).2 := by
  unfold gBask
  split
  · exact h.tell
  · rename_i q
    exact h.ps ((h.1.bk hw.1 q).mono (by omega)) (by omega)
theorem SG.bkts (h : SG n s) (hw : WG s) (hf : CF T f s) : SG (n + 1200) (gBkts s).2 := by
  obtain ⟨q, k, g, -, hk⟩ := t_reads (P := fun _ _ => 0) hf.tt
  unfold gBkts
  split
  · rename_i c
    obtain ⟨ek, hk12, -⟩ := hk c
    have h12 : (txC s).2.1 ≤ 12 := Nat.le_trans (Nat.le_of_eq ek.symm) hk12
    have hb : SQ (n + 99 * (txC s).2.1) (bkS s).2 := SQ.bs h.1 hw.1
    cases (bkS s).1 with
    | some e => exact h.tell
    | none => exact h.ps (hb.mono (by omega)) (by omega)
  · exact h.tell
theorem SG.lose (h : SG n s) (x k : Int32) : SG (n + 1200) (gLose x k s).2 := by
  unfold gLose
  split
  · exact h.tell
  split
  · exact h.tell
  split
  · split
    · exact h.to rfl
    · exact h.tell
  · exact h.tell
theorem SG.find (h : SG n s) (p x : Int32) : SG (n + 1200) (gFind p x s).2 := by
  unfold gFind
  split
  · exact h.tell
  split
  · split
    · exact h.to rfl
    · exact h.tell
  · exact h.tell
theorem SG.iron (h : SG n s) (hn : n < 2 ^ 31) (d : Int32) : SG (n + 1200) (gIron d s).2 := by
  unfold gIron
  split
  · exact h.tell
  · have hb : SQ n (irU s.1 d) := irS_few s.1.1.1 hn 288 s.1.1.2.1 s.1.2 d h.1
    exact h.ps (hb.mono (by omega)) (by omega)
theorem SG.pass (h : SG n s) (d : Int32) : SG (n + 1200) (gPass d s).2 := by
  unfold gPass
  split
  · exact h.tell
  split
  · exact h.tell
  · exact h.to (psU_0 s.1 _)
theorem SG.buy (h : SG n s) (d : Int32) : SG (n + 1200) (gBuy d s).2 := by
  unfold gBuy
  split
  · exact h.tell
  rename_i c1
  split
  · exact h.tell
  · obtain ⟨k, -, hk, rfl⟩ := inI_ex2 (m := 1) (n := 99) (by decide) (by decide) c1
    obtain ⟨st, h1, h2⟩ := h.1
    refine h.ps (m := n + 1200) ⟨st + k, by omega, ?_⟩ (by omega)
    show s.1.1.2.1 0 1 + nI k = _
    rw [h2, nI_add]
theorem SG.pay (h : SG n s) (c : Int32) : SG (n + 1200) (gPay c s).2 := by
  unfold gPay
  split
  · split
    · exact h.tell
    · exact h.to rfl
  · exact h.tell
theorem SG.set (h : SG n s) (w x : Int32) : SG (n + 1200) (gSet w x s).2 := by
  unfold gSet
  split
  · exact h.tell
  split
  · exact h.tell
  split
  · exact h.tell
  · exact h.to rfl
theorem SG.type (h : SG n s) (c : Int32) : SG (n + 1200) (gType c s).2 := by
  have h := h.tell
  unfold gType
  split
  · exact ⟨h.1, h.2.1, h.2.2⟩
  · exact h
theorem SG.clear (h : SG n s) : SG (n + 1200) (gClear s).2 := by
  have h := h.tell
  exact ⟨h.1, h.2.1, h.2.2⟩
theorem SG.undo : ∀ {s : gT}, SG n s → SG (n + 1200) (gUndo s).2
  | (u, k, [], t), h => h.tell
  | (u, k, v :: L, t), h => by
    have h := h.tell
    exact ⟨h.2.2 v List.mem_cons_self, h.2.1, fun w hw => h.2.2 w (List.mem_cons_of_mem _ hw)⟩
theorem SG.keep (h : SG n s) : SG (n + 1200) (gKeep s).2 := by
  have h := h.tell
  refine ⟨h.1, fun v hv => ?_, h.2.2⟩
  have hv : some s.1 = some v := hv
  rw [← Option.some.inj hv]; exact h.1
theorem SG.rest : ∀ {s : gT}, SG n s → SG (n + 1200) (gRest s).2
  | (u, none, r), h => h.tell
  | (u, some v, L, t), h => by
    have h := h.tell
    exact SG.ps (s := (u, some v, L, t)) h (h.2.1 v rfl) (Nat.le_refl _)
theorem SG.st {i : Nat} (h : SG (60 + 240 * i + 1200) s) : SG (60 + 240 * (i + 5)) s := h.mono (by omega)
theorem two_wantB (hb : BG T P s) (h : SQ n s.1) (hn : n ≤ 1000000) : TWO True 117 207 [.ref 0] [.ref 366] T P s := by
  obtain ⟨st, h1, h2⟩ := h
  exact two_want hb h2 (Nat.le_trans h1 hn)
end FEW
