/-! the law, whole -/
theorem TWO.stp {T : Nat → Nat → Int32} {P : Nat → Nat → Nat} {s' : gT} {e e' : Prop} {jc jr : Nat} {A B : List Value} {K : (Nat → Nat → Int32) → (Nat → Nat → Nat) → Prop} (h : TWO e jc jr A B T P s') (he : e' → e) (hK : ∀ T P, BG T P s' → K T P) : STP e' jc jr A B T P K := by
  obtain ⟨a, b, T1, P1, T2, e1, e2, g, q⟩ := h
  exact ⟨a, b, T1, P1, T2, e1, e2, hK _ _ g, fun z => q (he z)⟩
/-- what holds when i ints are read -/
def JJ (i : Nat) (T : Nat → Nat → Int32) (P : Nat → Nat → Nat) : Prop := ∃ s : gT, BG T P s ∧ True
theorem JJ.mean {i : Nat} {T : Nat → Nat → Int32} {P : Nat → Nat → Nat} (h : JJ i T P) : T 49 2 = T 367 13 ∧ T 49 3 = T 367 14 ∧ T 366 0 = 0 := by
  obtain ⟨s, ⟨hc, ⟨h0, -⟩, ⟨-, -, -, hf, -⟩, -⟩, -⟩ := h
  have hv : ∀ k, k < 4 → T 49 k = s.1.1.2.1 48 k := hc.2.1.1.2.2.2.2.2.1
  have hf : ∀ k, k < 4 → T 367 (11 + k) = s.1.1.2.1 48 k := hf
  exact ⟨(hv 2 (by decide)).trans (hf 2 (by decide)).symm, (hv 3 (by decide)).trans (hf 3 (by decide)).symm, h0⟩
theorem LHp {L : Nat}  : LH L JJ := ⟨fun i T P x1 hi ⟨s, hb, h0⟩ => (two_cust hb x1).stp (fun _ => trivial) (fun T P hg => ⟨_, hg, trivial⟩),
  fun i T P x1 x2 hi ⟨s, hb, h0⟩ => (two_vis hb x1 x2).stp (fun _ => trivial) (fun T P hg => ⟨_, hg, trivial⟩),
  fun i T P x1 x2 x3 x4 hi ⟨s, hb, h0⟩ => (two_bask hb x1 x2 x3 x4).stp (fun _ => trivial) (fun T P hg => ⟨_, hg, trivial⟩),
  fun i T P hi ⟨s, hb, h0⟩ => (two_bkts hb).stp (fun _ => trivial) (fun T P hg => ⟨_, hg, trivial⟩),
  fun i T P x1 x2 hi ⟨s, hb, h0⟩ => (two_lose hb x1 x2).stp (fun h => h.elim) (fun T P hg => ⟨_, hg, trivial⟩),
  fun i T P x1 x2 hi ⟨s, hb, h0⟩ => (two_find hb x1 x2).stp (fun _ => trivial) (fun T P hg => ⟨_, hg, trivial⟩),
  fun i T P x1 hi ⟨s, hb, h0⟩ => (two_iron hb x1).stp (fun _ => trivial) (fun T P hg => ⟨_, hg, trivial⟩),
  fun i T P x1 hi ⟨s, hb, h0⟩ => (two_pass hb x1).stp (fun _ => trivial) (fun T P hg => ⟨_, hg, trivial⟩),
  fun i T P x1 hi ⟨s, hb, h0⟩ => (two_buy hb x1).stp (fun _ => trivial) (fun T P hg => ⟨_, hg, trivial⟩),
  fun i T P x1 hi ⟨s, hb, h0⟩ => (two_pay hb x1).stp (fun _ => trivial) (fun T P hg => ⟨_, hg, trivial⟩),
  fun i T P x1 x2 hi ⟨s, hb, h0⟩ => (two_set hb x1 x2).stp (fun _ => trivial) (fun T P hg => ⟨_, hg, trivial⟩),
  fun i T P x1 hi ⟨s, hb, h0⟩ => (two_type hb (nar_c x1)).stp (fun _ => trivial) (fun T P hg => ⟨_, hg, trivial⟩),
  fun i T P hi ⟨s, hb, h0⟩ => (two_clear hb).stp (fun _ => trivial) (fun T P hg => ⟨_, hg, trivial⟩),
  fun i T P hi ⟨s, hb, h0⟩ => (two_fault hb).stp (fun _ => trivial) (fun T P hg => ⟨_, hg, trivial⟩),
  fun i T P hi ⟨s, hb, h0⟩ => (two_undo hb).stp (fun _ => trivial) (fun T P hg => ⟨_, hg, trivial⟩),
  fun i T P hi ⟨s, hb, h0⟩ => (two_keep hb).stp (fun _ => trivial) (fun T P hg => ⟨_, hg, trivial⟩),
  fun i T P hi ⟨s, hb, h0⟩ => (two_rest hb).stp (fun _ => trivial) (fun T P hg => ⟨_, hg, trivial⟩),
  fun i T P x1 x2 hi ⟨s, hb, h0⟩ => (two_cus hb x1 x2).stp (fun _ => trivial) (fun T P hg => ⟨_, hg, trivial⟩),
  fun i T P x1 x2 hi ⟨s, hb, h0⟩ => (two_basOf hb x1 x2).stp (fun _ => trivial) (fun T P hg => ⟨_, hg, trivial⟩),
  fun i T P x1 x2 hi ⟨s, hb, h0⟩ => (two_lost hb x1 x2).stp (fun _ => trivial) (fun T P hg => ⟨_, hg, trivial⟩),
  fun i T P x1 hi ⟨s, hb, h0⟩ => (two_ord hb x1).stp (fun _ => trivial) (fun T P hg => ⟨_, hg, trivial⟩),
  fun i T P x1 x2 hi ⟨s, hb, h0⟩ => (two_book hb x1 x2).stp (fun _ => trivial) (fun T P hg => ⟨_, hg, trivial⟩),
  fun i T P x1 hi ⟨s, hb, h0⟩ => (two_count hb x1).stp (fun _ => trivial) (fun T P hg => ⟨_, hg, trivial⟩),
  fun i T P x1 x2 x3 hi ⟨s, hb, h0⟩ => (two_if hb x1 x2 x3).stp (fun _ => trivial) (fun T P hg => ⟨_, hg, trivial⟩),
  fun i T P x1 hi ⟨s, hb, h0⟩ => (two_best hb x1).stp (fun _ => trivial) (fun T P hg => ⟨_, hg, trivial⟩),
  fun i T P x1 x2 hi ⟨s, hb, h0⟩ => (two_home hb x1 x2).stp (fun _ => trivial) (fun T P hg => ⟨_, hg, trivial⟩),
  fun i T P hi ⟨s, hb, h0⟩ => (two_want0 hb).stp (fun h => h) (fun T P hg => ⟨_, hg, trivial⟩),
  fun i T P hi ⟨s, hb, h0⟩ => (two_sure hb).stp (fun _ => trivial) (fun T P hg => ⟨_, hg, trivial⟩),
  fun i T P h => h.mean,
  fun i T P ⟨s, hb, h0⟩ => ⟨s, hb, trivial⟩⟩
theorem whole_start {p : Program} {e : Env} {s : State} {m : MethodId} {below : List Frame} {meth : Method} {c : Code} (l : Launch) (hflags : l.flags = flags0) {b L : Nat} {xs : Nat → Int32} (hL : L ≤ 2560) (C0 : lw_At p s m meth c b L xs) : W p l e room_1 s m #[Value.ref b] below meth c s.heap [] 0 0 (lw_Z below #[Value.ref b] s) (entryFrame m ([Value.ref b] : List Value).toArray 8) := by
  obtain ⟨h, h2, b1, b2, e1, y1, y2, e2, y3, T, P, hn, hg, hf⟩ := ini
  exact law_start l (J := JJ) (by omega) C0 (LHp) ⟨h, h2, b1, b2, e1, y1, y2, e2, y3, T, P, fun b t ac D Hp hW => by rw [← hn]; exact WH_nrm hW, s00, ⟨hg, hf⟩, trivial⟩
