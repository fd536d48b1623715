/-! the answer without the number of steps -/
theorem stp_le {E E' : eT} (hE : ∀ i pc L S h v, E i pc L S h = some v → E' i pc L S h = some v) {i pc : Nat} {L S : List Value} {h : List hC} {v : Option Value × List hC × Nat × Nat} (hv : stp E i pc L S h = some v) : stp E' i pc L S h = some v := by
  unfold stp at hv ⊢
  cases hd : decode (mB i) pc with
  | error e => rw [hd] at hv; cases hv
  | ok q =>
    obtain ⟨ins, len⟩ := q
    simp only [hd] at hv ⊢
    cases ha : act i pc ins len L S h with
    | none => simp only [ha] at hv; cases hv
    | some r =>
      simp only [ha] at hv ⊢
      rcases r with ⟨pc', L', S', h'⟩ | v' | ⟨c, pc', S'⟩ | ⟨j, as, rest⟩
      · exact hE _ _ _ _ _ _ hv
      · exact hv
      · simp only at hv ⊢
        by_cases hz : mZ i = true
        · rw [if_pos hz] at hv ⊢
          cases he : E i pc' L (.ref h.length :: S') (h ++ [c]) with
          | none => rw [he] at hv; cases hv
          | some w => rw [he] at hv; rw [hE _ _ _ _ _ _ he]; exact hv
        · rw [if_neg hz] at hv; cases hv
      · simp only at hv ⊢
        cases he : E j 0 (pad j as) [] h with
        | none => rw [he] at hv; cases hv
        | some w =>
          obtain ⟨v1, h1, a1, b1⟩ := w
          rw [he] at hv; rw [hE _ _ _ _ _ _ he]
          simp only at hv ⊢
          cases he2 : E i (pc + 3) L (v1.toList ++ rest) h1 with
          | none => rw [he2] at hv; cases hv
          | some w2 => rw [he2] at hv; rw [hE _ _ _ _ _ _ he2]; exact hv
theorem exec_s (n : Nat) : ∀ i pc L S h v, exec n i pc L S h = some v → exec (n + 1) i pc L S h = some v := by
  induction n with
  | zero => intro i pc L S h v hv; cases hv
  | succ n ih => intro i pc L S h v hv; exact stp_le ih hv
theorem exec_le {n m : Nat} (hnm : n ≤ m) : ∀ i pc L S h v, exec n i pc L S h = some v → exec m i pc L S h = some v := by
  induction hnm with
  | refl => intro i pc L S h v hv; exact hv
  | step _ ih => intro i pc L S h v hv; exact exec_s _ _ _ _ _ _ _ (ih _ _ _ _ _ _ hv)
theorem exec_one {n m i pc : Nat} {L S : List Value} {h : List hC} {v w : Option Value × List hC × Nat × Nat} (hv : exec n i pc L S h = some v) (hw : exec m i pc L S h = some w) : v = w := by
  rcases Nat.le_total n m with q | q
  · have := exec_le q _ _ _ _ _ _ hv
    rw [hw] at this
    exact (Option.some.inj this).symm
  · have := exec_le q _ _ _ _ _ _ hw
    rw [hv] at this
    exact Option.some.inj this
noncomputable def Xv : eT := fun i pc L S h => Classical.epsilon (fun o : eR => (∃ n v, exec n i pc L S h = some v ∧ o = some v) ∨ ((∀ n, exec n i pc L S h = none) ∧ o = none))
theorem Xv_spec (i pc : Nat) (L S : List Value) (h : List hC) : (∃ n v, exec n i pc L S h = some v ∧ Xv i pc L S h = some v) ∨ ((∀ n, exec n i pc L S h = none) ∧ Xv i pc L S h = none) := by
  refine Classical.epsilon_spec (p := fun o : eR => (∃ n v, exec n i pc L S h = some v ∧ o = some v) ∨ ((∀ n, exec n i pc L S h = none) ∧ o = none)) ?_
  by_cases hq : ∃ n v, exec n i pc L S h = some v
  · obtain ⟨n, v, hv⟩ := hq
    exact ⟨some v, Or.inl ⟨n, v, hv, rfl⟩⟩
  · refine ⟨none, Or.inr ⟨fun n => ?_, rfl⟩⟩
    cases hn : exec n i pc L S h with
    | none => rfl
    | some v => exact absurd ⟨n, v, hn⟩ hq
theorem Xv_of {n i pc : Nat} {L S : List Value} {h : List hC} {v : Option Value × List hC × Nat × Nat} (hv : exec n i pc L S h = some v) : Xv i pc L S h = some v := by
  rcases Xv_spec i pc L S h with ⟨m, w, hw, e⟩ | ⟨hn, -⟩
  · rw [e, exec_one hv hw]
  · rw [hn n] at hv; cases hv
theorem Xv_to {i pc : Nat} {L S : List Value} {h : List hC} {v : Option Value × List hC × Nat × Nat} (hv : Xv i pc L S h = some v) : ∃ n, exec n i pc L S h = some v := by
  rcases Xv_spec i pc L S h with ⟨m, w, hw, e⟩ | ⟨-, e⟩
  · rw [hv] at e; cases e; exact ⟨m, hw⟩
  · rw [hv] at e; cases e
theorem stp_lim {i pc : Nat} {L S : List Value} {h : List hC} {v : Option Value × List hC × Nat × Nat} (hv : stp Xv i pc L S h = some v) : ∃ n, stp (exec n) i pc L S h = some v := by
  unfold stp at hv ⊢
  cases hd : decode (mB i) pc with
  | error e => rw [hd] at hv; cases hv
  | ok q =>
    obtain ⟨ins, len⟩ := q
    simp only [hd] at hv ⊢
    cases ha : act i pc ins len L S h with
    | none => simp only [ha] at hv; cases hv
    | some r =>
      simp only [ha] at hv ⊢
      rcases r with ⟨pc', L', S', h'⟩ | v' | ⟨c, pc', S'⟩ | ⟨j, as, rest⟩
      · exact Xv_to hv
      · exact ⟨0, hv⟩
      · simp only at hv ⊢
        by_cases hz : mZ i = true
        · simp only [if_pos hz] at hv ⊢
          cases he : Xv i pc' L (.ref h.length :: S') (h ++ [c]) with
          | none => rw [he] at hv; cases hv
          | some w =>
            rw [he] at hv
            obtain ⟨n, hn⟩ := Xv_to he
            exact ⟨n, by rw [hn]; exact hv⟩
        · rw [if_neg hz] at hv; cases hv
      · simp only at hv ⊢
        cases he : Xv j 0 (pad j as) [] h with
        | none => rw [he] at hv; cases hv
        | some w =>
          obtain ⟨v1, h1, a1, b1⟩ := w
          rw [he] at hv
          simp only at hv
          obtain ⟨n, hn⟩ := Xv_to he
          cases he2 : Xv i (pc + 3) L (v1.toList ++ rest) h1 with
          | none => rw [he2] at hv; cases hv
          | some w2 =>
            rw [he2] at hv
            obtain ⟨m, hm⟩ := Xv_to he2
            refine ⟨max n m, ?_⟩
            rw [exec_le (Nat.le_max_left n m) _ _ _ _ _ _ hn]
            simp only
            rw [exec_le (Nat.le_max_right n m) _ _ _ _ _ _ hm]
            exact hv
theorem Xv_stp (i pc : Nat) (L S : List Value) (h : List hC) : Xv i pc L S h = stp Xv i pc L S h := by
  cases hv : stp Xv i pc L S h with
  | some v =>
    obtain ⟨n, hn⟩ := stp_lim hv
    exact Xv_of (n := n + 1) hn
  | none =>
    rcases Xv_spec i pc L S h with ⟨n, w, hw, -⟩ | ⟨-, e⟩
    · cases n with
      | zero => cases hw
      | succ n =>
        have := stp_le (E' := Xv) (fun _ _ _ _ _ _ q => Xv_of q) hw
        rw [hv] at this; cases this
    · exact e
/-- what the method i does from pc on: its answer and the heap behind it; none if it gets stuck, or has no end -/
noncomputable def X (i pc : Nat) (L S : List Value) (h : List hC) : Option (Option Value × List hC) := (Xv i pc L S h).map (fun v => (v.1, v.2.1))
theorem X_to {i pc : Nat} {L S : List Value} {h h' : List hC} {v : Option Value} (hX : X i pc L S h = some (v, h')) : ∃ n a b, exec n i pc L S h = some (v, h', a, b) := by
  unfold X at hX
  cases hq : Xv i pc L S h with
  | none => rw [hq] at hX; cases hX
  | some w =>
    obtain ⟨n, hn⟩ := Xv_to hq
    obtain ⟨v1, h1, a, b⟩ := w
    rw [hq] at hX
    cases hX
    exact ⟨n, a, b, hn⟩
theorem X_of {n i pc a b : Nat} {L S : List Value} {h h' : List hC} {v : Option Value} (hX : exec n i pc L S h = some (v, h', a, b)) : X i pc L S h = some (v, h') := by
  unfold X
  rw [Xv_of hX]
  rfl
theorem X_next {i pc len pc' : Nat} {ins : Instr} {L S L' S' : List Value} {h h' : List hC} (hd : decode (mB i) pc = .ok (ins, len)) (ha : act i pc ins len L S h = some (.inl (pc', L', S', h'))) : X i pc L S h = X i pc' L' S' h' := by
  unfold X
  rw [Xv_stp i pc L S h]
  unfold stp
  simp only [hd, ha]
theorem X_ret {i pc len : Nat} {ins : Instr} {L S : List Value} {h : List hC} {v : Option Value} (hd : decode (mB i) pc = .ok (ins, len)) (ha : act i pc ins len L S h = some (.inr (.inl v))) : X i pc L S h = some (v, h) := by
  unfold X
  rw [Xv_stp i pc L S h]
  unfold stp
  simp only [hd, ha]
  rfl
theorem X_call {i pc len j : Nat} {ins : Instr} {L S as rest : List Value} {h : List hC} (hd : decode (mB i) pc = .ok (ins, len)) (ha : act i pc ins len L S h = some (.inr (.inr (.inr (j, as, rest))))) : X i pc L S h = (match X j 0 (pad j as) [] h with
    | some (v, h1) => X i (pc + 3) L (v.toList ++ rest) h1
    | none => none) := by
  unfold X
  rw [Xv_stp i pc L S h]
  unfold stp
  simp only [hd, ha]
  cases he : Xv j 0 (pad j as) [] h with
  | none => rfl
  | some w =>
    obtain ⟨v1, h1, a1, b1⟩ := w
    simp only [Option.map_some]
    cases he2 : Xv i (pc + 3) L (v1.toList ++ rest) h1 with
    | none => rfl
    | some w2 => rfl
theorem X_stuck {i pc len : Nat} {ins : Instr} {L S : List Value} {h : List hC} (hd : decode (mB i) pc = .ok (ins, len)) (ha : act i pc ins len L S h = none) : X i pc L S h = none := by
  unfold X
  rw [Xv_stp i pc L S h]
  unfold stp
  simp only [hd, ha]
  rfl
/-- a method that makes no cell makes none -/
theorem exec_none : ∀ (n i pc : Nat) (L S : List Value) (h h' : List hC) (v : Option Value) (a b : Nat), mZ i = false → exec n i pc L S h = some (v, h', a, b) → a = 0 ∧ b = 0 := by
  intro n
  induction n with
  | zero => intro i pc L S h h' v a b _ hv; cases hv
  | succ n ih =>
    intro i pc L S h h' v a b hz hv
    change stp (exec n) i pc L S h = _ at hv
    unfold stp at hv
    cases hd : decode (mB i) pc with
    | error e => rw [hd] at hv; cases hv
    | ok q =>
      obtain ⟨ins, len⟩ := q
      simp only [hd] at hv
      cases ha : act i pc ins len L S h with
      | none => simp only [ha] at hv; cases hv
      | some r =>
        simp only [ha] at hv
        rcases r with ⟨pc', L', S', h1⟩ | v' | ⟨c, pc', S'⟩ | ⟨j, as, rest⟩
        · exact ih _ _ _ _ _ _ _ _ _ hz hv
        · cases hv; exact ⟨rfl, rfl⟩
        · rw [hz] at hv
          simp at hv
        · have hj : mZ j = false := by
            sorry
          simp only at hv
          cases he : exec n j 0 (pad j as) [] h with
          | none => rw [he] at hv; cases hv
          | some w =>
            obtain ⟨v1, h1, a1, b1⟩ := w
            rw [he] at hv
            simp only at hv
            cases he2 : exec n i (pc + 3) L (v1.toList ++ rest) h1 with
            | none => rw [he2] at hv; cases hv
            | some w2 =>
              obtain ⟨v2, h2, a2, b2⟩ := w2
              rw [he2] at hv
              cases hv
              have q1 := ih _ _ _ _ _ _ _ _ _ hj he
              have q2 := ih _ _ _ _ _ _ _ _ _ hz he2
              omega
