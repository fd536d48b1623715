/-! the answer without the number of steps -/
theorem stp_le {E E' : eT} (hE : ∀ i pc L S h v, E i pc L S h = some v → E' i pc L S h = some v) {i pc : Nat} {L S : List Value} {h : List hC} {v : Option Value × List hC × Nat × Nat} (hv : stp E i pc L S h = some v) : stp E' i pc L S h = some v := by
  unfold stp at hv ⊢
  cases hd : decode (mB i) pc with
  | error e => rw [hd] at hv; cases hv
  | ok q =>
    obtain ⟨ins, len⟩ := q
    simp only [hd] at hv ⊢
    cases ha : act i pc ins len L S h with
    | none => simp only [ha] at hv; cases hv
    | some r =>
      simp only [ha] at hv ⊢
      rcases r with ⟨pc', L', S', h'⟩ | v' | ⟨c, pc', S'⟩ | ⟨j, as, rest⟩
      · exact hE _ _ _ _ _ _ hv
      · exact hv
      · simp only at hv ⊢
        by_cases hz : mZ i = true
        · rw [if_pos hz] at hv ⊢
          cases he : E i pc' L (.ref h.length :: S') (h ++ [c]) with
          | none => rw [he] at hv; cases hv
          | some w => rw [he] at hv; rw [hE _ _ _ _ _ _ he]; exact hv
        · rw [if_neg hz] at hv; cases hv
      · simp only at hv ⊢
        cases he : E j 0 (pad j as) [] h with
        | none => rw [he] at hv; cases hv
        | some w =>
          obtain ⟨v1, h1, a1, b1⟩ := w
          rw [he] at hv; rw [hE _ _ _ _ _ _ he]
          simp only at hv ⊢
          cases he2 : E i (pc + 3) L (v1.toList ++ rest) h1 with
          | none => rw [he2] at hv; cases hv
          | some w2 => rw [he2] at hv; rw [hE _ _ _ _ _ _ he2]; exact hv
theorem exec_s (n : Nat) : ∀ i pc L S h v, exec n i pc L S h = some v → exec (n + 1) i pc L S h = some v := by
  induction n with
  | zero => intro i pc L S h v hv; cases hv
  | succ n ih => intro i pc L S h v hv; exact stp_le ih hv
theorem exec_le {n m : Nat} (hnm : n ≤ m) : ∀ i pc L S h v, exec n i pc L S h = some v → exec m i pc L S h = some v := by
  induction hnm with
  | refl => intro i pc L S h v hv; exact hv
  | step _ ih => intro i pc L S h v hv; exact exec_s _ _ _ _ _ _ _ (ih _ _ _ _ _ _ hv)
theorem exec_one {n m i pc : Nat} {L S : List Value} {h : List hC} {v w : Option Value × List hC × Nat × Nat} (hv : exec n i pc L S h = some v) (hw : exec m i pc L S h = some w) : v = w := by
  rcases Nat.le_total n m with q | q
  · have := exec_le q _ _ _ _ _ _ hv
    rw [hw] at this
    exact (Option.some.inj this).symm
  · have := exec_le q _ _ _ _ _ _ hw
    rw [hv] at this
    exact Option.some.inj this
noncomputable def Xv : eT := fun i pc L S h => Classical.epsilon (fun o : eR => (∃ n v, exec n i pc L S h = some v ∧ o = some v) ∨ ((∀ n, exec n i pc L S h = none) ∧ o = none))
theorem Xv_spec (i pc : Nat) (L S : List Value) (h : List hC) : (∃ n v, exec n i pc L S h = some v ∧ Xv i pc L S h = some v) ∨ ((∀ n, exec n i pc L S h = none) ∧ Xv i pc L S h = none) := by
  refine Classical.epsilon_spec (p := fun o : eR => (∃ n v, exec n i pc L S h = some v ∧ o = some v) ∨ ((∀ n, exec n i pc L S h = none) ∧ o = none)) ?_
  by_cases hq : ∃ n v, exec n i pc L S h = some v
  · obtain ⟨n, v, hv⟩ := hq
    exact ⟨some v, Or.inl ⟨n, v, hv, rfl⟩⟩
  · refine ⟨none, Or.inr ⟨fun n => ?_, rfl⟩⟩
    cases hn : exec n i pc L S h with
    | none => rfl
    | some v => exact absurd ⟨n, v, hn⟩ hq
theorem Xv_of {n i pc : Nat} {L S : List Value} {h : List hC} {v : Option Value × List hC × Nat × Nat} (hv : exec n i pc L S h = some v) : Xv i pc L S h = some v := by
  rcases Xv_spec i pc L S h with ⟨m, w, hw, e⟩ | ⟨hn, -⟩
  · rw [e, exec_one hv hw]
  · rw [hn n] at hv; cases hv
theorem Xv_to {i pc : Nat} {L S : List Value} {h : List hC} {v : Option Value × List hC × Nat × Nat} (hv : Xv i pc L S h = some v) : ∃ n, exec n i pc L S h = some v := by
  rcases Xv_spec i pc L S h with ⟨m, w, hw, e⟩ | ⟨-, e⟩
  · rw [hv] at e; cases e; exact ⟨m, hw⟩
  · rw [hv] at e; cases e
theorem stp_lim {i pc : Nat} {L S : List Value} {h : List hC} {v : Option Value × List hC × Nat × Nat} (hv : stp Xv i pc L S h = some v) : ∃ n, stp (exec n) i pc L S h = some v := by
  unfold stp at hv ⊢
  cases hd : decode (mB i) pc with
  | error e => rw [hd] at hv; cases hv
  | ok q =>
    obtain ⟨ins, len⟩ := q
    simp only [hd] at hv ⊢
    cases ha : act i pc ins len L S h with
    | none => simp only [ha] at hv; cases hv
    | some r =>
      simp only [ha] at hv ⊢
      rcases r with ⟨pc', L', S', h'⟩ | v' | ⟨c, pc', S'⟩ | ⟨j, as, rest⟩
      · exact Xv_to hv
      · exact ⟨0, hv⟩
      · simp only at hv ⊢
        by_cases hz : mZ i = true
        · simp only [if_pos hz] at hv ⊢
          cases he : Xv i pc' L (.ref h.length :: S') (h ++ [c]) with
          | none => rw [he] at hv; cases hv
          | some w =>
            rw [he] at hv
            obtain ⟨n, hn⟩ := Xv_to he
            exact ⟨n, by rw [hn]; exact hv⟩
        · rw [if_neg hz] at hv; cases hv
      · simp only at hv ⊢
        cases he : Xv j 0 (pad j as) [] h with
        | none => rw [he] at hv; cases hv
        | some w =>
          obtain ⟨v1, h1, a1, b1⟩ := w
          rw [he] at hv
          simp only at hv
          obtain ⟨n, hn⟩ := Xv_to he
          cases he2 : Xv i (pc + 3) L (v1.toList ++ rest) h1 with
          | none => rw [he2] at hv; cases hv
          | some w2 =>
            rw [he2] at hv
            obtain ⟨m, hm⟩ := Xv_to he2
            refine ⟨max n m, ?_⟩
            rw [exec_le (Nat.le_max_left n m) _ _ _ _ _ _ hn]
            simp only
            rw [exec_le (Nat.le_max_right n m) _ _ _ _ _ _ hm]
            exact hv
theorem Xv_stp (i pc : Nat) (L S : List Value) (h : List hC) : Xv i pc L S h = stp Xv i pc L S h := by
  cases hv : stp Xv i pc L S h with
  | some v =>
    obtain ⟨n, hn⟩ := stp_lim hv
    exact Xv_of (n := n + 1) hn
  | none =>
    rcases Xv_spec i pc L S h with ⟨n, w, hw, -⟩ | ⟨-, e⟩
    · cases n with
      | zero => cases hw
      | succ n =>
        have := stp_le (E' := Xv) (fun _ _ _ _ _ _ q => Xv_of q) hw
        rw [hv] at this; cases this
    · exact e
/-- what the method i does from pc on: its answer and the heap behind it; none if it gets stuck, or has no end -/
noncomputable def X (i pc : Nat) (L S : List Value) (h : List hC) : Option (Option Value × List hC) := (Xv i pc L S h).map (fun v => (v.1, v.2.1))
theorem X_to {i pc : Nat} {L S : List Value} {h h' : List hC} {v : Option Value} (hX : X i pc L S h = some (v, h')) : ∃ n a b, exec n i pc L S h = some (v, h', a, b) := by
  unfold X at hX
  cases hq : Xv i pc L S h with
  | none => rw [hq] at hX; cases hX
  | some w =>
    obtain ⟨n, hn⟩ := Xv_to hq
    obtain ⟨v1, h1, a, b⟩ := w
    rw [hq] at hX
    cases hX
    exact ⟨n, a, b, hn⟩
theorem X_of {n i pc a b : Nat} {L S : List Value} {h h' : List hC} {v : Option Value} (hX : exec n i pc L S h = some (v, h', a, b)) : X i pc L S h = some (v, h') := by
  unfold X
  rw [Xv_of hX]
  rfl
theorem X_next {i pc len pc' : Nat} {ins : Instr} {L S L' S' : List Value} {h h' : List hC} (hd : decode (mB i) pc = .ok (ins, len)) (ha : act i pc ins len L S h = some (.inl (pc', L', S', h'))) : X i pc L S h = X i pc' L' S' h' := by
  unfold X
  rw [Xv_stp i pc L S h]
  unfold stp
  simp only [hd, ha]
theorem X_ret {i pc len : Nat} {ins : Instr} {L S : List Value} {h : List hC} {v : Option Value} (hd : decode (mB i) pc = .ok (ins, len)) (ha : act i pc ins len L S h = some (.inr (.inl v))) : X i pc L S h = some (v, h) := by
  unfold X
  rw [Xv_stp i pc L S h]
  unfold stp
  simp only [hd, ha]
  rfl
theorem X_call {i pc len j : Nat} {ins : Instr} {L S as rest : List Value} {h : List hC} (hd : decode (mB i) pc = .ok (ins, len)) (ha : act i pc ins len L S h = some (.inr (.inr (.inr (j, as, rest))))) : X i pc L S h = (match X j 0 (pad j as) [] h with
    | some (v, h1) => X i (pc + 3) L (v.toList ++ rest) h1
    | none => none) := by
  unfold X
  rw [Xv_stp i pc L S h]
  unfold stp
  simp only [hd, ha]
  cases he : Xv j 0 (pad j as) [] h with
  | none => rfl
  | some w =>
    obtain ⟨v1, h1, a1, b1⟩ := w
    simp only [Option.map_some]
    cases he2 : Xv i (pc + 3) L (v1.toList ++ rest) h1 with
    | none => rfl
    | some w2 => rfl
theorem X_stuck {i pc len : Nat} {ins : Instr} {L S : List Value} {h : List hC} (hd : decode (mB i) pc = .ok (ins, len)) (ha : act i pc ins len L S h = none) : X i pc L S h = none := by
  unfold X
  rw [Xv_stp i pc L S h]
  unfold stp
  simp only [hd, ha]
  rfl
/-- a step that calls -/
theorem act_call {i pc len j : Nat} {ins : Instr} {L S as rest : List Value} {h : List hC} (ha : act i pc ins len L S h = some (.inr (.inr (.inr (j, as, rest))))) :
    len = 3 ∧ room i j S = true ∧ as = (S.take (mA j)).reverse ∧ rest = S.drop (mA j) ∧
      ((∃ idx b as' fs, ins = .invokevirtual idx ∧ lref (mC i) idx = some (0, j) ∧ as = .ref b :: as' ∧ h[b]? = some (.inl (mC j, fs))) ∨
       (∃ idx k, ins = .invokestatic idx ∧ (k = 1 ∨ k = 4) ∧ lref (mC i) idx = some (k, j)) ∨
       (∃ idx k b as', ins = .invokespecial idx ∧ (k = 2 ∨ k = 3) ∧ lref (mC i) idx = some (k, j) ∧ as = .ref b :: as')) := by
  cases ins
  case invokevirtual idx =>
    simp only [act] at ha
    split at ha
    · rename_i hl
      refine ⟨hl, ?_⟩
      unfold invV at ha
      split at ha
      · rename_i j' hj
        split at ha
        · rename_i hr
          split at ha
          · rename_i b as' hs
            split at ha
            · rename_i ci fs hc
              split at ha
              · rename_i hci
                cases ha
                subst hci
                exact ⟨hr, hs.symm, rfl, Or.inl ⟨idx, b, as', fs, rfl, hj, rfl, hc⟩⟩
              · cases ha
            · cases ha
          · cases ha
        · cases ha
      · cases ha
    · cases ha
  case invokestatic idx =>
    simp only [act] at ha
    split at ha
    · rename_i hl
      refine ⟨hl, ?_⟩
      unfold invS at ha
      split at ha
      · rename_i j' hj
        split at ha
        · rename_i hr
          cases ha
          exact ⟨hr, rfl, rfl, Or.inr (Or.inl ⟨idx, 1, rfl, Or.inl rfl, hj⟩)⟩
        · cases ha
      · rename_i j' hj
        split at ha
        · rename_i hr
          cases ha
          exact ⟨hr, rfl, rfl, Or.inr (Or.inl ⟨idx, 4, rfl, Or.inr rfl, hj⟩)⟩
        · cases ha
      · repeat' split at ha
        all_goals (cases ha)
      · repeat' split at ha
        all_goals (cases ha)
      · repeat' split at ha
        all_goals (cases ha)
      · cases ha
    · cases ha
  case invokespecial idx =>
    simp only [act] at ha
    split at ha
    · rename_i hl
      refine ⟨hl, ?_⟩
      unfold invI at ha
      split at ha
      · rename_i j' hj
        split at ha
        · rename_i hr
          split at ha
          · rename_i b as' hs
            cases ha
            exact ⟨hr, hs.symm, rfl, Or.inr (Or.inr ⟨idx, 2, b, as', rfl, Or.inl rfl, hj, rfl⟩)⟩
          · cases ha
        · cases ha
      · rename_i j' hj
        split at ha
        · rename_i hr
          split at ha
          · rename_i b as' hs
            cases ha
            exact ⟨hr, hs.symm, rfl, Or.inr (Or.inr ⟨idx, 3, b, as', rfl, Or.inr rfl, hj, rfl⟩)⟩
          · cases ha
        · cases ha
      · repeat' split at ha
        all_goals (cases ha)
      · cases ha
    · cases ha
  all_goals (simp only [act, ldi, lda, sti, sta, ldl, stl, jmp] at ha)
  all_goals (repeat' split at ha)
  all_goals (cases ha)
/-- a step that makes a cell -/
theorem act_alloc {i pc len pc' : Nat} {ins : Instr} {L S S' : List Value} {h : List hC} {c : hC} (ha : act i pc ins len L S h = some (.inr (.inr (.inl (c, pc', S'))))) :
    (∃ idx ci, ins = .new idx ∧ len = 3 ∧ nref (mC i) idx = some ci ∧ c = .inl (ci, (List.range (fN ci)).map (fun k => dfl (fty ci k))) ∧ pc' = pc + 3 ∧ S' = S) ∨
    (∃ ty n, ins = .newarray ty ∧ len = 2 ∧ S = .int n :: S' ∧ ¬ n < 0 ∧ n.toNatClampNeg ≤ 10000 ∧ ((ty = .int ∧ c = hI n.toNatClampNeg (fun _ => 0)) ∨ (ty = .char ∧ c = hH n.toNatClampNeg (fun _ => 0))) ∧ pc' = pc + 2) ∨
    (∃ idx n t, ins = .anewarray idx ∧ len = 3 ∧ S = .int n :: S' ∧ aref (mC i) idx = some t ∧ ¬ n < 0 ∧ n.toNatClampNeg ≤ 10000 ∧ (t = 2 ∨ t = 3) ∧ c = hQ t n.toNatClampNeg (fun _ => none) ∧ pc' = pc + 3) := by
  cases ins
  case new idx =>
    simp only [act] at ha
    split at ha
    · rename_i hl
      split at ha
      · rename_i ci hci
        cases ha
        exact Or.inl ⟨idx, ci, rfl, hl, hci, rfl, rfl, rfl⟩
      · cases ha
    · cases ha
  case newarray ty =>
    simp only [act] at ha
    split at ha
    · rename_i hl
      split at ha
      · rename_i n S0
        split at ha
        · rename_i hn
          split at ha
          · cases ha
            exact Or.inr (Or.inl ⟨.int, n, rfl, hl, rfl, hn.1, hn.2, Or.inl ⟨rfl, rfl⟩, rfl⟩)
          · cases ha
            exact Or.inr (Or.inl ⟨.char, n, rfl, hl, rfl, hn.1, hn.2, Or.inr ⟨rfl, rfl⟩, rfl⟩)
          · cases ha
        · cases ha
      · cases ha
    · cases ha
  case anewarray idx =>
    simp only [act] at ha
    split at ha
    · rename_i hl
      split at ha
      · rename_i n S0
        split at ha
        · rename_i t ht
          split at ha
          · rename_i hn
            cases ha
            exact Or.inr (Or.inr ⟨idx, n, t, rfl, hl, rfl, ht, hn.1, hn.2.1, hn.2.2, rfl, rfl⟩)
          · cases ha
        · cases ha
      · cases ha
    · cases ha
  all_goals (simp only [act, ldi, lda, sti, sta, ldl, stl, jmp, invV, invS, invI] at ha)
  all_goals (repeat' split at ha)
  all_goals (cases ha)
/-- a step that ends -/
theorem act_ret {i pc len : Nat} {ins : Instr} {L S : List Value} {h : List hC} {v : Option Value} (ha : act i pc ins len L S h = some (.inr (.inl v))) :
    len = 1 ∧ ((∃ x ty, ins = .ireturn ∧ S = [.int x] ∧ mR i = some ty ∧ okv ty (.int x) = true ∧ v = some (.int x)) ∨
      (∃ x, ins = .lreturn ∧ S = [.long x] ∧ mR i = some .long ∧ v = some (.long x)) ∨
      (∃ w n, ins = .areturn ∧ S = [w] ∧ mR i = some (.object n) ∧ (w = .null ∨ ∃ a, w = .ref a) ∧ v = some w) ∨
      (ins = .return_ ∧ S = [] ∧ mR i = none ∧ v = none)) := by
  cases ins
  case ireturn =>
    simp only [act] at ha
    split at ha
    · rename_i hl
      split at ha
      · rename_i x
        split at ha
        · rename_i ty hty
          split at ha
          · rename_i hok
            cases ha
            exact ⟨hl, Or.inl ⟨x, ty, rfl, rfl, hty, hok, rfl⟩⟩
          · cases ha
        · cases ha
      · cases ha
    · cases ha
  case lreturn =>
    simp only [act] at ha
    split at ha
    · rename_i hl
      split at ha
      · rename_i x
        split at ha
        · rename_i hty
          cases ha
          exact ⟨hl, Or.inr (Or.inl ⟨x, rfl, rfl, hty, rfl⟩)⟩
        · cases ha
      · cases ha
    · cases ha
  case areturn =>
    simp only [act] at ha
    split at ha
    · rename_i hl
      split at ha
      · rename_i w
        split at ha
        · rename_i n a hn
          cases ha
          exact ⟨hl, Or.inr (Or.inr (Or.inl ⟨_, n, rfl, rfl, hn, Or.inr ⟨a, rfl⟩, rfl⟩))⟩
        · rename_i n hn
          cases ha
          exact ⟨hl, Or.inr (Or.inr (Or.inl ⟨_, n, rfl, rfl, hn, Or.inl rfl, rfl⟩))⟩
        · cases ha
      · cases ha
    · cases ha
  case return_ =>
    simp only [act] at ha
    split at ha
    · rename_i hl
      split at ha
      · rename_i hn
        cases ha
        exact ⟨hl, Or.inr (Or.inr (Or.inr ⟨rfl, rfl, hn, rfl⟩))⟩
      · cases ha
    · cases ha
  all_goals (simp only [act, ldi, lda, sti, sta, ldl, stl, jmp, invV, invS, invI] at ha)
  all_goals (repeat' split at ha)
  all_goals (cases ha)
/-- a step that goes on keeps the number of cells -/
theorem act_len {i pc len pc' : Nat} {ins : Instr} {L S L' S' : List Value} {h h' : List hC} (ha : act i pc ins len L S h = some (.inl (pc', L', S', h'))) : h'.length = h.length := by
  cases ins
  all_goals (simp only [act, ldi, lda, sti, sta, ldl, stl, jmp, invV, invS, invI] at ha)
  all_goals (repeat' split at ha)
  all_goals (first | (cases ha; done) | (cases ha; first | rfl | exact List.length_set | (simp only [List.length_set]; done)))
theorem room_z {i j : Nat} {S : List Value} (h : room i j S = true) : mF j + 1 ≤ mF i ∧ 8 + (mL j + 11) + mW j ≤ mW i ∧ cs (S.drop (mA j)) ≤ 8 ∧ (S.take (mA j)).all cat1 = true ∧ (mZ i = false → mZ j = false) ∧ mA j ≤ mL j ∧ mA j ≤ S.length := by
  simp only [room, Bool.and_eq_true, decide_eq_true_eq, Bool.or_eq_true, Bool.not_eq_true'] at h
  obtain ⟨⟨⟨⟨⟨⟨h1, h2⟩, h3⟩, h4⟩, h5⟩, h6⟩, h7⟩ := h
  refine ⟨h1, h2, h3, h4, fun hz => ?_, h6, h7⟩
  rcases h5 with q | q
  · exact q
  · rw [hz] at q; cases q
/-- a method that makes no cell makes none -/
theorem exec_none : ∀ (n i pc : Nat) (L S : List Value) (h h' : List hC) (v : Option Value) (a b : Nat), mZ i = false → exec n i pc L S h = some (v, h', a, b) → a = 0 ∧ b = 0 := by
  intro n
  induction n with
  | zero => intro i pc L S h h' v a b _ hv; cases hv
  | succ n ih =>
    intro i pc L S h h' v a b hz hv
    change stp (exec n) i pc L S h = _ at hv
    unfold stp at hv
    cases hd : decode (mB i) pc with
    | error e => rw [hd] at hv; cases hv
    | ok q =>
      obtain ⟨ins, len⟩ := q
      simp only [hd] at hv
      cases ha : act i pc ins len L S h with
      | none => simp only [ha] at hv; cases hv
      | some r =>
        simp only [ha] at hv
        rcases r with ⟨pc', L', S', h1⟩ | v' | ⟨c, pc', S'⟩ | ⟨j, as, rest⟩
        · exact ih _ _ _ _ _ _ _ _ _ hz hv
        · cases hv; exact ⟨rfl, rfl⟩
        · rw [hz] at hv
          simp at hv
        · have hj : mZ j = false := (room_z (act_call ha).2.1).2.2.2.2.1 hz
          simp only at hv
          cases he : exec n j 0 (pad j as) [] h with
          | none => rw [he] at hv; cases hv
          | some w =>
            obtain ⟨v1, h1, a1, b1⟩ := w
            rw [he] at hv
            simp only at hv
            cases he2 : exec n i (pc + 3) L (v1.toList ++ rest) h1 with
            | none => rw [he2] at hv; cases hv
            | some w2 =>
              obtain ⟨v2, h2, a2, b2⟩ := w2
              rw [he2] at hv
              cases hv
              have q1 := ih _ _ _ _ _ _ _ _ _ hj he
              have q2 := ih _ _ _ _ _ _ _ _ _ hz he2
              omega
/-- the cells that are made stand behind those that were -/
theorem exec_len : ∀ (n i pc : Nat) (L S : List Value) (h h' : List hC) (v : Option Value) (a b : Nat), exec n i pc L S h = some (v, h', a, b) → h'.length = h.length + a := by
  intro n
  induction n with
  | zero => intro i pc L S h h' v a b hv; cases hv
  | succ n ih =>
    intro i pc L S h h' v a b hv
    change stp (exec n) i pc L S h = _ at hv
    unfold stp at hv
    cases hd : decode (mB i) pc with
    | error e => rw [hd] at hv; cases hv
    | ok q =>
      obtain ⟨ins, len⟩ := q
      simp only [hd] at hv
      cases ha : act i pc ins len L S h with
      | none => simp only [ha] at hv; cases hv
      | some r =>
        simp only [ha] at hv
        rcases r with ⟨pc', L', S', h1⟩ | v' | ⟨c, pc', S'⟩ | ⟨j, as, rest⟩
        · have := ih _ _ _ _ _ _ _ _ _ hv
          rw [act_len ha] at this
          exact this
        · cases hv; rfl
        · simp only at hv
          split at hv
          · cases he : exec n i pc' L (.ref h.length :: S') (h ++ [c]) with
            | none => rw [he] at hv; cases hv
            | some w =>
              obtain ⟨v1, h1, a1, b1⟩ := w
              rw [he] at hv
              cases hv
              have := ih _ _ _ _ _ _ _ _ _ he
              rw [List.length_append, List.length_singleton] at this
              omega
          · cases hv
        · simp only at hv
          cases he : exec n j 0 (pad j as) [] h with
          | none => rw [he] at hv; cases hv
          | some w =>
            obtain ⟨v1, h1, a1, b1⟩ := w
            rw [he] at hv
            simp only at hv
            cases he2 : exec n i (pc + 3) L (v1.toList ++ rest) h1 with
            | none => rw [he2] at hv; cases hv
            | some w2 =>
              obtain ⟨v2, h2, a2, b2⟩ := w2
              rw [he2] at hv
              cases hv
              have q1 := ih _ _ _ _ _ _ _ _ _ he
              have q2 := ih _ _ _ _ _ _ _ _ _ he2
              omega
