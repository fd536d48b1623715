/-! fault -/
section FA
variable {T U EE : Nat → Nat → Int32} {P Q : Nat → Nat → Nat} {s : gT}
theorem CG.fr (h : CG EE T P s) (f : FR T U) : CG EE U P s := by
  obtain ⟨h1, h2, h3, h4, t1, t2, t3, t4⟩ := h
  have g : ∀ a, a < 360 → U a = T a := fun a ha => f.1 a (by omega) (by omega) (by omega) (by omega) (by omega)
  refine ⟨h1, ⟨CS.same h2.1 h2.2.1.1.2.2.2.1 (fun a _ _ => g a (by omega)) rfl, h2.2⟩, h3.same (g 0 (by decide)) (fun a _ _ => g a (by omega)) rfl, h4.same (fun a _ _ => g a (by omega)) (fun _ _ _ => rfl), t1, by rw [f.2]; exact t2, fun i hi => ?_, fun a ha => (f.1 a (by omega) (by omega) (by omega) (by omega) (by omega)).trans (t4 a ha)⟩
  rw [f.1 361 (by decide) (by decide) (by decide) (by decide) (by decide)]; exact t3 i hi
/-- the same of what counts: the number, the place, the kind, the rows below the number -/
def SR (r w : rS) : Prop := r.1 = w.1 ∧ r.2.1 = w.2.1 ∧ r.2.2.1 = w.2.2.1 ∧ ∀ i, i < r.1 → r.2.2.2.1 i = w.2.2.2.1 i ∧ r.2.2.2.2.1 i = w.2.2.2.2.1 i ∧ r.2.2.2.2.2.1 i = w.2.2.2.2.2.1 i ∧ r.2.2.2.2.2.2 i = w.2.2.2.2.2.2 i
abbrev S2 (a b : Int32 × rS) : Prop := a.1 = b.1 ∧ SR a.2 b.2
variable {r w : rS} {c sn pl : Int32}
theorem sr_sg (h : SR r w) : S2 (sgS c sn pl r) (sgS c sn pl w) := by
  unfold sgS
  by_cases c1 : c = sn
  · rw [if_pos c1, if_pos c1]
    exact ⟨rfl, h.1, rfl, h.2.2⟩
  · rw [if_neg c1, if_neg c1]
    exact ⟨rfl, h⟩
theorem sr_en (h : SR r w) : S2 (enS c r) (enS c w) := by
  unfold enS
  by_cases c1 : c = 45
  · rw [if_pos c1, if_pos c1]
    exact ⟨rfl, h.1, rfl, h.2.2⟩
  · rw [if_neg c1, if_neg c1]
    by_cases c2 : c = 59
    · rw [if_pos c2, if_pos c2]
      exact ⟨rfl, h.1, rfl, h.2.2⟩
    · rw [if_neg c2, if_neg c2]
      exact ⟨rfl, h⟩
theorem sr_cu (hn : r.1 = w.1) (h0 : SR r w ∨ (r.1 = 0 ∧ (cuS c r).1 = 1)) : S2 (cuS c r) (cuS c w) := by
  unfold cuS at h0 ⊢
  by_cases c1 : inI c 48 57 = 0
  · rw [if_pos c1] at h0
    rw [if_pos c1, if_pos c1]
    exact ⟨rfl, h0.resolve_right (fun z => absurd (show (0 : Int32) = 1 from z.2) (by decide))⟩
  · rw [if_neg c1] at h0
    rw [if_neg c1, if_neg c1, ← hn]
    by_cases c2 : r.1 < 12
    · rw [if_pos c2, if_pos c2]
      refine ⟨rfl, rfl, rfl, rfl, fun i hi => ?_⟩
      have hi : i < r.1 + 1 := hi
      unfold upA
      by_cases e : i = r.1
      · simp only [e, if_true, and_self]
      · simp only [e, if_false]
        rcases h0 with h0 | h0
        · exact h0.2.2.2 i (by omega)
        · omega
    · rw [if_neg c2] at h0
      rw [if_neg c2, if_neg c2]
      exact ⟨rfl, h0.resolve_right (fun z => absurd (show (0 : Int32) = 1 from z.2) (by decide))⟩
theorem sr_kn (h : SR r w) : S2 (knS c r) (knS c w) := by
  unfold knS
  by_cases c1 : kdI c = -5
  · rw [if_pos c1, if_pos c1]; exact ⟨rfl, h⟩
  · rw [if_neg c1, if_neg c1, ← h.2.2.1]
    by_cases c2 : r.2.2.1 < kdI c
    · rw [if_pos c2, if_pos c2]
      exact ⟨rfl, h.1, rfl, rfl, h.2.2.2⟩
    · rw [if_neg c2, if_neg c2]; exact ⟨rfl, h⟩
theorem sr_st (h : SR r w) : S2 (stS c r) (stS c w) := by
  unfold stS
  by_cases c1 : inI c 49 51 = 0
  · rw [if_pos c1, if_pos c1]; exact ⟨rfl, h⟩
  · rw [if_neg c1, if_neg c1, ← h.1]
    by_cases c2 : r.1 < 1
    · rw [if_pos c2, if_pos c2]; exact ⟨rfl, h⟩
    · rw [if_neg c2, if_neg c2]
      refine ⟨rfl, rfl, rfl, h.2.2.1, fun i hi => ?_⟩
      have := h.2.2.2 i hi
      refine ⟨this.1, this.2.1, ?_, this.2.2.2⟩
      show upA _ _ _ i = upA _ _ _ i
      unfold upA
      split
      · rfl
      · exact this.2.2.1
theorem sr_ha (h : SR r w) : S2 (haS c pl r) (haS c pl w) := by
  unfold haS
  by_cases c1 : inI c 48 57 = 0
  · rw [if_pos c1, if_pos c1]; exact ⟨rfl, h⟩
  · rw [if_neg c1, if_neg c1, ← h.1]
    by_cases c2 : r.1 < 1
    · rw [if_pos c2, if_pos c2]; exact ⟨rfl, h⟩
    · rw [if_neg c2, if_neg c2, (h.2.2.2 (r.1 - 1) (by omega)).2.2.2]
      refine ⟨rfl, rfl, rfl, h.2.2.1, fun i hi => ?_⟩
      have := h.2.2.2 i hi
      refine ⟨this.1, this.2.1, this.2.2.1, ?_⟩
      show upA _ _ _ i = upA _ _ _ i
      unfold upA
      split
      · rfl
      · exact this.2.2.2
theorem sr_pc (h : SR r w) : S2 (pcS c r) (pcS c w) := by
  unfold pcS
  by_cases c1 : inI c 49 57 = 0
  · rw [if_pos c1, if_pos c1]; exact ⟨rfl, h⟩
  · rw [if_neg c1, if_neg c1, ← h.1, ← h.2.2.1]
    by_cases c2 : r.1 < 1
    · rw [if_pos c2, if_pos c2]; exact ⟨rfl, h⟩
    · rw [if_neg c2, if_neg c2, (h.2.2.2 (r.1 - 1) (by omega)).2.1]
      by_cases c3 : r.2.2.1 < 0
      · rw [if_pos c3, if_pos c3]; exact ⟨rfl, h⟩
      · rw [if_neg c3, if_neg c3]
        refine ⟨rfl, rfl, rfl, rfl, fun i hi => ?_⟩
        have := h.2.2.2 i hi
        refine ⟨this.1, ?_, this.2.2.1, this.2.2.2⟩
        show upA _ _ _ i = upA _ _ _ i
        unfold upA
        split
        · rfl
        · exact this.2.1
end FA
