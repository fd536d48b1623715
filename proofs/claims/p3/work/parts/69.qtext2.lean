/-! a basket of the text: the reference's way and the class's -/
section BKW
variable {t : Nat → Int32} {n i a k : Nat} {r : rS} {p : Int32}
theorem dg_no {lo hi : Int32} (h : inI (gS t n a) (48 + lo) (48 + hi) = 0) : dgW t n lo hi (a, true) = (a, false) := by
  unfold dgW
  rw [if_pos rfl]
  show (if inI (gS t n a) (48 + lo) (48 + hi) = 0 then _ else _) = _
  rw [if_pos h]
theorem dg_ok {lo hi : Int32} (h : ¬ inI (gS t n a) (48 + lo) (48 + hi) = 0) : dgW t n lo hi (a, true) = (a + 1, true) := by
  unfold dgW
  rw [if_pos rfl]
  show (if inI (gS t n a) (48 + lo) (48 + hi) = 0 then _ else _) = _
  rw [if_neg h]
theorem tk_no {c : Int32} (h : ¬ gS t n a = c) : tkW t n c (a, true) = (false, a, true) := by
  unfold tkW
  rw [if_pos rfl]
  show (if gS t n a = c then _ else _) = _
  rw [if_neg h]
theorem tk_ok {c : Int32} (h : gS t n a = c) : tkW t n c (a, true) = (true, a + 1, true) := by
  unfold tkW
  rw [if_pos rfl]
  show (if gS t n a = c then _ else _) = _
  rw [if_pos h]
theorem gS_in {lo hi : Int32} (hl : lo = 48 ∨ lo = 49) (hh : hi = 57 ∨ hi = 51) (h : ¬ inI (gS t n a) lo hi = 0) : a < n := by
  apply Classical.byContradiction
  intro q
  rw [gS_ge (by omega)] at h
  exact h (inI_z hl hh)
theorem gS_eq {c : Int32} (hc : c ≠ 0) (h : gS t n a = c) : a < n := by
  apply Classical.byContradiction
  intro q
  rw [gS_ge (by omega)] at h
  exact hc h.symm
/-- where a basket may end -/
def ED (t : Nat → Int32) (n a : Nat) (r : rS) : Prop := a ≤ n ∧ meI r.2.1 = 1 ∧ (a < n → t a = 59 → tkS (t a) r = (1, r.1, 0, r.2.2)) ∧ (a < n → ¬ t a = 59 → (tkS (t a) r).1 = 0)
/-- the rows of baskets but the last one are the same -/
def SB (r r' : rS) : Prop := r'.1 = r.1 ∧ ∀ j, j ≠ r.1 - 1 → r'.2.2.2.1 j = r.2.2.2.1 j ∧ r'.2.2.2.2.1 j = r.2.2.2.2.1 j ∧ r'.2.2.2.2.2.1 j = r.2.2.2.2.2.1 j ∧ r'.2.2.2.2.2.2 j = r.2.2.2.2.2.2 j
/-- the hangers, behind the pieces and the starch -/
theorem hx_cl (h1 : 1 ≤ r.1) (ha : a ≤ n) (hg0 : r.2.2.2.2.2.2 (r.1 - 1) = 0) (hpl : (r.2.1 = 4 ∧ (∀ c, gS t n a = c → c ≠ 0 → (knS c r).1 = 0) ∧ ¬ gS t n a = 42) ∨ r.2.1 = 6) :
    ((hxW t n (a, true)).2.2 = false ∧ rdA n (cl t n a r) = nI (hxW t n (a, true)).2.1) ∨
    ((hxW t n (a, true)).2.2 = true ∧ a ≤ (hxW t n (a, true)).2.1 ∧ ∃ r', cl t n a r = cl t n (hxW t n (a, true)).2.1 r' ∧ r'.1 = r.1 ∧ r'.2.2.2.1 = r.2.2.2.1 ∧ r'.2.2.2.2.1 = r.2.2.2.2.1 ∧ r'.2.2.2.2.2.1 = r.2.2.2.2.2.1 ∧ (∀ j, j ≠ r.1 - 1 → r'.2.2.2.2.2.2 j = r.2.2.2.2.2.2 j) ∧ r'.2.2.2.2.2.2 (r.1 - 1) = (hxW t n (a, true)).1 ∧ ED t n (hxW t n (a, true)).2.1 r') := by
  -- what the class does with a sign there
  have htk : ∀ c, gS t n a = c → c ≠ 0 → tkS c r = enS c r := by
    intro c ec hc
    unfold tkS
    rcases hpl with ⟨e, hk, h42⟩ | e
    · rw [e, if_neg (by decide), if_neg (by decide), if_neg (by decide), if_neg (by decide), if_pos rfl, if_pos (hk c ec hc)]
      have : (sgS c 42 5 r).1 = 0 := by
        unfold sgS
        rw [if_neg (by rw [← ec]; exact h42)]
      rw [if_pos this]
    · rw [e, if_neg (by decide), if_neg (by decide), if_neg (by decide), if_neg (by decide), if_neg (by decide), if_neg (by decide), if_pos rfl]
  by_cases h45 : gS t n a = 45
  · have hl := gS_eq (by decide) h45
    have ht : t a = 45 := by rw [← gS_lt (t := t) hl]; exact h45
    obtain ⟨r7, hr7⟩ : ∃ r7 : rS, r7 = (r.1, 7, r.2.2) := ⟨_, rfl⟩
    have h7 : tkS (t a) r = (1, r7) := by
      rw [htk (t a) (gS_lt hl) (by rw [ht]; decide), hr7]
      unfold enS
      rw [if_pos ht]
    have p7 : r7.2.1 = 7 := by rw [hr7]
    have e71 : r7.1 = r.1 := by rw [hr7]
    have e72 : r7.2.2 = r.2.2 := by rw [hr7]
    rw [cl_go hl h7]
    have hx : hxW t n (a, true) = hnW t n (a + 1, true) := by
      unfold hxW
      rw [tk_ok h45]; rfl
    rw [hx]
    have tk7 : ∀ c, tkS c r7 = if inI c 49 57 = 0 then (0, r7) else haS c 8 r7 := fun c => by
      unfold tkS
      rw [p7, if_neg (by decide), if_neg (by decide), if_neg (by decide), if_neg (by decide), if_neg (by decide), if_neg (by decide), if_neg (by decide), if_pos rfl]
    by_cases hd : inI (gS t n (a + 1)) (48 + 1) (48 + 9) = 0
    · left
      have hh : hnW t n (a + 1, true) = (gS t n (a + 1) - 48, a + 1, false) := by
        unfold hnW
        rw [dg_no hd]; rfl
      rw [hh]
      refine ⟨rfl, cl_stop (by omega) (by rw [p7]; decide) (fun hl2 => ?_)⟩
      rw [gS_lt hl2] at hd
      have hd : inI (t (a + 1)) 49 57 = 0 := hd
      rw [tk7, if_pos hd]
    · have hl2 := gS_in (lo := 49) (hi := 57) (Or.inr rfl) (Or.inl rfl) hd
      have hd' : ¬ inI (t (a + 1)) 49 57 = 0 := by rw [← gS_lt (t := t) hl2]; exact hd
      obtain ⟨d, hd1, hd9, ed⟩ := dig_ex (lo := 1) (hi := 9) (by decide) (by decide) (c := t (a + 1)) hd'
      have hd48 : ¬ inI (t (a + 1)) 48 57 = 0 := by
        have e1 : t (a + 1) = nI (48 + d) := by
          have : t (a + 1) = nI d + 48 := by rw [← ed]; grind
          rw [this, show (48 : Int32) = nI 48 from rfl, nI_add, Nat.add_comm]
        rw [e1]
        unfold inI
        rw [if_neg (show ¬ nI (48 + d) < 48 from nI_nlt (show 48 ≤ 48 + d by omega) (by omega)), if_neg (show ¬ 57 < nI (48 + d) from nI_nlt (show 48 + d ≤ 57 by omega) (by decide))]
        decide
      obtain ⟨r8, hr8⟩ : ∃ r8 : rS, r8 = (r7.1, 8, r7.2.2.1, r7.2.2.2.1, r7.2.2.2.2.1, r7.2.2.2.2.2.1, upA r7.2.2.2.2.2.2 (r7.1 - 1) (r7.2.2.2.2.2.2 (r7.1 - 1) * 10 + (t (a + 1) - 48))) := ⟨_, rfl⟩
      have h8 : tkS (t (a + 1)) r7 = (1, r8) := by
        rw [tk7, if_neg hd', hr8]
        unfold haS
        rw [if_neg hd48, if_neg (by rw [e71]; omega)]
      have p8 : r8.2.1 = 8 := by rw [hr8]
      have e81 : r8.1 = r.1 := by rw [hr8]; exact e71
      have e8c : r8.2.2.2.1 = r.2.2.2.1 := by rw [hr8]; show r7.2.2.2.1 = _; rw [e72]
      have e8p : r8.2.2.2.2.1 = r.2.2.2.2.1 := by rw [hr8]; show r7.2.2.2.2.1 = _; rw [e72]
      have e8s : r8.2.2.2.2.2.1 = r.2.2.2.2.2.1 := by rw [hr8]; show r7.2.2.2.2.2.1 = _; rw [e72]
      have e8h : r8.2.2.2.2.2.2 = upA r.2.2.2.2.2.2 (r.1 - 1) (t (a + 1) - 48) := by
        rw [hr8]
        show upA r7.2.2.2.2.2.2 (r7.1 - 1) (r7.2.2.2.2.2.2 (r7.1 - 1) * 10 + (t (a + 1) - 48)) = _
        rw [e72, e71, hg0, Int32.zero_mul, Int32.zero_add]
      rw [cl_go hl2 h8]
      have tk8 : ∀ c, tkS c r8 = if (haS c 9 r8).1 = 0 then sgS c 59 0 r8 else haS c 9 r8 := fun c => by
        unfold tkS
        rw [p8, if_neg (by decide), if_neg (by decide), if_neg (by decide), if_neg (by decide), if_neg (by decide), if_neg (by decide), if_neg (by decide), if_neg (by decide), if_pos rfl]
      by_cases hdd : inI (gS t n (a + 1 + 1)) 48 57 = 0
      · right
        have hh : hnW t n (a + 1, true) = (gS t n (a + 1) - 48, a + 1 + 1, true) := by
          unfold hnW
          rw [dg_ok hd]
          show (if inI (gS t n (a + 1 + 1)) 48 57 = 0 then _ else _) = _
          rw [if_pos hdd]
        rw [hh]
        refine ⟨rfl, by show a ≤ a + 1 + 1; omega, r8, rfl, e81, e8c, e8p, e8s, fun j hj => by rw [e8h, upA_n _ _ hj], by rw [e8h, upA_s, gS_lt hl2], by show a + 1 + 1 ≤ n; omega, by rw [p8]; decide, fun hl3 h59 => ?_, fun hl3 h59 => ?_⟩
        · have hl3 : a + 1 + 1 < n := hl3
          have h59 : t (a + 1 + 1) = 59 := h59
          rw [gS_lt hl3] at hdd
          show tkS (t (a + 1 + 1)) r8 = _
          rw [tk8]
          have hz : (haS (t (a + 1 + 1)) 9 r8).1 = 0 := by unfold haS; rw [if_pos hdd]
          rw [if_pos hz]
          unfold sgS
          rw [if_pos h59]
        · have hl3 : a + 1 + 1 < n := hl3
          have h59 : ¬ t (a + 1 + 1) = 59 := h59
          rw [gS_lt hl3] at hdd
          show (tkS (t (a + 1 + 1)) r8).1 = 0
          rw [tk8]
          have hz : (haS (t (a + 1 + 1)) 9 r8).1 = 0 := by unfold haS; rw [if_pos hdd]
          rw [if_pos hz]
          unfold sgS
          rw [if_neg h59]
      · right
        have hl3 := gS_in (lo := 48) (hi := 57) (Or.inl rfl) (Or.inl rfl) hdd
        have hh : hnW t n (a + 1, true) = (10 * (gS t n (a + 1) - 48) + (gS t n (a + 1 + 1) - 48), a + 1 + 1 + 1, true) := by
          unfold hnW
          rw [dg_ok hd]
          show (if inI (gS t n (a + 1 + 1)) 48 57 = 0 then _ else (_, dgW t n 0 9 (a + 1 + 1, true))) = _
          rw [if_neg hdd, dg_ok (lo := 0) (hi := 9) hdd]
        rw [hh]
        have hdd' : ¬ inI (t (a + 1 + 1)) 48 57 = 0 := by rw [← gS_lt (t := t) hl3]; exact hdd
        obtain ⟨r9, hr9⟩ : ∃ r9 : rS, r9 = (r8.1, 9, r8.2.2.1, r8.2.2.2.1, r8.2.2.2.2.1, r8.2.2.2.2.2.1, upA r8.2.2.2.2.2.2 (r8.1 - 1) (r8.2.2.2.2.2.2 (r8.1 - 1) * 10 + (t (a + 1 + 1) - 48))) := ⟨_, rfl⟩
        have hh9 : haS (t (a + 1 + 1)) 9 r8 = (1, r9) := by
          rw [hr9]
          unfold haS
          rw [if_neg hdd', if_neg (by rw [e81]; omega)]
        have h9 : tkS (t (a + 1 + 1)) r8 = (1, r9) := by
          rw [tk8, hh9, if_neg (show ¬ (1 : Int32) = 0 by decide)]
        rw [cl_go hl3 h9]
        have p9 : r9.2.1 = 9 := by rw [hr9]
        have tk9 : ∀ c, tkS c r9 = sgS c 59 0 r9 := fun c => by
          unfold tkS
          rw [p9, if_neg (by decide), if_neg (by decide), if_neg (by decide), if_neg (by decide), if_neg (by decide), if_neg (by decide), if_neg (by decide), if_neg (by decide), if_neg (by decide)]
        refine ⟨rfl, by show a ≤ a + 1 + 1 + 1; omega, r9, rfl, by rw [hr9]; exact e81, by rw [hr9]; exact e8c, by rw [hr9]; exact e8p, by rw [hr9]; exact e8s, fun j hj => ?_, ?_, by show a + 1 + 1 + 1 ≤ n; omega, by rw [p9]; decide, fun hl4 h59 => ?_, fun hl4 h59 => ?_⟩
        · rw [hr9]
          show upA r8.2.2.2.2.2.2 (r8.1 - 1) _ j = _
          rw [e81, upA_n _ _ hj, e8h, upA_n _ _ hj]
        · rw [hr9]
          show upA r8.2.2.2.2.2.2 (r8.1 - 1) (r8.2.2.2.2.2.2 (r8.1 - 1) * 10 + (t (a + 1 + 1) - 48)) (r.1 - 1) = _
          rw [e81, upA_s, e8h, upA_s, gS_lt hl2, gS_lt hl3, Int32.mul_comm]
        · have h59 : t (a + 1 + 1 + 1) = 59 := h59
          show tkS (t (a + 1 + 1 + 1)) r9 = _
          rw [tk9]
          unfold sgS
          rw [if_pos h59]
        · have h59 : ¬ t (a + 1 + 1 + 1) = 59 := h59
          show (tkS (t (a + 1 + 1 + 1)) r9).1 = 0
          rw [tk9]
          unfold sgS
          rw [if_neg h59]
  · right
    have hx : hxW t n (a, true) = (0, a, true) := by
      unfold hxW
      rw [tk_no h45]; rfl
    rw [hx]
    have hme : meI r.2.1 = 1 := by
      rcases hpl with ⟨e, -, -⟩ | e <;> rw [e] <;> decide
    refine ⟨rfl, Nat.le_refl _, r, rfl, rfl, rfl, rfl, rfl, fun _ _ => rfl, hg0, ha, hme, fun hl h59 => ?_, fun hl h59 => ?_⟩
    · have h59 : t a = 59 := h59
      show tkS (t a) r = _
      rw [htk (t a) (gS_lt hl) (by rw [h59]; decide)]
      unfold enS
      rw [h59, if_neg (by decide), if_pos rfl]
    · have h59 : ¬ t a = 59 := h59
      show (tkS (t a) r).1 = 0
      by_cases hz : t a = 0
      · -- a sign 0 fits nowhere
        unfold tkS
        rcases hpl with ⟨e, -, -⟩ | e
        · rw [e, hz, if_neg (by decide), if_neg (by decide), if_neg (by decide), if_neg (by decide), if_pos rfl]
          have k0 : (knS 0 r).1 = 0 := by unfold knS; rw [if_pos (by decide)]
          have s0 : (sgS 0 42 5 r).1 = 0 := by unfold sgS; rw [if_neg (by decide)]
          rw [if_pos k0, if_pos s0]
          unfold enS
          rw [if_neg (by decide), if_neg (by decide)]
        · rw [e, hz, if_neg (by decide), if_neg (by decide), if_neg (by decide), if_neg (by decide), if_neg (by decide), if_neg (by decide), if_pos rfl]
          unfold enS
          rw [if_neg (by decide), if_neg (by decide)]
      · rw [htk (t a) (gS_lt hl) hz]
        unfold enS
        rw [if_neg (by rw [← gS_lt (t := t) hl]; exact h45), if_neg h59]
/-- the starch, and what comes behind -/
theorem sx_cl (h1 : 1 ≤ r.1) (ha : a ≤ n) (hs0 : r.2.2.2.2.2.1 (r.1 - 1) = 0) (hg0 : r.2.2.2.2.2.2 (r.1 - 1) = 0) (hpl : r.2.1 = 4) (hk : ∀ c, gS t n a = c → c ≠ 0 → (knS c r).1 = 0) :
    ((hxW t n (sxW t n (a, true)).2).2.2 = false ∧ rdA n (cl t n a r) = nI (hxW t n (sxW t n (a, true)).2).2.1) ∨
    ((hxW t n (sxW t n (a, true)).2).2.2 = true ∧ a ≤ (hxW t n (sxW t n (a, true)).2).2.1 ∧ ∃ r', cl t n a r = cl t n (hxW t n (sxW t n (a, true)).2).2.1 r' ∧ r'.1 = r.1 ∧ r'.2.2.2.1 = r.2.2.2.1 ∧ r'.2.2.2.2.1 = r.2.2.2.2.1 ∧ (∀ j, j ≠ r.1 - 1 → r'.2.2.2.2.2.1 j = r.2.2.2.2.2.1 j ∧ r'.2.2.2.2.2.2 j = r.2.2.2.2.2.2 j) ∧ r'.2.2.2.2.2.1 (r.1 - 1) = (sxW t n (a, true)).1 ∧ r'.2.2.2.2.2.2 (r.1 - 1) = (hxW t n (sxW t n (a, true)).2).1 ∧ ED t n (hxW t n (sxW t n (a, true)).2).2.1 r') := by
  by_cases h42 : gS t n a = 42
  · have hl := gS_eq (by decide) h42
    have ht : t a = 42 := by rw [← gS_lt (t := t) hl]; exact h42
    obtain ⟨r5, hr5⟩ : ∃ r5 : rS, r5 = (r.1, 5, r.2.2) := ⟨_, rfl⟩
    have h5 : tkS (t a) r = (1, r5) := by
      unfold tkS
      rw [hpl, if_neg (by decide), if_neg (by decide), if_neg (by decide), if_neg (by decide), if_pos rfl, if_pos (hk (t a) (gS_lt hl) (by rw [ht]; decide))]
      have : sgS (t a) 42 5 r = (1, r5) := by unfold sgS; rw [if_pos ht, hr5]
      rw [this, if_neg (show ¬ (1 : Int32) = 0 by decide)]
    have p5 : r5.2.1 = 5 := by rw [hr5]
    have e51 : r5.1 = r.1 := by rw [hr5]
    have e52 : r5.2.2 = r.2.2 := by rw [hr5]
    rw [cl_go hl h5]
    have hx : sxW t n (a, true) = (gS t n (a + 1) - 48, dgW t n 1 3 (a + 1, true)) := by
      unfold sxW
      rw [tk_ok h42]; rfl
    rw [hx]
    have tk5 : ∀ c, tkS c r5 = stS c r5 := fun c => by
      unfold tkS
      rw [p5, if_neg (by decide), if_neg (by decide), if_neg (by decide), if_neg (by decide), if_neg (by decide), if_pos rfl]
    by_cases hd : inI (gS t n (a + 1)) (48 + 1) (48 + 3) = 0
    · left
      rw [dg_no hd]
      show (hxW t n (a + 1, false)).2.2 = false ∧ _ = nI (hxW t n (a + 1, false)).2.1
      rw [hx_f rfl]
      refine ⟨rfl, cl_stop (by omega) (by rw [p5]; decide) (fun hl2 => ?_)⟩
      rw [gS_lt hl2] at hd
      have hd : inI (t (a + 1)) 49 51 = 0 := hd
      rw [tk5]
      unfold stS
      rw [if_pos hd]
    · have hl2 := gS_in (lo := 49) (hi := 51) (Or.inr rfl) (Or.inr rfl) hd
      have hd' : ¬ inI (t (a + 1)) 49 51 = 0 := by rw [← gS_lt (t := t) hl2]; exact hd
      rw [dg_ok hd]
      obtain ⟨r6, hr6⟩ : ∃ r6 : rS, r6 = (r5.1, 6, r5.2.2.1, r5.2.2.2.1, r5.2.2.2.2.1, upA r5.2.2.2.2.2.1 (r5.1 - 1) (t (a + 1) - 48), r5.2.2.2.2.2.2) := ⟨_, rfl⟩
      have h6 : tkS (t (a + 1)) r5 = (1, r6) := by
        rw [tk5, hr6]
        unfold stS
        rw [if_neg hd', if_neg (by rw [e51]; omega)]
      rw [cl_go hl2 h6]
      have p6 : r6.2.1 = 6 := by rw [hr6]
      have e61 : r6.1 = r.1 := by rw [hr6]; exact e51
      have e6c : r6.2.2.2.1 = r.2.2.2.1 := by rw [hr6]; show r5.2.2.2.1 = _; rw [e52]
      have e6p : r6.2.2.2.2.1 = r.2.2.2.2.1 := by rw [hr6]; show r5.2.2.2.2.1 = _; rw [e52]
      have e6s : r6.2.2.2.2.2.1 = upA r.2.2.2.2.2.1 (r.1 - 1) (t (a + 1) - 48) := by rw [hr6]; show upA r5.2.2.2.2.2.1 (r5.1 - 1) _ = _; rw [e51, e52]
      have e6h : r6.2.2.2.2.2.2 = r.2.2.2.2.2.2 := by rw [hr6]; show r5.2.2.2.2.2.2 = _; rw [e52]
      have g := hx_cl (t := t) (n := n) (a := a + 1 + 1) (r := r6) (by rw [e61]; exact h1) (by omega) (by rw [e61, e6h]; exact hg0) (Or.inr p6)
      show ((hxW t n (a + 1 + 1, true)).2.2 = false ∧ _ = nI (hxW t n (a + 1 + 1, true)).2.1) ∨ _
      rcases g with g | ⟨g1, g2, r', g3, g4, g5, g6, g7, g8, g9, g10⟩
      · exact Or.inl g
      · right
        rw [e61] at g4 g8 g9
        exact ⟨g1, by show a ≤ (hxW t n (a + 1 + 1, true)).2.1; omega, r', g3, g4, g5.trans e6c, g6.trans e6p, fun j hj => ⟨by rw [g7, e6s, upA_n _ _ hj], by rw [g8 j hj, e6h]⟩, by rw [g7, e6s, upA_s, gS_lt hl2], g9, g10⟩
  · have hx : sxW t n (a, true) = (0, a, true) := by
      unfold sxW
      rw [tk_no h42]; rfl
    rw [hx]
    have g := hx_cl (t := t) (n := n) (a := a) (r := r) h1 ha hg0 (Or.inl ⟨hpl, hk, h42⟩)
    rcases g with g | ⟨g1, g2, r', g3, g4, g5, g6, g7, g8, g9, g10⟩
    · exact Or.inl g
    · exact Or.inr ⟨g1, g2, r', g3, g4, g5, g6, fun j hj => ⟨by rw [g7], g8 j hj⟩, by rw [g7]; exact hs0, g9, g10⟩
/-- a whole basket -/
theorem bk_cl (h0 : r.2.1 = 0) (ha : a ≤ n) (hn : n ≤ 60) (h5 : 5 * r.1 ≤ a) :
    ((b3W t n a).2.2 = false ∧ rdA n (cl t n a r) = nI (b3W t n a).2.1) ∨
    ((b3W t n a).2.2 = true ∧ a + 4 ≤ (b3W t n a).2.1 ∧ ∃ r', cl t n a r = cl t n (b3W t n a).2.1 r' ∧ r'.1 = r.1 + 1 ∧ (∀ j, j ≠ r.1 → r'.2.2.2.1 j = r.2.2.2.1 j ∧ r'.2.2.2.2.1 j = r.2.2.2.2.1 j ∧ r'.2.2.2.2.2.1 j = r.2.2.2.2.2.1 j ∧ r'.2.2.2.2.2.2 j = r.2.2.2.2.2.2 j) ∧
      r'.2.2.2.1 r.1 = gS t n a - 48 ∧ r'.2.2.2.2.1 r.1 = (b1W t n a).1 ∧ r'.2.2.2.2.2.1 r.1 = (b2W t n a).1 ∧ r'.2.2.2.2.2.2 r.1 = (b3W t n a).1 ∧ ED t n (b3W t n a).2.1 r') := by
  have fall : ∀ x, clW t n a = (x, false) → (b3W t n a).2 = (x, false) := by
    intro x e
    unfold b3W b2W b1W
    rw [e, pc_f rfl]
    show (hxW t n (sxW t n (x, false)).2).2 = _
    rw [sx_f rfl]
    show (hxW t n (x, false)).2 = _
    rw [hx_f rfl]
  have tk0 : ∀ c, tkS c r = cuS c r := fun c => by
    unfold tkS
    rw [if_pos h0]
  by_cases hd : inI (gS t n a) (48 + 0) (48 + 9) = 0
  · left
    have e : clW t n a = (a, false) := by
      unfold clW
      rw [dg_no hd, tk_f rfl]
    rw [fall a e]
    refine ⟨rfl, cl_stop ha (by rw [h0]; decide) (fun hl => ?_)⟩
    rw [gS_lt hl] at hd
    have hd : inI (t a) 48 57 = 0 := hd
    rw [tk0]
    unfold cuS
    rw [if_pos hd]
  have hl := gS_in (lo := 48) (hi := 57) (Or.inl rfl) (Or.inl rfl) hd
  have hd' : ¬ inI (t a) 48 57 = 0 := by rw [← gS_lt (t := t) hl]; exact hd
  obtain ⟨r1, hr1⟩ : ∃ r1 : rS, r1 = (r.1 + 1, 1, -5, upA r.2.2.2.1 r.1 (t a - 48), upA r.2.2.2.2.1 r.1 0, upA r.2.2.2.2.2.1 r.1 0, upA r.2.2.2.2.2.2 r.1 0) := ⟨_, rfl⟩
  have h1 : tkS (t a) r = (1, r1) := by
    rw [tk0, hr1]
    unfold cuS
    rw [if_neg hd', if_pos (by omega)]
  have p1 : r1.2.1 = 1 := by rw [hr1]
  have tk1 : ∀ c, tkS c r1 = sgS c 58 2 r1 := fun c => by
    unfold tkS
    rw [p1, if_neg (by decide), if_pos rfl]
  rw [cl_go hl h1]
  by_cases h58 : gS t n (a + 1) = 58
  · have hl1 := gS_eq (by decide) h58
    have ht : t (a + 1) = 58 := by rw [← gS_lt (t := t) hl1]; exact h58
    obtain ⟨r2, hr2⟩ : ∃ r2 : rS, r2 = (r1.1, 2, r1.2.2) := ⟨_, rfl⟩
    have h2 : tkS (t (a + 1)) r1 = (1, r2) := by
      rw [tk1, hr2]
      unfold sgS
      rw [if_pos ht]
    rw [cl_go hl1 h2]
    have e : clW t n a = (a + 1 + 1, true) := by
      unfold clW
      rw [dg_ok hd, tk_ok h58]
    have e21 : r2.1 = r.1 + 1 := by rw [hr2, hr1]
    have e2k : r2.2.2.1 = -5 := by rw [hr2, hr1]
    have e2c : r2.2.2.2.1 = upA r.2.2.2.1 r.1 (t a - 48) := by rw [hr2, hr1]
    have e2p : r2.2.2.2.2.1 = upA r.2.2.2.2.1 r.1 0 := by rw [hr2, hr1]
    have e2s : r2.2.2.2.2.2.1 = upA r.2.2.2.2.2.1 r.1 0 := by rw [hr2, hr1]
    have e2h : r2.2.2.2.2.2.2 = upA r.2.2.2.2.2.2 r.1 0 := by rw [hr2, hr1]
    have g := pc_all (t := t) (n := n) (a := a + 1 + 1) (r := r2) ⟨by rw [e21]; omega, by omega, by rw [e21, e2p, Nat.add_sub_cancel, upA_s], Or.inl ⟨by rw [hr2], e2k, rfl⟩, fun j hj => absurd hj (Nat.not_lt_zero j)⟩
    have eb : b1W t n a = pcZ t n (a + 1 + 1, true) := by
      unfold b1W
      rw [e]
    rcases g with ⟨g1, g2⟩ | ⟨g1, g2, r', g3, ⟨s1, s2, s3, s4, s5⟩, g5, g6, g7, g8⟩
    · left
      have eq3 : (b3W t n a).2 = ((pcZ t n (a + 1 + 1, true)).2.1, false) := by
        have eq1 : (b1W t n a).2 = ((pcZ t n (a + 1 + 1, true)).2.1, false) := by rw [eb]; exact Prod.ext rfl g1
        unfold b3W b2W
        rw [eq1, sx_f rfl]
        show (hxW t n ((pcZ t n (a + 1 + 1, true)).2.1, false)).2 = _
        rw [hx_f rfl]
      rw [eq3]
      exact ⟨rfl, g2⟩
    · have eq1 : (b1W t n a).2 = ((pcZ t n (a + 1 + 1, true)).2.1, true) := by rw [eb]; exact Prod.ext rfl g1
      rw [e21, Nat.add_sub_cancel] at s3 g7
      have f := sx_cl (t := t) (n := n) (a := (pcZ t n (a + 1 + 1, true)).2.1) (r := r') (by rw [s1, e21]; omega) g6 (by rw [s1, e21, Nat.add_sub_cancel, s4, e2s, upA_s]) (by rw [s1, e21, Nat.add_sub_cancel, s5, e2h, upA_s]) g5 g8
      have eq2 : b2W t n a = sxW t n ((pcZ t n (a + 1 + 1, true)).2.1, true) := by
        unfold b2W
        rw [eq1]
      have eq3 : b3W t n a = hxW t n (sxW t n ((pcZ t n (a + 1 + 1, true)).2.1, true)).2 := by
        unfold b3W
        rw [eq2]
      rw [← eq2] at f
      have eq3' : hxW t n (b2W t n a).2 = b3W t n a := rfl
      rw [eq3'] at f
      rw [g3]
      rcases f with f | ⟨f1, f2, r'', f3, f4, f5, f6, f7, f8, f9, f10⟩
      · exact Or.inl f
      · right
        rw [s1, e21, Nat.add_sub_cancel] at f7 f8 f9
        refine ⟨f1, by omega, r'', f3, by rw [f4, s1, e21], fun j hj => ⟨?_, ?_, ?_, ?_⟩, ?_, ?_, f8, f9, f10⟩
        · rw [f5, s2, e2c, upA_n _ _ hj]
        · rw [f6, s3 j hj, e2p, upA_n _ _ hj]
        · rw [(f7 j hj).1, s4, e2s, upA_n _ _ hj]
        · rw [(f7 j hj).2, s5, e2h, upA_n _ _ hj]
        · rw [f5, s2, e2c, upA_s, gS_lt hl]
        · rw [f6, g7, eb]
  · left
    have e : clW t n a = (a + 1, false) := by
      unfold clW
      rw [dg_ok hd, tk_no h58]
    rw [fall (a + 1) e]
    refine ⟨rfl, cl_stop (by omega) (by rw [p1]; decide) (fun hl2 => ?_)⟩
    rw [gS_lt hl2] at h58
    rw [tk1]
    unfold sgS
    rw [if_neg h58]
end BKW
