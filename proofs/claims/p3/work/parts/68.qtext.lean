/-! the reference reads the text: its steps as mathematics, and what the class's reading does there -/
abbrev gS (t : Nat → Int32) (n a : Nat) : Int32 := if a < n then t a else 0
abbrev qT : Type := Nat × Bool
def dgW (t : Nat → Int32) (n : Nat) (lo hi : Int32) (q : qT) : qT := if q.2 = true then (if inI (gS t n q.1) (48 + lo) (48 + hi) = 0 then (q.1, false) else (q.1 + 1, true)) else q
def tkW (t : Nat → Int32) (n : Nat) (c : Int32) (q : qT) : Bool × qT := if q.2 = true then (if gS t n q.1 = c then (true, q.1 + 1, true) else (false, q)) else (false, q)
def ltI (k : Nat) : Int32 := match k with
  | 0 => 115
  | 1 => 98
  | 2 => 116
  | _ => 108
def stP2 (t : Nat → Int32) (n k : Nat) (a : Int32 × qT) : Int32 × qT := if (tkW t n (ltI k) a.2).1 = true then (a.1 + wtI (nI k) * (gS t n (tkW t n (ltI k) a.2).2.1 - 48), dgW t n 1 9 (tkW t n (ltI k) a.2).2) else (a.1, (tkW t n (ltI k) a.2).2)
def pcW (t : Nat → Int32) (n : Nat) (q : qT) : Int32 × qT := stP2 t n 3 (stP2 t n 2 (stP2 t n 1 (stP2 t n 0 (0, q))))
/-- pieces, with the check that there is one -/
def pcZ (t : Nat → Int32) (n : Nat) (q : qT) : Int32 × qT := ((pcW t n q).1, (pcW t n q).2.1, (pcW t n q).2.2 && !decide ((pcW t n q).1 = 0))
def sxW (t : Nat → Int32) (n : Nat) (q : qT) : Int32 × qT := if (tkW t n 42 q).1 = true then (gS t n (tkW t n 42 q).2.1 - 48, dgW t n 1 3 (tkW t n 42 q).2) else (0, (tkW t n 42 q).2)
def hnW (t : Nat → Int32) (n : Nat) (q : qT) : Int32 × qT := if (dgW t n 1 9 q).2 = true then (if inI (gS t n (dgW t n 1 9 q).1) 48 57 = 0 then (gS t n q.1 - 48, dgW t n 1 9 q) else (10 * (gS t n q.1 - 48) + (gS t n (dgW t n 1 9 q).1 - 48), dgW t n 0 9 (dgW t n 1 9 q))) else (gS t n q.1 - 48, dgW t n 1 9 q)
def hxW (t : Nat → Int32) (n : Nat) (q : qT) : Int32 × qT := if (tkW t n 45 q).1 = true then hnW t n (tkW t n 45 q).2 else (0, (tkW t n 45 q).2)
/-- after the colon -/
def clW (t : Nat → Int32) (n a : Nat) : qT := ((tkW t n 58 (dgW t n 0 9 (a, true))).2.1, (tkW t n 58 (dgW t n 0 9 (a, true))).1)
abbrev b1W (t : Nat → Int32) (n a : Nat) : Int32 × qT := pcZ t n (clW t n a)
abbrev b2W (t : Nat → Int32) (n a : Nat) : Int32 × qT := sxW t n (b1W t n a).2
abbrev b3W (t : Nat → Int32) (n a : Nat) : Int32 × qT := hxW t n (b2W t n a).2
/-- the class's reading from i on -/
def cl (t : Nat → Int32) (n i : Nat) (r : rS) : Option Nat × rS := rdG t (n - i) i r
section CLW
variable {t : Nat → Int32} {n i a k : Nat} {r : rS} {p : Int32}
theorem cl_s (h : i < n) : cl t n i r = if (tkS (t i) r).1 = 0 then (some i, (tkS (t i) r).2) else cl t n (i + 1) (tkS (t i) r).2 := by
  unfold cl
  rw [show n - i = (n - (i + 1)) + 1 by omega]
  rfl
theorem cl_e (h : n ≤ i) : cl t n i r = (none, r) := by
  unfold cl
  rw [show n - i = 0 by omega]
  rfl
theorem cl_bad (h : i < n) (hb : (tkS (t i) r).1 = 0) : rdA n (cl t n i r) = nI i := by
  rw [cl_s h, if_pos hb]; rfl
theorem cl_end (h : i = n) (hb : meI r.2.1 = 0) : rdA n (cl t n i r) = nI i := by
  rw [cl_e (by omega)]
  show (if meI r.2.1 = 0 then nI n else -5) = _
  rw [if_pos hb, h]
theorem cl_go {r' : rS} (h : i < n) (e : tkS (t i) r = (1, r')) : cl t n i r = cl t n (i + 1) r' := by
  rw [cl_s h, e, if_neg (show ¬ (1 : Int32) = 0 by decide)]
/-- at a place where nothing fits, or the end -/
theorem cl_stop (hi : i ≤ n) (hm : meI r.2.1 = 0) (hb : i < n → (tkS (t i) r).1 = 0) : rdA n (cl t n i r) = nI i := by
  by_cases h : i < n
  · exact cl_bad h (hb h)
  · exact cl_end (by omega) hm
theorem dg_f {q : qT} {lo hi : Int32} (h : q.2 = false) : dgW t n lo hi q = q := by
  unfold dgW; rw [if_neg (by rw [h]; decide)]
theorem tk_f {q : qT} {c : Int32} (h : q.2 = false) : tkW t n c q = (false, q) := by
  unfold tkW; rw [if_neg (by rw [h]; decide)]
theorem st_f {q : qT} (h : q.2 = false) : stP2 t n k (p, q) = (p, q) := by
  unfold stP2; rw [tk_f h]; rfl
theorem sx_f {q : qT} (h : q.2 = false) : sxW t n q = (0, q) := by
  unfold sxW; rw [tk_f h]; rfl
theorem hx_f {q : qT} (h : q.2 = false) : hxW t n q = (0, q) := by
  unfold hxW; rw [tk_f h]; rfl
theorem pc_f {q : qT} (h : q.2 = false) : pcZ t n q = (0, q) := by
  unfold pcZ pcW
  rw [st_f h, st_f h, st_f h, st_f h]
  obtain ⟨a, w⟩ := q
  have : w = false := h
  subst this
  rfl
theorem inI_z {lo hi : Int32} (h : lo = 48 ∨ lo = 49) (hh : hi = 57 ∨ hi = 51) : inI 0 lo hi = 0 := by
  rcases h with rfl | rfl <;> rcases hh with rfl | rfl <;> decide
theorem gS_lt (h : i < n) : gS t n i = t i := if_pos h
theorem gS_ge (h : n ≤ i) : gS t n i = 0 := if_neg (by omega)
/-- letters -/
theorem kd_lt (hk : k < 4) {c : Int32} : c = ltI k ↔ kdI c = nI k := by
  unfold kdI
  match k, hk with
  | 0, _ =>
    show c = 115 ↔ _
    by_cases h : c = 115
    · rw [if_pos h]; exact ⟨fun _ => rfl, fun _ => h⟩
    · rw [if_neg h]
      refine ⟨fun e => absurd e h, fun e => ?_⟩
      repeat' split at e
      all_goals exact absurd e (by decide)
  | 1, _ =>
    show c = 98 ↔ _
    by_cases h0 : c = 115
    · rw [if_pos h0, h0]; decide
    · rw [if_neg h0]
      by_cases h : c = 98
      · rw [if_pos h]; exact ⟨fun _ => rfl, fun _ => h⟩
      · rw [if_neg h]
        refine ⟨fun e => absurd e h, fun e => ?_⟩
        repeat' split at e
        all_goals exact absurd e (by decide)
  | 2, _ =>
    show c = 116 ↔ _
    by_cases h0 : c = 115
    · rw [if_pos h0, h0]; decide
    · rw [if_neg h0]
      by_cases h1 : c = 98
      · rw [if_pos h1, h1]; decide
      · rw [if_neg h1]
        by_cases h : c = 116
        · rw [if_pos h]; exact ⟨fun _ => rfl, fun _ => h⟩
        · rw [if_neg h]
          refine ⟨fun e => absurd e h, fun e => ?_⟩
          repeat' split at e
          all_goals exact absurd e (by decide)
  | 3, _ =>
    show c = 108 ↔ _
    by_cases h0 : c = 115
    · rw [if_pos h0, h0]; decide
    · rw [if_neg h0]
      by_cases h1 : c = 98
      · rw [if_pos h1, h1]; decide
      · rw [if_neg h1]
        by_cases h2 : c = 116
        · rw [if_pos h2, h2]; decide
        · rw [if_neg h2]
          by_cases h : c = 108
          · rw [if_pos h]; exact ⟨fun _ => rfl, fun _ => h⟩
          · rw [if_neg h]
            exact ⟨fun e => absurd e h, fun e => absurd e (by decide)⟩
theorem kd_or (c : Int32) : kdI c = -5 ∨ ∃ k, k < 4 ∧ kdI c = nI k := by
  unfold kdI
  repeat' split
  · exact Or.inr ⟨0, by decide, rfl⟩
  · exact Or.inr ⟨1, by decide, rfl⟩
  · exact Or.inr ⟨2, by decide, rfl⟩
  · exact Or.inr ⟨3, by decide, rfl⟩
  · exact Or.inl rfl
theorem lt_ne0 (k : Nat) : ltI k ≠ 0 := by
  unfold ltI
  split <;> decide
theorem dig_ex {c : Int32} {lo hi : Nat} (hl : lo ≤ 9) (hh : hi ≤ 9) (h : ¬ inI c (48 + nI lo) (48 + nI hi) = 0) : ∃ d, lo ≤ d ∧ d ≤ hi ∧ c - 48 = nI d := by
  rw [show (48 : Int32) = nI 48 from rfl, nI_add, nI_add] at h
  obtain ⟨x, h1, h2, rfl⟩ := inI_ex2 (m := 48 + lo) (n := 48 + hi) (by omega) (by omega) h
  exact ⟨x - 48, by omega, by omega, by rw [show (48 : Int32) = nI 48 from rfl, nI_sub (by omega)]⟩
/-- the state of the pieces: before the kind k -/
def PI (t : Nat → Int32) (n k a : Nat) (p : Int32) (r : rS) : Prop := 1 ≤ r.1 ∧ a ≤ n ∧ r.2.2.2.2.1 (r.1 - 1) = p ∧
  ((r.2.1 = 2 ∧ r.2.2.1 = -5 ∧ p = 0) ∨ (r.2.1 = 4 ∧ (∃ j, j < k ∧ r.2.2.1 = nI j) ∧ ∃ m, 0 < m ∧ m ≤ 9000 * k ∧ p = nI m)) ∧
  ∀ j, j < k → r.2.2.1 < nI j → gS t n a ≠ ltI j
/-- r' is r but for the pieces of its last basket, the place and the kind -/
def SP (r r' : rS) : Prop := r'.1 = r.1 ∧ r'.2.2.2.1 = r.2.2.2.1 ∧ (∀ j, j ≠ r.1 - 1 → r'.2.2.2.2.1 j = r.2.2.2.2.1 j) ∧ r'.2.2.2.2.2.1 = r.2.2.2.2.2.1 ∧ r'.2.2.2.2.2.2 = r.2.2.2.2.2.2
theorem pc_step (h : PI t n k a p r) (hk : k < 4) : ((stP2 t n k (p, a, true)).2.2 = false ∧ rdA n (cl t n a r) = nI (stP2 t n k (p, a, true)).2.1) ∨
    ((stP2 t n k (p, a, true)).2.2 = true ∧ a ≤ (stP2 t n k (p, a, true)).2.1 ∧ ∃ r', cl t n a r = cl t n (stP2 t n k (p, a, true)).2.1 r' ∧ SP r r' ∧ PI t n (k + 1) (stP2 t n k (p, a, true)).2.1 (stP2 t n k (p, a, true)).1 r') := by
  obtain ⟨h1, han, hp, hst, hn⟩ := h
  have hkind : r.2.2.1 < nI k := by
    rcases hst with ⟨-, e, -⟩ | ⟨-, ⟨j, hj, e⟩, -⟩
    · rw [e, Int32.lt_iff_toInt_lt, nI_toInt (by omega), show (-5 : Int32).toInt = -5 from by decide]; omega
    · rw [e, nI_ltp (by omega) (by omega)]; exact hj
  by_cases hc : gS t n a = ltI k
  · -- the letter stands there
    have hlt : a < n := by
      apply Classical.byContradiction
      intro q
      rw [gS_ge (by omega)] at hc
      exact lt_ne0 k hc.symm
    rw [gS_lt hlt] at hc
    have hkd : kdI (t a) = nI k := (kd_lt hk).mp hc
    have htk : tkW t n (ltI k) (a, true) = (true, a + 1, true) := by
      unfold tkW
      rw [if_pos rfl]
      show (if gS t n a = ltI k then _ else _) = _
      rw [gS_lt hlt, if_pos hc]
    have hkn : knS (t a) r = (1, r.1, 3, nI k, r.2.2.2) := by
      unfold knS
      rw [hkd, if_neg (fun e => by have := nI_ne5 (n := k) (by omega); rw [this] at e; exact e), if_pos hkind]
    have htS : tkS (t a) r = (1, r.1, 3, nI k, r.2.2.2) := by
      unfold tkS
      rcases hst with ⟨e, -, -⟩ | ⟨e, -, -⟩
      · rw [e, if_neg (by decide), if_neg (by decide), if_pos rfl]; exact hkn
      · rw [e, if_neg (by decide), if_neg (by decide), if_neg (by decide), if_neg (by decide), if_pos rfl, hkn, if_neg (show ¬ (1 : Int32) = 0 by decide)]
    rw [cl_go hlt htS]
    have hst2 : stP2 t n k (p, a, true) = (p + wtI (nI k) * (gS t n (a + 1) - 48), dgW t n 1 9 (a + 1, true)) := by
      unfold stP2
      show (if (tkW t n (ltI k) (a, true)).1 = true then (p + wtI (nI k) * (gS t n (tkW t n (ltI k) (a, true)).2.1 - 48), dgW t n 1 9 (tkW t n (ltI k) (a, true)).2) else (p, (tkW t n (ltI k) (a, true)).2)) = _
      rw [htk]; rfl
    rw [hst2]
    obtain ⟨r3, hr3⟩ : ∃ r3 : rS, r3 = (r.1, 3, nI k, r.2.2.2) := ⟨_, rfl⟩
    rw [← hr3]
    have e3 : r3.2.1 = 3 := by rw [hr3]
    have e31 : r3.1 = r.1 := by rw [hr3]
    have e32 : r3.2.2.1 = nI k := by rw [hr3]
    have e33 : r3.2.2.2 = r.2.2.2 := by rw [hr3]
    have htS3 : ∀ c, tkS c r3 = pcS c r3 := fun c => by
      unfold tkS
      rw [e3, if_neg (by decide), if_neg (by decide), if_neg (by decide), if_pos rfl]
    by_cases hd : inI (gS t n (a + 1)) 49 57 = 0
    · -- no digit
      left
      have hdg : dgW t n 1 9 (a + 1, true) = (a + 1, false) := by
        unfold dgW
        rw [if_pos rfl]
        show (if inI (gS t n (a + 1)) (48 + 1) (48 + 9) = 0 then _ else _) = _
        rw [show (48 + 1 : Int32) = 49 from rfl, show (48 + 9 : Int32) = 57 from rfl, if_pos hd]
      rw [hdg]
      refine ⟨rfl, cl_stop (by omega) (by rw [e3]; decide) (fun hl => ?_)⟩
      rw [gS_lt hl] at hd
      rw [htS3]
      unfold pcS
      rw [if_pos hd]
    · right
      have hl : a + 1 < n := by
        apply Classical.byContradiction
        intro q
        rw [gS_ge (by omega)] at hd
        exact hd (by decide)
      have hdg : dgW t n 1 9 (a + 1, true) = (a + 1 + 1, true) := by
        unfold dgW
        rw [if_pos rfl]
        show (if inI (gS t n (a + 1)) (48 + 1) (48 + 9) = 0 then _ else _) = _
        rw [show (48 + 1 : Int32) = 49 from rfl, show (48 + 9 : Int32) = 57 from rfl, if_neg hd]
      rw [hdg]
      obtain ⟨d, hd1, hd9, ed⟩ := dig_ex (lo := 1) (hi := 9) (by decide) (by decide) hd
      rw [gS_lt hl] at hd ed
      have hnn : ¬ (nI k : Int32) < 0 := nI_pos (by omega)
      have htS4 : tkS (t (a + 1)) r3 = (1, r3.1, 4, nI k, r3.2.2.2.1, upA r3.2.2.2.2.1 (r3.1 - 1) (r3.2.2.2.2.1 (r3.1 - 1) + (t (a + 1) - 48) * wtI (nI k)), r3.2.2.2.2.2) := by
        rw [htS3]
        unfold pcS
        rw [if_neg hd, if_neg (by rw [e31]; omega), e32, if_neg hnn]
      rw [cl_go hl htS4, gS_lt hl]
      refine ⟨rfl, by show a ≤ a + 1 + 1; omega, _, rfl, ⟨e31, by rw [e33], fun j hj => ?_, by rw [e33], by rw [e33]⟩, ?_, ?_, ?_, ?_, fun j hj hlt' => ?_⟩
      · show upA r3.2.2.2.2.1 (r3.1 - 1) _ j = _
        rw [e31, upA_n _ _ hj, e33]
      · show 1 ≤ r3.1; rw [e31]; exact h1
      · show a + 1 + 1 ≤ n; omega
      · show upA r3.2.2.2.2.1 (r3.1 - 1) _ (r3.1 - 1) = _
        rw [upA_s, e31, e33, hp, Int32.mul_comm]
      · right
        have hw : ∃ w, 1 ≤ w ∧ w ≤ 1000 ∧ wtI (nI k) = nI w := by
          match k, hk with
          | 0, _ => exact ⟨1000, by decide, by decide, rfl⟩
          | 1, _ => exact ⟨100, by decide, by decide, rfl⟩
          | 2, _ => exact ⟨10, by decide, by decide, rfl⟩
          | 3, _ => exact ⟨1, by decide, by decide, rfl⟩
        obtain ⟨w, hw1, hw2, ew⟩ := hw
        have hpm : ∃ m, m ≤ 9000 * k ∧ p = nI m := by
          rcases hst with ⟨-, -, e⟩ | ⟨-, -, m, -, hm, e⟩
          · exact ⟨0, by omega, e⟩
          · exact ⟨m, hm, e⟩
        obtain ⟨m, hm, em⟩ := hpm
        have hwd : w * d ≤ 9000 := Nat.le_trans (Nat.mul_le_mul hw2 hd9) (by decide)
        have hwd1 : 1 ≤ w * d := Nat.mul_pos (by omega) (by omega)
        refine ⟨rfl, ⟨k, by omega, rfl⟩, m + w * d, by omega, by omega, ?_⟩
        show p + wtI (nI k) * (t (a + 1) - 48) = _
        rw [em, ew, ed, nI_mul, nI_add]
      · have hlt' : nI k < nI j := hlt'
        rw [nI_ltp (by omega) (by omega)] at hlt'
        omega
  · -- it doesn't
    right
    have htk : tkW t n (ltI k) (a, true) = (false, a, true) := by
      unfold tkW
      rw [if_pos rfl]
      show (if gS t n a = ltI k then _ else _) = _
      rw [if_neg hc]
    have hst2 : stP2 t n k (p, a, true) = (p, a, true) := by
      unfold stP2
      show (if (tkW t n (ltI k) (a, true)).1 = true then (p + wtI (nI k) * (gS t n (tkW t n (ltI k) (a, true)).2.1 - 48), dgW t n 1 9 (tkW t n (ltI k) (a, true)).2) else (p, (tkW t n (ltI k) (a, true)).2)) = _
      rw [htk]; rfl
    rw [hst2]
    refine ⟨rfl, Nat.le_refl _, r, rfl, ⟨rfl, rfl, fun _ _ => rfl, rfl, rfl⟩, h1, han, hp, ?_, fun j hj hl => ?_⟩
    · rcases hst with e | ⟨e1, ⟨j, hj, e2⟩, m, h0, hm, e3⟩
      · exact Or.inl e
      · exact Or.inr ⟨e1, ⟨j, by omega, e2⟩, m, h0, by omega, e3⟩
    · by_cases e : j = k
      · rw [e]; exact hc
      · exact hn j (by omega) hl
theorem SP.trans {r r' r'' : rS} (h : SP r r') (g : SP r' r'') : SP r r'' := by
  obtain ⟨h1, h2, h3, h4, h5⟩ := h
  obtain ⟨g1, g2, g3, g4, g5⟩ := g
  exact ⟨g1.trans h1, g2.trans h2, fun j hj => (g3 j (by rw [h1]; exact hj)).trans (h3 j hj), g4.trans h4, g5.trans h5⟩
/-- all the pieces -/
theorem pc_all (h : PI t n 0 a 0 r) : ((pcZ t n (a, true)).2.2 = false ∧ rdA n (cl t n a r) = nI (pcZ t n (a, true)).2.1) ∨
    ((pcZ t n (a, true)).2.2 = true ∧ a + 2 ≤ (pcZ t n (a, true)).2.1 ∧ ∃ r', cl t n a r = cl t n (pcZ t n (a, true)).2.1 r' ∧ SP r r' ∧ r'.2.1 = 4 ∧ (pcZ t n (a, true)).2.1 ≤ n ∧ r'.2.2.2.2.1 (r.1 - 1) = (pcZ t n (a, true)).1 ∧ ∀ c, gS t n (pcZ t n (a, true)).2.1 = c → c ≠ 0 → (knS c r').1 = 0) := by
  have fin : ∀ (s : Int32 × qT), pcW t n (a, true) = s → s.2.2 = false → pcZ t n (a, true) = (s.1, s.2.1, false) := by
    intro s e hs
    unfold pcZ
    rw [e, hs]; rfl
  have fl : ∀ (k : Nat) (s : Int32 × qT), s.2.2 = false → stP2 t n k s = s := fun k s hs => st_f hs
  obtain ⟨s0, e0⟩ : ∃ s, s = stP2 t n 0 (0, a, true) := ⟨_, rfl⟩
  obtain ⟨s1, e1⟩ : ∃ s, s = stP2 t n 1 s0 := ⟨_, rfl⟩
  obtain ⟨s2, e2⟩ : ∃ s, s = stP2 t n 2 s1 := ⟨_, rfl⟩
  obtain ⟨s3, e3⟩ : ∃ s, s = stP2 t n 3 s2 := ⟨_, rfl⟩
  have eW : pcW t n (a, true) = s3 := by unfold pcW; rw [← e0, ← e1, ← e2, ← e3]
  have sp : ∀ s : Int32 × qT, s.2.2 = true → s = (s.1, s.2.1, true) := fun s hs => by rw [← hs]
  have g0 := pc_step h (by decide)
  rw [← e0] at g0
  rcases g0 with ⟨w0, c0⟩ | ⟨w0, l0, r0, c0, p0, q0⟩
  · left
    have : s3 = s0 := by rw [e3, e2, e1, fl 1 s0 w0, fl 2 s0 w0, fl 3 s0 w0]
    rw [fin s0 (by rw [eW, this]) w0]; exact ⟨rfl, c0⟩
  have g1 := pc_step q0 (by decide)
  rw [← sp s0 w0, ← e1] at g1
  rcases g1 with ⟨w1, c1⟩ | ⟨w1, l1, r1, c1, p1, q1⟩
  · left
    have : s3 = s1 := by rw [e3, e2, fl 2 s1 w1, fl 3 s1 w1]
    rw [fin s1 (by rw [eW, this]) w1]; exact ⟨rfl, by rw [c0]; exact c1⟩
  have g2 := pc_step q1 (by decide)
  rw [← sp s1 w1, ← e2] at g2
  rcases g2 with ⟨w2, c2⟩ | ⟨w2, l2, r2, c2, p2, q2⟩
  · left
    have : s3 = s2 := by rw [e3, fl 3 s2 w2]
    rw [fin s2 (by rw [eW, this]) w2]; exact ⟨rfl, by rw [c0, c1]; exact c2⟩
  have g3 := pc_step q2 (by decide)
  rw [← sp s2 w2, ← e3] at g3
  rcases g3 with ⟨w3, c3⟩ | ⟨w3, l3, r3, c3, p3, q3⟩
  · left
    rw [fin s3 eW w3]; exact ⟨rfl, by rw [c0, c1, c2]; exact c3⟩
  have hc : cl t n a r = cl t n s3.2.1 r3 := by rw [c0, c1, c2, c3]
  have hsp := ((p0.trans p1).trans p2).trans p3
  obtain ⟨h1, han, hp, hst, hn⟩ := q3
  have hkn : ∀ c, gS t n s3.2.1 = c → c ≠ 0 → (knS c r3).1 = 0 := by
    intro c ec hc0
    unfold knS
    rcases kd_or c with e | ⟨j, hj, e⟩
    · rw [if_pos e]
    · rw [e, if_neg (fun z => by have := nI_ne5 (n := j) (by omega); rw [this] at z; exact z)]
      by_cases hl : r3.2.2.1 < nI j
      · exact absurd ((kd_lt hj).mpr e) (by rw [← ec]; exact hn j hj hl)
      · rw [if_neg hl]
  rcases hst with ⟨z1, z2, z3⟩ | ⟨z1, -, m, hm0, hm, z3⟩
  · left
    have ez : pcZ t n (a, true) = (0, s3.2.1, false) := by
      unfold pcZ
      rw [eW, z3, w3]; rfl
    rw [ez]
    refine ⟨rfl, ?_⟩
    rw [hc]
    refine cl_stop han (by rw [z1]; decide) (fun hl => ?_)
    unfold tkS
    rw [z1, if_neg (by decide), if_neg (by decide), if_pos rfl]
    have hk := hn 0 (by decide)
    unfold knS
    rcases kd_or (t s3.2.1) with e | ⟨j, hj, e⟩
    · rw [if_pos e]
    · have hl2 : r3.2.2.1 < nI j := by
        rw [z2, Int32.lt_iff_toInt_lt, nI_toInt (by omega), show (-5 : Int32).toInt = -5 from by decide]; omega
      have := hn j hj hl2
      rw [gS_lt hl] at this
      exact absurd ((kd_lt hj).mpr e) this
  · right
    have hne : ¬ s3.1 = 0 := by
      rw [z3, show (0 : Int32) = nI 0 from rfl, nI_inj (by omega) (by decide)]; omega
    have ez : pcZ t n (a, true) = s3 := by
      unfold pcZ
      rw [eW, w3]
      rw [decide_eq_false hne]
      show (s3.1, s3.2.1, true) = s3
      exact (sp s3 w3).symm
    rw [ez]
    refine ⟨w3, ?_, r3, hc, hsp, z1, han, by rw [← hsp.1]; exact hp, hkn⟩
    -- one letter and one digit at least
    have key : ∀ (k : Nat) (s : Int32 × qT), s.2.2 = true → (stP2 t n k s).2.2 = true → (stP2 t n k s) = s ∨ s.2.1 + 2 ≤ (stP2 t n k s).2.1 := by
      intro k s hs h2
      unfold stP2 at h2 ⊢
      by_cases c : (tkW t n (ltI k) s.2).1 = true
      · right
        rw [if_pos c] at h2 ⊢
        have et : tkW t n (ltI k) s.2 = (true, s.2.1 + 1, true) := by
          unfold tkW at c ⊢
          rw [if_pos hs] at c ⊢
          by_cases q : gS t n s.2.1 = ltI k
          · rw [if_pos q]
          · rw [if_neg q] at c; cases c
        rw [et] at h2 ⊢
        unfold dgW at h2 ⊢
        rw [if_pos rfl] at h2 ⊢
        by_cases q : inI (gS t n ((true, s.2.1 + 1, true) : Bool × qT).2.1) (48 + 1) (48 + 9) = 0
        · rw [if_pos q] at h2; cases h2
        · rw [if_neg q]; show s.2.1 + 2 ≤ s.2.1 + 1 + 1; omega
      · left
        rw [if_neg c]
        have et : (tkW t n (ltI k) s.2).2 = s.2 := by
          unfold tkW at c ⊢
          rw [if_pos hs] at c ⊢
          by_cases q : gS t n s.2.1 = ltI k
          · rw [if_pos q] at c; exact absurd rfl c
          · rw [if_neg q]
        rw [et]
    have k0 := key 0 (0, a, true) rfl (by rw [← e0]; exact w0)
    have k1 := key 1 s0 w0 (by rw [← e1]; exact w1)
    have k2 := key 2 s1 w1 (by rw [← e2]; exact w2)
    have k3 := key 3 s2 w2 (by rw [← e3]; exact w3)
    rw [← e0] at k0
    rw [← e1] at k1
    rw [← e2] at k2
    rw [← e3] at k3
    have l0 : a ≤ s0.2.1 := l0
    have l1 : s0.2.1 ≤ s1.2.1 := l1
    have l2 : s1.2.1 ≤ s2.2.1 := l2
    have l3 : s2.2.1 ≤ s3.2.1 := l3
    rcases k0 with k0 | k0
    · rcases k1 with k1 | k1
      · rcases k2 with k2 | k2
        · rcases k3 with k3 | k3
          · exact absurd (by rw [k3, k2, k1, k0]) hne
          · have : s2.2.1 = a := by rw [k2, k1, k0]
            omega
        · have : s1.2.1 = a := by rw [k1, k0]
          omega
      · have : s0.2.1 = a := by rw [k0]
        omega
    · have k0 : a + 2 ≤ s0.2.1 := k0
      omega
end CLW
