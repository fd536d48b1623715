/-! fault: the answer hangs on the text alone -/
section FB
variable {T U EE : Nat → Nat → Int32} {P Q : Nat → Nat → Nat} {s : gT} {r w : rS} {c : Int32} {f : Nat → Int32}
theorem sr_tk (h : SR r w) : S2 (tkS c r) (tkS c w) := by
  unfold tkS
  rw [← h.2.1]
  by_cases p0 : r.2.1 = 0
  · rw [if_pos p0, if_pos p0]; exact sr_cu h.1 (Or.inl h)
  rw [if_neg p0, if_neg p0]
  by_cases p1 : r.2.1 = 1
  · rw [if_pos p1, if_pos p1]; exact sr_sg h
  rw [if_neg p1, if_neg p1]
  by_cases p2 : r.2.1 = 2
  · rw [if_pos p2, if_pos p2]; exact sr_kn h
  rw [if_neg p2, if_neg p2]
  by_cases p3 : r.2.1 = 3
  · rw [if_pos p3, if_pos p3]; exact sr_pc h
  rw [if_neg p3, if_neg p3]
  by_cases p4 : r.2.1 = 4
  · rw [if_pos p4, if_pos p4]
    have a := sr_kn (c := c) h
    have b := sr_sg (c := c) (sn := 42) (pl := 5) h
    rw [← a.1, ← b.1]
    by_cases z : (knS c r).1 = 0
    · rw [if_pos z, if_pos z]
      by_cases y : (sgS c 42 5 r).1 = 0
      · rw [if_pos y, if_pos y]; exact sr_en h
      · rw [if_neg y, if_neg y]; exact b
    · rw [if_neg z, if_neg z]; exact a
  rw [if_neg p4, if_neg p4]
  by_cases p5 : r.2.1 = 5
  · rw [if_pos p5, if_pos p5]; exact sr_st h
  rw [if_neg p5, if_neg p5]
  by_cases p6 : r.2.1 = 6
  · rw [if_pos p6, if_pos p6]; exact sr_en h
  rw [if_neg p6, if_neg p6]
  by_cases p7 : r.2.1 = 7
  · rw [if_pos p7, if_pos p7]
    by_cases d : inI c 49 57 = 0
    · rw [if_pos d, if_pos d]; exact ⟨rfl, h⟩
    · rw [if_neg d, if_neg d]; exact sr_ha h
  rw [if_neg p7, if_neg p7]
  by_cases p8 : r.2.1 = 8
  · rw [if_pos p8, if_pos p8]
    have a := sr_ha (c := c) (pl := 9) h
    rw [← a.1]
    by_cases z : (haS c 9 r).1 = 0
    · rw [if_pos z, if_pos z]; exact sr_sg h
    · rw [if_neg z, if_neg z]; exact a
  rw [if_neg p8, if_neg p8]
  exact sr_sg h
theorem sr_G : ∀ (m i : Nat) (r w : rS), SR r w → (rdG f m i r).1 = (rdG f m i w).1 ∧ SR (rdG f m i r).2 (rdG f m i w).2
  | 0, _, _, _, h => ⟨rfl, h⟩
  | m + 1, i, r, w, h => by
    have a := sr_tk (c := f i) h
    unfold rdG
    rw [← a.1]
    by_cases z : (tkS (f i) r).1 = 0
    · rw [if_pos z, if_pos z]; exact ⟨rfl, a.2⟩
    · rw [if_neg z, if_neg z]; exact sr_G m (i + 1) _ _ a.2
/-- of two readings that begin: the same place of a fault, the same place, the same number, the same rows below the number -/
theorem sr_0 {m i : Nat} {r w : rS} (h0 : r.1 = 0) (h1 : w.1 = 0) (p0 : r.2.1 = 0) (p1 : w.2.1 = 0) : (rdG f m i r).1 = (rdG f m i w).1 ∧ (rdG f m i r).2.2.1 = (rdG f m i w).2.2.1 ∧ (rdG f m i r).2.1 = (rdG f m i w).2.1 ∧ ∀ j, j < (rdG f m i r).2.1 → (rdG f m i r).2.2.2.2.1 j = (rdG f m i w).2.2.2.2.1 j ∧ (rdG f m i r).2.2.2.2.2.1 j = (rdG f m i w).2.2.2.2.2.1 j ∧ (rdG f m i r).2.2.2.2.2.2.1 j = (rdG f m i w).2.2.2.2.2.2.1 j ∧ (rdG f m i r).2.2.2.2.2.2.2 j = (rdG f m i w).2.2.2.2.2.2.2 j := by
  cases m with
  | zero =>
    have e : ∀ x : rS, rdG f 0 i x = (none, x) := fun _ => rfl
    rw [e, e]
    refine ⟨rfl, p0.trans p1.symm, h0.trans h1.symm, fun j hj => ?_⟩
    have hj : j < r.1 := hj
    omega
  | succ m =>
    have er : tkS (f i) r = cuS (f i) r := if_pos p0
    have ew : tkS (f i) w = cuS (f i) w := if_pos p1
    unfold rdG
    rw [er, ew]
    by_cases z : (cuS (f i) r).1 = 1
    · have a := sr_cu (c := f i) (r := r) (w := w) (h0.trans h1.symm) (Or.inr ⟨h0, z⟩)
      rw [← a.1, if_neg (by rw [z]; decide), if_neg (by rw [z]; decide)]
      have g := sr_G (f := f) m (i + 1) _ _ a.2
      exact ⟨g.1, g.2.2.1, g.2.1, g.2.2.2.2⟩
    · have hc : ∀ x : rS, x.1 = 0 → ¬ (cuS (f i) x).1 = 1 → cuS (f i) x = (0, x) := by
        intro x hx hz
        unfold cuS at hz ⊢
        by_cases c1 : inI (f i) 48 57 = 0
        · rw [if_pos c1]
        · rw [if_neg c1, if_pos (by omega)] at hz
          exact absurd rfl hz
      have z2 : ¬ (cuS (f i) w).1 = 1 := by
        intro q
        apply z
        unfold cuS at q ⊢
        by_cases c1 : inI (f i) 48 57 = 0
        · rw [if_pos c1] at q
          exact absurd (show (0 : Int32) = 1 from q) (by decide)
        · rw [if_neg c1, if_pos (by omega)]
      rw [hc r h0 z, hc w h1 z2, if_pos rfl, if_pos rfl]
      refine ⟨rfl, p0.trans p1.symm, h0.trans h1.symm, fun j hj => ?_⟩
      have hj : j < r.1 := hj
      omega
def r00 : rS := (0, 0, 0, fun _ => 0, fun _ => 0, fun _ => 0, fun _ => 0)
def gFault (s : gT) : Int32 := rdA s.2.2.2.1 (rdG s.2.2.2.2 s.2.2.2.1 0 r00)
theorem g_fault (h : CG EE T P s) : ∃ T', X 103 0 [.ref 0] [] (H T P) = some (some (.int (gFault s)), H T' P) ∧ CG EE T' P s := by
  obtain ⟨T1, r', e1, n0, p0, r1, f1, k1⟩ := c_read (P := P) h.2.2.2.2
  have g := sr_0 (f := s.2.2.2.2) (m := s.2.2.2.1) (i := 0) (r := r') (w := r00) n0 rfl p0 rfl
  have e : rdA s.2.2.2.1 (rdG s.2.2.2.2 s.2.2.2.1 0 r') = gFault s := by
    unfold gFault rdA
    rw [g.1, g.2.1]
  rw [e] at e1
  refine ⟨T1, ?_, h.fr f1⟩
  simp +decide only [x103_0, x103_0N, x103_1, x103_4, x103_7, aft_some, aft_void, Option.bind_some, Option.toList_some, Option.toList_none, List.cons_append, List.nil_append, if_true, if_false, ↓reduceIte, eq_self, z0_o, ↓z0_0, ↓z0_1, ↓z0_2, ↓z0_3, ↓z0_4, ↓z0_5, ↓z0_5p0, ↓z0_5p1, z360_o, ↓z360_0, ↓z360_1, ↓z360_1p, ↓z360_2, ↓z360_2p, ↓z360_3, ↓z360_4, ↓z360_5, ↓z360_6, ↓z360_7, ↓z360_7p, ↓z360_8, ↓z360_8p, ↓z361_g, ↓z361_s, ↓z362_g, ↓z362_s, ↓z363_g, ↓z363_s, ↓z364_g, ↓z364_s, ↓z365_g, ↓z365_s, ↓aft_of (e1)]
end FB
