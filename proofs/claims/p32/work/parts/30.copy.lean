/-! a state is copied -/
section SC
variable {T : Nat → Nat → Int32} {P : Nat → Nat → Nat} {o q : Nat} {N : Nat → Nat} {V : Nat → Nat → Int32} {K : List kT} {B : List bT} {R : Nat → Nat → Int32}
theorem c_head (ho : isB o) (hq : isB q) (hne : o ≠ q) : ∃ T', X 73 0 [.ref o, .ref q] [] (H T P) = X 73 60 [.ref o, .ref q] [] (H T' P) ∧ (∀ a, a ≠ o → a ≠ o + 1 → a ≠ o + 2 → T' a = T a) ∧ RW (T' o) (T q) 4 ∧ RW (T' (o + 1)) (T (q + 1)) 4 ∧ RW (T' (o + 2)) (T (q + 2)) 5 := by
  refine ⟨_, by
    simp +decide only [x73_0, x73_1, x73_1N, x73_2, x73_5, x73_8, x73_9, x73_9N, x73_10, x73_13, x73_16, x73_17, x73_17N, x73_18, x73_21, x73_24, x73_25, x73_25N, x73_26, x73_29, x73_32, x73_32N, x73_33, x73_36, x73_37, x73_38, x73_41, x73_42, x73_43, x73_46, x73_46N, x73_47, x73_50, x73_51, x73_52, x73_55, x73_56, x73_57, x73_61, x73_64, x73_64N, x73_65, x73_68, x73_71, x73_72, x73_75, x73_75N, x73_76, x73_79, x73_82, x73_83, x73_86, x73_86N, x73_87, x73_90, x73_93, x73_94, x73_97, x73_97N, x73_98, x73_101, x73_104, x73_105, x73_108, x73_108N, x73_109, x73_112, x73_115, x73_116, x73_119, x73_119N, x73_120, x73_123, x73_126, aft_some, aft_void, Option.bind_some, Option.toList_some, Option.toList_none, List.cons_append, List.nil_append, if_true, if_false, ↓reduceIte, eq_self, f0_o ho, ↓f0_0 ho, ↓f0_0p ho, ↓f0_1 ho, ↓f0_1p ho, ↓f0_2 ho, ↓f0_2p ho, ↓f0_3 ho, ↓f0_3p ho, ↓f0_4 ho, ↓f0_5 ho, ↓f0_6 ho, ↓f0_7 ho, ↓f0_8 ho, ↓f0_9 ho, ↓f0_10 ho, ↓f0_11 ho, ↓f1_g ho, ↓f1_s ho, ↓f2_g ho, ↓f2_s ho, f0_o hq, ↓f0_0 hq, ↓f0_0p hq, ↓f0_1 hq, ↓f0_1p hq, ↓f0_2 hq, ↓f0_2p hq, ↓f0_3 hq, ↓f0_3p hq, ↓f0_4 hq, ↓f0_5 hq, ↓f0_6 hq, ↓f0_7 hq, ↓f0_8 hq, ↓f0_9 hq, ↓f0_10 hq, ↓f0_11 hq, ↓f1_g hq, ↓f1_s hq, ↓f2_g hq, ↓f2_s hq, upA_s, u_oo, u_o0, u_0o, u_n, u_ap ho hq hne, u_ap0 ho hq hne, u_ap1 ho hq hne, u_ap2 hne, ↓g_cp0 (q1 hq) (q1 ho) (show (4 : Int32) = nI 4 from rfl) (Nat.le_refl 4) (Nat.le_refl 4) (by decide), ↓g_cp0 (q2 hq) (q2 ho) (show (5 : Int32) = nI 5 from rfl) (Nat.le_refl 5) (Nat.le_refl 5) (by decide)]
    rfl, ?_, ?_, ?_, ?_⟩
  · intro a h0 h1 h2
    simp only [upA_n _ _ h0, upA_n _ _ h1, upA_n _ _ h2]
  · intro k hk
    match k, hk with
    | 0, _ => simp +decide [upA]
    | 1, _ => simp +decide [upA]
    | 2, _ => simp +decide [upA]
    | 3, _ => simp +decide [upA]
  · intro k hk
    simp +decide only [upA_s, u_oo, cpy0 hk]
  · intro k hk
    simp +decide only [upA_s, u_oo, cpy0 hk]
theorem c_stCopy (ho : isB o) (hq : isB q) (hne : o ≠ q) (hPo : PK P o) (h : CS q T P N V K B R) (hN1 : N 1 ≤ 10) (h8 : K.length ≤ 8) : ∃ T', X 73 0 [.ref o, .ref q] [] (H T P) = some (none, H T' P) ∧ (∀ a, (a < o ∨ o + 51 ≤ a) → T' a = T a) ∧ CS o T' P N V K B R := by
  have hfar := isB_far ho hq hne
  obtain ⟨⟨k0, k1, k2, k00⟩, ⟨k3, k4, k5, k6⟩, ⟨kP, kn, kc, kK⟩, ⟨kb, kb9, kB⟩, ⟨kl, kl20, kL⟩, k48, ⟨kj10, kj, l, hl, ej, kJ⟩⟩ := id h
  obtain ⟨T1, e1, f1, a1, b1, c1⟩ := c_head (T := T) (P := P) ho hq hne
  have g1 : ∀ a, 3 ≤ a → a < 51 → T1 (q + a) = T (q + a) := fun a h3 h5 => f1 _ (by omega) (by omega) (by omega)
  obtain ⟨T2, e2, f2, a2, b2⟩ := c_cuCopy (T := T1) (P := P) (n := N 1) ho hq hne (by rw [g1 3 (by decide) (by decide)]; exact k3) hN1
  have g2 : ∀ a, 3 ≤ a → a < 51 → T2 (q + a) = T (q + a) := fun a h3 h5 => by rw [f2 _ (by omega) (by omega) (by omega) (by omega)]; exact g1 a h3 h5
  obtain ⟨T3, e3, f3, a3, b3, c3⟩ := c_shCopy (T := T2) (P := P) (n := K.length) ho hq hne hPo kP (by rw [g2 7 (by decide) (by decide)]; exact kn) h8
  have g3 : ∀ a, 3 ≤ a → a < 51 → T3 (q + a) = T (q + a) := fun a h3 h5 => by rw [f3 _ (by omega) (by omega)]; exact g2 a h3 h5
  obtain ⟨T4, e4, f4, a4, b4⟩ := c_ouCopy (T := T3) (P := P) (n := B.length) ho hq hne (by rw [g3 41 (by decide) (by decide)]; exact kb) kb9
  have g4 : ∀ a, 3 ≤ a → a < 51 → T4 (q + a) = T (q + a) := fun a h3 h5 => by rw [f4 _ (by omega) (by omega) (by omega) (by omega)]; exact g3 a h3 h5
  obtain ⟨T5, e5, f5, a5, b5⟩ := c_piCopy (T := T4) (P := P) (n := N 3) ho hq hne (by rw [g4 45 (by decide) (by decide)]; exact kl) kl20
  have g5 : ∀ a, 3 ≤ a → a < 51 → T5 (q + a) = T (q + a) := fun a h3 h5 => by rw [f5 _ (by omega) (by omega) (by omega)]; exact g4 a h3 h5
  obtain ⟨T6, e6, f6, a6⟩ := c_boCopy (T := T5) (P := P) ho hq hne
  have g6 : ∀ a, 3 ≤ a → a < 51 → T6 (q + a) = T (q + a) := fun a h3 h5 => by rw [f6 _ (by omega)]; exact g5 a h3 h5
  obtain ⟨T7, e7, f7, a7, b7, c7⟩ := c_joCopy (T := T6) (P := P) ho hq hne
  have z1 : ∀ a, a < 3 → T7 (o + a) = T1 (o + a) := fun a ha => by
    rw [f7 _ (by omega) (by omega), f6 _ (by omega), f5 _ (by omega) (by omega) (by omega), f4 _ (by omega) (by omega) (by omega) (by omega), f3 _ (by omega) (by omega), f2 _ (by omega) (by omega) (by omega) (by omega)]
  have z2 : ∀ a, 3 ≤ a → a < 7 → T7 (o + a) = T2 (o + a) := fun a h3 ha => by
    rw [f7 _ (by omega) (by omega), f6 _ (by omega), f5 _ (by omega) (by omega) (by omega), f4 _ (by omega) (by omega) (by omega) (by omega), f3 _ (by omega) (by omega)]
  have z3 : ∀ a, o + 7 ≤ a → a < o + 41 → T7 a = T3 a := fun a h3 ha => by
    rw [f7 _ (by omega) (by omega), f6 _ (by omega), f5 _ (by omega) (by omega) (by omega), f4 _ (by omega) (by omega) (by omega) (by omega)]
  have z4 : ∀ a, 41 ≤ a → a < 45 → T7 (o + a) = T4 (o + a) := fun a h3 ha => by
    rw [f7 _ (by omega) (by omega), f6 _ (by omega), f5 _ (by omega) (by omega) (by omega)]
  have z5 : ∀ a, 45 ≤ a → a < 48 → T7 (o + a) = T5 (o + a) := fun a h3 ha => by
    rw [f7 _ (by omega) (by omega), f6 _ (by omega)]
  have z6 : T7 (o + 48) = T6 (o + 48) := f7 _ (by omega) (by omega)
  have y0 : T7 o = T1 o := z1 0 (by decide)
  refine ⟨T7, ?_, fun a ha => ?_, ⟨?_, ?_, ?_, k00⟩, ⟨?_, ?_, ?_, ?_⟩, ⟨hPo, ?_, ?_, ?_⟩, ⟨?_, kb9, ?_⟩, ⟨?_, kl20, ?_⟩, ?_, ⟨kj10, ?_, l, hl, ?_, ?_⟩⟩
  · rw [e1]
    simp +decide only [x73_0, x73_1, x73_1N, x73_2, x73_5, x73_8, x73_9, x73_9N, x73_10, x73_13, x73_16, x73_17, x73_17N, x73_18, x73_21, x73_24, x73_25, x73_25N, x73_26, x73_29, x73_32, x73_32N, x73_33, x73_36, x73_37, x73_38, x73_41, x73_42, x73_43, x73_46, x73_46N, x73_47, x73_50, x73_51, x73_52, x73_55, x73_56, x73_57, x73_60, x73_61, x73_64, x73_64N, x73_65, x73_68, x73_71, x73_72, x73_75, x73_75N, x73_76, x73_79, x73_82, x73_83, x73_86, x73_86N, x73_87, x73_90, x73_93, x73_94, x73_97, x73_97N, x73_98, x73_101, x73_104, x73_105, x73_108, x73_108N, x73_109, x73_112, x73_115, x73_116, x73_119, x73_119N, x73_120, x73_123, x73_126, aft_some, aft_void, Option.bind_some, Option.toList_some, Option.toList_none, List.cons_append, List.nil_append, if_true, if_false, ↓reduceIte, eq_self, f0_o ho, ↓f0_0 ho, ↓f0_0p ho, ↓f0_1 ho, ↓f0_1p ho, ↓f0_2 ho, ↓f0_2p ho, ↓f0_3 ho, ↓f0_3p ho, ↓f0_4 ho, ↓f0_5 ho, ↓f0_6 ho, ↓f0_7 ho, ↓f0_8 ho, ↓f0_9 ho, ↓f0_10 ho, ↓f0_11 ho, ↓f1_g ho, ↓f1_s ho, ↓f2_g ho, ↓f2_s ho, f0_o hq, ↓f0_0 hq, ↓f0_0p hq, ↓f0_1 hq, ↓f0_1p hq, ↓f0_2 hq, ↓f0_2p hq, ↓f0_3 hq, ↓f0_3p hq, ↓f0_4 hq, ↓f0_5 hq, ↓f0_6 hq, ↓f0_7 hq, ↓f0_8 hq, ↓f0_9 hq, ↓f0_10 hq, ↓f0_11 hq, ↓f1_g hq, ↓f1_s hq, ↓f2_g hq, ↓f2_s hq, f3_o ho, ↓f3_0 ho, ↓f3_0p ho, ↓f3_1 ho, ↓f3_2 ho, ↓f3_3 ho, ↓f4_g ho, ↓f4_s ho, ↓f5_g ho, ↓f5_s ho, ↓f6_g ho, ↓f6_s ho, f7_o ho, ↓f7_0 ho, ↓f7_1 ho, ↓f7_1p ho, ↓f7_2 ho, ↓f7_2p ho, ↓f8_g ho, f41_o ho, ↓f41_0 ho, ↓f41_1 ho, ↓f41_2 ho, ↓f41_3 ho, ↓f41_3p ho, ↓f42_g ho, ↓f42_s ho, ↓f43_g ho, ↓f43_s ho, ↓f44_g ho, ↓f44_s ho, f45_o ho, ↓f45_0 ho, ↓f45_1 ho, ↓f45_2 ho, ↓f45_2p ho, ↓f46_g ho, ↓f46_s ho, ↓f47_g ho, ↓f47_s ho, f48_o ho, ↓f48_0 ho, ↓f48_0p ho, ↓f48_1 ho, ↓f48_1p ho, ↓f48_2 ho, ↓f48_2p ho, ↓f48_3 ho, ↓f48_3p ho, f49_o ho, ↓f49_0 ho, ↓f49_1 ho, ↓f49_1p ho, ↓f49_2 ho, ↓f49_2p ho, ↓f50_g ho, ↓f50_s ho, ↓aft_of (e2), ↓aft_of (e3), ↓aft_of (e4), ↓aft_of (e5), ↓aft_of (e6), ↓aft_of (e7)]
  · rw [f7 _ (by omega) (by omega), f6 _ (by omega), f5 _ (by omega) (by omega) (by omega), f4 _ (by omega) (by omega) (by omega) (by omega), f3 _ (by omega) (by omega), f2 _ (by omega) (by omega) (by omega) (by omega), f1 _ (by omega) (by omega) (by omega)]
  · intro k hk; rw [y0, a1 k hk, k0 k hk]
  · intro k hk; rw [z1 1 (by decide), b1 k hk, k1 k hk]
  · intro k hk; rw [z1 2 (by decide), c1 k hk, k2 k hk]
  · rw [z2 3 (by decide) (by decide)]; exact a2
  · intro k hk; rw [z2 4 (by decide) (by decide), (b2 k hk).1, g1 4 (by decide) (by decide), k4 k hk]
  · intro k hk; rw [z2 5 (by decide) (by decide), (b2 k hk).2.1, g1 5 (by decide) (by decide), k5 k hk]
  · intro k hk; rw [z2 6 (by decide) (by decide), (b2 k hk).2.2, g1 6 (by decide) (by decide), k6 k hk]
  · rw [z3 (o + 7) (by omega) (by omega)]; exact a3
  · rw [z3 (o + 7) (by omega) (by omega), b3, g2 7 (by decide) (by decide)]; exact kc
  · intro i b hb
    have hi : i < K.length := (List.getElem?_eq_some_iff.mp hb).1
    have hk := kK i b hb
    have hr := hPo.rg (show i < 8 by omega)
    have hr2 := kP.rg (show i < 8 by omega)
    obtain ⟨d1, d2⟩ := c3 i hi
    have q0 : ∀ x, x < 4 → T2 (P (q + 8) i + x) = T (P (q + 8) i + x) := fun x hx => by
      have := g2 (P (q + 8) i + x - q) (by omega) (by omega)
      rwa [show q + (P (q + 8) i + x - q) = P (q + 8) i + x by omega] at this
    have p0 : ∀ x, x < 4 → T7 (P (o + 8) i + x) = T3 (P (o + 8) i + x) := fun x hx => z3 _ (by omega) (by omega)
    have q00 := q0 0 (by decide)
    have p00 := p0 0 (by decide)
    rw [Nat.add_zero] at q00 p00
    refine ⟨fun k hk5 => ?_, fun k hk4 => ?_⟩
    · rw [p00, d1 k hk5, q00]; exact hk.1 k hk5
    · obtain ⟨x1, x2, x3⟩ := d2 k hk4
      rw [p0 1 (by decide), p0 2 (by decide), p0 3 (by decide), x1, x2, x3, q0 1 (by decide), q0 2 (by decide), q0 3 (by decide)]
      exact hk.2 k hk4
  · rw [z4 41 (by decide) (by decide)]; exact a4
  · intro i c d n hi
    have hil : i < B.length := (List.getElem?_eq_some_iff.mp hi).1
    rw [z4 42 (by decide) (by decide), z4 43 (by decide) (by decide), z4 44 (by decide) (by decide), (b4 i hil).1, (b4 i hil).2.1, (b4 i hil).2.2, g3 42 (by decide) (by decide), g3 43 (by decide) (by decide), g3 44 (by decide) (by decide)]
    exact kB i c d n hi
  · rw [z5 45 (by decide) (by decide)]; exact a5
  · intro i hi
    rw [z5 46 (by decide) (by decide), z5 47 (by decide) (by decide), (b5 i hi).1, (b5 i hi).2, g4 46 (by decide) (by decide), g4 47 (by decide) (by decide)]
    exact kL i hi
  · intro k hk; rw [z6, a6 k hk, g5 48 (by decide) (by decide), k48 k hk]
  · rw [a7, g6 49 (by decide) (by decide)]; exact kj
  · rw [b7, g6 49 (by decide) (by decide)]; exact ej
  · intro g hg k hk
    rw [c7 _ (by omega), g6 50 (by decide) (by decide)]
    exact kJ g hg k hk
end SC
