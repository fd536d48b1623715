/-! ironing and days keep it -/
section KEEPS2
variable {n m k : Nat} {u : uT}
theorem irS_le (N : Nat → Nat) : ∀ (n : Nat) (V : Nat → Nat → Int32) (K : List kT) (m : Int32), (irS N n V K m).1 ≤ n
  | 0, _, _, _ => Nat.le_refl _
  | n + 1, V, K, m => by
    unfold irS
    split
    · exact Nat.zero_le _
    · split
      · exact Nat.zero_le _
      · rename_i i _ _
        have := irS_le N n (inV V (gK K i) (kdN V (gK K i))) (K.set i (inB (gK K i) (kdN V (gK K i)))) (m - ndI V (gK K i) (kdN V (gK K i)))
        simp only []
        omega
theorem ir_map (N : Nat → Nat) : ∀ (n : Nat) (V : Nat → Nat → Int32) (K : List kT) (m : Int32), (irS N n V K m).2.2.map (fun b => (b 0, b 3)) = K.map (fun b => (b 0, b 3))
  | 0, _, _, _ => rfl
  | n + 1, V, K, m => by
    unfold irS
    split
    · rfl
    · split
      · rfl
      · rename_i i _ _
        have h := ir_map N n (inV V (gK K i) (kdN V (gK K i))) (K.set i (inB (gK K i) (kdN V (gK K i)))) (m - ndI V (gK K i) (kdN V (gK K i)))
        refine h.trans (mapset _ (fun a ha => ?_))
        rw [gK_of ha]
        rfl
theorem ir_V (N : Nat → Nat) {r : Nat} (h0 : r ≠ 0) (h48 : r ≠ 48) : ∀ (n : Nat) (V : Nat → Nat → Int32) (K : List kT) (m : Int32), (irS N n V K m).2.1 r = V r
  | 0, _, _, _ => rfl
  | n + 1, V, K, m => by
    unfold irS
    split
    · rfl
    · split
      · rfl
      · rename_i i _ _
        have h := ir_V N h0 h48 n (inV V (gK K i) (kdN V (gK K i))) (K.set i (inB (gK K i) (kdN V (gK K i)))) (m - ndI V (gK K i) (kdN V (gK K i)))
        refine h.trans ?_
        show upA (upA V 0 _) 48 _ r = V r
        rw [upA_n _ _ h48, upA_n _ _ h0]
theorem lsI_map {g : kT → Int32} {g' : (Nat → Int32) × (Nat → Int32) → Int32} (hg : ∀ b, g b = g' (b 0, b 3)) : ∀ {K K' : List kT}, K.map (fun b => (b 0, b 3)) = K'.map (fun b => (b 0, b 3)) → lsI g K = lsI g K'
  | [], [], _ => rfl
  | [], _ :: _, h => nomatch h
  | _ :: _, [], h => nomatch h
  | a :: K, b :: K', h => by
    have h1 : (a 0, a 3) = (b 0, b 3) := (List.cons.inj h).1
    have h2 := (List.cons.inj h).2
    show g a + lsI g K = g b + lsI g K'
    rw [hg a, hg b, h1, lsI_map hg h2]
theorem IV.iron (h : IV n u) (hn : n < 2 ^ 31) (m : Int32) : IV n (irU u m) := by
  obtain ⟨h1, h2, h3, h4, h5, h6⟩ := h
  have em := ir_map u.1.1 288 u.1.2.1 u.2 m
  have eV : ∀ r, r ≠ 0 → r ≠ 48 → (irU u m).1.2.1 r = u.1.2.1 r := fun r a b => ir_V u.1.1 a b 288 u.1.2.1 u.2 m
  refine ⟨irS_few u.1.1 hn 288 u.1.2.1 u.2 m h1, ?_, ?_, ?_, ?_⟩
  · rw [eV 5 (by decide) (by decide)]; exact h2
  · rw [eV 1 (by decide) (by decide), eV 2 (by decide) (by decide)]; exact h3
  · have e := congrArg (List.map (fun q : (Nat → Int32) × (Nat → Int32) => q.1 2)) em
    rw [List.map_map, List.map_map] at e
    show ((irU u m).2.map pinK).Pairwise _
    have e : (irU u m).2.map pinK = u.2.map pinK := e
    rw [e]
    exact h4
  · rw [eV 46 (by decide) (by decide), eV 47 (by decide) (by decide)]
    refine ⟨?_, fun k hk d => ?_⟩
    · rw [← h5]
      exact lsI_map (g' := fun q => q.2 0 + q.2 1 + q.2 2 + q.2 3) (fun _ => rfl) em
    · rw [show (irU u m).1.1 3 = u.1.1 3 from rfl, h6 k hk d]
      exact (lsI_map (g' := fun q => if dgI (q.1 3) k = d then q.2 k else 0) (fun _ => rfl) em).symm
/-! a day -/
theorem ch_owe {l0 n N1 : Nat} {s : sT} (hA : allL s.2.2.1 ≤ 2673) (hp : ∃ p, p ≤ 99 ∧ s.2.1 1 3 = nI p) (h : IC n N1 (s.2.1 5)) : ∀ k, (∀ c, c < N1 → ∃ y, y ≤ n + (if c < k then 264627 else 0) ∧ (chE l0 k s).2.1 5 c = nI y) ∧ allL (chE l0 k s).2.2.1 ≤ 2673
  | 0 => ⟨fun c hc => by
      obtain ⟨y, y1, y2⟩ := h c hc
      exact ⟨y, by omega, y2⟩, hA⟩
  | k + 1 => by
    obtain ⟨h1, h2⟩ := ch_owe (l0 := l0) hA hp h k
    obtain ⟨p, hp9, ep⟩ := hp
    have e13 : (chE l0 k s).2.1 1 3 = nI p := (congrFun ((ch_keep k).2.2.2.2.1 1 (by decide) (by decide)) 3).trans ep
    show (∀ c, c < N1 → ∃ y, y ≤ n + (if c < k + 1 then 264627 else 0) ∧ (chS l0 (chE l0 k s) k).2.1 5 c = nI y) ∧ allL (chS l0 (chE l0 k s) k).2.2.1 ≤ 2673
    generalize chE l0 k s = z at h1 h2 e13 ⊢
    have ea := allL_zero l0 k z.2.2.1
    have hz : allL (dropE (zeroL l0 k z.2.2.1)) ≤ 2673 := by rw [allL_drop]; omega
    have up : ∀ c y, y ≤ n + (if c < k then 264627 else 0) → y ≤ n + (if c < k + 1 then 264627 else 0) := by
      intro c y hy
      by_cases q : c < k
      · rw [if_pos q] at hy; rw [if_pos (by omega)]; exact hy
      · rw [if_neg q] at hy; omega
    unfold chS
    by_cases q : 0 < oldL l0 k z.2.2.1
    · rw [if_pos q]
      refine ⟨fun c hc => ?_, hz⟩
      obtain ⟨y, y1, y2⟩ := h1 c hc
      show ∃ y, y ≤ n + (if c < k + 1 then 264627 else 0) ∧ upA (z.2.1 5) k (z.2.1 5 k + nI (oldL l0 k z.2.2.1) * z.2.1 1 3) c = nI y
      by_cases e : c = k
      · subst e
        rw [if_neg (Nat.lt_irrefl _)] at y1
        have hm := Nat.mul_le_mul (show oldL l0 c z.2.2.1 ≤ 2673 by omega) hp9
        rw [upA_s, y2, e13, nI_mul, nI_add]
        exact ⟨y + oldL l0 c z.2.2.1 * p, by rw [if_pos (by omega)]; omega, rfl⟩
      · rw [upA_n _ _ e]
        exact ⟨y, up c y y1, y2⟩
    · rw [if_neg q]
      refine ⟨fun c hc => ?_, hz⟩
      obtain ⟨y, y1, y2⟩ := h1 c hc
      exact ⟨y, up c y y1, y2⟩
theorem lv_owe (g : kT → Prop) {N1 : Nat} : ∀ (L : List kT) (s : sT) (n : Nat), (∀ b ∈ L, ∃ y, y ≤ 360 ∧ prK b = nI y) → IC n N1 (s.2.1 5) → IC (n + 360 * L.length) N1 ((lvE g s L).2.1 5)
  | [], s, n, _, h => h
  | b :: L, s, n, hp, h => by
    obtain ⟨z, z1, z2⟩ := hp b List.mem_cons_self
    have hp' : ∀ b ∈ L, ∃ y, y ≤ 360 ∧ prK b = nI y := fun b hb => hp b (List.mem_cons_of_mem _ hb)
    show IC _ N1 ((lvE g (@ite _ (g b) (Classical.propDecidable _) (hoS s b) s) L).2.1 5)
    by_cases q : g b
    · rw [if_pos q]
      refine (lv_owe g L (hoS s b) (n + 360) hp' (fun c hc => ?_)).mono (by rw [List.length_cons]; omega)
      obtain ⟨y, y1, y2⟩ := h c hc
      show ∃ y, y ≤ n + 360 ∧ upA (s.2.1 5) (cuK b) (s.2.1 5 (cuK b) + prK b) c = nI y
      by_cases e : c = cuK b
      · rw [← e, upA_s, y2, z2, nI_add]; exact ⟨y + z, by omega, rfl⟩
      · rw [upA_n _ _ e]; exact ⟨y, by omega, y2⟩
    · rw [if_neg q]
      exact (lv_owe g L s n hp' h).mono (by rw [List.length_cons]; omega)
theorem mn_half : ∀ s, s < 4 → (mnI (nI s) 0 + 1) / 2 = nI ((6 + s) / 2) ∧ (mnI (nI s) 1 + 1) / 2 = nI ((5 + s) / 2) ∧ (mnI (nI s) 2 + 1) / 2 = nI 3 ∧ (mnI (nI s) 3 + 1) / 2 = nI 4 := by decide +kernel
theorem pr_small {b : kT} (hs : ∃ s, s ≤ 3 ∧ b 0 3 = nI s) (h : ∀ k, k < 4 → ∃ x y z, x ≤ 9 ∧ y + z ≤ x ∧ b 1 k = nI x ∧ b 2 k = nI y ∧ b 3 k = nI z) : ∃ y, y ≤ 360 ∧ prK b = nI y := by
  obtain ⟨s, hs3, es⟩ := hs
  obtain ⟨x0, -, -, l0, -, e0, -⟩ := h 0 (by decide)
  obtain ⟨x1, -, -, l1, -, e1, -⟩ := h 1 (by decide)
  obtain ⟨x2, -, -, l2, -, e2, -⟩ := h 2 (by decide)
  obtain ⟨x3, -, -, l3, -, e3, -⟩ := h 3 (by decide)
  obtain ⟨m0, m1, m2, m3⟩ := mn_half s (by omega)
  have q0 := Nat.mul_le_mul l0 (show (6 + s) / 2 ≤ 4 by omega)
  have q1 := Nat.mul_le_mul l1 (show (5 + s) / 2 ≤ 4 by omega)
  refine ⟨x0 * ((6 + s) / 2) + x1 * ((5 + s) / 2) + x2 * 3 + x3 * 4, by omega, ?_⟩
  unfold prK
  rw [es, m0, m1, m2, m3, e0, e1, e2, e3, nI_mul, nI_mul, nI_mul, nI_mul, Int32.zero_add, nI_add, nI_add, nI_add]
theorem rd_ms {b : kT} (h : ∀ k, k < 4 → ∃ x y z, x ≤ 9 ∧ y + z ≤ x ∧ b 1 k = nI x ∧ b 2 k = nI y ∧ b 3 k = nI z) (hr : rdK b = 1) : ∀ k, k < 4 → b 3 k = 0 := by
  unfold rdK at hr
  have key : ∀ k, k < 4 → ¬ b 2 k < b 1 k → b 3 k = 0 := by
    intro k hk c
    obtain ⟨x, y, z, l1, l2, e1, e2, e3⟩ := h k hk
    rw [e1, e2, nI_ltp (by omega) (by omega)] at c
    rw [e3, show z = 0 by omega]; rfl
  have h0 : ¬ b 2 0 < b 1 0 := fun c => by rw [if_pos c] at hr; exact absurd hr (by decide)
  rw [if_neg h0] at hr
  have h1 : ¬ b 2 1 < b 1 1 := fun c => by rw [if_pos c] at hr; exact absurd hr (by decide)
  rw [if_neg h1] at hr
  have h2 : ¬ b 2 2 < b 1 2 := fun c => by rw [if_pos c] at hr; exact absurd hr (by decide)
  rw [if_neg h2] at hr
  have h3 : ¬ b 2 3 < b 1 3 := fun c => by rw [if_pos c] at hr; exact absurd hr (by decide)
  intro k hk
  match k, hk with
  | 0, _ => exact key 0 (by decide) h0
  | 1, _ => exact key 1 (by decide) h1
  | 2, _ => exact key 2 (by decide) h2
  | 3, _ => exact key 3 (by decide) h3
theorem IV.day (h : IV n u) (hw : WF u.1.1 u.1.2.1 u.2 u.1.2.2.1) : IV (n + 267507) (dyU u) := by
  obtain ⟨h1, h2, h3, h4, h5, h6⟩ := h
  obtain ⟨⟨-, -, w2, w8, -, -⟩, -, -, w4, -, ⟨w6, -, w7⟩, -⟩ := id hw
  have hA : allL u.1.2.2.1 ≤ 2673 := by
    have := all_le (n := 27) u.1.2.2.1 (fun q hq => (w6 q hq).2.2.2.2)
    omega
  have hmem : ∀ b ∈ u.2, (∃ s, s ≤ 3 ∧ b 0 3 = nI s) ∧ ∀ k, k < 4 → ∃ x y z, x ≤ 9 ∧ y + z ≤ x ∧ b 1 k = nI x ∧ b 2 k = nI y ∧ b 3 k = nI z := by
    intro b hb
    obtain ⟨i, hi⟩ := List.mem_iff_getElem?.mp hb
    obtain ⟨-, -, -, a, c⟩ := w4 i b hi
    exact ⟨a, c⟩
  obtain ⟨l0, l1, l2, l3, lV, -⟩ := lvE_keep (goK (dy1 u.1).1 (dy1 u.1).2.1) (dy1 u.1) u.2
  obtain ⟨c0, c1, c2, c3, cV, -⟩ := ch_keep (l0 := u.1.1 0 + 1 - dyG u.1.2.1) (s := dy0 u.1) (u.1.1 1)
  have eV : ∀ r, r ≠ 0 → r ≠ 5 → r ≠ 6 → (dyU u).1.2.1 r = u.1.2.1 r := fun r a b c => (lV r b).trans ((cV r b c).trans (upA_n _ _ a))
  have eN1 : (dyU u).1.1 1 = u.1.1 1 := l1.trans c1
  have eN3 : (dyU u).1.1 3 = u.1.1 3 := l3.trans c3
  refine ⟨(h1.same (dyU_0 u)).mono (by omega), ?_, ?_, ?_, ?_⟩
  · rw [eN1]
    have o1 := (ch_owe (l0 := u.1.1 0 + 1 - dyG u.1.2.1) (s := dy0 u.1) (n := n) (N1 := u.1.1 1) hA h3.2 h2 (u.1.1 1)).1
    have o2 : IC (n + 264627) (u.1.1 1) ((dy1 u.1).2.1 5) := fun c hc => by
      obtain ⟨y, y1, y2⟩ := o1 c hc
      exact ⟨y, by rw [if_pos hc] at y1; exact y1, y2⟩
    have o3 := lv_owe (goK (dy1 u.1).1 (dy1 u.1).2.1) u.2 (dy1 u.1) (n + 264627) (fun b hb => pr_small (hmem b hb).1 (hmem b hb).2) o2
    exact IC.mono o3 (by omega)
  · rw [eV 1 (by decide) (by decide) (by decide), eV 2 (by decide) (by decide) (by decide)]; exact h3
  · show ((dyU u).2.map pinK).Pairwise _
    exact h4.sublist ((lvK_sub _ u.2).map pinK)
  · rw [eV 46 (by decide) (by decide) (by decide), eV 47 (by decide) (by decide) (by decide), eN3]
    have hz : ∀ b ∈ u.2, goK (dy1 u.1).1 (dy1 u.1).2.1 b → ∀ k, k < 4 → b 3 k = 0 := fun b hb hg => rd_ms (hmem b hb).2 hg.1
    refine ⟨?_, fun k hk d => ?_⟩
    · rw [← h5]
      refine lsI_lv (fun b hb hg => ?_)
      have z := hz b hb hg
      unfold msT
      rw [z 0 (by decide), z 1 (by decide), z 2 (by decide), z 3 (by decide)]
      rfl
    · rw [h6 k hk d]
      refine (lsI_lv (fun b hb hg => ?_)).symm
      unfold msD
      rw [hz b hb hg k hk, ite_self]
theorem ps_wf (hw : WFu u) {d : Nat} (hd : u.1.1 0 + d ≤ 9999) : ∀ k, k ≤ d → WF (psU k u).1.1 (psU k u).1.2.1 (psU k u).2 (psU k u).1.2.2.1 ∧ (psU k u).1.1 0 = u.1.1 0 + k
  | 0, _ => ⟨hw.1, rfl⟩
  | k + 1, hk => by
    obtain ⟨h1, h2⟩ := ps_wf hw hd k (by omega)
    refine ⟨WF_day h1 (show (psU k u).1.1 0 < 10100 by omega), ?_⟩
    show (dyU (psU k u)).1.1 0 = _
    rw [dy_day, h2]; omega
theorem IV.pass (h : IV n u) (hw : WFu u) {d : Nat} (hd : u.1.1 0 + d ≤ 9999) : ∀ k, k ≤ d → IV (n + 267507 * k) (psU k u)
  | 0, _ => h
  | k + 1, hk => (IV.day (IV.pass h hw hd k (by omega)) (ps_wf hw hd k (by omega)).1).mono (by omega)
theorem psT_nn (h8 : u.2.length ≤ 8) : ∀ k, (psU k u).2.length ≤ 8 ∧ ∃ y, y ≤ 8 * k ∧ psT k u = nI y
  | 0 => ⟨h8, 0, Nat.le_refl _, rfl⟩
  | k + 1 => by
    obtain ⟨h1, y, h2, h3⟩ := psT_nn h8 k
    have h4 : (dyU (psU k u)).2.length ≤ (psU k u).2.length := lvK_le _ _
    refine ⟨Nat.le_trans h4 h1, y + ((psU k u).2.length - (dyU (psU k u)).2.length), by omega, ?_⟩
    simp only [psT]
    rw [h3, nI_add]
end KEEPS2
