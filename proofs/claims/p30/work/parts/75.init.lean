/-! the constructors: what they leave -/
def dflO (ci : Nat) : hC := hO ci ((List.range (fN ci)).map (fun k => dfl (fty ci k)))
/-- a cell without what lies behind an array's end -/
def nrm (c : hC) : hC := match c with
  | .inr (t, n, .inr g) => .inr (t, n, .inr (fun i => if i < n then g i else none))
  | c => c
def ivT (h : List hC) (a k : Nat) : Int32 := match h[a]? with
  | some (.inl (_, fs)) => (match fs[k]? with
    | some (.int x) => x
    | _ => 0)
  | some (.inr (_, _, .inl f)) => f k
  | _ => 0
def ivP (h : List hC) (a k : Nat) : Nat := match h[a]? with
  | some (.inr (_, _, .inr g)) => (g k).getD 0
  | _ => 0
def ckF : List (Option Nat) → List Value → Bool
  | [], [] => true
  | some r :: l, .ref q :: vs => decide (q = r) && ckF l vs
  | none :: l, .int _ :: vs => ckF l vs
  | _, _ => false
def ckC (s : shp) (c : hC) : Bool := match s, c with
  | .inl (ci, l), .inl (cj, fs) => decide (cj = ci) && ckF l fs
  | .inr (t, n), .inr (u, m, .inl _) => decide (u = t) && decide (m = n) && decide (t < 2)
  | .inr (t, n), .inr (u, m, .inr g) => decide (u = t) && decide (m = n) && decide (¬ t < 2) && (List.range n).all (fun i => (g i).isSome)
  | _, _ => false
def ckH : List shp → List hC → Bool
  | [], [] => true
  | s :: l, c :: h => ckC s c && ckH l h
  | _, _ => false
theorem ckF_ok {f : Nat → Int32} : ∀ {l : List (Option Nat)} {fs : List Value} {k : Nat}, ckF l fs = true → (∀ (i : Nat) (x : Int32), fs[i]? = some (.int x) → f (k + i) = x) → mkF f k l = fs
  | [], [], _, _, _ => rfl
  | some r :: l, .ref q :: vs, k, h, hf => by
    simp only [ckF, Bool.and_eq_true, decide_eq_true_eq] at h
    rw [mkF, h.1, ckF_ok h.2 (fun i x hx => by rw [← hf (i + 1) x hx]; congr 1; omega)]
  | none :: l, .int y :: vs, k, h, hf => by
    simp only [ckF] at h
    rw [mkF, ckF_ok h (fun i x hx => by rw [← hf (i + 1) x hx]; congr 1; omega), ← hf 0 y rfl]
    rfl
  | [], _ :: _, _, h, _ => by simp [ckF] at h
  | _ :: _, [], _, h, _ => by simp [ckF] at h
  | some _ :: _, .int _ :: _, _, h, _ => by simp [ckF] at h
  | some _ :: _, .null :: _, _, h, _ => by simp [ckF] at h
  | some _ :: _, .long _ :: _, _, h, _ => by simp [ckF] at h
  | some _ :: _, .float _ :: _, _, h, _ => by simp [ckF] at h
  | some _ :: _, .double _ :: _, _, h, _ => by simp [ckF] at h
  | none :: _, .ref _ :: _, _, h, _ => by simp [ckF] at h
  | none :: _, .null :: _, _, h, _ => by simp [ckF] at h
  | none :: _, .long _ :: _, _, h, _ => by simp [ckF] at h
  | none :: _, .float _ :: _, _, h, _ => by simp [ckF] at h
  | none :: _, .double _ :: _, _, h, _ => by simp [ckF] at h
theorem ckH_at : ∀ {l : List shp} {h : List hC}, ckH l h = true → h.length = l.length ∧ ∀ (a : Nat) (s : shp) (c : hC), l[a]? = some s → h[a]? = some c → ckC s c = true
  | [], [], _ => ⟨rfl, fun a s c hs => by simp at hs⟩
  | s :: l, c :: h, e => by
    simp only [ckH, Bool.and_eq_true] at e
    obtain ⟨h1, h2⟩ := ckH_at e.2
    refine ⟨by simp [h1], fun a s' c' hs hc => ?_⟩
    cases a with
    | zero => cases hs; cases hc; exact e.1
    | succ a => exact h2 a s' c' hs hc
  | [], _ :: _, e => by simp [ckH] at e
  | _ :: _, [], e => by simp [ckH] at e
theorem ckC_ok {h : List hC} {a : Nat} {s : shp} {c : hC} (hc : h[a]? = some c) (e : ckC s c = true) : nrm c = mk s (ivT h a) (ivP h a) := by
  rcases s with ⟨ci, l⟩ | ⟨t, n⟩
  · rcases c with ⟨cj, fs⟩ | ⟨u, m, f | g⟩
    · simp only [ckC, Bool.and_eq_true, decide_eq_true_eq] at e
      obtain ⟨rfl, e⟩ := e
      have : mkF (ivT h a) 0 l = fs := ckF_ok e (fun i x hx => by unfold ivT; rw [hc]; simp only [Nat.zero_add]; rw [hx])
      show Sum.inl (cj, fs) = Sum.inl (cj, mkF (ivT h a) 0 l)
      rw [this]
    · simp [ckC] at e
    · simp [ckC] at e
  · rcases c with ⟨cj, fs⟩ | ⟨u, m, f | g⟩
    · simp [ckC] at e
    · simp only [ckC, Bool.and_eq_true, decide_eq_true_eq] at e
      obtain ⟨⟨rfl, rfl⟩, ht⟩ := e
      have hf : ivT h a = f := by funext k; unfold ivT; rw [hc]
      show Sum.inr (u, m, Sum.inl f) = if u < 2 then _ else _
      rw [if_pos ht, hf]
    · simp only [ckC, Bool.and_eq_true, decide_eq_true_eq, List.all_eq_true] at e
      obtain ⟨⟨⟨rfl, rfl⟩, ht⟩, hg⟩ := e
      show Sum.inr (u, m, Sum.inr (fun i => if i < m then g i else none)) = if u < 2 then _ else _
      rw [if_neg ht]
      congr 4
      funext i
      by_cases hi : i < m
      · rw [if_pos hi, if_pos hi]
        obtain ⟨q, hq⟩ := Option.isSome_iff_exists.mp (hg i (List.mem_range.mpr hi))
        have : ivP h a i = q := by unfold ivP; rw [hc]; simp only [hq]; rfl
        rw [hq, this]
      · rw [if_neg hi, if_neg hi]
theorem ckH_ok {h : List hC} (e : ckH shapes h = true) : h.map nrm = H (ivT h) (ivP h) := by
  obtain ⟨hl, hat⟩ := ckH_at e
  apply List.ext_getElem?
  intro a
  rw [H_at, List.getElem?_map]
  cases hs : shapes[a]? with
  | none =>
    have := List.getElem?_eq_none_iff.mp hs
    rw [List.getElem?_eq_none_iff.mpr (by omega)]
    rfl
  | some s =>
    have := (List.getElem?_eq_some_iff.mp hs).1
    obtain ⟨c, hc⟩ : ∃ c, h[a]? = some c := ⟨_, List.getElem?_eq_getElem (by omega)⟩
    rw [hc]
    exact congrArg some (ckC_ok hc (hat a s c hs hc))
/-- the first state: nothing came, 60 hangers, the settings, the districts' words -/
def V00 : Nat → Nat → Int32 := fun a k => match a, k with
  | 0, 1 => 60
  | 1, 1 => 3
  | 1, 2 => 14
  | 1, 3 => 2
  | 2, _ => 127
  | _, _ => 0
def u00 : uT := (((fun _ => 0), V00, [], fun _ _ => 0), [])
def s00 : gT := (u00, none, [], 0, fun _ => 0)
theorem WF00 : WFu u00 := by
  refine ⟨⟨⟨by decide, by decide, by decide, by decide, by decide, by decide⟩, fun c h => absurd h (Nat.not_lt_zero c), ⟨⟨0, by decide, rfl⟩, ⟨14, by decide, by decide, rfl⟩, 3, by decide, rfl⟩, fun i b h => by simp [u00] at h, fun i j b c _ h => by simp [u00] at h, ⟨fun q h => by simp [u00] at h, List.Pairwise.nil, by decide⟩, fun i h => absurd h (Nat.not_lt_zero i), rfl⟩, by decide⟩
def ivS (T : Nat → Nat → Int32) (P : Nat → Nat → Nat) (o : Nat) : Bool := (List.range 8).all (fun i => decide (P (o + 8) i = o + 9 + 4 * i))
def ivC (T : Nat → Nat → Int32) (P : Nat → Nat → Nat) : Bool :=
  (List.range 4).all (fun k => decide (T 1 k = V00 0 k) && decide (T 2 k = V00 1 k) && decide (T 49 k = 0)) && (List.range 5).all (fun k => decide (T 3 k = 127)) && decide (T 4 0 = 0) && decide (T 8 1 = 0) && decide (T 8 2 = 0) && decide (T 42 3 = 0) && decide (T 46 2 = 0) && decide (T 50 1 = 0) && (List.range 10).any (fun l => decide (T 50 2 = nI l)) && decide (T 0 5 = 0) && decide (T 154 1 = 0) && (List.range 4).any (fun l => decide (T 154 2 = nI l)) && decide (T 360 1 = 0) &&
  [1, 52, 103, 156, 207, 258, 309].all (fun o => (List.range 8).all (fun i => decide (P (o + 8) i = o + 9 + 4 * i))) && (List.range 4).all (fun i => decide (P 155 i = 156 + 51 * i))
def ivR (T : Nat → Nat → Int32) (f : Nat → Int32) : Bool :=
  decide (T 366 0 = 0) && decide (T 366 6 = 0) && decide (T 366 4 = 0) && decide (T 366 8 = 0) && (List.range 4).all (fun k => decide (f k = V00 1 k)) && decide (f 7 = 60) && [4, 5, 6, 8, 9, 10, 11, 12, 13, 14, 15, 16, 17].all (fun k => decide (f k = 0)) && (List.range 5).all (fun d => decide (f (18 + d) = 127)) && (List.range 10).all (fun c => decide (f (24 + 3 * c + 1) = 0) && decide (f (24 + 3 * c + 2) = 0) && (List.range 64).all (fun k => decide (f (54 + 64 * c + k) = 0)))
theorem ivC_ok {T : Nat → Nat → Int32} {P : Nat → Nat → Nat} (h : ivC T P = true) : CG T T P s00 := by
  simp only [ivC, Bool.and_eq_true, List.all_eq_true, List.any_eq_true, decide_eq_true_eq, List.mem_range] at h
  obtain ⟨⟨⟨⟨⟨⟨⟨⟨⟨⟨⟨⟨⟨⟨h1, h2⟩, h3⟩, h4⟩, h5⟩, h6⟩, h7⟩, h8⟩, l, hl, h9⟩, h10⟩, h11⟩, l2, hl2, h12⟩, h13⟩, h14⟩, h15⟩ := h
  have pk : ∀ o, isB o → PK P o := fun o ho => by
    have hp : ∀ i, i < 8 → P (o + 8) i = o + 9 + 4 * i := fun i hi => h14 o (by unfold isB at ho; simp only [List.mem_cons, List.not_mem_nil, or_false]; exact ho) i hi
    exact ⟨fun i hi => ⟨i, hi, hp i hi⟩, fun i hi j hj e => by rw [hp i hi, hp j hj] at e; omega⟩
  refine ⟨⟨pk, h15⟩, ⟨⟨⟨fun k hk => (h1 k hk).1.1, fun k hk => (h1 k hk).1.2, fun k hk => h2 k hk, rfl⟩, ⟨h3, fun k hk => absurd hk (Nat.not_lt_zero k), fun k hk => absurd hk (Nat.not_lt_zero k), fun k hk => absurd hk (Nat.not_lt_zero k)⟩, ⟨pk 1 isB_1, h4, h5, fun i b hb => by simp [s00, u00] at hb⟩, ⟨h6, by decide, fun i c d n hb => by simp [s00, u00] at hb⟩, ⟨h7, by decide, fun i hi => absurd hi (Nat.not_lt_zero i)⟩, fun k hk => ?_, by decide, h8, l, hl, h9, fun g hg => absurd hg (Nat.not_lt_zero g)⟩, WF00⟩, h10, ⟨by decide, h11, l2, hl2, h12, fun g u hu => by simp [s00] at hu⟩, by decide, h13, fun i hi => absurd hi (Nat.not_lt_zero i), fun a _ => rfl⟩
  show T 49 k = V00 48 k
  rw [(h1 k hk).2]
  rfl
theorem ivR_ok {T : Nat → Nat → Int32} {f : Nat → Int32} (h : ivR T f = true) : CF T f s00 := by
  simp only [ivR, Bool.and_eq_true, List.all_eq_true, decide_eq_true_eq, List.mem_range] at h
  obtain ⟨⟨⟨⟨⟨⟨⟨⟨h1, h2⟩, h3⟩, h4⟩, h5⟩, h6⟩, h7⟩, h8⟩, h9⟩ := h
  have h7 : ∀ k ∈ [4, 5, 6, 8, 9, 10, 11, 12, 13, 14, 15, 16, 17], f k = 0 := h7
  refine ⟨⟨h1, h2, ⟨h3, by decide, fun g u hu => by simp [s00] at hu⟩, h4, by decide, fun i hi => absurd hi (Nat.not_lt_zero i)⟩, ⟨h5, ⟨h7 4 (by decide), h7 5 (by decide), h7 6 (by decide), h6⟩, ⟨h7 8 (by decide), h7 9 (by decide), h7 10 (by decide)⟩, fun k hk => ?_, ⟨h7 15 (by decide), h7 16 (by decide), h7 17 (by decide)⟩, h8, rfl⟩, fun c hc => ⟨fun q => absurd q (Nat.not_lt_zero c), (h9 c hc).1.1, (h9 c hc).1.2⟩, fun c hc k hk => (h9 c hc).2 k hk, fun i hi => absurd hi (Nat.not_lt_zero i), fun i hi => absurd hi (Nat.not_lt_zero i), fun g hg => absurd hg (Nat.not_lt_zero g)⟩
  show f (11 + k) = V00 48 k
  rw [show V00 48 k = 0 from rfl]
  exact h7 _ (by simp only [List.mem_cons, List.not_mem_nil, or_false]; omega)
def iniB (r : Option (Option Value × List hC × Nat × Nat)) (F : List hC → Option (Option Value × List hC × Nat × Nat)) : Bool := match r with
  | some (none, h, a, b) => decide (a = 365) && decide (b ≤ 20000) && decide (h.length = 366) && (match F h with
    | some (none, h2, a2, b2) => decide (a2 = 6) && decide (b2 ≤ 20000) && ckH shapes h2 && ivC (ivT h2) (ivP h2) && ivR (ivT h2) (ivT h2 367)
    | _ => false)
  | _ => false
theorem ini_ex {r : Option (Option Value × List hC × Nat × Nat)} {F : List hC → Option (Option Value × List hC × Nat × Nat)} (hb : iniB r F = true) : ∃ h h2 b b2, r = some (none, h, 365, b) ∧ b ≤ 20000 ∧ h.length = 366 ∧ F h = some (none, h2, 6, b2) ∧ b2 ≤ 20000 ∧ ∃ T P, h2.map nrm = H T P ∧ CG T T P s00 ∧ CF T (T 367) s00 := by
  unfold iniB at hb
  cases r with
  | none => cases hb
  | some v =>
    obtain ⟨v1, h, a, b⟩ := v
    cases v1 with
    | some _ => cases hb
    | none =>
      simp only [Bool.and_eq_true, decide_eq_true_eq] at hb
      obtain ⟨⟨⟨rfl, q1⟩, q2⟩, hb⟩ := hb
      cases h2 : F h with
      | none => rw [h2] at hb; cases hb
      | some w =>
        obtain ⟨w1, g, a2, b2⟩ := w
        rw [h2] at hb
        cases w1 with
        | some _ => cases hb
        | none =>
          simp only [Bool.and_eq_true, decide_eq_true_eq] at hb
          obtain ⟨⟨⟨⟨rfl, q3⟩, q4⟩, q5⟩, q6⟩ := hb
          exact ⟨h, g, b, b2, rfl, q1, q2, h2, q3, ivT g, ivP g, ckH_ok q4, ivC_ok q5, ivR_ok q6⟩
set_option maxRecDepth 1000000 in
theorem ini_b : iniB (exec 6000 89 0 (pad 89 [.ref 0]) [] [dflO 10]) (fun h => exec 2000 123 0 (pad 123 [.ref 366]) [] (h ++ [dflO 11])) = true := by decide +kernel
/-- both objects made: the heap of the fresh law -/
theorem ini : ∃ h h2 b b2, exec 6000 89 0 (pad 89 [.ref 0]) [] [dflO 10] = some (none, h, 365, b) ∧ b ≤ 20000 ∧ h.length = 366 ∧ exec 2000 123 0 (pad 123 [.ref 366]) [] (h ++ [dflO 11]) = some (none, h2, 6, b2) ∧ b2 ≤ 20000 ∧ ∃ T P, h2.map nrm = H T P ∧ CG T T P s00 ∧ CF T (T 367) s00 := ini_ex ini_b
