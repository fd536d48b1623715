/-! each call refuses and changes nothing, or goes on -/
/-- of now, of what is kept, of the history -/
def IG (n : Nat) (s : gT) : Prop := IV n s.1 ∧ (∀ v, s.2.1 = some v → IV n v) ∧ ∀ v ∈ s.2.2.1, IV n v
def STQ (n : Nat) (s : gT) (r : Int32 × gT) : Prop := (r.1 < 0 ∧ r.2 = s) ∨ (¬ r.1 < 0 ∧ ∃ u', r.2 = (u', s.2.1, psL s, s.2.2.2) ∧ IV (n + 27000000) u')
/-- an act's answer, and what it makes of now, don't depend on the history -/
def SM (g : gT → Int32 × gT) : Prop := ∀ (u : uT) (k : Option uT) (L : List uT) (t : Nat × (Nat → Int32)) (L' : List uT) (t' : Nat × (Nat → Int32)), (g (u, k, L, t)).1 = (g (u, k, L', t')).1 ∧ (g (u, k, L, t)).2.1 = (g (u, k, L', t')).2.1
section CALLS
variable {n : Nat} {s : gT}
theorem st_no {a : Int32} (h : a < 0) : STQ n s (a, s) := Or.inl ⟨h, rfl⟩
theorem st_yes {a : Int32} {u : uT} (h : ¬ a < 0) (hu : IV (n + 27000000) u) : STQ n s (a, u, s.2.1, psL s, s.2.2.2) := Or.inr ⟨h, u, rfl, hu⟩
theorem IG.mono {m : Nat} (h : IG n s) (hm : n ≤ m) : IG m s := ⟨h.1.mono hm, fun v hv => (h.2.1 v hv).mono hm, fun v hv => (h.2.2 v hv).mono hm⟩
theorem IG.ps {m : Nat} {u : uT} (h : IG n s) (hu : IV m u) (hm : n ≤ m) {t : Nat × (Nat → Int32)} : IG m (u, s.2.1, psL s, t) := by
  refine ⟨hu, fun v hv => (h.2.1 v hv).mono hm, fun v hv => ?_⟩
  have hv : v ∈ s.1 :: s.2.2.1 := List.mem_of_mem_take hv
  rcases List.mem_cons.mp hv with hv | hv
  · rw [hv]; exact h.1.mono hm
  · exact (h.2.2 v hv).mono hm
theorem ok_cust (hw : WG s) (hi : IG n s) (d : Int32) : STQ n s (gCust d s) := by
  unfold gCust
  split
  · exact st_no (by decide)
  split
  · exact st_yes (nI_nn (by have := hw.1.1.1.2.1; omega)) ((hi.1.cust d).mono (by omega))
  · exact st_no (by decide)
theorem ok_vis (hi : IG n s) (d x : Int32) : STQ n s (gVis d x s) := by
  unfold gVis
  split
  · exact st_no (by decide)
  rename_i c1
  split
  · exact st_no (by decide)
  rename_i c2
  split
  · exact st_no (by decide)
  · obtain ⟨k, hk, rfl⟩ := inI_ex (n := 4) (by decide) c1
    obtain ⟨y, hy, rfl⟩ := inI_ex (n := 127) (by decide) c2
    rw [nI_clamp (by omega)]
    obtain ⟨z, hz, ez⟩ := hi.1.2.2.1.1 k (by omega)
    refine st_yes ?_ ((hi.1.vis hy).mono (by omega))
    rw [ez]
    exact nI_nn (by omega)
theorem ok_bask (hw : WG s) (hi : IG n s) (c p st g : Int32) : STQ n s (gBask c p st g s) := by
  unfold gBask
  split
  · rename_i q
    exact st_no q
  · rename_i q
    exact st_yes (nI_nn (by have := hw.1.1.1.2.2.1; omega)) ((hi.1.bk hw.1 q).mono (by omega))
theorem ok_lose (hw : WG s) (hi : IG n s) (x k : Int32) : STQ n s (gLose x k s) := by
  unfold gLose
  split
  · exact st_no (by decide)
  rename_i i hq
  split
  · exact st_no (by decide)
  rename_i c1
  split
  · rename_i c2
    split
    · obtain ⟨q, hq3, rfl⟩ := inI_ex (n := 3) (by decide) c1
      rw [nI_clamp (by omega)]
      have hil := (fstN_some hq).2.1
      exact st_yes (nI_nn (by omega)) ((hi.1.lose (by omega) (by omega)).mono (by omega))
    · exact st_no (by decide)
  · exact st_no (by decide)
theorem ok_find (hw : WG s) (hi : IG n s) (p x : Int32) : STQ n s (gFind p x s) := by
  unfold gFind
  split
  · exact st_no (by decide)
  rename_i i hq
  split
  · rename_i c1
    have h20 := hw.1.1.1.2.2.2.2.1
    obtain ⟨p', hp, rfl⟩ := nI_ex c1.1 (by omega) c1.2
    rw [nI_clamp (by omega)]
    obtain ⟨k, hk, ek⟩ := hw.1.1.2.2.2.2.2.2.1 p' hp
    split
    · rename_i c2
      rw [ek, nI_clamp (by omega)] at c2 ⊢
      have hil := (fstN_some hq).2.1
      exact st_yes (nI_nn (by omega)) ((hi.1.find (by omega) hk hp ek c2.2).mono (by omega))
    · exact st_no (by decide)
  · exact st_no (by decide)
theorem ok_iron (hi : IG n s) (hn : n < 2 ^ 31) (m : Int32) : STQ n s (gIron m s) := by
  unfold gIron
  split
  · exact st_no (by decide)
  · have := irS_le s.1.1.1 288 s.1.1.2.1 s.1.2 m
    exact st_yes (nI_nn (by omega)) ((hi.1.iron hn m).mono (by omega))
theorem ok_pass (hw : WG s) (hi : IG n s) (d : Int32) : STQ n s (gPass d s) := by
  unfold gPass
  split
  · exact st_no (by decide)
  rename_i c1
  split
  · exact st_no (by decide)
  rename_i c2
  obtain ⟨k, hk1, hk, rfl⟩ := inI_ex2 (m := 1) (n := 99) (by decide) (by decide) c1
  have h99 : s.1.1.1 0 + k ≤ 9999 := by
    have := hw.1.2
    rw [nI_add, show (9999 : Int32) = nI 9999 from rfl, nI_ltp (by decide) (by omega)] at c2
    omega
  rw [nI_clamp (show k < 2 ^ 31 by omega)]
  obtain ⟨-, y, hy, ey⟩ := psT_nn hw.1.1.1.2.2.2.1 k
  refine st_yes ?_ ((hi.1.pass hw.1 h99 k (Nat.le_refl _)).mono (by omega))
  rw [ey]
  exact nI_nn (by omega)
theorem ok_buy (hi : IG n s) (hn : n + 99 < 2 ^ 31) (d : Int32) : STQ n s (gBuy d s) := by
  unfold gBuy
  split
  · exact st_no (by decide)
  rename_i c1
  split
  · exact st_no (by decide)
  · obtain ⟨k, -, hk, rfl⟩ := inI_ex2 (m := 1) (n := 99) (by decide) (by decide) c1
    obtain ⟨st, h1, h2⟩ := hi.1.1
    refine st_yes ?_ ((hi.1.buy (x := k)).mono (by omega))
    rw [h2, nI_add]
    exact nI_nn (by omega)
theorem ok_pay (hw : WG s) (hi : IG n s) (hn : n < 2 ^ 31) (c : Int32) : STQ n s (gPay c s) := by
  unfold gPay
  split
  · rename_i c1
    have h10 := hw.1.1.1.2.1
    obtain ⟨k, hk, rfl⟩ := nI_ex c1.1 (by omega) c1.2
    rw [nI_clamp (by omega)]
    split
    · exact st_no (by decide)
    · obtain ⟨y, hy, ey⟩ := hi.1.2.1 k hk
      refine st_yes ?_ (hi.1.pay.mono (by omega))
      rw [ey]
      exact nI_nn (by omega)
  · exact st_no (by decide)
theorem ok_rest (hw : WG s) (hi : IG n s) : STQ n s (gRest s) := by
  obtain ⟨u, k, L, t⟩ := s
  cases k with
  | none => exact st_no (by decide)
  | some v =>
    have hv := (hw.2.2 v rfl).2
    exact st_yes (s := (u, some v, L, t)) (nI_nn (by omega)) ((hi.2.1 v rfl).mono (by omega))
theorem ok_set (hw : WG s) (hi : IG n s) (w v : Int32) : STQ n s (gSet w v s) := by
  unfold gSet
  split
  · exact st_no (by decide)
  rename_i c1
  split
  · exact st_no (by decide)
  rename_i c2
  split
  · exact st_no (by decide)
  · obtain ⟨⟨a, ha, ea⟩, ⟨b, -, hb, eb⟩, c, hc, ec⟩ := hw.1.1.2.2.1
    obtain ⟨p, hp, ep⟩ := hi.1.2.2.1.2
    obtain ⟨k, hk, rfl⟩ := inI_ex (n := 3) (by decide) c1
    rw [nI_clamp (by omega)]
    have hk4 : k = 0 ∨ k = 1 ∨ k = 2 ∨ k = 3 := by omega
    have hv : ∃ y, y ≤ 99 ∧ v = nI y := by
      rcases hk4 with rfl | rfl | rfl | rfl
      · obtain ⟨y, -, hy, e⟩ := inI_ex2 (m := 0) (n := 2) (by decide) (by decide) c2
        exact ⟨y, by omega, e⟩
      · obtain ⟨y, -, hy, e⟩ := inI_ex2 (m := 0) (n := 20) (by decide) (by decide) c2
        exact ⟨y, by omega, e⟩
      · obtain ⟨y, -, hy, e⟩ := inI_ex2 (m := 1) (n := 60) (by decide) (by decide) c2
        exact ⟨y, by omega, e⟩
      · obtain ⟨y, -, hy, e⟩ := inI_ex2 (m := 0) (n := 99) (by decide) (by decide) c2
        exact ⟨y, by omega, e⟩
    obtain ⟨y, hy, rfl⟩ := hv
    refine st_yes ?_ ((hi.1.set hy).mono (by omega))
    rcases hk4 with rfl | rfl | rfl | rfl
    · rw [ea]; exact nI_nn (by omega)
    · rw [ec]; exact nI_nn (by omega)
    · rw [eb]; exact nI_nn (by omega)
    · rw [ep]; exact nI_nn (by omega)
/-- an act -/
theorem ok_act (hw : WG s) (hi : IG n s) (hn : n + 99 < 2 ^ 31) (v w : Int32) : STQ n s (aT v w s) := by
  unfold aT
  by_cases c0 : v &&& 15 = 0
  · rw [if_pos c0]; exact ok_cust hw hi _
  rw [if_neg c0]
  by_cases c1 : v &&& 15 = 1
  · rw [if_pos c1]; exact ok_vis hi _ _
  rw [if_neg c1]
  by_cases c2 : v &&& 15 = 2
  · rw [if_pos c2]; exact ok_bask hw hi _ _ _ _
  rw [if_neg c2]
  by_cases c3 : v &&& 15 = 3
  · rw [if_pos c3]; exact ok_bask hw hi _ _ _ _
  rw [if_neg c3]
  by_cases c4 : v &&& 15 = 4
  · rw [if_pos c4]; exact ok_bask hw hi _ _ _ _
  rw [if_neg c4]
  by_cases c5 : v &&& 15 = 5
  · rw [if_pos c5]; exact ok_bask hw hi _ _ _ _
  rw [if_neg c5]
  by_cases c6 : v &&& 15 = 6
  · rw [if_pos c6]; exact ok_lose hw hi _ _
  rw [if_neg c6]
  by_cases c7 : v &&& 15 = 7
  · rw [if_pos c7]; exact ok_find hw hi _ _
  rw [if_neg c7]
  by_cases c8 : v &&& 15 = 8
  · rw [if_pos c8]; exact ok_iron hi (by omega) _
  rw [if_neg c8]
  by_cases c9 : v &&& 15 = 9
  · rw [if_pos c9]; exact ok_iron hi (by omega) _
  rw [if_neg c9]
  by_cases c10 : v &&& 15 = 10
  · rw [if_pos c10]; exact ok_iron hi (by omega) _
  rw [if_neg c10]
  by_cases c11 : v &&& 15 = 11
  · rw [if_pos c11]; exact ok_buy hi hn _
  rw [if_neg c11]
  by_cases c12 : v &&& 15 = 12
  · rw [if_pos c12]
    unfold aPay
    by_cases d : w &&& 3 = 0
    · rw [if_pos d]; exact ok_rest hw hi
    · rw [if_neg d]; exact ok_pay hw hi (by omega) _
  rw [if_neg c12]
  by_cases c13 : v &&& 15 = 13
  · rw [if_pos c13]; exact ok_set hw hi _ _
  rw [if_neg c13]
  exact ok_pass hw hi _
theorem sm_cust (d : Int32) : SM (gCust d) := by
  intro u k L t L' t'
  unfold gCust
  by_cases c1 : inI d 0 4 = 0
  · rw [if_pos c1, if_pos c1]; exact ⟨rfl, rfl⟩
  rw [if_neg c1, if_neg c1]
  by_cases c2 : u.1.1 1 < 10
  · rw [if_pos c2, if_pos c2]; exact ⟨rfl, rfl⟩
  · rw [if_neg c2, if_neg c2]; exact ⟨rfl, rfl⟩
theorem sm_vis (d x : Int32) : SM (gVis d x) := by
  intro u k L t L' t'
  unfold gVis
  by_cases c1 : inI d 0 4 = 0
  · rw [if_pos c1, if_pos c1]; exact ⟨rfl, rfl⟩
  rw [if_neg c1, if_neg c1]
  by_cases c2 : inI x 0 127 = 0
  · rw [if_pos c2, if_pos c2]; exact ⟨rfl, rfl⟩
  rw [if_neg c2, if_neg c2]
  by_cases c3 : u.1.2.1 2 d.toNatClampNeg = x
  · rw [if_pos c3, if_pos c3]; exact ⟨rfl, rfl⟩
  · rw [if_neg c3, if_neg c3]; exact ⟨rfl, rfl⟩
theorem sm_bask (c p st g : Int32) : SM (gBask c p st g) := by
  intro u k L t L' t'
  unfold gBask
  by_cases c1 : rfU u c p st g < 0
  · rw [if_pos c1, if_pos c1]; exact ⟨rfl, rfl⟩
  · rw [if_neg c1, if_neg c1]; exact ⟨rfl, rfl⟩
theorem sm_lose (x q : Int32) : SM (gLose x q) := by
  intro u k L t L' t'
  unfold gLose
  dsimp only
  cases wnK x u.2 with
  | none => exact ⟨rfl, rfl⟩
  | some i =>
    dsimp only
    by_cases c1 : inI q 0 3 = 0
    · rw [if_pos c1, if_pos c1]; exact ⟨rfl, rfl⟩
    rw [if_neg c1, if_neg c1]
    by_cases c2 : u.1.1 3 < 20
    · rw [if_pos c2, if_pos c2]
      by_cases c3 : 0 < opK (gK u.2 i) q.toNatClampNeg
      · rw [if_pos c3, if_pos c3]; exact ⟨rfl, rfl⟩
      · rw [if_neg c3, if_neg c3]; exact ⟨rfl, rfl⟩
    · rw [if_neg c2, if_neg c2]; exact ⟨rfl, rfl⟩
theorem sm_find (p x : Int32) : SM (gFind p x) := by
  intro u k L t L' t'
  unfold gFind
  dsimp only
  cases wnK x u.2 with
  | none => exact ⟨rfl, rfl⟩
  | some i =>
    dsimp only
    by_cases c1 : hsI (u.1.1 3) p
    · rw [if_pos c1, if_pos c1]
      by_cases c2 : 0 < gK u.2 i 3 (u.1.2.1 46 p.toNatClampNeg).toNatClampNeg ∧ dgI (gK u.2 i 0 3) (u.1.2.1 46 p.toNatClampNeg).toNatClampNeg = u.1.2.1 47 p.toNatClampNeg
      · rw [if_pos c2, if_pos c2]; exact ⟨rfl, rfl⟩
      · rw [if_neg c2, if_neg c2]; exact ⟨rfl, rfl⟩
    · rw [if_neg c1, if_neg c1]; exact ⟨rfl, rfl⟩
theorem sm_iron (m : Int32) : SM (gIron m) := by
  intro u k L t L' t'
  unfold gIron
  by_cases c1 : inI m 1 600 = 0
  · rw [if_pos c1, if_pos c1]; exact ⟨rfl, rfl⟩
  · rw [if_neg c1, if_neg c1]; exact ⟨rfl, rfl⟩
theorem sm_pass (d : Int32) : SM (gPass d) := by
  intro u k L t L' t'
  unfold gPass
  by_cases c1 : inI d 1 99 = 0
  · rw [if_pos c1, if_pos c1]; exact ⟨rfl, rfl⟩
  rw [if_neg c1, if_neg c1]
  by_cases c2 : 9999 < nI (u.1.1 0) + d
  · rw [if_pos c2, if_pos c2]; exact ⟨rfl, rfl⟩
  · rw [if_neg c2, if_neg c2]; exact ⟨rfl, rfl⟩
theorem sm_buy (d : Int32) : SM (gBuy d) := by
  intro u k L t L' t'
  unfold gBuy
  by_cases c1 : inI d 1 99 = 0
  · rw [if_pos c1, if_pos c1]; exact ⟨rfl, rfl⟩
  rw [if_neg c1, if_neg c1]
  by_cases c2 : 999 < svI u + d
  · rw [if_pos c2, if_pos c2]; exact ⟨rfl, rfl⟩
  · rw [if_neg c2, if_neg c2]; exact ⟨rfl, rfl⟩
theorem sm_pay (c : Int32) : SM (gPay c) := by
  intro u k L t L' t'
  unfold gPay
  by_cases c1 : hsI (u.1.1 1) c
  · rw [if_pos c1, if_pos c1]
    by_cases c2 : u.1.2.1 5 c.toNatClampNeg = 0
    · rw [if_pos c2, if_pos c2]; exact ⟨rfl, rfl⟩
    · rw [if_neg c2, if_neg c2]; exact ⟨rfl, rfl⟩
  · rw [if_neg c1, if_neg c1]; exact ⟨rfl, rfl⟩
theorem sm_rest : SM gRest := by
  intro u k L t L' t'
  cases k with
  | none => exact ⟨rfl, rfl⟩
  | some v => exact ⟨rfl, rfl⟩
theorem sm_set (w v : Int32) : SM (gSet w v) := by
  intro u k L t L' t'
  unfold gSet
  by_cases c1 : inI w 0 3 = 0
  · rw [if_pos c1, if_pos c1]; exact ⟨rfl, rfl⟩
  rw [if_neg c1, if_neg c1]
  by_cases c2 : inI v (loI w) (hiI w) = 0
  · rw [if_pos c2, if_pos c2]; exact ⟨rfl, rfl⟩
  rw [if_neg c2, if_neg c2]
  by_cases c3 : u.1.2.1 1 w.toNatClampNeg = v
  · rw [if_pos c3, if_pos c3]; exact ⟨rfl, rfl⟩
  · rw [if_neg c3, if_neg c3]; exact ⟨rfl, rfl⟩
theorem sm_act (v w : Int32) : SM (aT v w) := by
  intro u k L t L' t'
  unfold aT
  by_cases c0 : v &&& 15 = 0
  · rw [if_pos c0, if_pos c0]; exact sm_cust _ u k L t L' t'
  rw [if_neg c0, if_neg c0]
  by_cases c1 : v &&& 15 = 1
  · rw [if_pos c1, if_pos c1]; exact sm_vis _ _ u k L t L' t'
  rw [if_neg c1, if_neg c1]
  by_cases c2 : v &&& 15 = 2
  · rw [if_pos c2, if_pos c2]; exact sm_bask _ _ _ _ u k L t L' t'
  rw [if_neg c2, if_neg c2]
  by_cases c3 : v &&& 15 = 3
  · rw [if_pos c3, if_pos c3]; exact sm_bask _ _ _ _ u k L t L' t'
  rw [if_neg c3, if_neg c3]
  by_cases c4 : v &&& 15 = 4
  · rw [if_pos c4, if_pos c4]; exact sm_bask _ _ _ _ u k L t L' t'
  rw [if_neg c4, if_neg c4]
  by_cases c5 : v &&& 15 = 5
  · rw [if_pos c5, if_pos c5]; exact sm_bask _ _ _ _ u k L t L' t'
  rw [if_neg c5, if_neg c5]
  by_cases c6 : v &&& 15 = 6
  · rw [if_pos c6, if_pos c6]; exact sm_lose _ _ u k L t L' t'
  rw [if_neg c6, if_neg c6]
  by_cases c7 : v &&& 15 = 7
  · rw [if_pos c7, if_pos c7]; exact sm_find _ _ u k L t L' t'
  rw [if_neg c7, if_neg c7]
  by_cases c8 : v &&& 15 = 8
  · rw [if_pos c8, if_pos c8]; exact sm_iron _ u k L t L' t'
  rw [if_neg c8, if_neg c8]
  by_cases c9 : v &&& 15 = 9
  · rw [if_pos c9, if_pos c9]; exact sm_iron _ u k L t L' t'
  rw [if_neg c9, if_neg c9]
  by_cases c10 : v &&& 15 = 10
  · rw [if_pos c10, if_pos c10]; exact sm_iron _ u k L t L' t'
  rw [if_neg c10, if_neg c10]
  by_cases c11 : v &&& 15 = 11
  · rw [if_pos c11, if_pos c11]; exact sm_buy _ u k L t L' t'
  rw [if_neg c11, if_neg c11]
  by_cases c12 : v &&& 15 = 12
  · rw [if_pos c12, if_pos c12]
    unfold aPay
    by_cases d : w &&& 3 = 0
    · rw [if_pos d, if_pos d]; exact sm_rest u k L t L' t'
    · rw [if_neg d, if_neg d]; exact sm_pay _ u k L t L' t'
  rw [if_neg c12, if_neg c12]
  by_cases c13 : v &&& 15 = 13
  · rw [if_pos c13, if_pos c13]; exact sm_set _ _ u k L t L' t'
  rw [if_neg c13, if_neg c13]
  exact sm_pass _ u k L t L' t'
end CALLS
