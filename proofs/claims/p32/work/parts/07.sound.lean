/-! the machine does what the small machine does: calls, new cells, ends, and the whole -/
theorem lref_ok {oc i k j : Nat} (h : lref oc i = some (k, j)) :
    (k = 0 → j < mtab.length ∧ (mP j).1 = 0 ∧ Cond.methodLink (fR oc) i (mN j) ∈ gw) ∧ (k = 1 → j < mtab.length ∧ (mP j).1 = 2 ∧ Cond.methodLink (fR oc) i (mN j) ∈ gw) ∧
    (k = 2 → j < mtab.length ∧ (mP j).1 = 1 ∧ Cond.methodLink (fR oc) i (mN j) ∈ gw) ∧ (k = 3 → j < mtab.length ∧ (mP j).1 = 1 ∧ (fR oc, i, mN j, RX10) ∈ ntab) ∧ (k = 4 → j < mtab.length ∧ (mP j).1 = 2 ∧ (fR oc, i, mN j, RX10) ∈ ntab) ∧
    (k = 5 → Cond.methodLink (fR oc) i Lib.objectInit ∈ gw) ∧ (k = 7 → Cond.methodLink (fR oc) i Lib.Math.min.name ∈ gw) ∧ (k = 8 → Cond.methodLink (fR oc) i arraycopyName ∈ gw) := by
  unfold lref at h
  cases he : ltab.find? (fun e => e.1 == oc && e.2.1 == i) with
  | none => rw [he] at h; cases h
  | some e =>
    rw [he] at h
    have h1 := List.find?_some he
    have h2 := List.all_eq_true.mp ltab_ok e (List.mem_of_find?_eq_some he)
    obtain ⟨a, b, c, d, q⟩ := e
    cases h
    simp only [Bool.and_eq_true, beq_iff_eq] at h1
    obtain ⟨rfl, rfl⟩ := h1
    refine ⟨?_, ?_, ?_, ?_, ?_, ?_, ?_, ?_⟩
    all_goals
      intro hk
      subst hk
      simp only [Bool.and_eq_true, decide_eq_true_eq] at h2
    · exact ⟨h2.1.1, h2.1.2, lw_at h2.2 rfl⟩
    · exact ⟨h2.1.1, h2.1.2, lw_at h2.2 rfl⟩
    · exact ⟨h2.1.1, h2.1.2, lw_at h2.2 rfl⟩
    · exact ⟨h2.1.1, h2.1.2, List.mem_of_getElem? h2.2⟩
    · exact ⟨h2.1.1, h2.1.2, List.mem_of_getElem? h2.2⟩
    · exact lw_at h2 rfl
    · exact lw_at h2 rfl
    · exact lw_at h2 rfl
theorem jdk_at : Cond.instanceMethod Lib.objectInit ∈ gw ∧ Cond.code Lib.objectInit ⟨#[0xb1]⟩ 1 none ∈ gw ∧ Cond.initialized "java/lang/Math" ∈ gw ∧ Cond.initialized "java/lang/System" ∈ gw ∧ Cond.static Lib.Math.min.name ∈ gw ∧ Cond.code Lib.Math.min.name Lib.Math.min.code 2 (some .int) ∈ gw ∧ Cond.static arraycopyName ∈ gw ∧ Cond.native arraycopyName ∈ gw ∧ Cond.arrayClass .int ∈ gw ∧ Cond.arrayClass .char ∈ gw := by
  have h := jdk_ok
  simp only [Bool.and_eq_true, decide_eq_true_eq] at h
  obtain ⟨⟨⟨⟨⟨⟨⟨⟨⟨h1, h2⟩, h3⟩, h4⟩, h5⟩, h6⟩, h7⟩, h8⟩, h9⟩, h10⟩ := h
  exact ⟨lw_at h1 rfl, lw_at h2 rfl, lw_at h3 rfl, lw_at h4 rfl, lw_at h5 rfl, lw_at h6 rfl, lw_at h7 rfl, lw_at h8 rfl, lw_at h9 rfl, lw_at h10 rfl⟩
theorem mlen : mtab.length = 127 := by decide +kernel
theorem mcode_at {j : Nat} (hj : j < mtab.length) : Cond.code (mN j) (mB j) (mL j) (mR j) ∈ gw := by
  rw [mlen] at hj
  have h := congrArg (fun z => z[j]?) codes_ok
  simp only [List.getElem?_map, List.getElem?_range hj, Option.map_some] at h
  exact lw_at (Option.some.inj h) rfl
theorem mrow_at {j : Nat} (hj : j < mtab.length) : Cond.initialized (mN j).cls ∈ gw ∧ (mN j).cls = fR (mC j) ∧ (mC j < 12 ∨ (mP j).1 = 2) ∧ plainName (mN j).cls = true ∧ (mN j).cls ≠ "java/lang/invoke/MethodHandle" ∧ (mN j).cls ≠ "java/lang/invoke/VarHandle" ∧
    ((mP j).1 = 0 → Cond.instanceMethod (mN j) ∈ gw ∧ Cond.selects (mN j).cls (mN j) (mN j) ∈ gw ∧ (parseMethodDescriptor (mN j).desc).map (fun d => d.parameters.length + 1) = some (mA j)) ∧
    ((mP j).1 = 1 → Cond.instanceMethod (mN j) ∈ gw ∧ (mN j).name = "<init>" ∧ mR j = none ∧ (parseMethodDescriptor (mN j).desc).map (fun d => d.parameters.length + 1) = some (mA j)) ∧
    ((mP j).1 = 2 → Cond.static (mN j) ∈ gw ∧ (parseMethodDescriptor (mN j).desc).map (fun d => d.parameters.length) = some (mA j)) := by
  have h := List.all_eq_true.mp mtab_ok j (List.mem_range.mpr hj)
  simp only [Bool.and_eq_true, Bool.or_eq_true, decide_eq_true_eq] at h
  obtain ⟨⟨⟨⟨⟨⟨h1, h2⟩, h3⟩, h4⟩, h5⟩, h6⟩, h7⟩ := h
  refine ⟨lw_at h1 rfl, h2, h3, h4, h5, h6, fun q => ?_, fun q => ?_, fun q => ?_⟩
  · rw [q] at h7
    simp only [Bool.and_eq_true, decide_eq_true_eq] at h7
    exact ⟨lw_at h7.1.1 rfl, lw_at h7.1.2 rfl, h7.2⟩
  · rw [q] at h7
    simp only [Bool.and_eq_true, decide_eq_true_eq] at h7
    exact ⟨lw_at h7.1.1.1 rfl, h7.1.1.2, h7.1.2, h7.2⟩
  · rw [q] at h7
    simp only [Bool.and_eq_true, decide_eq_true_eq] at h7
    exact ⟨lw_at h7.1 rfl, h7.2⟩
theorem gw_all {ws : List Cond} (h : ∀ w ∈ ws, w ∈ gw) : GoodIn gw ws := fun w hw => ⟨h w hw, good_of_word (gw_good w (h w hw))⟩
abbrev wsm (j : Nat) : List Cond := .code (mN j) (mB j) (mL j) (mR j) :: gw
theorem wsm_in {j : Nat} (hj : j < mtab.length) : ∀ w ∈ wsm j, w ∈ gw := fun w hw => (List.mem_cons.mp hw).elim (fun e => e ▸ mcode_at hj) id
theorem desc_n {j n : Nat} (h : (parseMethodDescriptor (mN j).desc).map (fun d => d.parameters.length + 1) = some (n + 1)) : (parseMethodDescriptor (mN j).desc).map (fun d => d.parameters.length) = some n := by
  cases hp : parseMethodDescriptor (mN j).desc with
  | none => rw [hp] at h; cases h
  | some d => rw [hp] at h; simp only [Option.map_some, Option.some.injEq] at h ⊢; omega
theorem no6 {oc i : Nat} (j : Nat) : lref oc i ≠ some (6, j) := by
  intro h
  unfold lref at h
  cases he : ltab.find? (fun e => e.1 == oc && e.2.1 == i) with
  | none => rw [he] at h; cases h
  | some e =>
    rw [he] at h
    have h2 := List.all_eq_true.mp ltab_ok e (List.mem_of_find?_eq_some he)
    obtain ⟨a, b, c, d, q⟩ := e
    cases h
    have h2 : false = true := h2
    cases h2
section SND
variable {p : Program} {l : Launch} {e : Env} {R : Room} {s : State} {m : MethodId} {args : Array Value} {below : List Frame} {meth : Method} {c : Code} {H : Heap} {locs : List Loc} {cells slots : Nat} {Q : State → Prop} {b : Nat} {t : Nat → Nat} {ac : Nat → ClassId} {D : va_G} {i pc len : Nat} {ls : Array Slot} {L S : List Value} {h : List hC}
theorem s_invS {pc' idx : Nat} {L' S' : List Value} {h' : List hC} (C : Ctx b t ac D p s m args meth c R i) (hd : decode (mB i) pc = .ok (.invokestatic idx, len)) (ha : act i pc (.invokestatic idx) len L S h = some (.inl (pc', L', S', h'))) (hL : LR (ad b t) ls (mL i) L) (hW : WH b t ac D h H) (hS : va_S (fun q => b ≤ q) s.heap H locs) (hlen : h.length ≤ sB) (hcs : cells ≤ R.cells ∧ slots ≤ R.slots)
    (k : ∀ (ls' : Array Slot) (H' : Heap) (locs' : List Loc), LR (ad b t) ls' (mL i) L' → WH b t ac D h' H' → va_S (fun q => b ≤ q) s.heap H' locs' → W p l e R s m args below meth c H' locs' cells slots Q (F0 m pc' ls' (S'.map (cv (ad b t))))) : W p l e R s m args below meth c H locs cells slots Q (F0 m pc ls (S.map (cv (ad b t)))) := by
  obtain ⟨hx, hb, hr, hml, hown, hts, hlocks, hin, hE, hfr, hlo, hbs⟩ := C
  have jd := jdk_at
  have ha' := ite_some ha; clear ha; obtain ⟨rfl, ha⟩ := ha'
  unfold invS at ha
  split at ha
  · split at ha
    · cases ha
    · cases ha
  · split at ha
    · cases ha
    · cases ha
  · exfalso; rename_i hl; exact absurd hl (no6 _)
  · rename_i hl
    split at ha
    · split at ha
      · rename_i hc
        simp only [Bool.and_eq_true, decide_eq_true_eq] at hc
        cases ha
        have hk := k _ _ _ hL hW hS
        exact va_mmin hx hb (by rw [hml, hL.1]) hown (hts _ ((lref_ok hl).2.2.2.2.2.2.1 rfl)) (hts _ jd.2.2.2.2.1) (hts _ jd.2.2.1) (hts _ jd.2.2.2.2.2.1) (by omega) (by rw [cat_sum _ hc.2]; omega) hcs.1 hcs.2 hd hk
      · cases ha
    · cases ha
  · rename_i hl
    split at ha
    · rename_i n dp a1 sp a0 S0
      split at ha
      · rename_i hc
        simp only [Bool.and_eq_true, decide_eq_true_eq] at hc
        split at ha
        · rename_i y hy
          cases ha
          obtain ⟨n0, f, n1, g, h0, h1, ⟨g1, g2, g3, g4, g5⟩, rfl⟩ := cpyI_ok hy
          have rn := room_nat
          refine va_copyi hx hb (by rw [hml, hL.1]) hown (hts _ ((lref_ok hl).2.2.2.2.2.2.2 rfl)) (hts _ jd.2.2.2.2.2.2.2.1) (hts _ jd.2.2.2.2.2.2.1) (hts _ jd.2.2.2.1) hE.1 hW (wz_D hlen) hS a0 a1 0 0 (wz_at h0) (wz_at h1) rfl rfl rfl g1 g2 g3 g4 g5 (fun _ _ => rfl) (by omega) (by rw [cat_sum _ hc.2]; omega) hd (fun H1 locs1 hP1 _ hS1 => k _ _ _ hL (by
            have he1 := wz_set (ad b t) ac h a1 (.inr (0, n1, .inl (va_cpy f g sp.toNatClampNeg dp.toNatClampNeg n.toNatClampNeg)))
            unfold WH
            rw [← he1]
            exact hP1) hS1)
        · cases ha
      · cases ha
    · cases ha
  · cases ha
theorem s_invI {pc' idx : Nat} {L' S' : List Value} {h' : List hC} (C : Ctx b t ac D p s m args meth c R i) (hd : decode (mB i) pc = .ok (.invokespecial idx, len)) (ha : act i pc (.invokespecial idx) len L S h = some (.inl (pc', L', S', h'))) (hL : LR (ad b t) ls (mL i) L) (hW : WH b t ac D h H) (hS : va_S (fun q => b ≤ q) s.heap H locs) (hlen : h.length ≤ sB) (hcs : cells ≤ R.cells ∧ slots ≤ R.slots)
    (k : ∀ (ls' : Array Slot) (H' : Heap) (locs' : List Loc), LR (ad b t) ls' (mL i) L' → WH b t ac D h' H' → va_S (fun q => b ≤ q) s.heap H' locs' → W p l e R s m args below meth c H' locs' cells slots Q (F0 m pc' ls' (S'.map (cv (ad b t))))) : W p l e R s m args below meth c H locs cells slots Q (F0 m pc ls (S.map (cv (ad b t)))) := by
  obtain ⟨hx, hb, hr, hml, hown, hts, hlocks, hin, hE, hfr, hlo, hbs⟩ := C
  have jd := jdk_at
  have ha' := ite_some ha; clear ha; obtain ⟨rfl, ha⟩ := ha'
  unfold invI at ha
  split at ha
  · repeat' split at ha
    all_goals (cases ha)
  · repeat' split at ha
    all_goals (cases ha)
  · rename_i hl
    split at ha
    · split at ha
      · rename_i hc
        simp only [Bool.and_eq_true, decide_eq_true_eq] at hc
        cases ha
        have hk := k _ _ _ hL hW hS
        refine W.objInit hx hb hown (hts _ ((lref_ok hl).2.2.2.2.2.1 rfl)) (hts _ jd.1) (hts _ jd.2.1) rfl (by rw [hml]; exact hL.1) rfl hd (by omega) (by
          show 2 * 0 + _ + 12 ≤ _
          rw [cat_sum _ hc.2]; omega) ?_
        exact W.eq rfl hk
      · cases ha
    · cases ha
  · cases ha
theorem s_next {ins : Instr} {pc' : Nat} {L' S' : List Value} {h' : List hC} (C : Ctx b t ac D p s m args meth c R i) (hd : decode (mB i) pc = .ok (ins, len)) (ha : act i pc ins len L S h = some (.inl (pc', L', S', h'))) (hL : LR (ad b t) ls (mL i) L) (hW : WH b t ac D h H) (hS : va_S (fun q => b ≤ q) s.heap H locs) (hlen : h.length ≤ sB) (hcs : cells ≤ R.cells ∧ slots ≤ R.slots)
    (k : ∀ (ls' : Array Slot) (H' : Heap) (locs' : List Loc), LR (ad b t) ls' (mL i) L' → WH b t ac D h' H' → va_S (fun q => b ≤ q) s.heap H' locs' → W p l e R s m args below meth c H' locs' cells slots Q (F0 m pc' ls' (S'.map (cv (ad b t))))) : W p l e R s m args below meth c H locs cells slots Q (F0 m pc ls (S.map (cv (ad b t)))) := by
  cases ins
  case aload => exact s_aload C hd ha hL hW hS hlen hcs k
  case aload_n => exact s_aload_n C hd ha hL hW hS hlen hcs k
  case iload => exact s_iload C hd ha hL hW hS hlen hcs k
  case iload_n => exact s_iload_n C hd ha hL hW hS hlen hcs k
  case astore => exact s_astore C hd ha hL hW hS hlen hcs k
  case astore_n => exact s_astore_n C hd ha hL hW hS hlen hcs k
  case istore => exact s_istore C hd ha hL hW hS hlen hcs k
  case istore_n => exact s_istore_n C hd ha hL hW hS hlen hcs k
  case iconst => exact s_iconst C hd ha hL hW hS hlen hcs k
  case bipush => exact s_bipush C hd ha hL hW hS hlen hcs k
  case sipush => exact s_sipush C hd ha hL hW hS hlen hcs k
  case aconst_null => exact s_null C hd ha hL hW hS hlen hcs k
  case ldc => exact s_ldc C hd ha hL hW hS hlen hcs k
  case ldc2_w => exact s_ldc2 C hd ha hL hW hS hlen hcs k
  case lload => exact s_lload C hd ha hL hW hS hlen hcs k
  case lload_n => exact s_lload_n C hd ha hL hW hS hlen hcs k
  case lstore => exact s_lstore C hd ha hL hW hS hlen hcs k
  case lstore_n => exact s_lstore_n C hd ha hL hW hS hlen hcs k
  case i2l => exact s_i2l C hd ha hL hW hS hlen hcs k
  case ladd => exact s_ladd C hd ha hL hW hS hlen hcs k
  case lmul => exact s_lmul C hd ha hL hW hS hlen hcs k
  case iadd => exact s_iadd C hd ha hL hW hS hlen hcs k
  case isub => exact s_isub C hd ha hL hW hS hlen hcs k
  case imul => exact s_imul C hd ha hL hW hS hlen hcs k
  case iand => exact s_iand C hd ha hL hW hS hlen hcs k
  case ior => exact s_ior C hd ha hL hW hS hlen hcs k
  case ishl => exact s_ishl C hd ha hL hW hS hlen hcs k
  case ishr => exact s_ishr C hd ha hL hW hS hlen hcs k
  case idiv => exact s_idiv C hd ha hL hW hS hlen hcs k
  case irem => exact s_irem C hd ha hL hW hS hlen hcs k
  case i2c => exact s_i2c C hd ha hL hW hS hlen hcs k
  case iinc => exact s_iinc C hd ha hL hW hS hlen hcs k
  case dup => exact s_dup C hd ha hL hW hS hlen hcs k
  case pop => exact s_pop C hd ha hL hW hS hlen hcs k
  case dup2 => exact s_dup2 C hd ha hL hW hS hlen hcs k
  case goto => exact s_goto C hd ha hL hW hS hlen hcs k
  case ifCond cnd off =>
    cases cnd
    · exact s_if_eq C hd ha hL hW hS hlen hcs k
    · exact s_if_ne C hd ha hL hW hS hlen hcs k
    · exact s_if_lt C hd ha hL hW hS hlen hcs k
    · exact s_if_ge C hd ha hL hW hS hlen hcs k
    · exact s_if_gt C hd ha hL hW hS hlen hcs k
    · exact s_if_le C hd ha hL hW hS hlen hcs k
  case if_icmp cnd off =>
    cases cnd
    · exact s_icmp_eq C hd ha hL hW hS hlen hcs k
    · exact s_icmp_ne C hd ha hL hW hS hlen hcs k
    · exact s_icmp_lt C hd ha hL hW hS hlen hcs k
    · exact s_icmp_ge C hd ha hL hW hS hlen hcs k
    · exact s_icmp_gt C hd ha hL hW hS hlen hcs k
    · exact s_icmp_le C hd ha hL hW hS hlen hcs k
  case ifnull => exact s_ifnull C hd ha hL hW hS hlen hcs k
  case ifnonnull => exact s_ifnonnull C hd ha hL hW hS hlen hcs k
  case tableswitch => exact s_table C hd ha hL hW hS hlen hcs k
  case lookupswitch => exact s_lookup C hd ha hL hW hS hlen hcs k
  case getfield => exact s_getfield C hd ha hL hW hS hlen hcs k
  case putfield => exact s_putfield C hd ha hL hW hS hlen hcs k
  case getstatic => exact s_getstatic C hd ha hL hW hS hlen hcs k
  case iaload => exact s_iaload C hd ha hL hW hS hlen hcs k
  case caload => exact s_caload C hd ha hL hW hS hlen hcs k
  case aaload => exact s_aaload C hd ha hL hW hS hlen hcs k
  case iastore => exact s_iastore C hd ha hL hW hS hlen hcs k
  case castore => exact s_castore C hd ha hL hW hS hlen hcs k
  case aastore => exact s_aastore C hd ha hL hW hS hlen hcs k
  case invokestatic => exact s_invS C hd ha hL hW hS hlen hcs k
  case invokespecial => exact s_invI C hd ha hL hW hS hlen hcs k
  all_goals (simp only [act, invV] at ha)
  all_goals (repeat' split at ha)
  all_goals (cases ha)
theorem dfl_ok : (List.range 12).all (fun ci => (List.range (fN ci)).all (fun k => decide (defaultValue (fty ci k) = dfl (fty ci k)))) = true := by decide +kernel
theorem dfl_cv {r : Nat → Nat} (ty : FieldType) : cv r (dfl ty) = dfl ty := by cases ty <;> rfl
/-- a new cell -/
theorem s_alloc {ins : Instr} {pc' : Nat} {S' : List Value} {x : hC} (C : Ctx b t ac D p s m args meth c R i) (hd : decode (mB i) pc = .ok (ins, len)) (ha : act i pc ins len L S h = some (.inr (.inr (.inl (x, pc', S'))))) (hW : WH b t ac D h H) (hS : va_S (fun q => b ≤ q) s.heap H locs) (hlen : h.length < sB) (hsz : s.heap.size + cells ≤ b + h.length) (hcs : cells + 1 ≤ R.cells ∧ slots + csz x ≤ R.slots)
    (k : ∀ (H' : Heap) (locs' : List Loc), WH b t ac D (h ++ [x]) H' → va_S (fun q => b ≤ q) s.heap H' locs' → W p l e R s m args below meth c H' locs' (cells + 1) (slots + csz x) Q (F0 m pc' ls ((.ref h.length :: S').map (cv (ad b t))))) : W p l e R s m args below meth c H locs cells slots Q (F0 m pc ls (S.map (cv (ad b t)))) := by
  obtain ⟨hx, hb, hr, hml, hown, hts, hlocks, hin, hE, hfr, hlo, hbs⟩ := C
  have hA : ∀ q : Nat, s.heap.size ≤ q → b ≤ q := fun q hq => Nat.le_trans hbs hq
  have jd := jdk_at
  -- the new cell's address is the next one
  have key : ∀ (q : Nat) (H1 : Heap) (g : JFrame), va_P D vwCl (wz (ad b t) ac h ++ [(q, ce (ad b t) ac x)]) H1 → va_D (fun q => b ≤ q) (wz (ad b t) ac h ++ [(q, ce (ad b t) ac x)]) → va_S (fun q => b ≤ q) s.heap H1 locs →
      W p l e R s m args below meth c H1 locs (cells + 1) (slots + csz x) Q (F0 m pc' ls (.ref q :: S'.map (cv (ad b t)))) := by
    intro q H1 g hP1 hD1 hS1 T hT X
    have hlw : (wz (ad b t) ac h).length = h.length := by simp [wz]
    have hlast : (wz (ad b t) ac h ++ [(q, ce (ad b t) ac x)])[h.length]? = some (q, ce (ad b t) ac x) := by
      rw [List.getElem?_append_right (by omega), hlw, Nat.sub_self]; rfl
    have h1 : q < H1.size := (hP1 _ _ hlast).lt
    have h2 : H1.size ≤ s.heap.size + (cells + 1) := by rw [← hT]; exact X.heapSize
    have h3 : b ≤ q := hD1.2 _ _ hlast
    have h4 : ¬ q < b + h.length := by
      intro hq
      have hk : q - b < h.length := by omega
      have hat := wz_at (r := ad b t) (ac := ac) (h := h) (k := q - b) (x := h[q - b]) (List.getElem?_eq_getElem hk)
      have hat2 : (wz (ad b t) ac h ++ [(q, ce (ad b t) ac x)])[q - b]? = some (ad b t (q - b), ce (ad b t) ac h[q - b]) := by
        rw [List.getElem?_append_left (by omega)]; exact hat
      have := hD1.1 _ _ _ _ hat2 hlast (by
        show ad b t (q - b) = q
        rw [ad_lt (by omega)]; omega)
      omega
    have hq : q = ad b t h.length := by rw [ad_lt hlen]; omega
    subst hq
    rw [← wz_push] at hP1
    exact k H1 locs hP1 hS1 T hT X
  rcases act_alloc ha with ⟨idx, ci, rfl, rfl, hci, rfl, rfl, rfl⟩ | ⟨ty, n, rfl, rfl, rfl, hn, hn2, hty, rfl⟩ | ⟨idx, n, tt, rfl, rfl, rfl, hat, hn, hn2, htt, rfl, rfl⟩
  · obtain ⟨h12, hlink⟩ := nref_ok hci
    have hN : csz (.inl (ci, (List.range (fN ci)).map (fun k => dfl (fty ci k)))) = fN ci := by simp [csz]
    rw [hN] at hcs key
    refine va_new (ci := ci) (fs := ((List.range (fN ci)).map (fun k => dfl (fty ci k))).map (cv (ad b t))) hx hb hts (cls_at h12).2.2 (fty ci) (fun k hk => fty_ok h12 hk) hown (hts _ hlink) (hts _ (cls_at h12).1) (hts _ (cls_at h12).2.1) hE.1 hW (wz_D (Nat.le_of_lt hlen)) hS hA (vw_at h12) (fun j hj => ?_) hcs.1 hcs.2 hd (fun q H1 hP1 hD1 hS1 => key q H1 (F0 m 0 ls []) hP1 hD1 hS1)
    have := of_decide_eq_true (List.all_eq_true.mp (List.all_eq_true.mp dfl_ok ci (List.mem_range.mpr h12)) j (List.mem_range.mpr hj))
    rw [this]
    simp [vp_V, hj, dfl_cv]
  · rcases hty with ⟨rfl, rfl⟩ | ⟨rfl, rfl⟩
    · refine va_newa (atype := .int) (a0 := (n.toNatClampNeg, .inl (fun _ => 0))) hx hb (hts _ jd.2.2.2.2.2.2.2.2.1) rfl hE.1 hW (wz_D (Nat.le_of_lt hlen)) hS hA (fun cA => rfl) hn rfl (by show n.toNatClampNeg * 4 ≤ _; omega) hcs.1 hcs.2 hd (fun q cA H1 hK1 hP1 hD1 hS1 => ?_)
      have e1 : cA = ac 0 := by
        have z1 : s.vm.findClass ("[" ++ FieldType.int.toString) = some cA := (hK1.2 4 (cA, .int) rfl).2
        have z2 : s.vm.findClass ("[" ++ FieldType.int.toString) = some (ac 0) := (hE.1.2 0 (ac 0, .int) rfl).2
        exact Option.some.inj (z1.symm.trans z2)
      subst e1
      exact key q H1 (F0 m 0 ls []) hP1 hD1 hS1
    · refine va_newa (atype := .char) (a0 := (n.toNatClampNeg, .inl (fun _ => 0))) hx hb (hts _ jd.2.2.2.2.2.2.2.2.2) rfl hE.1 hW (wz_D (Nat.le_of_lt hlen)) hS hA (fun cA => rfl) hn rfl (by show n.toNatClampNeg * 2 ≤ _; omega) hcs.1 hcs.2 hd (fun q cA H1 hK1 hP1 hD1 hS1 => ?_)
      have e1 : cA = ac 1 := by
        have z1 : s.vm.findClass ("[" ++ FieldType.char.toString) = some cA := (hK1.2 4 (cA, .char) rfl).2
        have z2 : s.vm.findClass ("[" ++ FieldType.char.toString) = some (ac 1) := (hE.1.2 1 (ac 1, .char) rfl).2
        exact Option.some.inj (z1.symm.trans z2)
      subst e1
      exact key q H1 (F0 m 0 ls []) hP1 hD1 hS1
  · have e0 : ∀ cA : ClassId, (∃ (kA : Class) (comp : ClassId), s.vm.classes[cA]? = some kA ∧ kA.kind = .array comp (.object (fR (qcl tt))) ∧ s.vm.findClass (fR (qcl tt)) = some comp ∧ s.vm.findClass ("[" ++ (FieldType.object (fR (qcl tt))).toString) = some cA) → cA = ac tt := by
      intro cA ⟨_, _, _, _, _, z1⟩
      rcases htt with rfl | rfl
      · obtain ⟨_, _, _, _, _, z2⟩ := (hE.1.2 2 (ac 2, .object RX0) rfl).2
        exact Option.some.inj (z1.symm.trans z2)
      · obtain ⟨_, _, _, _, _, z2⟩ := (hE.1.2 3 (ac 3, .object RX9) rfl).2
        exact Option.some.inj (z1.symm.trans z2)
    have hover : va_AO (fR (qcl tt)) s := by
      rcases htt with rfl | rfl
      · exact hE.2.2.2.1
      · exact hE.2.2.2.2
    refine va_newq hx hb hown (hts _ (aref_ok hat)) hover hE.1 hW (wz_D (Nat.le_of_lt hlen)) hS hA hn rfl (by omega) hcs.1 hcs.2 hd (fun q cA H1 hK1 hP1 hD1 hS1 => ?_)
    have e1 := e0 cA (hK1.2 4 (cA, .object (fR (qcl tt))) rfl).2
    subst e1
    exact key q H1 (F0 m 0 ls []) hP1 hD1 hS1
end SND
