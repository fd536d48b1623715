section
/-! a small machine of our own, without frames and rooms: its heap is a list of cells, its addresses are places in it; part 04 says that the machine does what it does -/
abbrev hC : Type := (Nat × List Value) ⊕ (Nat × Nat × ((Nat → Int32) ⊕ (Nat → Option Nat)))
abbrev hO (ci : Nat) (fs : List Value) : hC := .inl (ci, fs)
abbrev hI (n : Nat) (f : Nat → Int32) : hC := .inr (0, n, .inl f)
abbrev hH (n : Nat) (f : Nat → Int32) : hC := .inr (1, n, .inl f)
abbrev hQ (t n : Nat) (f : Nat → Option Nat) : hC := .inr (t, n, .inr f)
def csz (c : hC) : Nat := match c with
  | .inl (_, fs) => fs.length
  | .inr (_, n, _) => n
/-- the places of the two static arrays -/
def sB : Nat := 1000000
def sB1 : Nat := 1000001
def sB2 : Nat := 1000002
def sB3 : Nat := 1000003
def sA (k : Nat) : Nat := match k with
  | 0 => sB
  | 1 => sB1
  | 2 => sB2
  | _ => sB3
def sIx (a : Nat) : Option Nat := if a = sB then some 0 else if a = sB1 then some 1 else if a = sB2 then some 2 else if a = sB3 then some 3 else none
def sArr (k : Nat) (j : Nat) : Int32 := match k, j with
  | 0, 0 => 5
  | 0, 1 => 4
  | 0, 2 => 6
  | 0, _ => 8
  | 1, 0 => 1000
  | 1, 1 => 100
  | 1, 2 => 10
  | 1, _ => 1
  | 2, 0 => 1
  | 2, 1 => 1
  | 2, _ => 0
  | _, 0 => 1
  | _, 1 => 1
  | _, 2 => 1
  | _, _ => 0
/-- what a step does: goes on; ends; makes a cell; calls -/
abbrev rT : Type := (Nat × List Value × List Value × List hC) ⊕ (Option Value ⊕ ((hC × Nat × List Value) ⊕ (Nat × List Value × List Value)))
abbrev rN (pc : Nat) (L S : List Value) (h : List hC) : Option rT := some (.inl (pc, L, S, h))
abbrev rR (v : Option Value) : Option rT := some (.inr (.inl v))
abbrev rA (c : hC) (pc : Nat) (S : List Value) : Option rT := some (.inr (.inr (.inl (c, pc, S))))
abbrev rC (j : Nat) (args rest : List Value) : Option rT := some (.inr (.inr (.inr (j, args, rest))))
def ldi (L S : List Value) (k pc : Nat) (h : List hC) : Option rT := match L[k]? with
  | some (.int x) => rN pc L (.int x :: S) h
  | _ => none
def lda (L S : List Value) (k pc : Nat) (h : List hC) : Option rT := match L[k]? with
  | some (.ref x) => rN pc L (.ref x :: S) h
  | some .null => rN pc L (.null :: S) h
  | _ => none
def sti (L S : List Value) (k pc : Nat) (h : List hC) : Option rT := match S with
  | .int x :: S => if k < L.length then rN pc (L.set k (.int x)) S h else none
  | _ => none
def sta (L S : List Value) (k pc : Nat) (h : List hC) : Option rT := match S with
  | .ref x :: S => if k < L.length then rN pc (L.set k (.ref x)) S h else none
  | .null :: S => if k < L.length then rN pc (L.set k .null) S h else none
  | _ => none
def jmp (pc : Nat) (off : Int) (L S : List Value) (h : List hC) : Option rT := if 0 ≤ (pc : Int) + off then rN ((pc : Int) + off).toNat L S h else none
def cmpI (c : ClassFile.Cond) (x y : Int32) : Bool := match c with
  | .eq => decide (x = y)
  | .ne => decide (¬ x = y)
  | .lt => decide (x < y)
  | .ge => decide (y ≤ x)
  | .gt => decide (y < x)
  | .le => decide (x ≤ y)
/-- may this value stand in a field, or be an answer, of this type as it is -/
def okv (ty : FieldType) (v : Value) : Bool := match ty, v with
  | .int, .int _ => true
  | .boolean, .int x => decide (x = 0) || decide (x = 1)
  | .object _, .ref _ => true
  | .object _, .null => true
  | .array _, .ref _ => true
  | .array _, .null => true
  | _, _ => false
def cat1 (v : Value) : Bool := match v with
  | .int _ => true
  | .ref _ => true
  | .null => true
  | _ => false
/-- an array's index -/
def okx (i : Int32) (n : Nat) : Bool := decide (0 ≤ i) && decide (i.toNatClampNeg < n)
def dfl (ty : FieldType) : Value := match ty with
  | .int => .int 0
  | .boolean => .int 0
  | _ => .null
def getF (c : Option hC) (ci k : Nat) : Option Value := match c with
  | some (.inl (d, fs)) => if d = ci then (match fs[k]? with
    | some v => if cat1 v then some v else none
    | none => none) else none
  | _ => none
def putF (c : Option hC) (ci k : Nat) (v : Value) : Option hC := match c with
  | some (.inl (d, fs)) => if d = ci ∧ k < fs.length ∧ okv (fty ci k) v = true then some (.inl (d, fs.set k v)) else none
  | _ => none
def getI (c : Option hC) (a t : Nat) (i : Int32) : Option Int32 := match c with
  | some (.inr (u, n, .inl f)) => if u = t ∧ okx i n = true then some (f i.toNatClampNeg) else none
  | some _ => none
  | none => (match sIx a with
    | some k => if t = 0 ∧ okx i 4 = true then some (sArr k i.toNatClampNeg) else none
    | none => none)
def putI (c : Option hC) (t : Nat) (i x : Int32) : Option hC := match c with
  | some (.inr (u, n, .inl f)) => if u = t ∧ okx i n = true then some (.inr (u, n, .inl (upd f i.toNatClampNeg x))) else none
  | _ => none
def getQ (c : Option hC) (i : Int32) : Option Value := match c with
  | some (.inr (u, n, .inr f)) => if (u = 2 ∨ u = 3) ∧ okx i n = true then some (va_rf (f i.toNatClampNeg)) else none
  | _ => none
def putQ (c : Option hC) (i : Int32) (d : Option hC) (v : Nat) : Option hC := match c, d with
  | some (.inr (u, n, .inr f)), some (.inl (ci, _)) => if (u = 2 ∨ u = 3) ∧ ci = qcl u ∧ okx i n = true then some (.inr (u, n, .inr (va_up f i.toNatClampNeg (some v)))) else none
  | _, _ => none
def cpyI (c d : Option hC) (sp dp n : Int32) : Option hC := match c, d with
  | some (.inr (0, n0, .inl f)), some (.inr (0, n1, .inl g)) =>
    if ¬ sp < 0 ∧ ¬ dp < 0 ∧ ¬ n < 0 ∧ sp.toNatClampNeg + n.toNatClampNeg ≤ n0 ∧ dp.toNatClampNeg + n.toNatClampNeg ≤ n1 then some (.inr (0, n1, .inl (va_cpy f g sp.toNatClampNeg dp.toNatClampNeg n.toNatClampNeg))) else none
  | _, _ => none
/-- may the callee be called from here: frames, locals' words, cells, the stack below -/
def room (i j : Nat) (S : List Value) : Bool := decide (mF j + 1 ≤ mF i) && decide (8 + (mL j + 11) + mW j ≤ mW i) && decide (S.length ≤ mA j + 8) && S.all cat1 && (!mZ j || mZ i) && decide (mA j ≤ mL j) && decide (mA j ≤ S.length)
def invV (i idx : Nat) (S : List Value) (h : List hC) : Option rT := match lref (mC i) idx with
  | some (0, j) => if room i j S = true then (match (S.take (mA j)).reverse with
    | .ref b :: as => (match h[b]? with
      | some (.inl (ci, _)) => if ci = mC j then rC j (.ref b :: as) (S.drop (mA j)) else none
      | _ => none)
    | _ => none) else none
  | _ => none
def invS (i idx pc : Nat) (L S : List Value) (h : List hC) : Option rT := match lref (mC i) idx with
  | some (1, j) => if room i j S = true then rC j (S.take (mA j)).reverse (S.drop (mA j)) else none
  | some (4, j) => if room i j S = true then rC j (S.take (mA j)).reverse (S.drop (mA j)) else none
  | some (6, _) => (match S with
    | .int y :: .int x :: S => if decide (1 ≤ mF i) && decide (21 ≤ mW i) && decide (S.length ≤ 8) && S.all cat1 then rN (pc + 3) L (.int (if x < y then y else x) :: S) h else none
    | _ => none)
  | some (7, _) => (match S with
    | .int y :: .int x :: S => if decide (1 ≤ mF i) && decide (21 ≤ mW i) && decide (S.length ≤ 8) && S.all cat1 then rN (pc + 3) L (.int (if y < x then y else x) :: S) h else none
    | _ => none)
  | some (8, _) => (match S with
    | .int n :: .int dp :: .ref a1 :: .int sp :: .ref a0 :: S => if decide (1 ≤ mF i) && decide (100 ≤ mW i) && decide (S.length ≤ 8) && S.all cat1 then (match cpyI h[a0]? h[a1]? sp dp n with
      | some c => rN (pc + 3) L S (h.set a1 c)
      | none => none) else none
    | _ => none)
  | _ => none
def invI (i idx pc : Nat) (L S : List Value) (h : List hC) : Option rT := match lref (mC i) idx with
  | some (2, j) => if room i j S = true then (match (S.take (mA j)).reverse with
    | .ref b :: as => rC j (.ref b :: as) (S.drop (mA j))
    | _ => none) else none
  | some (3, j) => if room i j S = true then (match (S.take (mA j)).reverse with
    | .ref b :: as => rC j (.ref b :: as) (S.drop (mA j))
    | _ => none) else none
  | some (5, _) => (match S with
    | .ref b :: S => if decide (1 ≤ mF i) && decide (21 ≤ mW i) && decide (S.length ≤ 8) && S.all cat1 then rN (pc + 3) L S h else none
    | _ => none)
  | _ => none
/-- one instruction -/
def act (i pc : Nat) (ins : Instr) (len : Nat) (L S : List Value) (h : List hC) : Option rT := match ins with
  | .aload k => if len = 2 then lda L S k (pc + 2) h else none
  | .aload_n k => if len = 1 then lda L S k (pc + 1) h else none
  | .iload k => if len = 2 then ldi L S k (pc + 2) h else none
  | .iload_n k => if len = 1 then ldi L S k (pc + 1) h else none
  | .astore k => if len = 2 then sta L S k (pc + 2) h else none
  | .astore_n k => if len = 1 then sta L S k (pc + 1) h else none
  | .istore k => if len = 2 then sti L S k (pc + 2) h else none
  | .istore_n k => if len = 1 then sti L S k (pc + 1) h else none
  | .iconst n => if len = 1 then rN (pc + 1) L (.int (Int32.ofInt n) :: S) h else none
  | .bipush n => if len = 2 then rN (pc + 2) L (.int (Int8.ofInt n).toInt32 :: S) h else none
  | .sipush n => if len = 3 then rN (pc + 3) L (.int (Int16.ofInt n).toInt32 :: S) h else none
  | .aconst_null => if len = 1 then rN (pc + 1) L (.null :: S) h else none
  | .ldc idx => if len = 2 then (match kref (mC i) idx with
    | some v => rN (pc + 2) L (.int v :: S) h
    | none => none) else none
  | .iadd => if len = 1 then (match S with
    | .int y :: .int x :: S => rN (pc + 1) L (.int (x + y) :: S) h
    | _ => none) else none
  | .isub => if len = 1 then (match S with
    | .int y :: .int x :: S => rN (pc + 1) L (.int (x - y) :: S) h
    | _ => none) else none
  | .imul => if len = 1 then (match S with
    | .int y :: .int x :: S => rN (pc + 1) L (.int (x * y) :: S) h
    | _ => none) else none
  | .iand => if len = 1 then (match S with
    | .int y :: .int x :: S => rN (pc + 1) L (.int (x &&& y) :: S) h
    | _ => none) else none
  | .ior => if len = 1 then (match S with
    | .int y :: .int x :: S => rN (pc + 1) L (.int (x ||| y) :: S) h
    | _ => none) else none
  | .ishl => if len = 1 then (match S with
    | .int y :: .int x :: S => rN (pc + 1) L (.int (x <<< (y &&& 31)) :: S) h
    | _ => none) else none
  | .ishr => if len = 1 then (match S with
    | .int y :: .int x :: S => rN (pc + 1) L (.int (x >>> (y &&& 31)) :: S) h
    | _ => none) else none
  | .idiv => if len = 1 then (match S with
    | .int y :: .int x :: S => if ¬ y = 0 then rN (pc + 1) L (.int (x / y) :: S) h else none
    | _ => none) else none
  | .irem => if len = 1 then (match S with
    | .int y :: .int x :: S => if ¬ y = 0 then rN (pc + 1) L (.int (x - x / y * y) :: S) h else none
    | _ => none) else none
  | .i2c => if len = 1 then (match S with
    | .int x :: S => rN (pc + 1) L (.int (x.toUInt32 % 65536).toInt32 :: S) h
    | _ => none) else none
  | .iinc k n => if len = 3 then (match L[k]? with
    | some (.int x) => rN (pc + 3) (L.set k (.int (x + Int32.ofInt n))) S h
    | _ => none) else none
  | .dup => if len = 1 then (match S with
    | v :: S => if cat1 v then rN (pc + 1) L (v :: v :: S) h else none
    | _ => none) else none
  | .pop => if len = 1 then (match S with
    | v :: S => if cat1 v then rN (pc + 1) L S h else none
    | _ => none) else none
  | .dup2 => if len = 1 then (match S with
    | v :: w :: S => if cat1 v && cat1 w then rN (pc + 1) L (v :: w :: v :: w :: S) h else none
    | _ => none) else none
  | .goto off => if len = 3 then jmp pc off L S h else none
  | .ifCond c off => if len = 3 ∧ 0 ≤ (pc : Int) + off then (match S with
    | .int x :: S => rN (if cmpI c x 0 = true then ((pc : Int) + off).toNat else pc + 3) L S h
    | _ => none) else none
  | .if_icmp c off => if len = 3 ∧ 0 ≤ (pc : Int) + off then (match S with
    | .int y :: .int x :: S => rN (if cmpI c x y = true then ((pc : Int) + off).toNat else pc + 3) L S h
    | _ => none) else none
  | .ifnull off => if len = 3 then (match S with
    | .null :: S => jmp pc off L S h
    | .ref _ :: S => rN (pc + 3) L S h
    | _ => none) else none
  | .ifnonnull off => if len = 3 then (match S with
    | .null :: S => rN (pc + 3) L S h
    | .ref _ :: S => jmp pc off L S h
    | _ => none) else none
  | .tableswitch d lo hi offs => (match S with
    | .int x :: S => if x.toInt < lo ∨ hi < x.toInt then jmp pc d L S h else (match offs[(x.toInt - lo).toNat]? with
      | some off => jmp pc off L S h
      | none => none)
    | _ => none)
  | .lookupswitch d ps => (match S with
    | .int x :: S => if (ps.toList.zip (ps.toList.drop 1)).all (fun (a, next) => a.1 < next.1) = true then jmp pc (Op.lookupswitch.offset ps.toList d x.toInt) L S h else none
    | _ => none)
  | .getfield idx => if len = 3 then (match S with
    | .ref a :: S => (match fref (mC i) idx with
      | some (ci, k) => (match getF h[a]? ci k with
        | some v => rN (pc + 3) L (v :: S) h
        | none => none)
      | none => none)
    | _ => none) else none
  | .putfield idx => if len = 3 then (match S with
    | v :: .ref a :: S => (match fref (mC i) idx with
      | some (ci, k) => if (fT ci k).2.2.2 = false ∨ ((mN i).name = "<init>" ∧ ci = mC i) then (match putF h[a]? ci k v with
        | some c => rN (pc + 3) L S (h.set a c)
        | none => none) else none
      | none => none)
    | _ => none) else none
  | .getstatic idx => if len = 3 then (match sref (mC i) idx with
    | some k => if k < 4 then rN (pc + 3) L (.ref (sA k) :: S) h else none
    | none => none) else none
  | .iaload => if len = 1 then (match S with
    | .int j :: .ref a :: S => (match getI h[a]? a 0 j with
      | some x => rN (pc + 1) L (.int x :: S) h
      | none => none)
    | _ => none) else none
  | .caload => if len = 1 then (match S with
    | .int j :: .ref a :: S => (match getI h[a]? a 1 j with
      | some x => rN (pc + 1) L (.int x :: S) h
      | none => none)
    | _ => none) else none
  | .aaload => if len = 1 then (match S with
    | .int j :: .ref a :: S => (match getQ h[a]? j with
      | some v => rN (pc + 1) L (v :: S) h
      | none => none)
    | _ => none) else none
  | .iastore => if len = 1 then (match S with
    | .int x :: .int j :: .ref a :: S => (match putI h[a]? 0 j x with
      | some c => rN (pc + 1) L S (h.set a c)
      | none => none)
    | _ => none) else none
  | .castore => if len = 1 then (match S with
    | .int x :: .int j :: .ref a :: S => (match putI h[a]? 1 j (vp_nar .char x) with
      | some c => rN (pc + 1) L S (h.set a c)
      | none => none)
    | _ => none) else none
  | .aastore => if len = 1 then (match S with
    | .ref v :: .int j :: .ref a :: S => (match putQ h[a]? j h[v]? v with
      | some c => rN (pc + 1) L S (h.set a c)
      | none => none)
    | _ => none) else none
  | .new idx => if len = 3 then (match nref (mC i) idx with
    | some ci => rA (.inl (ci, (List.range (fN ci)).map (fun k => dfl (fty ci k)))) (pc + 3) S
    | none => none) else none
  | .newarray t => if len = 2 then (match S with
    | .int n :: S => if ¬ n < 0 ∧ n.toNatClampNeg ≤ 10000 then (match t with
      | .int => rA (hI n.toNatClampNeg (fun _ => 0)) (pc + 2) S
      | .char => rA (hH n.toNatClampNeg (fun _ => 0)) (pc + 2) S
      | _ => none) else none
    | _ => none) else none
  | .anewarray idx => if len = 3 then (match S with
    | .int n :: S => (match aref (mC i) idx with
      | some t => if ¬ n < 0 ∧ n.toNatClampNeg ≤ 10000 ∧ (t = 2 ∨ t = 3) then rA (hQ t n.toNatClampNeg (fun _ => none)) (pc + 3) S else none
      | none => none)
    | _ => none) else none
  | .invokevirtual idx => if len = 3 then invV i idx S h else none
  | .invokestatic idx => if len = 3 then invS i idx pc L S h else none
  | .invokespecial idx => if len = 3 then invI i idx pc L S h else none
  | .ireturn => if len = 1 then (match S with
    | [.int x] => (match mR i with
      | some ty => if okv ty (.int x) = true then rR (some (.int x)) else none
      | none => none)
    | _ => none) else none
  | .areturn => if len = 1 then (match S with
    | [v] => (match mR i, v with
      | some (.object _), .ref a => rR (some (.ref a))
      | some (.object _), .null => rR (some .null)
      | _, _ => none)
    | _ => none) else none
  | .return_ => if len = 1 then (match S, mR i with
    | [], none => rR none
    | _, _ => none) else none
  | _ => none
def pad (j : Nat) (as : List Value) : List Value := as ++ List.replicate (mL j - as.length) (.long 0)
abbrev eR : Type := Option (Option Value × List hC × Nat × Nat)
abbrev eT : Type := Nat → Nat → List Value → List Value → List hC → eR
/-- one step, and what follows by E -/
def stp (E : eT) : eT := fun i pc L S h => match decode (mB i) pc with
    | .ok (ins, len) => (match act i pc ins len L S h with
      | some (.inl (pc', L', S', h')) => E i pc' L' S' h'
      | some (.inr (.inl v)) => some (v, h, 0, 0)
      | some (.inr (.inr (.inl (c, pc', S')))) => if mZ i = true then (match E i pc' L (.ref h.length :: S') (h ++ [c]) with
        | some (v, h', a, b) => some (v, h', a + 1, b + csz c)
        | none => none) else none
      | some (.inr (.inr (.inr (j, as, rest)))) => (match E j 0 (pad j as) [] h with
        | some (v, h1, a1, b1) => (match E i (pc + 3) L (v.toList ++ rest) h1 with
          | some (v2, h2, a2, b2) => some (v2, h2, a1 + a2, b1 + b2)
          | none => none)
        | none => none)
      | none => none)
    | .error _ => none
/-- so many steps at most; the answer, the heap, and how many cells and slots were made -/
def exec : Nat → eT
  | 0 => fun _ _ _ _ _ => none
  | n + 1 => stp (exec n)
end
section
/-! the answer without the number of steps -/
theorem stp_le {E E' : eT} (hE : ∀ i pc L S h v, E i pc L S h = some v → E' i pc L S h = some v) {i pc : Nat} {L S : List Value} {h : List hC} {v : Option Value × List hC × Nat × Nat} (hv : stp E i pc L S h = some v) : stp E' i pc L S h = some v := by
  unfold stp at hv ⊢
  cases hd : decode (mB i) pc with
  | error e => rw [hd] at hv; cases hv
  | ok q =>
    obtain ⟨ins, len⟩ := q
    simp only [hd] at hv ⊢
    cases ha : act i pc ins len L S h with
    | none => simp only [ha] at hv; cases hv
    | some r =>
      simp only [ha] at hv ⊢
      rcases r with ⟨pc', L', S', h'⟩ | v' | ⟨c, pc', S'⟩ | ⟨j, as, rest⟩
      · exact hE _ _ _ _ _ _ hv
      · exact hv
      · simp only at hv ⊢
        by_cases hz : mZ i = true
        · rw [if_pos hz] at hv ⊢
          cases he : E i pc' L (.ref h.length :: S') (h ++ [c]) with
          | none => rw [he] at hv; cases hv
          | some w => rw [he] at hv; rw [hE _ _ _ _ _ _ he]; exact hv
        · rw [if_neg hz] at hv; cases hv
      · simp only at hv ⊢
        cases he : E j 0 (pad j as) [] h with
        | none => rw [he] at hv; cases hv
        | some w =>
          obtain ⟨v1, h1, a1, b1⟩ := w
          rw [he] at hv; rw [hE _ _ _ _ _ _ he]
          simp only at hv ⊢
          cases he2 : E i (pc + 3) L (v1.toList ++ rest) h1 with
          | none => rw [he2] at hv; cases hv
          | some w2 => rw [he2] at hv; rw [hE _ _ _ _ _ _ he2]; exact hv
theorem exec_s (n : Nat) : ∀ i pc L S h v, exec n i pc L S h = some v → exec (n + 1) i pc L S h = some v := by
  induction n with
  | zero => intro i pc L S h v hv; cases hv
  | succ n ih => intro i pc L S h v hv; exact stp_le ih hv
theorem exec_le {n m : Nat} (hnm : n ≤ m) : ∀ i pc L S h v, exec n i pc L S h = some v → exec m i pc L S h = some v := by
  induction hnm with
  | refl => intro i pc L S h v hv; exact hv
  | step _ ih => intro i pc L S h v hv; exact exec_s _ _ _ _ _ _ _ (ih _ _ _ _ _ _ hv)
theorem exec_one {n m i pc : Nat} {L S : List Value} {h : List hC} {v w : Option Value × List hC × Nat × Nat} (hv : exec n i pc L S h = some v) (hw : exec m i pc L S h = some w) : v = w := by
  rcases Nat.le_total n m with q | q
  · have := exec_le q _ _ _ _ _ _ hv
    rw [hw] at this
    exact (Option.some.inj this).symm
  · have := exec_le q _ _ _ _ _ _ hw
    rw [hv] at this
    exact Option.some.inj this
noncomputable def Xv : eT := fun i pc L S h => Classical.epsilon (fun o : eR => (∃ n v, exec n i pc L S h = some v ∧ o = some v) ∨ ((∀ n, exec n i pc L S h = none) ∧ o = none))
theorem Xv_spec (i pc : Nat) (L S : List Value) (h : List hC) : (∃ n v, exec n i pc L S h = some v ∧ Xv i pc L S h = some v) ∨ ((∀ n, exec n i pc L S h = none) ∧ Xv i pc L S h = none) := by
  refine Classical.epsilon_spec (p := fun o : eR => (∃ n v, exec n i pc L S h = some v ∧ o = some v) ∨ ((∀ n, exec n i pc L S h = none) ∧ o = none)) ?_
  by_cases hq : ∃ n v, exec n i pc L S h = some v
  · obtain ⟨n, v, hv⟩ := hq
    exact ⟨some v, Or.inl ⟨n, v, hv, rfl⟩⟩
  · refine ⟨none, Or.inr ⟨fun n => ?_, rfl⟩⟩
    cases hn : exec n i pc L S h with
    | none => rfl
    | some v => exact absurd ⟨n, v, hn⟩ hq
theorem Xv_of {n i pc : Nat} {L S : List Value} {h : List hC} {v : Option Value × List hC × Nat × Nat} (hv : exec n i pc L S h = some v) : Xv i pc L S h = some v := by
  rcases Xv_spec i pc L S h with ⟨m, w, hw, e⟩ | ⟨hn, -⟩
  · rw [e, exec_one hv hw]
  · rw [hn n] at hv; cases hv
theorem Xv_to {i pc : Nat} {L S : List Value} {h : List hC} {v : Option Value × List hC × Nat × Nat} (hv : Xv i pc L S h = some v) : ∃ n, exec n i pc L S h = some v := by
  rcases Xv_spec i pc L S h with ⟨m, w, hw, e⟩ | ⟨-, e⟩
  · rw [hv] at e; cases e; exact ⟨m, hw⟩
  · rw [hv] at e; cases e
theorem stp_lim {i pc : Nat} {L S : List Value} {h : List hC} {v : Option Value × List hC × Nat × Nat} (hv : stp Xv i pc L S h = some v) : ∃ n, stp (exec n) i pc L S h = some v := by
  unfold stp at hv ⊢
  cases hd : decode (mB i) pc with
  | error e => rw [hd] at hv; cases hv
  | ok q =>
    obtain ⟨ins, len⟩ := q
    simp only [hd] at hv ⊢
    cases ha : act i pc ins len L S h with
    | none => simp only [ha] at hv; cases hv
    | some r =>
      simp only [ha] at hv ⊢
      rcases r with ⟨pc', L', S', h'⟩ | v' | ⟨c, pc', S'⟩ | ⟨j, as, rest⟩
      · exact Xv_to hv
      · exact ⟨0, hv⟩
      · simp only at hv ⊢
        by_cases hz : mZ i = true
        · simp only [if_pos hz] at hv ⊢
          cases he : Xv i pc' L (.ref h.length :: S') (h ++ [c]) with
          | none => rw [he] at hv; cases hv
          | some w =>
            rw [he] at hv
            obtain ⟨n, hn⟩ := Xv_to he
            exact ⟨n, by rw [hn]; exact hv⟩
        · rw [if_neg hz] at hv; cases hv
      · simp only at hv ⊢
        cases he : Xv j 0 (pad j as) [] h with
        | none => rw [he] at hv; cases hv
        | some w =>
          obtain ⟨v1, h1, a1, b1⟩ := w
          rw [he] at hv
          simp only at hv
          obtain ⟨n, hn⟩ := Xv_to he
          cases he2 : Xv i (pc + 3) L (v1.toList ++ rest) h1 with
          | none => rw [he2] at hv; cases hv
          | some w2 =>
            rw [he2] at hv
            obtain ⟨m, hm⟩ := Xv_to he2
            refine ⟨max n m, ?_⟩
            rw [exec_le (Nat.le_max_left n m) _ _ _ _ _ _ hn]
            simp only
            rw [exec_le (Nat.le_max_right n m) _ _ _ _ _ _ hm]
            exact hv
theorem Xv_stp (i pc : Nat) (L S : List Value) (h : List hC) : Xv i pc L S h = stp Xv i pc L S h := by
  cases hv : stp Xv i pc L S h with
  | some v =>
    obtain ⟨n, hn⟩ := stp_lim hv
    exact Xv_of (n := n + 1) hn
  | none =>
    rcases Xv_spec i pc L S h with ⟨n, w, hw, -⟩ | ⟨-, e⟩
    · cases n with
      | zero => cases hw
      | succ n =>
        have := stp_le (E' := Xv) (fun _ _ _ _ _ _ q => Xv_of q) hw
        rw [hv] at this; cases this
    · exact e
/-- what the method i does from pc on: its answer and the heap behind it; none if it gets stuck, or has no end -/
noncomputable def X (i pc : Nat) (L S : List Value) (h : List hC) : Option (Option Value × List hC) := (Xv i pc L S h).map (fun v => (v.1, v.2.1))
theorem X_to {i pc : Nat} {L S : List Value} {h h' : List hC} {v : Option Value} (hX : X i pc L S h = some (v, h')) : ∃ n a b, exec n i pc L S h = some (v, h', a, b) := by
  unfold X at hX
  cases hq : Xv i pc L S h with
  | none => rw [hq] at hX; cases hX
  | some w =>
    obtain ⟨n, hn⟩ := Xv_to hq
    obtain ⟨v1, h1, a, b⟩ := w
    rw [hq] at hX
    cases hX
    exact ⟨n, a, b, hn⟩
theorem X_of {n i pc a b : Nat} {L S : List Value} {h h' : List hC} {v : Option Value} (hX : exec n i pc L S h = some (v, h', a, b)) : X i pc L S h = some (v, h') := by
  unfold X
  rw [Xv_of hX]
  rfl
theorem X_next {i pc len pc' : Nat} {ins : Instr} {L S L' S' : List Value} {h h' : List hC} (hd : decode (mB i) pc = .ok (ins, len)) (ha : act i pc ins len L S h = some (.inl (pc', L', S', h'))) : X i pc L S h = X i pc' L' S' h' := by
  unfold X
  rw [Xv_stp i pc L S h]
  unfold stp
  simp only [hd, ha]
theorem X_ret {i pc len : Nat} {ins : Instr} {L S : List Value} {h : List hC} {v : Option Value} (hd : decode (mB i) pc = .ok (ins, len)) (ha : act i pc ins len L S h = some (.inr (.inl v))) : X i pc L S h = some (v, h) := by
  unfold X
  rw [Xv_stp i pc L S h]
  unfold stp
  simp only [hd, ha]
  rfl
theorem X_call {i pc len j : Nat} {ins : Instr} {L S as rest : List Value} {h : List hC} (hd : decode (mB i) pc = .ok (ins, len)) (ha : act i pc ins len L S h = some (.inr (.inr (.inr (j, as, rest))))) : X i pc L S h = (match X j 0 (pad j as) [] h with
    | some (v, h1) => X i (pc + 3) L (v.toList ++ rest) h1
    | none => none) := by
  unfold X
  rw [Xv_stp i pc L S h]
  unfold stp
  simp only [hd, ha]
  cases he : Xv j 0 (pad j as) [] h with
  | none => rfl
  | some w =>
    obtain ⟨v1, h1, a1, b1⟩ := w
    simp only [Option.map_some]
    cases he2 : Xv i (pc + 3) L (v1.toList ++ rest) h1 with
    | none => rfl
    | some w2 => rfl
theorem X_stuck {i pc len : Nat} {ins : Instr} {L S : List Value} {h : List hC} (hd : decode (mB i) pc = .ok (ins, len)) (ha : act i pc ins len L S h = none) : X i pc L S h = none := by
  unfold X
  rw [Xv_stp i pc L S h]
  unfold stp
  simp only [hd, ha]
  rfl
/-- a step that calls -/
theorem act_call {i pc len j : Nat} {ins : Instr} {L S as rest : List Value} {h : List hC} (ha : act i pc ins len L S h = some (.inr (.inr (.inr (j, as, rest))))) :
    len = 3 ∧ room i j S = true ∧ as = (S.take (mA j)).reverse ∧ rest = S.drop (mA j) ∧
      ((∃ idx b as' fs, ins = .invokevirtual idx ∧ lref (mC i) idx = some (0, j) ∧ as = .ref b :: as' ∧ h[b]? = some (.inl (mC j, fs))) ∨
       (∃ idx k, ins = .invokestatic idx ∧ (k = 1 ∨ k = 4) ∧ lref (mC i) idx = some (k, j)) ∨
       (∃ idx k b as', ins = .invokespecial idx ∧ (k = 2 ∨ k = 3) ∧ lref (mC i) idx = some (k, j) ∧ as = .ref b :: as')) := by
  cases ins
  case invokevirtual idx =>
    simp only [act] at ha
    split at ha
    · rename_i hl
      refine ⟨hl, ?_⟩
      unfold invV at ha
      split at ha
      · rename_i j' hj
        split at ha
        · rename_i hr
          split at ha
          · rename_i b as' hs
            split at ha
            · rename_i ci fs hc
              split at ha
              · rename_i hci
                cases ha
                subst hci
                exact ⟨hr, hs.symm, rfl, Or.inl ⟨idx, b, as', fs, rfl, hj, rfl, hc⟩⟩
              · cases ha
            · cases ha
          · cases ha
        · cases ha
      · cases ha
    · cases ha
  case invokestatic idx =>
    simp only [act] at ha
    split at ha
    · rename_i hl
      refine ⟨hl, ?_⟩
      unfold invS at ha
      split at ha
      · rename_i j' hj
        split at ha
        · rename_i hr
          cases ha
          exact ⟨hr, rfl, rfl, Or.inr (Or.inl ⟨idx, 1, rfl, Or.inl rfl, hj⟩)⟩
        · cases ha
      · rename_i j' hj
        split at ha
        · rename_i hr
          cases ha
          exact ⟨hr, rfl, rfl, Or.inr (Or.inl ⟨idx, 4, rfl, Or.inr rfl, hj⟩)⟩
        · cases ha
      · repeat' split at ha
        all_goals (cases ha)
      · repeat' split at ha
        all_goals (cases ha)
      · repeat' split at ha
        all_goals (cases ha)
      · cases ha
    · cases ha
  case invokespecial idx =>
    simp only [act] at ha
    split at ha
    · rename_i hl
      refine ⟨hl, ?_⟩
      unfold invI at ha
      split at ha
      · rename_i j' hj
        split at ha
        · rename_i hr
          split at ha
          · rename_i b as' hs
            cases ha
            exact ⟨hr, hs.symm, rfl, Or.inr (Or.inr ⟨idx, 2, b, as', rfl, Or.inl rfl, hj, rfl⟩)⟩
          · cases ha
        · cases ha
      · rename_i j' hj
        split at ha
        · rename_i hr
          split at ha
          · rename_i b as' hs
            cases ha
            exact ⟨hr, hs.symm, rfl, Or.inr (Or.inr ⟨idx, 3, b, as', rfl, Or.inr rfl, hj, rfl⟩)⟩
          · cases ha
        · cases ha
      · repeat' split at ha
        all_goals (cases ha)
      · cases ha
    · cases ha
  all_goals (simp only [act, ldi, lda, sti, sta, jmp] at ha)
  all_goals (repeat' split at ha)
  all_goals (cases ha)
/-- a step that makes a cell -/
theorem act_alloc {i pc len pc' : Nat} {ins : Instr} {L S S' : List Value} {h : List hC} {c : hC} (ha : act i pc ins len L S h = some (.inr (.inr (.inl (c, pc', S'))))) :
    (∃ idx ci, ins = .new idx ∧ len = 3 ∧ nref (mC i) idx = some ci ∧ c = .inl (ci, (List.range (fN ci)).map (fun k => dfl (fty ci k))) ∧ pc' = pc + 3 ∧ S' = S) ∨
    (∃ ty n, ins = .newarray ty ∧ len = 2 ∧ S = .int n :: S' ∧ ¬ n < 0 ∧ n.toNatClampNeg ≤ 10000 ∧ ((ty = .int ∧ c = hI n.toNatClampNeg (fun _ => 0)) ∨ (ty = .char ∧ c = hH n.toNatClampNeg (fun _ => 0))) ∧ pc' = pc + 2) ∨
    (∃ idx n t, ins = .anewarray idx ∧ len = 3 ∧ S = .int n :: S' ∧ aref (mC i) idx = some t ∧ ¬ n < 0 ∧ n.toNatClampNeg ≤ 10000 ∧ (t = 2 ∨ t = 3) ∧ c = hQ t n.toNatClampNeg (fun _ => none) ∧ pc' = pc + 3) := by
  cases ins
  case new idx =>
    simp only [act] at ha
    split at ha
    · rename_i hl
      split at ha
      · rename_i ci hci
        cases ha
        exact Or.inl ⟨idx, ci, rfl, hl, hci, rfl, rfl, rfl⟩
      · cases ha
    · cases ha
  case newarray ty =>
    simp only [act] at ha
    split at ha
    · rename_i hl
      split at ha
      · rename_i n S0
        split at ha
        · rename_i hn
          split at ha
          · cases ha
            exact Or.inr (Or.inl ⟨.int, n, rfl, hl, rfl, hn.1, hn.2, Or.inl ⟨rfl, rfl⟩, rfl⟩)
          · cases ha
            exact Or.inr (Or.inl ⟨.char, n, rfl, hl, rfl, hn.1, hn.2, Or.inr ⟨rfl, rfl⟩, rfl⟩)
          · cases ha
        · cases ha
      · cases ha
    · cases ha
  case anewarray idx =>
    simp only [act] at ha
    split at ha
    · rename_i hl
      split at ha
      · rename_i n S0
        split at ha
        · rename_i t ht
          split at ha
          · rename_i hn
            cases ha
            exact Or.inr (Or.inr ⟨idx, n, t, rfl, hl, rfl, ht, hn.1, hn.2.1, hn.2.2, rfl, rfl⟩)
          · cases ha
        · cases ha
      · cases ha
    · cases ha
  all_goals (simp only [act, ldi, lda, sti, sta, jmp, invV, invS, invI] at ha)
  all_goals (repeat' split at ha)
  all_goals (cases ha)
/-- a step that ends -/
theorem act_ret {i pc len : Nat} {ins : Instr} {L S : List Value} {h : List hC} {v : Option Value} (ha : act i pc ins len L S h = some (.inr (.inl v))) :
    len = 1 ∧ ((∃ x ty, ins = .ireturn ∧ S = [.int x] ∧ mR i = some ty ∧ okv ty (.int x) = true ∧ v = some (.int x)) ∨
      (∃ w n, ins = .areturn ∧ S = [w] ∧ mR i = some (.object n) ∧ (w = .null ∨ ∃ a, w = .ref a) ∧ v = some w) ∨
      (ins = .return_ ∧ S = [] ∧ mR i = none ∧ v = none)) := by
  cases ins
  case ireturn =>
    simp only [act] at ha
    split at ha
    · rename_i hl
      split at ha
      · rename_i x
        split at ha
        · rename_i ty hty
          split at ha
          · rename_i hok
            cases ha
            exact ⟨hl, Or.inl ⟨x, ty, rfl, rfl, hty, hok, rfl⟩⟩
          · cases ha
        · cases ha
      · cases ha
    · cases ha
  case areturn =>
    simp only [act] at ha
    split at ha
    · rename_i hl
      split at ha
      · rename_i w
        split at ha
        · rename_i n a hn
          cases ha
          exact ⟨hl, Or.inr (Or.inl ⟨_, n, rfl, rfl, hn, Or.inr ⟨a, rfl⟩, rfl⟩)⟩
        · rename_i n hn
          cases ha
          exact ⟨hl, Or.inr (Or.inl ⟨_, n, rfl, rfl, hn, Or.inl rfl, rfl⟩)⟩
        · cases ha
      · cases ha
    · cases ha
  case return_ =>
    simp only [act] at ha
    split at ha
    · rename_i hl
      split at ha
      · rename_i hn
        cases ha
        exact ⟨hl, Or.inr (Or.inr ⟨rfl, rfl, hn, rfl⟩)⟩
      · cases ha
    · cases ha
  all_goals (simp only [act, ldi, lda, sti, sta, jmp, invV, invS, invI] at ha)
  all_goals (repeat' split at ha)
  all_goals (cases ha)
/-- a step that goes on keeps the number of cells -/
theorem act_len {i pc len pc' : Nat} {ins : Instr} {L S L' S' : List Value} {h h' : List hC} (ha : act i pc ins len L S h = some (.inl (pc', L', S', h'))) : h'.length = h.length := by
  cases ins
  all_goals (simp only [act, ldi, lda, sti, sta, jmp, invV, invS, invI] at ha)
  all_goals (repeat' split at ha)
  all_goals (first | (cases ha; done) | (cases ha; first | rfl | exact List.length_set))
theorem room_z {i j : Nat} {S : List Value} (h : room i j S = true) : mF j + 1 ≤ mF i ∧ 8 + (mL j + 11) + mW j ≤ mW i ∧ S.length ≤ mA j + 8 ∧ S.all cat1 = true ∧ (mZ i = false → mZ j = false) ∧ mA j ≤ mL j ∧ mA j ≤ S.length := by
  simp only [room, Bool.and_eq_true, decide_eq_true_eq, Bool.or_eq_true, Bool.not_eq_true'] at h
  obtain ⟨⟨⟨⟨⟨⟨h1, h2⟩, h3⟩, h4⟩, h5⟩, h6⟩, h7⟩ := h
  refine ⟨h1, h2, h3, h4, fun hz => ?_, h6, h7⟩
  rcases h5 with q | q
  · exact q
  · rw [hz] at q; cases q
/-- a method that makes no cell makes none -/
theorem exec_none : ∀ (n i pc : Nat) (L S : List Value) (h h' : List hC) (v : Option Value) (a b : Nat), mZ i = false → exec n i pc L S h = some (v, h', a, b) → a = 0 ∧ b = 0 := by
  intro n
  induction n with
  | zero => intro i pc L S h h' v a b _ hv; cases hv
  | succ n ih =>
    intro i pc L S h h' v a b hz hv
    change stp (exec n) i pc L S h = _ at hv
    unfold stp at hv
    cases hd : decode (mB i) pc with
    | error e => rw [hd] at hv; cases hv
    | ok q =>
      obtain ⟨ins, len⟩ := q
      simp only [hd] at hv
      cases ha : act i pc ins len L S h with
      | none => simp only [ha] at hv; cases hv
      | some r =>
        simp only [ha] at hv
        rcases r with ⟨pc', L', S', h1⟩ | v' | ⟨c, pc', S'⟩ | ⟨j, as, rest⟩
        · exact ih _ _ _ _ _ _ _ _ _ hz hv
        · cases hv; exact ⟨rfl, rfl⟩
        · rw [hz] at hv
          simp at hv
        · have hj : mZ j = false := (room_z (act_call ha).2.1).2.2.2.2.1 hz
          simp only at hv
          cases he : exec n j 0 (pad j as) [] h with
          | none => rw [he] at hv; cases hv
          | some w =>
            obtain ⟨v1, h1, a1, b1⟩ := w
            rw [he] at hv
            simp only at hv
            cases he2 : exec n i (pc + 3) L (v1.toList ++ rest) h1 with
            | none => rw [he2] at hv; cases hv
            | some w2 =>
              obtain ⟨v2, h2, a2, b2⟩ := w2
              rw [he2] at hv
              cases hv
              have q1 := ih _ _ _ _ _ _ _ _ _ hj he
              have q2 := ih _ _ _ _ _ _ _ _ _ hz he2
              omega
/-- the cells that are made stand behind those that were -/
theorem exec_len : ∀ (n i pc : Nat) (L S : List Value) (h h' : List hC) (v : Option Value) (a b : Nat), exec n i pc L S h = some (v, h', a, b) → h'.length = h.length + a := by
  intro n
  induction n with
  | zero => intro i pc L S h h' v a b hv; cases hv
  | succ n ih =>
    intro i pc L S h h' v a b hv
    change stp (exec n) i pc L S h = _ at hv
    unfold stp at hv
    cases hd : decode (mB i) pc with
    | error e => rw [hd] at hv; cases hv
    | ok q =>
      obtain ⟨ins, len⟩ := q
      simp only [hd] at hv
      cases ha : act i pc ins len L S h with
      | none => simp only [ha] at hv; cases hv
      | some r =>
        simp only [ha] at hv
        rcases r with ⟨pc', L', S', h1⟩ | v' | ⟨c, pc', S'⟩ | ⟨j, as, rest⟩
        · have := ih _ _ _ _ _ _ _ _ _ hv
          rw [act_len ha] at this
          exact this
        · cases hv; rfl
        · simp only at hv
          split at hv
          · cases he : exec n i pc' L (.ref h.length :: S') (h ++ [c]) with
            | none => rw [he] at hv; cases hv
            | some w =>
              obtain ⟨v1, h1, a1, b1⟩ := w
              rw [he] at hv
              cases hv
              have := ih _ _ _ _ _ _ _ _ _ he
              rw [List.length_append, List.length_singleton] at this
              omega
          · cases hv
        · simp only at hv
          cases he : exec n j 0 (pad j as) [] h with
          | none => rw [he] at hv; cases hv
          | some w =>
            obtain ⟨v1, h1, a1, b1⟩ := w
            rw [he] at hv
            simp only at hv
            cases he2 : exec n i (pc + 3) L (v1.toList ++ rest) h1 with
            | none => rw [he2] at hv; cases hv
            | some w2 =>
              obtain ⟨v2, h2, a2, b2⟩ := w2
              rw [he2] at hv
              cases hv
              have q1 := ih _ _ _ _ _ _ _ _ _ he
              have q2 := ih _ _ _ _ _ _ _ _ _ he2
              omega
end
section
/-! how the small machine's world lies in the machine's -/
def ad (b : Nat) (t : Nat → Nat) (k : Nat) : Nat := match sIx k with
  | some j => t j
  | none => b + k
theorem sB_lt : sB < sB1 ∧ sB < sB2 ∧ sB < sB3 := by decide +kernel
theorem sIx_lt {k : Nat} (h : k < sB) : sIx k = none := by
  have := sB_lt
  unfold sIx
  rw [if_neg (by omega), if_neg (by omega), if_neg (by omega), if_neg (by omega)]
theorem sIx_A {k : Nat} (h : k < 4) : sIx (sA k) = some k := by
  match k, h with
  | 0, _ => rfl
  | 1, _ => decide +kernel
  | 2, _ => decide +kernel
  | 3, _ => decide +kernel
def cv (r : Nat → Nat) (v : Value) : Value := match v with
  | .ref k => .ref (r k)
  | v => v
def ce (r : Nat → Nat) (ac : Nat → ClassId) (x : hC) : va_E := match x with
  | .inl (ci, fs) => .inr (ci, fs.map (cv r))
  | .inr (t, n, .inl f) => .inl (ac t, n, .inl f)
  | .inr (t, n, .inr g) => .inl (ac t, n, .inr (.inr (.inr (.inr (fun j => (g j).map r)))))
def wz (r : Nat → Nat) (ac : Nat → ClassId) (h : List hC) : va_W := h.mapIdx (fun k x => (r k, ce r ac x))
theorem wz_at {r : Nat → Nat} {ac : Nat → ClassId} {h : List hC} {k : Nat} {x : hC} (hx : h[k]? = some x) : (wz r ac h)[k]? = some (r k, ce r ac x) := by
  simp [wz, List.getElem?_mapIdx, hx]
theorem wz_of {r : Nat → Nat} {ac : Nat → ClassId} {h : List hC} {k : Nat} {q : Nat × va_E} (hq : (wz r ac h)[k]? = some q) : ∃ x, h[k]? = some x ∧ q = (r k, ce r ac x) := by
  simp only [wz, List.getElem?_mapIdx] at hq
  cases hx : h[k]? with
  | none => rw [hx] at hq; cases hq
  | some x => rw [hx] at hq; cases hq; exact ⟨x, rfl, rfl⟩
theorem wz_set (r : Nat → Nat) (ac : Nat → ClassId) (h : List hC) (k : Nat) (x : hC) : (wz r ac h).set k (r k, ce r ac x) = wz r ac (h.set k x) := by
  apply List.ext_getElem?
  intro j
  by_cases hj : k = j
  · subst hj
    by_cases hl : k < h.length
    · rw [List.getElem?_set_self (by simpa [wz] using hl), wz_at (List.getElem?_set_self hl)]
    · rw [List.getElem?_eq_none (by simpa [wz] using Nat.le_of_not_lt hl), List.getElem?_eq_none (by simpa [wz] using Nat.le_of_not_lt hl)]
  · rw [List.getElem?_set_ne hj]
    simp only [wz, List.getElem?_mapIdx]
    rw [List.getElem?_set_ne hj]
theorem wz_push (r : Nat → Nat) (ac : Nat → ClassId) (h : List hC) (x : hC) : wz r ac (h ++ [x]) = wz r ac h ++ [(r h.length, ce r ac x)] := by
  simp [wz, List.mapIdx_append]
theorem ad_lt {b : Nat} {t : Nat → Nat} {k : Nat} (h : k < sB) : ad b t k = b + k := by
  unfold ad; rw [sIx_lt h]
theorem wz_D {b : Nat} {t : Nat → Nat} {ac : Nat → ClassId} {h : List hC} (hl : h.length ≤ sB) : va_D (fun q => b ≤ q) (wz (ad b t) ac h) := by
  have key : ∀ k q, (wz (ad b t) ac h)[k]? = some q → q.1 = b + k := by
    intro k q hq
    obtain ⟨x, hx, rfl⟩ := wz_of hq
    exact ad_lt (Nat.lt_of_lt_of_le (List.getElem?_eq_some_iff.mp hx).1 hl)
  refine ⟨fun i j p q hp hq he => ?_, fun k q hq => ?_⟩
  · have := key i p hp
    have := key j q hq
    omega
  · show b ≤ q.1
    rw [key k q hq]; omega
abbrev tyl (ac : Nat → ClassId) : List (ClassId × FieldType) := [(ac 0, .int), (ac 1, .char), (ac 2, .object RX0), (ac 3, .object RX9)]
/-- what holds of the tables and of what nobody writes -/
def EV (b : Nat) (t : Nat → Nat) (ac : Nat → ClassId) (D : va_G) (U : State) : Prop :=
  va_K D vwCl (tyl ac) U ∧ (∀ q ∈ ntab, va_Nw (.methodLinkNest q.1 q.2.1 q.2.2.1 q.2.2.2) U) ∧
  (∀ k, k < 4 → va_Z RX0 (sNm k) "[I" (.ref (t k)) (fun q => b ≤ q) U U.heap ∧ va_T .int (t k) 4 (fun j => .int (sArr k j)) (fun q => b ≤ q) U U.heap) ∧ va_AO RX0 U ∧ va_AO RX9 U
theorem EV.to {b : Nat} {t : Nat → Nat} {ac : Nat → ClassId} {D : va_G} {s U : State} {H : Heap} {locs : List Loc} (h : EV b t ac D s) (hS : va_S (fun q => b ≤ q) s.heap H locs) (hW : s.WarmedH U.vm) (hU : U.heap = H) : EV b t ac D U := by
  obtain ⟨h1, h2, h3, h4, h5⟩ := h
  refine ⟨va_K.moved hW.alike h1, fun q hq => va_Nw.warmM hW (h2 q hq), fun k hk => ?_, h4.moved hW.alike, h5.moved hW.alike⟩
  rw [hU]
  exact ⟨((h3 k hk).1.moved hW.alike).kept hS.2.1, ((h3 k hk).2.moved hW.alike).kept hS.2.1⟩
theorem EV.call {b : Nat} {t : Nat → Nat} {ac : Nat → ClassId} {D : va_G} {U : State} {g : JFrame} {mk : MethodId} {a : Array Value} (h : EV b t ac D U) : EV b t ac D (U.calling g mk a) := by
  obtain ⟨h1, h2, h3, h4, h5⟩ := h
  exact ⟨va_K.moved (u := U) (U := U.calling g mk a) (Vm.Alike.refl U.vm) h1, fun q hq => va_Nw.same rfl (u := U) rfl (h2 q hq), fun k hk => ⟨(h3 k hk).1.moved (u := U) (U := U.calling g mk a) (Vm.Alike.refl U.vm), (h3 k hk).2.moved (u := U) (U := U.calling g mk a) (Vm.Alike.refl U.vm)⟩, h4.moved (u := U) (U := U.calling g mk a) (Vm.Alike.refl U.vm), h5.moved (u := U) (U := U.calling g mk a) (Vm.Alike.refl U.vm)⟩
/-- the world is this heap -/
def WH (b : Nat) (t : Nat → Nat) (ac : Nat → ClassId) (D : va_G) (h : List hC) (H : Heap) : Prop := va_P D vwCl (wz (ad b t) ac h) H
/-- the locals are these -/
def LR (r : Nat → Nat) (ls : Array Slot) (n : Nat) (L : List Value) : Prop := ls.size = n ∧ lv_wf ls ∧ L.length = n ∧ ∀ (k : Nat) (v : Value), L[k]? = some v → cat1 v = true → ls[k]? = some (Slot.val (cv r v))
theorem cat1_c {r : Nat → Nat} {v : Value} (h : cat1 v = true) : (cv r v).category = 1 := by
  cases v <;> first | rfl | cases h
theorem LR.has {r : Nat → Nat} {ls : Array Slot} {n : Nat} {L : List Value} (h : LR r ls n L) : lv_has ls n ((L.mapIdx (fun k v => (k, v))).filterMap (fun q => if cat1 q.2 = true then some (q.1, cv r q.2) else none)) := by
  refine ⟨h.1, h.2.1, fun q hq => ?_⟩
  obtain ⟨⟨k, v⟩, h1, h2⟩ := List.mem_filterMap.mp hq
  simp only at h2
  split at h2
  · rename_i hc
    cases h2
    obtain ⟨i, hi⟩ := List.getElem?_of_mem h1
    rw [List.getElem?_mapIdx] at hi
    cases hx : L[i]? with
    | none => rw [hx] at hi; cases hi
    | some x => rw [hx] at hi; cases hi; exact h.2.2.2 _ _ hx hc
  · cases h2
/-- one more place is known -/
theorem LR.has1 {r : Nat → Nat} {ls : Array Slot} {n i : Nat} {L : List Value} {v : Value} (h : LR r ls n L) (hv : L[i]? = some v) (hc : cat1 v = true) : lv_has ls n ((i, cv r v) :: (L.mapIdx (fun k v => (k, v))).filterMap (fun q => if cat1 q.2 = true then some (q.1, cv r q.2) else none)) := by
  refine ⟨h.1, h.2.1, fun q hq => ?_⟩
  rcases List.mem_cons.mp hq with rfl | hq
  · exact h.2.2.2 i v hv hc
  · exact h.has.2.2 q hq
theorem LR.put {r : Nat → Nat} {ls ls' : Array Slot} {n i : Nat} {L : List Value} {v : Value} {w : Value} {extra : List (Nat × Value)} (h : LR r ls n L) (hc : cat1 v = true) (hw : w = cv r v)
    (h' : lv_has ls' n ((i, w) :: (extra ++ ((L.mapIdx (fun k v => (k, v))).filterMap (fun q => if cat1 q.2 = true then some (q.1, cv r q.2) else none))).filter (fun q => !(q.1 == i) && !(q.1 + 1 == i && q.2.category == 2)))) : LR r ls' n (L.set i v) := by
  subst hw
  refine ⟨h'.1, h'.2.1, by rw [List.length_set]; exact h.2.2.1, fun k x hk hx => ?_⟩
  by_cases hki : i = k
  · subst hki
    have hl : i < L.length := by
      have := (List.getElem?_eq_some_iff.mp hk).1
      rwa [List.length_set] at this
    rw [List.getElem?_set_self hl] at hk
    cases hk
    exact h'.2.2 _ List.mem_cons_self
  · rw [List.getElem?_set_ne hki] at hk
    refine h'.2.2 (k, cv r x) (List.mem_cons_of_mem _ (List.mem_filter.mpr ⟨List.mem_append_right _ (List.mem_filterMap.mpr ⟨(k, x), ?_, ?_⟩), ?_⟩))
    · refine List.mem_of_getElem? (i := k) ?_
      rw [List.getElem?_mapIdx, hk]; rfl
    · simp only [hx, if_true]
    · have := cat1_c (r := r) hx
      simp [this, Ne.symm hki]
theorem ite_some {α : Type} {c : Prop} [Decidable c] {a : Option α} {r : α} (h : (if c then a else none) = some r) : c ∧ a = some r := by
  by_cases hc : c
  · rw [if_pos hc] at h; exact ⟨hc, h⟩
  · rw [if_neg hc] at h; cases h
def Ctx (b : Nat) (t : Nat → Nat) (ac : Nat → ClassId) (D : va_G) (p : Program) (s : State) (m : MethodId) (args : Array Value) (meth : Method) (c : Code) (R : Room) (i : Nat) : Prop :=
  p.tables.exec = Jvm.exec ∧ c.code = mB i ∧ meth.sig.returnType = mR i ∧ c.maxLocals = mL i ∧ s.vm.findClass (fR (mC i)) = some m.cls ∧ (∀ w ∈ gw, w.before args s = true) ∧ meth.locks = false ∧ ((mN i).name = "<init>" → meth.name = "<init>") ∧ EV b t ac D s ∧ mF i ≤ R.frames ∧ mW i ≤ R.locals ∧ b ≤ s.heap.size
theorem okx_in {i : Int32} {n : Nat} (h : okx i n = true) : vp_in i n := by
  simp only [okx, Bool.and_eq_true, decide_eq_true_eq] at h
  intro q
  rcases q with q | q
  · exact absurd (Int32.lt_iff_toInt_lt.mp q) (by have := Int32.le_iff_toInt_le.mp h.1; omega)
  · omega
theorem okv_n {r : Nat → Nat} {ty : FieldType} {v : Value} (h : okv ty v = true) : narrow ty (cv r v) = cv r v ∧ fits ty (cv r v) = true := by
  cases ty <;> cases v <;> first
    | exact ⟨rfl, rfl⟩
    | (cases h; done)
    | (simp only [okv, Bool.or_eq_true, decide_eq_true_eq] at h
       rcases h with rfl | rfl <;> exact ⟨rfl, rfl⟩)
theorem fty_ok {ci k : Nat} (h1 : ci < 12) (h : k < fN ci) : parseFieldDescriptor (fT ci k).2.2.1 = some (fty ci k) := by
  match ci, h1, h with
  | 0, _, h => exact tyX0_ok k h
  | 1, _, h => exact tyX1_ok k h
  | 2, _, h => exact tyX2_ok k h
  | 3, _, h => exact tyX3_ok k h
  | 4, _, h => exact tyX4_ok k h
  | 5, _, h => exact tyX5_ok k h
  | 6, _, h => exact tyX6_ok k h
  | 7, _, h => exact tyX7_ok k h
  | 8, _, h => exact tyX8_ok k h
  | 9, _, h => exact tyX9_ok k h
  | 10, _, h => exact tyX10_ok k h
  | 11, _, h => exact tyX11_ok k h
theorem fnm_ok {ci : Nat} (h1 : ci < 12) : ∀ a, a < fN ci → ∀ b, b < fN ci → a ≠ b → (fT ci a).2.1 ≠ (fT ci b).2.1 := by
  match ci, h1 with
  | 0, _ => exact nmX0
  | 1, _ => exact nmX1
  | 2, _ => exact nmX2
  | 3, _ => exact nmX3
  | 4, _ => exact nmX4
  | 5, _ => exact nmX5
  | 6, _ => exact nmX6
  | 7, _ => exact nmX7
  | 8, _ => exact nmX8
  | 9, _ => exact nmX9
  | 10, _ => exact nmX10
  | 11, _ => exact nmX11
theorem fdecl_ok : (List.range 12).all (fun ci => (List.range (fN ci)).all (fun k => decide ((fT ci k).1 = fR ci))) = true := by decide +kernel
theorem fdecl {ci k : Nat} (h1 : ci < 12) (h : k < fN ci) : (fT ci k).1 = fR ci := of_decide_eq_true (List.all_eq_true.mp (List.all_eq_true.mp fdecl_ok ci (List.mem_range.mpr h1)) k (List.mem_range.mpr h))
theorem cat_sum {r : Nat → Nat} : ∀ (S : List Value), S.all cat1 = true → ((S.map (cv r)).map fun v => v.category).sum = S.length
  | [], _ => rfl
  | v :: S, h => by
    simp only [List.all_cons, Bool.and_eq_true] at h
    have := cat_sum (r := r) S h.2
    simp only [List.map_cons, List.sum_cons, List.length_cons, cat1_c h.1] at this ⊢
    omega
theorem getF_ok {c : Option hC} {ci k : Nat} {v : Value} (h : getF c ci k = some v) : ∃ fs, c = some (.inl (ci, fs)) ∧ fs[k]? = some v ∧ cat1 v = true := by
  unfold getF at h
  split at h
  · rename_i d fs
    have h' := ite_some h; clear h; obtain ⟨rfl, h⟩ := h'
    cases hk : fs[k]? with
    | none => rw [hk] at h; cases h
    | some w =>
      rw [hk] at h
      have h' := ite_some h; clear h; obtain ⟨h1, h⟩ := h'
      cases h
      exact ⟨fs, rfl, hk, h1⟩
  · cases h
theorem putF_ok {c : Option hC} {ci k : Nat} {v : Value} {x : hC} (h : putF c ci k v = some x) : ∃ fs, c = some (.inl (ci, fs)) ∧ k < fs.length ∧ okv (fty ci k) v = true ∧ x = .inl (ci, fs.set k v) := by
  unfold putF at h
  split at h
  · rename_i d fs
    have h' := ite_some h; clear h; obtain ⟨⟨rfl, h1, h2⟩, h⟩ := h'
    cases h
    exact ⟨fs, rfl, h1, h2, rfl⟩
  · cases h
theorem getI_ok {c : Option hC} {a t : Nat} {i x : Int32} (h : getI c a t i = some x) : (∃ n f, c = some (.inr (t, n, .inl f)) ∧ okx i n = true ∧ x = f i.toNatClampNeg) ∨ (c = none ∧ t = 0 ∧ ∃ j, sIx a = some j ∧ okx i 4 = true ∧ x = sArr j i.toNatClampNeg) := by
  unfold getI at h
  split at h
  · rename_i u n f
    have h' := ite_some h; clear h; obtain ⟨⟨rfl, h1⟩, h⟩ := h'
    cases h
    exact Or.inl ⟨n, f, rfl, h1, rfl⟩
  · cases h
  · split at h
    · rename_i j hj
      have h' := ite_some h; clear h; obtain ⟨⟨h1, h3⟩, h⟩ := h'
      cases h
      exact Or.inr ⟨rfl, h1, j, hj, h3, rfl⟩
    · cases h
theorem putI_ok {c : Option hC} {t : Nat} {i x : Int32} {y : hC} (h : putI c t i x = some y) : ∃ n f, c = some (.inr (t, n, .inl f)) ∧ okx i n = true ∧ y = .inr (t, n, .inl (upd f i.toNatClampNeg x)) := by
  unfold putI at h
  split at h
  · rename_i u n f
    have h' := ite_some h; clear h; obtain ⟨⟨rfl, h1⟩, h⟩ := h'
    cases h
    exact ⟨n, f, rfl, h1, rfl⟩
  · cases h
theorem getQ_ok {c : Option hC} {i : Int32} {v : Value} (h : getQ c i = some v) : ∃ t n g, c = some (.inr (t, n, .inr g)) ∧ (t = 2 ∨ t = 3) ∧ okx i n = true ∧ v = va_rf (g i.toNatClampNeg) := by
  unfold getQ at h
  split at h
  · rename_i u n f
    have h' := ite_some h; clear h; obtain ⟨⟨h0, h1⟩, h⟩ := h'
    cases h
    exact ⟨u, n, f, rfl, h0, h1, rfl⟩
  · cases h
theorem putQ_ok {c d : Option hC} {i : Int32} {v : Nat} {y : hC} (h : putQ c i d v = some y) : ∃ t n g fs, c = some (.inr (t, n, .inr g)) ∧ d = some (.inl (qcl t, fs)) ∧ (t = 2 ∨ t = 3) ∧ okx i n = true ∧ y = .inr (t, n, .inr (va_up g i.toNatClampNeg (some v))) := by
  unfold putQ at h
  split at h
  · rename_i u n f ci fs
    have h' := ite_some h; clear h; obtain ⟨⟨h0, rfl, h1⟩, h⟩ := h'
    cases h
    exact ⟨u, n, f, fs, rfl, rfl, h0, h1, rfl⟩
  · cases h
theorem cpyI_ok {c d : Option hC} {sp dp n : Int32} {y : hC} (h : cpyI c d sp dp n = some y) : ∃ n0 f n1 g, c = some (.inr (0, n0, .inl f)) ∧ d = some (.inr (0, n1, .inl g)) ∧ (¬ sp < 0 ∧ ¬ dp < 0 ∧ ¬ n < 0 ∧ sp.toNatClampNeg + n.toNatClampNeg ≤ n0 ∧ dp.toNatClampNeg + n.toNatClampNeg ≤ n1) ∧ y = .inr (0, n1, .inl (va_cpy f g sp.toNatClampNeg dp.toNatClampNeg n.toNatClampNeg)) := by
  unfold cpyI at h
  split at h
  · rename_i n0 f n1 g
    have h' := ite_some h; clear h; obtain ⟨h0, h⟩ := h'
    cases h
    exact ⟨n0, f, n1, g, rfl, rfl, h0, rfl⟩
  · cases h
theorem cv_rf {b : Nat} {t : Nat → Nat} (o : Option Nat) : cv (ad b t) (va_rf o) = va_rf (o.map (ad b t)) := by
  cases o <;> rfl
theorem s_iload {p : Program} {l : Launch} {e : Env} {R : Room} {s : State} {m : MethodId} {args : Array Value} {below : List Frame} {meth : Method} {c : Code} {H : Heap} {locs : List Loc} {cells slots : Nat} {Q : State → Prop} {b : Nat} {t : Nat → Nat} {ac : Nat → ClassId} {D : va_G} {i pc len : Nat} {ls : Array Slot} {L S : List Value} {h : List hC} {pc' : Nat} {L' S' : List Value} {h' : List hC} {n : Nat} (C : Ctx b t ac D p s m args meth c R i) (hd : decode (mB i) pc = .ok (.iload n, len)) (ha : act i pc (.iload n) len L S h = some (.inl (pc', L', S', h'))) (hL : LR (ad b t) ls (mL i) L) (hW : WH b t ac D h H) (hS : va_S (fun q => b ≤ q) s.heap H locs) (hlen : h.length ≤ sB) (hcs : cells ≤ R.cells ∧ slots ≤ R.slots)
    (k : ∀ (ls' : Array Slot) (H' : Heap) (locs' : List Loc), LR (ad b t) ls' (mL i) L' → WH b t ac D h' H' → va_S (fun q => b ≤ q) s.heap H' locs' → W p l e R s m args below meth c H' locs' cells slots Q (F0 m pc' ls' (S'.map (cv (ad b t))))) : W p l e R s m args below meth c H locs cells slots Q (F0 m pc ls (S.map (cv (ad b t)))) := by
  obtain ⟨hx, hb, hr, hml, hown, hts, hlocks, hin, hE, hfr, hlo, hbs⟩ := C
  have ha' := ite_some ha; clear ha; obtain ⟨rfl, ha⟩ := ha'
  unfold ldi at ha
  split at ha
  · rename_i x hx1
    cases ha
    exact lv_iload hx hb hd (hL.2.2.2 _ _ hx1 rfl) (k _ _ _ hL hW hS)
  · cases ha
theorem s_iload_n {p : Program} {l : Launch} {e : Env} {R : Room} {s : State} {m : MethodId} {args : Array Value} {below : List Frame} {meth : Method} {c : Code} {H : Heap} {locs : List Loc} {cells slots : Nat} {Q : State → Prop} {b : Nat} {t : Nat → Nat} {ac : Nat → ClassId} {D : va_G} {i pc len : Nat} {ls : Array Slot} {L S : List Value} {h : List hC} {pc' : Nat} {L' S' : List Value} {h' : List hC} {n : Fin 4} (C : Ctx b t ac D p s m args meth c R i) (hd : decode (mB i) pc = .ok (.iload_n n, len)) (ha : act i pc (.iload_n n) len L S h = some (.inl (pc', L', S', h'))) (hL : LR (ad b t) ls (mL i) L) (hW : WH b t ac D h H) (hS : va_S (fun q => b ≤ q) s.heap H locs) (hlen : h.length ≤ sB) (hcs : cells ≤ R.cells ∧ slots ≤ R.slots)
    (k : ∀ (ls' : Array Slot) (H' : Heap) (locs' : List Loc), LR (ad b t) ls' (mL i) L' → WH b t ac D h' H' → va_S (fun q => b ≤ q) s.heap H' locs' → W p l e R s m args below meth c H' locs' cells slots Q (F0 m pc' ls' (S'.map (cv (ad b t))))) : W p l e R s m args below meth c H locs cells slots Q (F0 m pc ls (S.map (cv (ad b t)))) := by
  obtain ⟨hx, hb, hr, hml, hown, hts, hlocks, hin, hE, hfr, hlo, hbs⟩ := C
  have ha' := ite_some ha; clear ha; obtain ⟨rfl, ha⟩ := ha'
  unfold ldi at ha
  split at ha
  · rename_i x hx1
    cases ha
    exact lv_iload_n hx hb hd rfl (hL.2.2.2 _ _ hx1 rfl) (k _ _ _ hL hW hS)
  · cases ha
theorem s_aload {p : Program} {l : Launch} {e : Env} {R : Room} {s : State} {m : MethodId} {args : Array Value} {below : List Frame} {meth : Method} {c : Code} {H : Heap} {locs : List Loc} {cells slots : Nat} {Q : State → Prop} {b : Nat} {t : Nat → Nat} {ac : Nat → ClassId} {D : va_G} {i pc len : Nat} {ls : Array Slot} {L S : List Value} {h : List hC} {pc' : Nat} {L' S' : List Value} {h' : List hC} {n : Nat} (C : Ctx b t ac D p s m args meth c R i) (hd : decode (mB i) pc = .ok (.aload n, len)) (ha : act i pc (.aload n) len L S h = some (.inl (pc', L', S', h'))) (hL : LR (ad b t) ls (mL i) L) (hW : WH b t ac D h H) (hS : va_S (fun q => b ≤ q) s.heap H locs) (hlen : h.length ≤ sB) (hcs : cells ≤ R.cells ∧ slots ≤ R.slots)
    (k : ∀ (ls' : Array Slot) (H' : Heap) (locs' : List Loc), LR (ad b t) ls' (mL i) L' → WH b t ac D h' H' → va_S (fun q => b ≤ q) s.heap H' locs' → W p l e R s m args below meth c H' locs' cells slots Q (F0 m pc' ls' (S'.map (cv (ad b t))))) : W p l e R s m args below meth c H locs cells slots Q (F0 m pc ls (S.map (cv (ad b t)))) := by
  obtain ⟨hx, hb, hr, hml, hown, hts, hlocks, hin, hE, hfr, hlo, hbs⟩ := C
  have ha' := ite_some ha; clear ha; obtain ⟨rfl, ha⟩ := ha'
  unfold lda at ha
  split at ha
  · rename_i x hx1
    cases ha
    exact lv_aload hx hb hd (hL.2.2.2 _ _ hx1 rfl) (k _ _ _ hL hW hS)
  · rename_i hx1
    cases ha
    exact lv_aloadN hx hb hd (hL.2.2.2 _ _ hx1 rfl) (k _ _ _ hL hW hS)
  · cases ha
theorem s_aload_n {p : Program} {l : Launch} {e : Env} {R : Room} {s : State} {m : MethodId} {args : Array Value} {below : List Frame} {meth : Method} {c : Code} {H : Heap} {locs : List Loc} {cells slots : Nat} {Q : State → Prop} {b : Nat} {t : Nat → Nat} {ac : Nat → ClassId} {D : va_G} {i pc len : Nat} {ls : Array Slot} {L S : List Value} {h : List hC} {pc' : Nat} {L' S' : List Value} {h' : List hC} {n : Fin 4} (C : Ctx b t ac D p s m args meth c R i) (hd : decode (mB i) pc = .ok (.aload_n n, len)) (ha : act i pc (.aload_n n) len L S h = some (.inl (pc', L', S', h'))) (hL : LR (ad b t) ls (mL i) L) (hW : WH b t ac D h H) (hS : va_S (fun q => b ≤ q) s.heap H locs) (hlen : h.length ≤ sB) (hcs : cells ≤ R.cells ∧ slots ≤ R.slots)
    (k : ∀ (ls' : Array Slot) (H' : Heap) (locs' : List Loc), LR (ad b t) ls' (mL i) L' → WH b t ac D h' H' → va_S (fun q => b ≤ q) s.heap H' locs' → W p l e R s m args below meth c H' locs' cells slots Q (F0 m pc' ls' (S'.map (cv (ad b t))))) : W p l e R s m args below meth c H locs cells slots Q (F0 m pc ls (S.map (cv (ad b t)))) := by
  obtain ⟨hx, hb, hr, hml, hown, hts, hlocks, hin, hE, hfr, hlo, hbs⟩ := C
  have ha' := ite_some ha; clear ha; obtain ⟨rfl, ha⟩ := ha'
  unfold lda at ha
  split at ha
  · rename_i x hx1
    cases ha
    exact lv_aload_n hx hb hd rfl (hL.2.2.2 _ _ hx1 rfl) (k _ _ _ hL hW hS)
  · rename_i hx1
    cases ha
    exact lv_aload_nN hx hb hd rfl (hL.2.2.2 _ _ hx1 rfl) (k _ _ _ hL hW hS)
  · cases ha
theorem s_istore {p : Program} {l : Launch} {e : Env} {R : Room} {s : State} {m : MethodId} {args : Array Value} {below : List Frame} {meth : Method} {c : Code} {H : Heap} {locs : List Loc} {cells slots : Nat} {Q : State → Prop} {b : Nat} {t : Nat → Nat} {ac : Nat → ClassId} {D : va_G} {i pc len : Nat} {ls : Array Slot} {L S : List Value} {h : List hC} {pc' : Nat} {L' S' : List Value} {h' : List hC} {n : Nat} (C : Ctx b t ac D p s m args meth c R i) (hd : decode (mB i) pc = .ok (.istore n, len)) (ha : act i pc (.istore n) len L S h = some (.inl (pc', L', S', h'))) (hL : LR (ad b t) ls (mL i) L) (hW : WH b t ac D h H) (hS : va_S (fun q => b ≤ q) s.heap H locs) (hlen : h.length ≤ sB) (hcs : cells ≤ R.cells ∧ slots ≤ R.slots)
    (k : ∀ (ls' : Array Slot) (H' : Heap) (locs' : List Loc), LR (ad b t) ls' (mL i) L' → WH b t ac D h' H' → va_S (fun q => b ≤ q) s.heap H' locs' → W p l e R s m args below meth c H' locs' cells slots Q (F0 m pc' ls' (S'.map (cv (ad b t))))) : W p l e R s m args below meth c H locs cells slots Q (F0 m pc ls (S.map (cv (ad b t)))) := by
  obtain ⟨hx, hb, hr, hml, hown, hts, hlocks, hin, hE, hfr, hlo, hbs⟩ := C
  have ha' := ite_some ha; clear ha; obtain ⟨rfl, ha⟩ := ha'
  unfold sti at ha
  split at ha
  · rename_i x S0
    have ha' := ite_some ha; clear ha; obtain ⟨hn, ha⟩ := ha'
    cases ha
    exact lv_istore hx hb hd hL.has (by rw [← hL.2.2.1]; exact hn) rfl (fun ls' hl' => k ls' _ _ (LR.put (extra := []) (v := .int x) hL rfl rfl hl') hW hS)
  · cases ha
theorem s_istore_n {p : Program} {l : Launch} {e : Env} {R : Room} {s : State} {m : MethodId} {args : Array Value} {below : List Frame} {meth : Method} {c : Code} {H : Heap} {locs : List Loc} {cells slots : Nat} {Q : State → Prop} {b : Nat} {t : Nat → Nat} {ac : Nat → ClassId} {D : va_G} {i pc len : Nat} {ls : Array Slot} {L S : List Value} {h : List hC} {pc' : Nat} {L' S' : List Value} {h' : List hC} {n : Fin 4} (C : Ctx b t ac D p s m args meth c R i) (hd : decode (mB i) pc = .ok (.istore_n n, len)) (ha : act i pc (.istore_n n) len L S h = some (.inl (pc', L', S', h'))) (hL : LR (ad b t) ls (mL i) L) (hW : WH b t ac D h H) (hS : va_S (fun q => b ≤ q) s.heap H locs) (hlen : h.length ≤ sB) (hcs : cells ≤ R.cells ∧ slots ≤ R.slots)
    (k : ∀ (ls' : Array Slot) (H' : Heap) (locs' : List Loc), LR (ad b t) ls' (mL i) L' → WH b t ac D h' H' → va_S (fun q => b ≤ q) s.heap H' locs' → W p l e R s m args below meth c H' locs' cells slots Q (F0 m pc' ls' (S'.map (cv (ad b t))))) : W p l e R s m args below meth c H locs cells slots Q (F0 m pc ls (S.map (cv (ad b t)))) := by
  obtain ⟨hx, hb, hr, hml, hown, hts, hlocks, hin, hE, hfr, hlo, hbs⟩ := C
  have ha' := ite_some ha; clear ha; obtain ⟨rfl, ha⟩ := ha'
  unfold sti at ha
  split at ha
  · rename_i x S0
    have ha' := ite_some ha; clear ha; obtain ⟨hn, ha⟩ := ha'
    cases ha
    exact lv_istore_n hx hb hd rfl hL.has (by rw [← hL.2.2.1]; exact hn) rfl (fun ls' hl' => k ls' _ _ (LR.put (extra := []) (v := .int x) hL rfl rfl hl') hW hS)
  · cases ha
theorem s_astore {p : Program} {l : Launch} {e : Env} {R : Room} {s : State} {m : MethodId} {args : Array Value} {below : List Frame} {meth : Method} {c : Code} {H : Heap} {locs : List Loc} {cells slots : Nat} {Q : State → Prop} {b : Nat} {t : Nat → Nat} {ac : Nat → ClassId} {D : va_G} {i pc len : Nat} {ls : Array Slot} {L S : List Value} {h : List hC} {pc' : Nat} {L' S' : List Value} {h' : List hC} {n : Nat} (C : Ctx b t ac D p s m args meth c R i) (hd : decode (mB i) pc = .ok (.astore n, len)) (ha : act i pc (.astore n) len L S h = some (.inl (pc', L', S', h'))) (hL : LR (ad b t) ls (mL i) L) (hW : WH b t ac D h H) (hS : va_S (fun q => b ≤ q) s.heap H locs) (hlen : h.length ≤ sB) (hcs : cells ≤ R.cells ∧ slots ≤ R.slots)
    (k : ∀ (ls' : Array Slot) (H' : Heap) (locs' : List Loc), LR (ad b t) ls' (mL i) L' → WH b t ac D h' H' → va_S (fun q => b ≤ q) s.heap H' locs' → W p l e R s m args below meth c H' locs' cells slots Q (F0 m pc' ls' (S'.map (cv (ad b t))))) : W p l e R s m args below meth c H locs cells slots Q (F0 m pc ls (S.map (cv (ad b t)))) := by
  obtain ⟨hx, hb, hr, hml, hown, hts, hlocks, hin, hE, hfr, hlo, hbs⟩ := C
  have ha' := ite_some ha; clear ha; obtain ⟨rfl, ha⟩ := ha'
  unfold sta at ha
  split at ha
  · rename_i x S0
    have ha' := ite_some ha; clear ha; obtain ⟨hn, ha⟩ := ha'
    cases ha
    exact lv_astore hx hb hd hL.has (by rw [← hL.2.2.1]; exact hn) rfl (fun ls' hl' => k ls' _ _ (LR.put (extra := []) (v := .ref x) hL rfl rfl hl') hW hS)
  · rename_i S0
    have ha' := ite_some ha; clear ha; obtain ⟨hn, ha⟩ := ha'
    cases ha
    exact lv_astoreN hx hb hd hL.has (by rw [← hL.2.2.1]; exact hn) rfl (fun ls' hl' => k ls' _ _ (LR.put (extra := []) (v := .null) hL rfl rfl hl') hW hS)
  · cases ha
theorem s_astore_n {p : Program} {l : Launch} {e : Env} {R : Room} {s : State} {m : MethodId} {args : Array Value} {below : List Frame} {meth : Method} {c : Code} {H : Heap} {locs : List Loc} {cells slots : Nat} {Q : State → Prop} {b : Nat} {t : Nat → Nat} {ac : Nat → ClassId} {D : va_G} {i pc len : Nat} {ls : Array Slot} {L S : List Value} {h : List hC} {pc' : Nat} {L' S' : List Value} {h' : List hC} {n : Fin 4} (C : Ctx b t ac D p s m args meth c R i) (hd : decode (mB i) pc = .ok (.astore_n n, len)) (ha : act i pc (.astore_n n) len L S h = some (.inl (pc', L', S', h'))) (hL : LR (ad b t) ls (mL i) L) (hW : WH b t ac D h H) (hS : va_S (fun q => b ≤ q) s.heap H locs) (hlen : h.length ≤ sB) (hcs : cells ≤ R.cells ∧ slots ≤ R.slots)
    (k : ∀ (ls' : Array Slot) (H' : Heap) (locs' : List Loc), LR (ad b t) ls' (mL i) L' → WH b t ac D h' H' → va_S (fun q => b ≤ q) s.heap H' locs' → W p l e R s m args below meth c H' locs' cells slots Q (F0 m pc' ls' (S'.map (cv (ad b t))))) : W p l e R s m args below meth c H locs cells slots Q (F0 m pc ls (S.map (cv (ad b t)))) := by
  obtain ⟨hx, hb, hr, hml, hown, hts, hlocks, hin, hE, hfr, hlo, hbs⟩ := C
  have ha' := ite_some ha; clear ha; obtain ⟨rfl, ha⟩ := ha'
  unfold sta at ha
  split at ha
  · rename_i x S0
    have ha' := ite_some ha; clear ha; obtain ⟨hn, ha⟩ := ha'
    cases ha
    exact lv_astore_n hx hb hd rfl hL.has (by rw [← hL.2.2.1]; exact hn) rfl (fun ls' hl' => k ls' _ _ (LR.put (extra := []) (v := .ref x) hL rfl rfl hl') hW hS)
  · rename_i S0
    have ha' := ite_some ha; clear ha; obtain ⟨hn, ha⟩ := ha'
    cases ha
    exact lv_astore_nN hx hb hd rfl hL.has (by rw [← hL.2.2.1]; exact hn) rfl (fun ls' hl' => k ls' _ _ (LR.put (extra := []) (v := .null) hL rfl rfl hl') hW hS)
  · cases ha
theorem s_iconst {p : Program} {l : Launch} {e : Env} {R : Room} {s : State} {m : MethodId} {args : Array Value} {below : List Frame} {meth : Method} {c : Code} {H : Heap} {locs : List Loc} {cells slots : Nat} {Q : State → Prop} {b : Nat} {t : Nat → Nat} {ac : Nat → ClassId} {D : va_G} {i pc len : Nat} {ls : Array Slot} {L S : List Value} {h : List hC} {pc' : Nat} {L' S' : List Value} {h' : List hC} {n : Int} (C : Ctx b t ac D p s m args meth c R i) (hd : decode (mB i) pc = .ok (.iconst n, len)) (ha : act i pc (.iconst n) len L S h = some (.inl (pc', L', S', h'))) (hL : LR (ad b t) ls (mL i) L) (hW : WH b t ac D h H) (hS : va_S (fun q => b ≤ q) s.heap H locs) (hlen : h.length ≤ sB) (hcs : cells ≤ R.cells ∧ slots ≤ R.slots)
    (k : ∀ (ls' : Array Slot) (H' : Heap) (locs' : List Loc), LR (ad b t) ls' (mL i) L' → WH b t ac D h' H' → va_S (fun q => b ≤ q) s.heap H' locs' → W p l e R s m args below meth c H' locs' cells slots Q (F0 m pc' ls' (S'.map (cv (ad b t))))) : W p l e R s m args below meth c H locs cells slots Q (F0 m pc ls (S.map (cv (ad b t)))) := by
  obtain ⟨hx, hb, hr, hml, hown, hts, hlocks, hin, hE, hfr, hlo, hbs⟩ := C
  have ha' := ite_some ha; clear ha; obtain ⟨rfl, ha⟩ := ha'
  cases ha
  exact lv_iconst hx hb hd rfl (k _ _ _ hL hW hS)
theorem s_bipush {p : Program} {l : Launch} {e : Env} {R : Room} {s : State} {m : MethodId} {args : Array Value} {below : List Frame} {meth : Method} {c : Code} {H : Heap} {locs : List Loc} {cells slots : Nat} {Q : State → Prop} {b : Nat} {t : Nat → Nat} {ac : Nat → ClassId} {D : va_G} {i pc len : Nat} {ls : Array Slot} {L S : List Value} {h : List hC} {pc' : Nat} {L' S' : List Value} {h' : List hC} {n : Int} (C : Ctx b t ac D p s m args meth c R i) (hd : decode (mB i) pc = .ok (.bipush n, len)) (ha : act i pc (.bipush n) len L S h = some (.inl (pc', L', S', h'))) (hL : LR (ad b t) ls (mL i) L) (hW : WH b t ac D h H) (hS : va_S (fun q => b ≤ q) s.heap H locs) (hlen : h.length ≤ sB) (hcs : cells ≤ R.cells ∧ slots ≤ R.slots)
    (k : ∀ (ls' : Array Slot) (H' : Heap) (locs' : List Loc), LR (ad b t) ls' (mL i) L' → WH b t ac D h' H' → va_S (fun q => b ≤ q) s.heap H' locs' → W p l e R s m args below meth c H' locs' cells slots Q (F0 m pc' ls' (S'.map (cv (ad b t))))) : W p l e R s m args below meth c H locs cells slots Q (F0 m pc ls (S.map (cv (ad b t)))) := by
  obtain ⟨hx, hb, hr, hml, hown, hts, hlocks, hin, hE, hfr, hlo, hbs⟩ := C
  have ha' := ite_some ha; clear ha; obtain ⟨rfl, ha⟩ := ha'
  cases ha
  exact lv_bipush hx hb hd rfl (k _ _ _ hL hW hS)
theorem s_sipush {p : Program} {l : Launch} {e : Env} {R : Room} {s : State} {m : MethodId} {args : Array Value} {below : List Frame} {meth : Method} {c : Code} {H : Heap} {locs : List Loc} {cells slots : Nat} {Q : State → Prop} {b : Nat} {t : Nat → Nat} {ac : Nat → ClassId} {D : va_G} {i pc len : Nat} {ls : Array Slot} {L S : List Value} {h : List hC} {pc' : Nat} {L' S' : List Value} {h' : List hC} {n : Int} (C : Ctx b t ac D p s m args meth c R i) (hd : decode (mB i) pc = .ok (.sipush n, len)) (ha : act i pc (.sipush n) len L S h = some (.inl (pc', L', S', h'))) (hL : LR (ad b t) ls (mL i) L) (hW : WH b t ac D h H) (hS : va_S (fun q => b ≤ q) s.heap H locs) (hlen : h.length ≤ sB) (hcs : cells ≤ R.cells ∧ slots ≤ R.slots)
    (k : ∀ (ls' : Array Slot) (H' : Heap) (locs' : List Loc), LR (ad b t) ls' (mL i) L' → WH b t ac D h' H' → va_S (fun q => b ≤ q) s.heap H' locs' → W p l e R s m args below meth c H' locs' cells slots Q (F0 m pc' ls' (S'.map (cv (ad b t))))) : W p l e R s m args below meth c H locs cells slots Q (F0 m pc ls (S.map (cv (ad b t)))) := by
  obtain ⟨hx, hb, hr, hml, hown, hts, hlocks, hin, hE, hfr, hlo, hbs⟩ := C
  have ha' := ite_some ha; clear ha; obtain ⟨rfl, ha⟩ := ha'
  cases ha
  exact lv_sipush hx hb hd rfl (k _ _ _ hL hW hS)
theorem s_null {p : Program} {l : Launch} {e : Env} {R : Room} {s : State} {m : MethodId} {args : Array Value} {below : List Frame} {meth : Method} {c : Code} {H : Heap} {locs : List Loc} {cells slots : Nat} {Q : State → Prop} {b : Nat} {t : Nat → Nat} {ac : Nat → ClassId} {D : va_G} {i pc len : Nat} {ls : Array Slot} {L S : List Value} {h : List hC} {pc' : Nat} {L' S' : List Value} {h' : List hC}  (C : Ctx b t ac D p s m args meth c R i) (hd : decode (mB i) pc = .ok (.aconst_null, len)) (ha : act i pc (.aconst_null) len L S h = some (.inl (pc', L', S', h'))) (hL : LR (ad b t) ls (mL i) L) (hW : WH b t ac D h H) (hS : va_S (fun q => b ≤ q) s.heap H locs) (hlen : h.length ≤ sB) (hcs : cells ≤ R.cells ∧ slots ≤ R.slots)
    (k : ∀ (ls' : Array Slot) (H' : Heap) (locs' : List Loc), LR (ad b t) ls' (mL i) L' → WH b t ac D h' H' → va_S (fun q => b ≤ q) s.heap H' locs' → W p l e R s m args below meth c H' locs' cells slots Q (F0 m pc' ls' (S'.map (cv (ad b t))))) : W p l e R s m args below meth c H locs cells slots Q (F0 m pc ls (S.map (cv (ad b t)))) := by
  obtain ⟨hx, hb, hr, hml, hown, hts, hlocks, hin, hE, hfr, hlo, hbs⟩ := C
  have ha' := ite_some ha; clear ha; obtain ⟨rfl, ha⟩ := ha'
  cases ha
  exact lv_null hx hb hd (k _ _ _ hL hW hS)
theorem s_ldc {p : Program} {l : Launch} {e : Env} {R : Room} {s : State} {m : MethodId} {args : Array Value} {below : List Frame} {meth : Method} {c : Code} {H : Heap} {locs : List Loc} {cells slots : Nat} {Q : State → Prop} {b : Nat} {t : Nat → Nat} {ac : Nat → ClassId} {D : va_G} {i pc len : Nat} {ls : Array Slot} {L S : List Value} {h : List hC} {pc' : Nat} {L' S' : List Value} {h' : List hC} {n : Nat} (C : Ctx b t ac D p s m args meth c R i) (hd : decode (mB i) pc = .ok (.ldc n, len)) (ha : act i pc (.ldc n) len L S h = some (.inl (pc', L', S', h'))) (hL : LR (ad b t) ls (mL i) L) (hW : WH b t ac D h H) (hS : va_S (fun q => b ≤ q) s.heap H locs) (hlen : h.length ≤ sB) (hcs : cells ≤ R.cells ∧ slots ≤ R.slots)
    (k : ∀ (ls' : Array Slot) (H' : Heap) (locs' : List Loc), LR (ad b t) ls' (mL i) L' → WH b t ac D h' H' → va_S (fun q => b ≤ q) s.heap H' locs' → W p l e R s m args below meth c H' locs' cells slots Q (F0 m pc' ls' (S'.map (cv (ad b t))))) : W p l e R s m args below meth c H locs cells slots Q (F0 m pc ls (S.map (cv (ad b t)))) := by
  obtain ⟨hx, hb, hr, hml, hown, hts, hlocks, hin, hE, hfr, hlo, hbs⟩ := C
  have ha' := ite_some ha; clear ha; obtain ⟨rfl, ha⟩ := ha'
  split at ha
  · rename_i v hv
    cases ha
    exact lv_ldc hx hb hown (hts _ (kref_ok hv)) hd (k _ _ _ hL hW hS)
  · cases ha
theorem s_iadd {p : Program} {l : Launch} {e : Env} {R : Room} {s : State} {m : MethodId} {args : Array Value} {below : List Frame} {meth : Method} {c : Code} {H : Heap} {locs : List Loc} {cells slots : Nat} {Q : State → Prop} {b : Nat} {t : Nat → Nat} {ac : Nat → ClassId} {D : va_G} {i pc len : Nat} {ls : Array Slot} {L S : List Value} {h : List hC} {pc' : Nat} {L' S' : List Value} {h' : List hC}  (C : Ctx b t ac D p s m args meth c R i) (hd : decode (mB i) pc = .ok (.iadd, len)) (ha : act i pc (.iadd) len L S h = some (.inl (pc', L', S', h'))) (hL : LR (ad b t) ls (mL i) L) (hW : WH b t ac D h H) (hS : va_S (fun q => b ≤ q) s.heap H locs) (hlen : h.length ≤ sB) (hcs : cells ≤ R.cells ∧ slots ≤ R.slots)
    (k : ∀ (ls' : Array Slot) (H' : Heap) (locs' : List Loc), LR (ad b t) ls' (mL i) L' → WH b t ac D h' H' → va_S (fun q => b ≤ q) s.heap H' locs' → W p l e R s m args below meth c H' locs' cells slots Q (F0 m pc' ls' (S'.map (cv (ad b t))))) : W p l e R s m args below meth c H locs cells slots Q (F0 m pc ls (S.map (cv (ad b t)))) := by
  obtain ⟨hx, hb, hr, hml, hown, hts, hlocks, hin, hE, hfr, hlo, hbs⟩ := C
  have ha' := ite_some ha; clear ha; obtain ⟨rfl, ha⟩ := ha'
  split at ha
  · cases ha
    exact lv_iadd hx hb hd (k _ _ _ hL hW hS)
  · cases ha
theorem s_isub {p : Program} {l : Launch} {e : Env} {R : Room} {s : State} {m : MethodId} {args : Array Value} {below : List Frame} {meth : Method} {c : Code} {H : Heap} {locs : List Loc} {cells slots : Nat} {Q : State → Prop} {b : Nat} {t : Nat → Nat} {ac : Nat → ClassId} {D : va_G} {i pc len : Nat} {ls : Array Slot} {L S : List Value} {h : List hC} {pc' : Nat} {L' S' : List Value} {h' : List hC}  (C : Ctx b t ac D p s m args meth c R i) (hd : decode (mB i) pc = .ok (.isub, len)) (ha : act i pc (.isub) len L S h = some (.inl (pc', L', S', h'))) (hL : LR (ad b t) ls (mL i) L) (hW : WH b t ac D h H) (hS : va_S (fun q => b ≤ q) s.heap H locs) (hlen : h.length ≤ sB) (hcs : cells ≤ R.cells ∧ slots ≤ R.slots)
    (k : ∀ (ls' : Array Slot) (H' : Heap) (locs' : List Loc), LR (ad b t) ls' (mL i) L' → WH b t ac D h' H' → va_S (fun q => b ≤ q) s.heap H' locs' → W p l e R s m args below meth c H' locs' cells slots Q (F0 m pc' ls' (S'.map (cv (ad b t))))) : W p l e R s m args below meth c H locs cells slots Q (F0 m pc ls (S.map (cv (ad b t)))) := by
  obtain ⟨hx, hb, hr, hml, hown, hts, hlocks, hin, hE, hfr, hlo, hbs⟩ := C
  have ha' := ite_some ha; clear ha; obtain ⟨rfl, ha⟩ := ha'
  split at ha
  · cases ha
    exact lv_isub hx hb hd (k _ _ _ hL hW hS)
  · cases ha
theorem s_imul {p : Program} {l : Launch} {e : Env} {R : Room} {s : State} {m : MethodId} {args : Array Value} {below : List Frame} {meth : Method} {c : Code} {H : Heap} {locs : List Loc} {cells slots : Nat} {Q : State → Prop} {b : Nat} {t : Nat → Nat} {ac : Nat → ClassId} {D : va_G} {i pc len : Nat} {ls : Array Slot} {L S : List Value} {h : List hC} {pc' : Nat} {L' S' : List Value} {h' : List hC}  (C : Ctx b t ac D p s m args meth c R i) (hd : decode (mB i) pc = .ok (.imul, len)) (ha : act i pc (.imul) len L S h = some (.inl (pc', L', S', h'))) (hL : LR (ad b t) ls (mL i) L) (hW : WH b t ac D h H) (hS : va_S (fun q => b ≤ q) s.heap H locs) (hlen : h.length ≤ sB) (hcs : cells ≤ R.cells ∧ slots ≤ R.slots)
    (k : ∀ (ls' : Array Slot) (H' : Heap) (locs' : List Loc), LR (ad b t) ls' (mL i) L' → WH b t ac D h' H' → va_S (fun q => b ≤ q) s.heap H' locs' → W p l e R s m args below meth c H' locs' cells slots Q (F0 m pc' ls' (S'.map (cv (ad b t))))) : W p l e R s m args below meth c H locs cells slots Q (F0 m pc ls (S.map (cv (ad b t)))) := by
  obtain ⟨hx, hb, hr, hml, hown, hts, hlocks, hin, hE, hfr, hlo, hbs⟩ := C
  have ha' := ite_some ha; clear ha; obtain ⟨rfl, ha⟩ := ha'
  split at ha
  · cases ha
    exact lv_imul hx hb hd (k _ _ _ hL hW hS)
  · cases ha
theorem s_iand {p : Program} {l : Launch} {e : Env} {R : Room} {s : State} {m : MethodId} {args : Array Value} {below : List Frame} {meth : Method} {c : Code} {H : Heap} {locs : List Loc} {cells slots : Nat} {Q : State → Prop} {b : Nat} {t : Nat → Nat} {ac : Nat → ClassId} {D : va_G} {i pc len : Nat} {ls : Array Slot} {L S : List Value} {h : List hC} {pc' : Nat} {L' S' : List Value} {h' : List hC}  (C : Ctx b t ac D p s m args meth c R i) (hd : decode (mB i) pc = .ok (.iand, len)) (ha : act i pc (.iand) len L S h = some (.inl (pc', L', S', h'))) (hL : LR (ad b t) ls (mL i) L) (hW : WH b t ac D h H) (hS : va_S (fun q => b ≤ q) s.heap H locs) (hlen : h.length ≤ sB) (hcs : cells ≤ R.cells ∧ slots ≤ R.slots)
    (k : ∀ (ls' : Array Slot) (H' : Heap) (locs' : List Loc), LR (ad b t) ls' (mL i) L' → WH b t ac D h' H' → va_S (fun q => b ≤ q) s.heap H' locs' → W p l e R s m args below meth c H' locs' cells slots Q (F0 m pc' ls' (S'.map (cv (ad b t))))) : W p l e R s m args below meth c H locs cells slots Q (F0 m pc ls (S.map (cv (ad b t)))) := by
  obtain ⟨hx, hb, hr, hml, hown, hts, hlocks, hin, hE, hfr, hlo, hbs⟩ := C
  have ha' := ite_some ha; clear ha; obtain ⟨rfl, ha⟩ := ha'
  split at ha
  · cases ha
    exact lv_iand hx hb hd (k _ _ _ hL hW hS)
  · cases ha
theorem s_ior {p : Program} {l : Launch} {e : Env} {R : Room} {s : State} {m : MethodId} {args : Array Value} {below : List Frame} {meth : Method} {c : Code} {H : Heap} {locs : List Loc} {cells slots : Nat} {Q : State → Prop} {b : Nat} {t : Nat → Nat} {ac : Nat → ClassId} {D : va_G} {i pc len : Nat} {ls : Array Slot} {L S : List Value} {h : List hC} {pc' : Nat} {L' S' : List Value} {h' : List hC}  (C : Ctx b t ac D p s m args meth c R i) (hd : decode (mB i) pc = .ok (.ior, len)) (ha : act i pc (.ior) len L S h = some (.inl (pc', L', S', h'))) (hL : LR (ad b t) ls (mL i) L) (hW : WH b t ac D h H) (hS : va_S (fun q => b ≤ q) s.heap H locs) (hlen : h.length ≤ sB) (hcs : cells ≤ R.cells ∧ slots ≤ R.slots)
    (k : ∀ (ls' : Array Slot) (H' : Heap) (locs' : List Loc), LR (ad b t) ls' (mL i) L' → WH b t ac D h' H' → va_S (fun q => b ≤ q) s.heap H' locs' → W p l e R s m args below meth c H' locs' cells slots Q (F0 m pc' ls' (S'.map (cv (ad b t))))) : W p l e R s m args below meth c H locs cells slots Q (F0 m pc ls (S.map (cv (ad b t)))) := by
  obtain ⟨hx, hb, hr, hml, hown, hts, hlocks, hin, hE, hfr, hlo, hbs⟩ := C
  have ha' := ite_some ha; clear ha; obtain ⟨rfl, ha⟩ := ha'
  split at ha
  · cases ha
    exact lv_ior hx hb hd (k _ _ _ hL hW hS)
  · cases ha
theorem s_ishl {p : Program} {l : Launch} {e : Env} {R : Room} {s : State} {m : MethodId} {args : Array Value} {below : List Frame} {meth : Method} {c : Code} {H : Heap} {locs : List Loc} {cells slots : Nat} {Q : State → Prop} {b : Nat} {t : Nat → Nat} {ac : Nat → ClassId} {D : va_G} {i pc len : Nat} {ls : Array Slot} {L S : List Value} {h : List hC} {pc' : Nat} {L' S' : List Value} {h' : List hC}  (C : Ctx b t ac D p s m args meth c R i) (hd : decode (mB i) pc = .ok (.ishl, len)) (ha : act i pc (.ishl) len L S h = some (.inl (pc', L', S', h'))) (hL : LR (ad b t) ls (mL i) L) (hW : WH b t ac D h H) (hS : va_S (fun q => b ≤ q) s.heap H locs) (hlen : h.length ≤ sB) (hcs : cells ≤ R.cells ∧ slots ≤ R.slots)
    (k : ∀ (ls' : Array Slot) (H' : Heap) (locs' : List Loc), LR (ad b t) ls' (mL i) L' → WH b t ac D h' H' → va_S (fun q => b ≤ q) s.heap H' locs' → W p l e R s m args below meth c H' locs' cells slots Q (F0 m pc' ls' (S'.map (cv (ad b t))))) : W p l e R s m args below meth c H locs cells slots Q (F0 m pc ls (S.map (cv (ad b t)))) := by
  obtain ⟨hx, hb, hr, hml, hown, hts, hlocks, hin, hE, hfr, hlo, hbs⟩ := C
  have ha' := ite_some ha; clear ha; obtain ⟨rfl, ha⟩ := ha'
  split at ha
  · cases ha
    exact lv_ishl hx hb hd (k _ _ _ hL hW hS)
  · cases ha
theorem s_ishr {p : Program} {l : Launch} {e : Env} {R : Room} {s : State} {m : MethodId} {args : Array Value} {below : List Frame} {meth : Method} {c : Code} {H : Heap} {locs : List Loc} {cells slots : Nat} {Q : State → Prop} {b : Nat} {t : Nat → Nat} {ac : Nat → ClassId} {D : va_G} {i pc len : Nat} {ls : Array Slot} {L S : List Value} {h : List hC} {pc' : Nat} {L' S' : List Value} {h' : List hC}  (C : Ctx b t ac D p s m args meth c R i) (hd : decode (mB i) pc = .ok (.ishr, len)) (ha : act i pc (.ishr) len L S h = some (.inl (pc', L', S', h'))) (hL : LR (ad b t) ls (mL i) L) (hW : WH b t ac D h H) (hS : va_S (fun q => b ≤ q) s.heap H locs) (hlen : h.length ≤ sB) (hcs : cells ≤ R.cells ∧ slots ≤ R.slots)
    (k : ∀ (ls' : Array Slot) (H' : Heap) (locs' : List Loc), LR (ad b t) ls' (mL i) L' → WH b t ac D h' H' → va_S (fun q => b ≤ q) s.heap H' locs' → W p l e R s m args below meth c H' locs' cells slots Q (F0 m pc' ls' (S'.map (cv (ad b t))))) : W p l e R s m args below meth c H locs cells slots Q (F0 m pc ls (S.map (cv (ad b t)))) := by
  obtain ⟨hx, hb, hr, hml, hown, hts, hlocks, hin, hE, hfr, hlo, hbs⟩ := C
  have ha' := ite_some ha; clear ha; obtain ⟨rfl, ha⟩ := ha'
  split at ha
  · cases ha
    exact lv_ishr hx hb hd (k _ _ _ hL hW hS)
  · cases ha
theorem s_idiv {p : Program} {l : Launch} {e : Env} {R : Room} {s : State} {m : MethodId} {args : Array Value} {below : List Frame} {meth : Method} {c : Code} {H : Heap} {locs : List Loc} {cells slots : Nat} {Q : State → Prop} {b : Nat} {t : Nat → Nat} {ac : Nat → ClassId} {D : va_G} {i pc len : Nat} {ls : Array Slot} {L S : List Value} {h : List hC} {pc' : Nat} {L' S' : List Value} {h' : List hC}  (C : Ctx b t ac D p s m args meth c R i) (hd : decode (mB i) pc = .ok (.idiv, len)) (ha : act i pc (.idiv) len L S h = some (.inl (pc', L', S', h'))) (hL : LR (ad b t) ls (mL i) L) (hW : WH b t ac D h H) (hS : va_S (fun q => b ≤ q) s.heap H locs) (hlen : h.length ≤ sB) (hcs : cells ≤ R.cells ∧ slots ≤ R.slots)
    (k : ∀ (ls' : Array Slot) (H' : Heap) (locs' : List Loc), LR (ad b t) ls' (mL i) L' → WH b t ac D h' H' → va_S (fun q => b ≤ q) s.heap H' locs' → W p l e R s m args below meth c H' locs' cells slots Q (F0 m pc' ls' (S'.map (cv (ad b t))))) : W p l e R s m args below meth c H locs cells slots Q (F0 m pc ls (S.map (cv (ad b t)))) := by
  obtain ⟨hx, hb, hr, hml, hown, hts, hlocks, hin, hE, hfr, hlo, hbs⟩ := C
  have ha' := ite_some ha; clear ha; obtain ⟨rfl, ha⟩ := ha'
  split at ha
  · have ha' := ite_some ha; clear ha; obtain ⟨hne, ha⟩ := ha'
    cases ha
    exact lv_idiv hx hb hd hne (k _ _ _ hL hW hS)
  · cases ha
theorem s_irem {p : Program} {l : Launch} {e : Env} {R : Room} {s : State} {m : MethodId} {args : Array Value} {below : List Frame} {meth : Method} {c : Code} {H : Heap} {locs : List Loc} {cells slots : Nat} {Q : State → Prop} {b : Nat} {t : Nat → Nat} {ac : Nat → ClassId} {D : va_G} {i pc len : Nat} {ls : Array Slot} {L S : List Value} {h : List hC} {pc' : Nat} {L' S' : List Value} {h' : List hC}  (C : Ctx b t ac D p s m args meth c R i) (hd : decode (mB i) pc = .ok (.irem, len)) (ha : act i pc (.irem) len L S h = some (.inl (pc', L', S', h'))) (hL : LR (ad b t) ls (mL i) L) (hW : WH b t ac D h H) (hS : va_S (fun q => b ≤ q) s.heap H locs) (hlen : h.length ≤ sB) (hcs : cells ≤ R.cells ∧ slots ≤ R.slots)
    (k : ∀ (ls' : Array Slot) (H' : Heap) (locs' : List Loc), LR (ad b t) ls' (mL i) L' → WH b t ac D h' H' → va_S (fun q => b ≤ q) s.heap H' locs' → W p l e R s m args below meth c H' locs' cells slots Q (F0 m pc' ls' (S'.map (cv (ad b t))))) : W p l e R s m args below meth c H locs cells slots Q (F0 m pc ls (S.map (cv (ad b t)))) := by
  obtain ⟨hx, hb, hr, hml, hown, hts, hlocks, hin, hE, hfr, hlo, hbs⟩ := C
  have ha' := ite_some ha; clear ha; obtain ⟨rfl, ha⟩ := ha'
  split at ha
  · have ha' := ite_some ha; clear ha; obtain ⟨hne, ha⟩ := ha'
    cases ha
    exact lv_irem hx hb hd hne (k _ _ _ hL hW hS)
  · cases ha
theorem s_i2c {p : Program} {l : Launch} {e : Env} {R : Room} {s : State} {m : MethodId} {args : Array Value} {below : List Frame} {meth : Method} {c : Code} {H : Heap} {locs : List Loc} {cells slots : Nat} {Q : State → Prop} {b : Nat} {t : Nat → Nat} {ac : Nat → ClassId} {D : va_G} {i pc len : Nat} {ls : Array Slot} {L S : List Value} {h : List hC} {pc' : Nat} {L' S' : List Value} {h' : List hC}  (C : Ctx b t ac D p s m args meth c R i) (hd : decode (mB i) pc = .ok (.i2c, len)) (ha : act i pc (.i2c) len L S h = some (.inl (pc', L', S', h'))) (hL : LR (ad b t) ls (mL i) L) (hW : WH b t ac D h H) (hS : va_S (fun q => b ≤ q) s.heap H locs) (hlen : h.length ≤ sB) (hcs : cells ≤ R.cells ∧ slots ≤ R.slots)
    (k : ∀ (ls' : Array Slot) (H' : Heap) (locs' : List Loc), LR (ad b t) ls' (mL i) L' → WH b t ac D h' H' → va_S (fun q => b ≤ q) s.heap H' locs' → W p l e R s m args below meth c H' locs' cells slots Q (F0 m pc' ls' (S'.map (cv (ad b t))))) : W p l e R s m args below meth c H locs cells slots Q (F0 m pc ls (S.map (cv (ad b t)))) := by
  obtain ⟨hx, hb, hr, hml, hown, hts, hlocks, hin, hE, hfr, hlo, hbs⟩ := C
  have ha' := ite_some ha; clear ha; obtain ⟨rfl, ha⟩ := ha'
  split at ha
  · cases ha
    exact lv_i2c hx hb hd rfl (k _ _ _ hL hW hS)
  · cases ha
theorem s_iinc {p : Program} {l : Launch} {e : Env} {R : Room} {s : State} {m : MethodId} {args : Array Value} {below : List Frame} {meth : Method} {c : Code} {H : Heap} {locs : List Loc} {cells slots : Nat} {Q : State → Prop} {b : Nat} {t : Nat → Nat} {ac : Nat → ClassId} {D : va_G} {i pc len : Nat} {ls : Array Slot} {L S : List Value} {h : List hC} {pc' : Nat} {L' S' : List Value} {h' : List hC} {n : Nat} {d : Int} (C : Ctx b t ac D p s m args meth c R i) (hd : decode (mB i) pc = .ok (.iinc n d, len)) (ha : act i pc (.iinc n d) len L S h = some (.inl (pc', L', S', h'))) (hL : LR (ad b t) ls (mL i) L) (hW : WH b t ac D h H) (hS : va_S (fun q => b ≤ q) s.heap H locs) (hlen : h.length ≤ sB) (hcs : cells ≤ R.cells ∧ slots ≤ R.slots)
    (k : ∀ (ls' : Array Slot) (H' : Heap) (locs' : List Loc), LR (ad b t) ls' (mL i) L' → WH b t ac D h' H' → va_S (fun q => b ≤ q) s.heap H' locs' → W p l e R s m args below meth c H' locs' cells slots Q (F0 m pc' ls' (S'.map (cv (ad b t))))) : W p l e R s m args below meth c H locs cells slots Q (F0 m pc ls (S.map (cv (ad b t)))) := by
  obtain ⟨hx, hb, hr, hml, hown, hts, hlocks, hin, hE, hfr, hlo, hbs⟩ := C
  have ha' := ite_some ha; clear ha; obtain ⟨rfl, ha⟩ := ha'
  split at ha
  · rename_i x hx1
    cases ha
    exact lv_iinc (k := 0) hx hb hd (hL.has1 hx1 rfl) rfl rfl (by rw [← hL.2.2.1]; exact (List.getElem?_eq_some_iff.mp hx1).1) rfl (fun ls' hl' => k ls' _ _ (LR.put (extra := [(n, .int x)]) (v := .int (x + Int32.ofInt d)) hL rfl rfl hl') hW hS)
  · cases ha
theorem s_dup {p : Program} {l : Launch} {e : Env} {R : Room} {s : State} {m : MethodId} {args : Array Value} {below : List Frame} {meth : Method} {c : Code} {H : Heap} {locs : List Loc} {cells slots : Nat} {Q : State → Prop} {b : Nat} {t : Nat → Nat} {ac : Nat → ClassId} {D : va_G} {i pc len : Nat} {ls : Array Slot} {L S : List Value} {h : List hC} {pc' : Nat} {L' S' : List Value} {h' : List hC}  (C : Ctx b t ac D p s m args meth c R i) (hd : decode (mB i) pc = .ok (.dup, len)) (ha : act i pc (.dup) len L S h = some (.inl (pc', L', S', h'))) (hL : LR (ad b t) ls (mL i) L) (hW : WH b t ac D h H) (hS : va_S (fun q => b ≤ q) s.heap H locs) (hlen : h.length ≤ sB) (hcs : cells ≤ R.cells ∧ slots ≤ R.slots)
    (k : ∀ (ls' : Array Slot) (H' : Heap) (locs' : List Loc), LR (ad b t) ls' (mL i) L' → WH b t ac D h' H' → va_S (fun q => b ≤ q) s.heap H' locs' → W p l e R s m args below meth c H' locs' cells slots Q (F0 m pc' ls' (S'.map (cv (ad b t))))) : W p l e R s m args below meth c H locs cells slots Q (F0 m pc ls (S.map (cv (ad b t)))) := by
  obtain ⟨hx, hb, hr, hml, hown, hts, hlocks, hin, hE, hfr, hlo, hbs⟩ := C
  have ha' := ite_some ha; clear ha; obtain ⟨rfl, ha⟩ := ha'
  split at ha
  · have ha' := ite_some ha; clear ha; obtain ⟨hc, ha⟩ := ha'
    cases ha
    exact lv_dup hx hb hd (cat1_c hc) (k _ _ _ hL hW hS)
  · cases ha
theorem s_pop {p : Program} {l : Launch} {e : Env} {R : Room} {s : State} {m : MethodId} {args : Array Value} {below : List Frame} {meth : Method} {c : Code} {H : Heap} {locs : List Loc} {cells slots : Nat} {Q : State → Prop} {b : Nat} {t : Nat → Nat} {ac : Nat → ClassId} {D : va_G} {i pc len : Nat} {ls : Array Slot} {L S : List Value} {h : List hC} {pc' : Nat} {L' S' : List Value} {h' : List hC}  (C : Ctx b t ac D p s m args meth c R i) (hd : decode (mB i) pc = .ok (.pop, len)) (ha : act i pc (.pop) len L S h = some (.inl (pc', L', S', h'))) (hL : LR (ad b t) ls (mL i) L) (hW : WH b t ac D h H) (hS : va_S (fun q => b ≤ q) s.heap H locs) (hlen : h.length ≤ sB) (hcs : cells ≤ R.cells ∧ slots ≤ R.slots)
    (k : ∀ (ls' : Array Slot) (H' : Heap) (locs' : List Loc), LR (ad b t) ls' (mL i) L' → WH b t ac D h' H' → va_S (fun q => b ≤ q) s.heap H' locs' → W p l e R s m args below meth c H' locs' cells slots Q (F0 m pc' ls' (S'.map (cv (ad b t))))) : W p l e R s m args below meth c H locs cells slots Q (F0 m pc ls (S.map (cv (ad b t)))) := by
  obtain ⟨hx, hb, hr, hml, hown, hts, hlocks, hin, hE, hfr, hlo, hbs⟩ := C
  have ha' := ite_some ha; clear ha; obtain ⟨rfl, ha⟩ := ha'
  split at ha
  · have ha' := ite_some ha; clear ha; obtain ⟨hc, ha⟩ := ha'
    cases ha
    exact lv_pop hx hb hd (cat1_c hc) (k _ _ _ hL hW hS)
  · cases ha
theorem s_dup2 {p : Program} {l : Launch} {e : Env} {R : Room} {s : State} {m : MethodId} {args : Array Value} {below : List Frame} {meth : Method} {c : Code} {H : Heap} {locs : List Loc} {cells slots : Nat} {Q : State → Prop} {b : Nat} {t : Nat → Nat} {ac : Nat → ClassId} {D : va_G} {i pc len : Nat} {ls : Array Slot} {L S : List Value} {h : List hC} {pc' : Nat} {L' S' : List Value} {h' : List hC}  (C : Ctx b t ac D p s m args meth c R i) (hd : decode (mB i) pc = .ok (.dup2, len)) (ha : act i pc (.dup2) len L S h = some (.inl (pc', L', S', h'))) (hL : LR (ad b t) ls (mL i) L) (hW : WH b t ac D h H) (hS : va_S (fun q => b ≤ q) s.heap H locs) (hlen : h.length ≤ sB) (hcs : cells ≤ R.cells ∧ slots ≤ R.slots)
    (k : ∀ (ls' : Array Slot) (H' : Heap) (locs' : List Loc), LR (ad b t) ls' (mL i) L' → WH b t ac D h' H' → va_S (fun q => b ≤ q) s.heap H' locs' → W p l e R s m args below meth c H' locs' cells slots Q (F0 m pc' ls' (S'.map (cv (ad b t))))) : W p l e R s m args below meth c H locs cells slots Q (F0 m pc ls (S.map (cv (ad b t)))) := by
  obtain ⟨hx, hb, hr, hml, hown, hts, hlocks, hin, hE, hfr, hlo, hbs⟩ := C
  have ha' := ite_some ha; clear ha; obtain ⟨rfl, ha⟩ := ha'
  split at ha
  · have ha' := ite_some ha; clear ha; obtain ⟨hc, ha⟩ := ha'
    rw [Bool.and_eq_true] at hc
    cases ha
    exact lv_dup2_11 hx hb hd (cat1_c hc.1) (cat1_c hc.2) (k _ _ _ hL hW hS)
  · cases ha
theorem s_goto {p : Program} {l : Launch} {e : Env} {R : Room} {s : State} {m : MethodId} {args : Array Value} {below : List Frame} {meth : Method} {c : Code} {H : Heap} {locs : List Loc} {cells slots : Nat} {Q : State → Prop} {b : Nat} {t : Nat → Nat} {ac : Nat → ClassId} {D : va_G} {i pc len : Nat} {ls : Array Slot} {L S : List Value} {h : List hC} {pc' : Nat} {L' S' : List Value} {h' : List hC} {off : Int} (C : Ctx b t ac D p s m args meth c R i) (hd : decode (mB i) pc = .ok (.goto off, len)) (ha : act i pc (.goto off) len L S h = some (.inl (pc', L', S', h'))) (hL : LR (ad b t) ls (mL i) L) (hW : WH b t ac D h H) (hS : va_S (fun q => b ≤ q) s.heap H locs) (hlen : h.length ≤ sB) (hcs : cells ≤ R.cells ∧ slots ≤ R.slots)
    (k : ∀ (ls' : Array Slot) (H' : Heap) (locs' : List Loc), LR (ad b t) ls' (mL i) L' → WH b t ac D h' H' → va_S (fun q => b ≤ q) s.heap H' locs' → W p l e R s m args below meth c H' locs' cells slots Q (F0 m pc' ls' (S'.map (cv (ad b t))))) : W p l e R s m args below meth c H locs cells slots Q (F0 m pc ls (S.map (cv (ad b t)))) := by
  obtain ⟨hx, hb, hr, hml, hown, hts, hlocks, hin, hE, hfr, hlo, hbs⟩ := C
  have ha' := ite_some ha; clear ha; obtain ⟨rfl, ha⟩ := ha'
  unfold jmp at ha
  have ha' := ite_some ha; clear ha; obtain ⟨h0, ha⟩ := ha'
  cases ha
  exact lv_goto hx hb hd (Int.toNat_of_nonneg h0).symm (k _ _ _ hL hW hS)
theorem s_if_eq {p : Program} {l : Launch} {e : Env} {R : Room} {s : State} {m : MethodId} {args : Array Value} {below : List Frame} {meth : Method} {c : Code} {H : Heap} {locs : List Loc} {cells slots : Nat} {Q : State → Prop} {b : Nat} {t : Nat → Nat} {ac : Nat → ClassId} {D : va_G} {i pc len : Nat} {ls : Array Slot} {L S : List Value} {h : List hC} {pc' : Nat} {L' S' : List Value} {h' : List hC} {off : Int} (C : Ctx b t ac D p s m args meth c R i) (hd : decode (mB i) pc = .ok (.ifCond .eq off, len)) (ha : act i pc (.ifCond .eq off) len L S h = some (.inl (pc', L', S', h'))) (hL : LR (ad b t) ls (mL i) L) (hW : WH b t ac D h H) (hS : va_S (fun q => b ≤ q) s.heap H locs) (hlen : h.length ≤ sB) (hcs : cells ≤ R.cells ∧ slots ≤ R.slots)
    (k : ∀ (ls' : Array Slot) (H' : Heap) (locs' : List Loc), LR (ad b t) ls' (mL i) L' → WH b t ac D h' H' → va_S (fun q => b ≤ q) s.heap H' locs' → W p l e R s m args below meth c H' locs' cells slots Q (F0 m pc' ls' (S'.map (cv (ad b t))))) : W p l e R s m args below meth c H locs cells slots Q (F0 m pc ls (S.map (cv (ad b t)))) := by
  obtain ⟨hx, hb, hr, hml, hown, hts, hlocks, hin, hE, hfr, hlo, hbs⟩ := C
  have ha' := ite_some ha; clear ha; obtain ⟨⟨rfl, h0⟩, ha⟩ := ha'
  split at ha
  · cases ha
    refine lv_if_eq hx hb hd (Int.toNat_of_nonneg h0).symm (fun hq => ?_) (fun hq => ?_)
    · have k2 := k _ _ _ hL hW hS
      rw [if_pos (by simpa only [cmpI, decide_eq_true_eq] using hq)] at k2
      exact k2
    · have k2 := k _ _ _ hL hW hS
      rw [if_neg (by simpa only [cmpI, decide_eq_true_eq, Classical.not_not] using hq)] at k2
      exact k2
  · cases ha
theorem s_icmp_eq {p : Program} {l : Launch} {e : Env} {R : Room} {s : State} {m : MethodId} {args : Array Value} {below : List Frame} {meth : Method} {c : Code} {H : Heap} {locs : List Loc} {cells slots : Nat} {Q : State → Prop} {b : Nat} {t : Nat → Nat} {ac : Nat → ClassId} {D : va_G} {i pc len : Nat} {ls : Array Slot} {L S : List Value} {h : List hC} {pc' : Nat} {L' S' : List Value} {h' : List hC} {off : Int} (C : Ctx b t ac D p s m args meth c R i) (hd : decode (mB i) pc = .ok (.if_icmp .eq off, len)) (ha : act i pc (.if_icmp .eq off) len L S h = some (.inl (pc', L', S', h'))) (hL : LR (ad b t) ls (mL i) L) (hW : WH b t ac D h H) (hS : va_S (fun q => b ≤ q) s.heap H locs) (hlen : h.length ≤ sB) (hcs : cells ≤ R.cells ∧ slots ≤ R.slots)
    (k : ∀ (ls' : Array Slot) (H' : Heap) (locs' : List Loc), LR (ad b t) ls' (mL i) L' → WH b t ac D h' H' → va_S (fun q => b ≤ q) s.heap H' locs' → W p l e R s m args below meth c H' locs' cells slots Q (F0 m pc' ls' (S'.map (cv (ad b t))))) : W p l e R s m args below meth c H locs cells slots Q (F0 m pc ls (S.map (cv (ad b t)))) := by
  obtain ⟨hx, hb, hr, hml, hown, hts, hlocks, hin, hE, hfr, hlo, hbs⟩ := C
  have ha' := ite_some ha; clear ha; obtain ⟨⟨rfl, h0⟩, ha⟩ := ha'
  split at ha
  · cases ha
    refine lv_icmp_eq hx hb hd (Int.toNat_of_nonneg h0).symm (fun hq => ?_) (fun hq => ?_)
    · have k2 := k _ _ _ hL hW hS
      rw [if_pos (by simpa only [cmpI, decide_eq_true_eq] using hq)] at k2
      exact k2
    · have k2 := k _ _ _ hL hW hS
      rw [if_neg (by simpa only [cmpI, decide_eq_true_eq, Classical.not_not] using hq)] at k2
      exact k2
  · cases ha
theorem s_if_ne {p : Program} {l : Launch} {e : Env} {R : Room} {s : State} {m : MethodId} {args : Array Value} {below : List Frame} {meth : Method} {c : Code} {H : Heap} {locs : List Loc} {cells slots : Nat} {Q : State → Prop} {b : Nat} {t : Nat → Nat} {ac : Nat → ClassId} {D : va_G} {i pc len : Nat} {ls : Array Slot} {L S : List Value} {h : List hC} {pc' : Nat} {L' S' : List Value} {h' : List hC} {off : Int} (C : Ctx b t ac D p s m args meth c R i) (hd : decode (mB i) pc = .ok (.ifCond .ne off, len)) (ha : act i pc (.ifCond .ne off) len L S h = some (.inl (pc', L', S', h'))) (hL : LR (ad b t) ls (mL i) L) (hW : WH b t ac D h H) (hS : va_S (fun q => b ≤ q) s.heap H locs) (hlen : h.length ≤ sB) (hcs : cells ≤ R.cells ∧ slots ≤ R.slots)
    (k : ∀ (ls' : Array Slot) (H' : Heap) (locs' : List Loc), LR (ad b t) ls' (mL i) L' → WH b t ac D h' H' → va_S (fun q => b ≤ q) s.heap H' locs' → W p l e R s m args below meth c H' locs' cells slots Q (F0 m pc' ls' (S'.map (cv (ad b t))))) : W p l e R s m args below meth c H locs cells slots Q (F0 m pc ls (S.map (cv (ad b t)))) := by
  obtain ⟨hx, hb, hr, hml, hown, hts, hlocks, hin, hE, hfr, hlo, hbs⟩ := C
  have ha' := ite_some ha; clear ha; obtain ⟨⟨rfl, h0⟩, ha⟩ := ha'
  split at ha
  · cases ha
    refine lv_if_ne hx hb hd (Int.toNat_of_nonneg h0).symm (fun hq => ?_) (fun hq => ?_)
    · have k2 := k _ _ _ hL hW hS
      rw [if_pos (by simpa only [cmpI, decide_eq_true_eq] using hq)] at k2
      exact k2
    · have k2 := k _ _ _ hL hW hS
      rw [if_neg (by simpa only [cmpI, decide_eq_true_eq, Classical.not_not] using hq)] at k2
      exact k2
  · cases ha
theorem s_icmp_ne {p : Program} {l : Launch} {e : Env} {R : Room} {s : State} {m : MethodId} {args : Array Value} {below : List Frame} {meth : Method} {c : Code} {H : Heap} {locs : List Loc} {cells slots : Nat} {Q : State → Prop} {b : Nat} {t : Nat → Nat} {ac : Nat → ClassId} {D : va_G} {i pc len : Nat} {ls : Array Slot} {L S : List Value} {h : List hC} {pc' : Nat} {L' S' : List Value} {h' : List hC} {off : Int} (C : Ctx b t ac D p s m args meth c R i) (hd : decode (mB i) pc = .ok (.if_icmp .ne off, len)) (ha : act i pc (.if_icmp .ne off) len L S h = some (.inl (pc', L', S', h'))) (hL : LR (ad b t) ls (mL i) L) (hW : WH b t ac D h H) (hS : va_S (fun q => b ≤ q) s.heap H locs) (hlen : h.length ≤ sB) (hcs : cells ≤ R.cells ∧ slots ≤ R.slots)
    (k : ∀ (ls' : Array Slot) (H' : Heap) (locs' : List Loc), LR (ad b t) ls' (mL i) L' → WH b t ac D h' H' → va_S (fun q => b ≤ q) s.heap H' locs' → W p l e R s m args below meth c H' locs' cells slots Q (F0 m pc' ls' (S'.map (cv (ad b t))))) : W p l e R s m args below meth c H locs cells slots Q (F0 m pc ls (S.map (cv (ad b t)))) := by
  obtain ⟨hx, hb, hr, hml, hown, hts, hlocks, hin, hE, hfr, hlo, hbs⟩ := C
  have ha' := ite_some ha; clear ha; obtain ⟨⟨rfl, h0⟩, ha⟩ := ha'
  split at ha
  · cases ha
    refine lv_icmp_ne hx hb hd (Int.toNat_of_nonneg h0).symm (fun hq => ?_) (fun hq => ?_)
    · have k2 := k _ _ _ hL hW hS
      rw [if_pos (by simpa only [cmpI, decide_eq_true_eq] using hq)] at k2
      exact k2
    · have k2 := k _ _ _ hL hW hS
      rw [if_neg (by simpa only [cmpI, decide_eq_true_eq, Classical.not_not] using hq)] at k2
      exact k2
  · cases ha
theorem s_if_lt {p : Program} {l : Launch} {e : Env} {R : Room} {s : State} {m : MethodId} {args : Array Value} {below : List Frame} {meth : Method} {c : Code} {H : Heap} {locs : List Loc} {cells slots : Nat} {Q : State → Prop} {b : Nat} {t : Nat → Nat} {ac : Nat → ClassId} {D : va_G} {i pc len : Nat} {ls : Array Slot} {L S : List Value} {h : List hC} {pc' : Nat} {L' S' : List Value} {h' : List hC} {off : Int} (C : Ctx b t ac D p s m args meth c R i) (hd : decode (mB i) pc = .ok (.ifCond .lt off, len)) (ha : act i pc (.ifCond .lt off) len L S h = some (.inl (pc', L', S', h'))) (hL : LR (ad b t) ls (mL i) L) (hW : WH b t ac D h H) (hS : va_S (fun q => b ≤ q) s.heap H locs) (hlen : h.length ≤ sB) (hcs : cells ≤ R.cells ∧ slots ≤ R.slots)
    (k : ∀ (ls' : Array Slot) (H' : Heap) (locs' : List Loc), LR (ad b t) ls' (mL i) L' → WH b t ac D h' H' → va_S (fun q => b ≤ q) s.heap H' locs' → W p l e R s m args below meth c H' locs' cells slots Q (F0 m pc' ls' (S'.map (cv (ad b t))))) : W p l e R s m args below meth c H locs cells slots Q (F0 m pc ls (S.map (cv (ad b t)))) := by
  obtain ⟨hx, hb, hr, hml, hown, hts, hlocks, hin, hE, hfr, hlo, hbs⟩ := C
  have ha' := ite_some ha; clear ha; obtain ⟨⟨rfl, h0⟩, ha⟩ := ha'
  split at ha
  · cases ha
    refine lv_if_lt hx hb hd (Int.toNat_of_nonneg h0).symm (fun hq => ?_) (fun hq => ?_)
    · have k2 := k _ _ _ hL hW hS
      rw [if_pos (by simpa only [cmpI, decide_eq_true_eq] using hq)] at k2
      exact k2
    · have k2 := k _ _ _ hL hW hS
      rw [if_neg (by simpa only [cmpI, decide_eq_true_eq, Classical.not_not] using hq)] at k2
      exact k2
  · cases ha
theorem s_icmp_lt {p : Program} {l : Launch} {e : Env} {R : Room} {s : State} {m : MethodId} {args : Array Value} {below : List Frame} {meth : Method} {c : Code} {H : Heap} {locs : List Loc} {cells slots : Nat} {Q : State → Prop} {b : Nat} {t : Nat → Nat} {ac : Nat → ClassId} {D : va_G} {i pc len : Nat} {ls : Array Slot} {L S : List Value} {h : List hC} {pc' : Nat} {L' S' : List Value} {h' : List hC} {off : Int} (C : Ctx b t ac D p s m args meth c R i) (hd : decode (mB i) pc = .ok (.if_icmp .lt off, len)) (ha : act i pc (.if_icmp .lt off) len L S h = some (.inl (pc', L', S', h'))) (hL : LR (ad b t) ls (mL i) L) (hW : WH b t ac D h H) (hS : va_S (fun q => b ≤ q) s.heap H locs) (hlen : h.length ≤ sB) (hcs : cells ≤ R.cells ∧ slots ≤ R.slots)
    (k : ∀ (ls' : Array Slot) (H' : Heap) (locs' : List Loc), LR (ad b t) ls' (mL i) L' → WH b t ac D h' H' → va_S (fun q => b ≤ q) s.heap H' locs' → W p l e R s m args below meth c H' locs' cells slots Q (F0 m pc' ls' (S'.map (cv (ad b t))))) : W p l e R s m args below meth c H locs cells slots Q (F0 m pc ls (S.map (cv (ad b t)))) := by
  obtain ⟨hx, hb, hr, hml, hown, hts, hlocks, hin, hE, hfr, hlo, hbs⟩ := C
  have ha' := ite_some ha; clear ha; obtain ⟨⟨rfl, h0⟩, ha⟩ := ha'
  split at ha
  · cases ha
    refine lv_icmp_lt hx hb hd (Int.toNat_of_nonneg h0).symm (fun hq => ?_) (fun hq => ?_)
    · have k2 := k _ _ _ hL hW hS
      rw [if_pos (by simpa only [cmpI, decide_eq_true_eq] using hq)] at k2
      exact k2
    · have k2 := k _ _ _ hL hW hS
      rw [if_neg (by simpa only [cmpI, decide_eq_true_eq, Classical.not_not] using hq)] at k2
      exact k2
  · cases ha
theorem s_if_ge {p : Program} {l : Launch} {e : Env} {R : Room} {s : State} {m : MethodId} {args : Array Value} {below : List Frame} {meth : Method} {c : Code} {H : Heap} {locs : List Loc} {cells slots : Nat} {Q : State → Prop} {b : Nat} {t : Nat → Nat} {ac : Nat → ClassId} {D : va_G} {i pc len : Nat} {ls : Array Slot} {L S : List Value} {h : List hC} {pc' : Nat} {L' S' : List Value} {h' : List hC} {off : Int} (C : Ctx b t ac D p s m args meth c R i) (hd : decode (mB i) pc = .ok (.ifCond .ge off, len)) (ha : act i pc (.ifCond .ge off) len L S h = some (.inl (pc', L', S', h'))) (hL : LR (ad b t) ls (mL i) L) (hW : WH b t ac D h H) (hS : va_S (fun q => b ≤ q) s.heap H locs) (hlen : h.length ≤ sB) (hcs : cells ≤ R.cells ∧ slots ≤ R.slots)
    (k : ∀ (ls' : Array Slot) (H' : Heap) (locs' : List Loc), LR (ad b t) ls' (mL i) L' → WH b t ac D h' H' → va_S (fun q => b ≤ q) s.heap H' locs' → W p l e R s m args below meth c H' locs' cells slots Q (F0 m pc' ls' (S'.map (cv (ad b t))))) : W p l e R s m args below meth c H locs cells slots Q (F0 m pc ls (S.map (cv (ad b t)))) := by
  obtain ⟨hx, hb, hr, hml, hown, hts, hlocks, hin, hE, hfr, hlo, hbs⟩ := C
  have ha' := ite_some ha; clear ha; obtain ⟨⟨rfl, h0⟩, ha⟩ := ha'
  split at ha
  · cases ha
    refine lv_if_ge hx hb hd (Int.toNat_of_nonneg h0).symm (fun hq => ?_) (fun hq => ?_)
    · have k2 := k _ _ _ hL hW hS
      rw [if_pos (by simpa only [cmpI, decide_eq_true_eq] using hq)] at k2
      exact k2
    · have k2 := k _ _ _ hL hW hS
      rw [if_neg (by simpa only [cmpI, decide_eq_true_eq, Classical.not_not] using hq)] at k2
      exact k2
  · cases ha
theorem s_icmp_ge {p : Program} {l : Launch} {e : Env} {R : Room} {s : State} {m : MethodId} {args : Array Value} {below : List Frame} {meth : Method} {c : Code} {H : Heap} {locs : List Loc} {cells slots : Nat} {Q : State → Prop} {b : Nat} {t : Nat → Nat} {ac : Nat → ClassId} {D : va_G} {i pc len : Nat} {ls : Array Slot} {L S : List Value} {h : List hC} {pc' : Nat} {L' S' : List Value} {h' : List hC} {off : Int} (C : Ctx b t ac D p s m args meth c R i) (hd : decode (mB i) pc = .ok (.if_icmp .ge off, len)) (ha : act i pc (.if_icmp .ge off) len L S h = some (.inl (pc', L', S', h'))) (hL : LR (ad b t) ls (mL i) L) (hW : WH b t ac D h H) (hS : va_S (fun q => b ≤ q) s.heap H locs) (hlen : h.length ≤ sB) (hcs : cells ≤ R.cells ∧ slots ≤ R.slots)
    (k : ∀ (ls' : Array Slot) (H' : Heap) (locs' : List Loc), LR (ad b t) ls' (mL i) L' → WH b t ac D h' H' → va_S (fun q => b ≤ q) s.heap H' locs' → W p l e R s m args below meth c H' locs' cells slots Q (F0 m pc' ls' (S'.map (cv (ad b t))))) : W p l e R s m args below meth c H locs cells slots Q (F0 m pc ls (S.map (cv (ad b t)))) := by
  obtain ⟨hx, hb, hr, hml, hown, hts, hlocks, hin, hE, hfr, hlo, hbs⟩ := C
  have ha' := ite_some ha; clear ha; obtain ⟨⟨rfl, h0⟩, ha⟩ := ha'
  split at ha
  · cases ha
    refine lv_icmp_ge hx hb hd (Int.toNat_of_nonneg h0).symm (fun hq => ?_) (fun hq => ?_)
    · have k2 := k _ _ _ hL hW hS
      rw [if_pos (by simpa only [cmpI, decide_eq_true_eq] using hq)] at k2
      exact k2
    · have k2 := k _ _ _ hL hW hS
      rw [if_neg (by simpa only [cmpI, decide_eq_true_eq, Classical.not_not] using hq)] at k2
      exact k2
  · cases ha
theorem s_if_gt {p : Program} {l : Launch} {e : Env} {R : Room} {s : State} {m : MethodId} {args : Array Value} {below : List Frame} {meth : Method} {c : Code} {H : Heap} {locs : List Loc} {cells slots : Nat} {Q : State → Prop} {b : Nat} {t : Nat → Nat} {ac : Nat → ClassId} {D : va_G} {i pc len : Nat} {ls : Array Slot} {L S : List Value} {h : List hC} {pc' : Nat} {L' S' : List Value} {h' : List hC} {off : Int} (C : Ctx b t ac D p s m args meth c R i) (hd : decode (mB i) pc = .ok (.ifCond .gt off, len)) (ha : act i pc (.ifCond .gt off) len L S h = some (.inl (pc', L', S', h'))) (hL : LR (ad b t) ls (mL i) L) (hW : WH b t ac D h H) (hS : va_S (fun q => b ≤ q) s.heap H locs) (hlen : h.length ≤ sB) (hcs : cells ≤ R.cells ∧ slots ≤ R.slots)
    (k : ∀ (ls' : Array Slot) (H' : Heap) (locs' : List Loc), LR (ad b t) ls' (mL i) L' → WH b t ac D h' H' → va_S (fun q => b ≤ q) s.heap H' locs' → W p l e R s m args below meth c H' locs' cells slots Q (F0 m pc' ls' (S'.map (cv (ad b t))))) : W p l e R s m args below meth c H locs cells slots Q (F0 m pc ls (S.map (cv (ad b t)))) := by
  obtain ⟨hx, hb, hr, hml, hown, hts, hlocks, hin, hE, hfr, hlo, hbs⟩ := C
  have ha' := ite_some ha; clear ha; obtain ⟨⟨rfl, h0⟩, ha⟩ := ha'
  split at ha
  · cases ha
    refine lv_if_gt hx hb hd (Int.toNat_of_nonneg h0).symm (fun hq => ?_) (fun hq => ?_)
    · have k2 := k _ _ _ hL hW hS
      rw [if_pos (by simpa only [cmpI, decide_eq_true_eq] using hq)] at k2
      exact k2
    · have k2 := k _ _ _ hL hW hS
      rw [if_neg (by simpa only [cmpI, decide_eq_true_eq, Classical.not_not] using hq)] at k2
      exact k2
  · cases ha
theorem s_icmp_gt {p : Program} {l : Launch} {e : Env} {R : Room} {s : State} {m : MethodId} {args : Array Value} {below : List Frame} {meth : Method} {c : Code} {H : Heap} {locs : List Loc} {cells slots : Nat} {Q : State → Prop} {b : Nat} {t : Nat → Nat} {ac : Nat → ClassId} {D : va_G} {i pc len : Nat} {ls : Array Slot} {L S : List Value} {h : List hC} {pc' : Nat} {L' S' : List Value} {h' : List hC} {off : Int} (C : Ctx b t ac D p s m args meth c R i) (hd : decode (mB i) pc = .ok (.if_icmp .gt off, len)) (ha : act i pc (.if_icmp .gt off) len L S h = some (.inl (pc', L', S', h'))) (hL : LR (ad b t) ls (mL i) L) (hW : WH b t ac D h H) (hS : va_S (fun q => b ≤ q) s.heap H locs) (hlen : h.length ≤ sB) (hcs : cells ≤ R.cells ∧ slots ≤ R.slots)
    (k : ∀ (ls' : Array Slot) (H' : Heap) (locs' : List Loc), LR (ad b t) ls' (mL i) L' → WH b t ac D h' H' → va_S (fun q => b ≤ q) s.heap H' locs' → W p l e R s m args below meth c H' locs' cells slots Q (F0 m pc' ls' (S'.map (cv (ad b t))))) : W p l e R s m args below meth c H locs cells slots Q (F0 m pc ls (S.map (cv (ad b t)))) := by
  obtain ⟨hx, hb, hr, hml, hown, hts, hlocks, hin, hE, hfr, hlo, hbs⟩ := C
  have ha' := ite_some ha; clear ha; obtain ⟨⟨rfl, h0⟩, ha⟩ := ha'
  split at ha
  · cases ha
    refine lv_icmp_gt hx hb hd (Int.toNat_of_nonneg h0).symm (fun hq => ?_) (fun hq => ?_)
    · have k2 := k _ _ _ hL hW hS
      rw [if_pos (by simpa only [cmpI, decide_eq_true_eq] using hq)] at k2
      exact k2
    · have k2 := k _ _ _ hL hW hS
      rw [if_neg (by simpa only [cmpI, decide_eq_true_eq, Classical.not_not] using hq)] at k2
      exact k2
  · cases ha
theorem s_if_le {p : Program} {l : Launch} {e : Env} {R : Room} {s : State} {m : MethodId} {args : Array Value} {below : List Frame} {meth : Method} {c : Code} {H : Heap} {locs : List Loc} {cells slots : Nat} {Q : State → Prop} {b : Nat} {t : Nat → Nat} {ac : Nat → ClassId} {D : va_G} {i pc len : Nat} {ls : Array Slot} {L S : List Value} {h : List hC} {pc' : Nat} {L' S' : List Value} {h' : List hC} {off : Int} (C : Ctx b t ac D p s m args meth c R i) (hd : decode (mB i) pc = .ok (.ifCond .le off, len)) (ha : act i pc (.ifCond .le off) len L S h = some (.inl (pc', L', S', h'))) (hL : LR (ad b t) ls (mL i) L) (hW : WH b t ac D h H) (hS : va_S (fun q => b ≤ q) s.heap H locs) (hlen : h.length ≤ sB) (hcs : cells ≤ R.cells ∧ slots ≤ R.slots)
    (k : ∀ (ls' : Array Slot) (H' : Heap) (locs' : List Loc), LR (ad b t) ls' (mL i) L' → WH b t ac D h' H' → va_S (fun q => b ≤ q) s.heap H' locs' → W p l e R s m args below meth c H' locs' cells slots Q (F0 m pc' ls' (S'.map (cv (ad b t))))) : W p l e R s m args below meth c H locs cells slots Q (F0 m pc ls (S.map (cv (ad b t)))) := by
  obtain ⟨hx, hb, hr, hml, hown, hts, hlocks, hin, hE, hfr, hlo, hbs⟩ := C
  have ha' := ite_some ha; clear ha; obtain ⟨⟨rfl, h0⟩, ha⟩ := ha'
  split at ha
  · cases ha
    refine lv_if_le hx hb hd (Int.toNat_of_nonneg h0).symm (fun hq => ?_) (fun hq => ?_)
    · have k2 := k _ _ _ hL hW hS
      rw [if_pos (by simpa only [cmpI, decide_eq_true_eq] using hq)] at k2
      exact k2
    · have k2 := k _ _ _ hL hW hS
      rw [if_neg (by simpa only [cmpI, decide_eq_true_eq, Classical.not_not] using hq)] at k2
      exact k2
  · cases ha
theorem s_icmp_le {p : Program} {l : Launch} {e : Env} {R : Room} {s : State} {m : MethodId} {args : Array Value} {below : List Frame} {meth : Method} {c : Code} {H : Heap} {locs : List Loc} {cells slots : Nat} {Q : State → Prop} {b : Nat} {t : Nat → Nat} {ac : Nat → ClassId} {D : va_G} {i pc len : Nat} {ls : Array Slot} {L S : List Value} {h : List hC} {pc' : Nat} {L' S' : List Value} {h' : List hC} {off : Int} (C : Ctx b t ac D p s m args meth c R i) (hd : decode (mB i) pc = .ok (.if_icmp .le off, len)) (ha : act i pc (.if_icmp .le off) len L S h = some (.inl (pc', L', S', h'))) (hL : LR (ad b t) ls (mL i) L) (hW : WH b t ac D h H) (hS : va_S (fun q => b ≤ q) s.heap H locs) (hlen : h.length ≤ sB) (hcs : cells ≤ R.cells ∧ slots ≤ R.slots)
    (k : ∀ (ls' : Array Slot) (H' : Heap) (locs' : List Loc), LR (ad b t) ls' (mL i) L' → WH b t ac D h' H' → va_S (fun q => b ≤ q) s.heap H' locs' → W p l e R s m args below meth c H' locs' cells slots Q (F0 m pc' ls' (S'.map (cv (ad b t))))) : W p l e R s m args below meth c H locs cells slots Q (F0 m pc ls (S.map (cv (ad b t)))) := by
  obtain ⟨hx, hb, hr, hml, hown, hts, hlocks, hin, hE, hfr, hlo, hbs⟩ := C
  have ha' := ite_some ha; clear ha; obtain ⟨⟨rfl, h0⟩, ha⟩ := ha'
  split at ha
  · cases ha
    refine lv_icmp_le hx hb hd (Int.toNat_of_nonneg h0).symm (fun hq => ?_) (fun hq => ?_)
    · have k2 := k _ _ _ hL hW hS
      rw [if_pos (by simpa only [cmpI, decide_eq_true_eq] using hq)] at k2
      exact k2
    · have k2 := k _ _ _ hL hW hS
      rw [if_neg (by simpa only [cmpI, decide_eq_true_eq, Classical.not_not] using hq)] at k2
      exact k2
  · cases ha
theorem s_ifnull {p : Program} {l : Launch} {e : Env} {R : Room} {s : State} {m : MethodId} {args : Array Value} {below : List Frame} {meth : Method} {c : Code} {H : Heap} {locs : List Loc} {cells slots : Nat} {Q : State → Prop} {b : Nat} {t : Nat → Nat} {ac : Nat → ClassId} {D : va_G} {i pc len : Nat} {ls : Array Slot} {L S : List Value} {h : List hC} {pc' : Nat} {L' S' : List Value} {h' : List hC} {off : Int} (C : Ctx b t ac D p s m args meth c R i) (hd : decode (mB i) pc = .ok (.ifnull off, len)) (ha : act i pc (.ifnull off) len L S h = some (.inl (pc', L', S', h'))) (hL : LR (ad b t) ls (mL i) L) (hW : WH b t ac D h H) (hS : va_S (fun q => b ≤ q) s.heap H locs) (hlen : h.length ≤ sB) (hcs : cells ≤ R.cells ∧ slots ≤ R.slots)
    (k : ∀ (ls' : Array Slot) (H' : Heap) (locs' : List Loc), LR (ad b t) ls' (mL i) L' → WH b t ac D h' H' → va_S (fun q => b ≤ q) s.heap H' locs' → W p l e R s m args below meth c H' locs' cells slots Q (F0 m pc' ls' (S'.map (cv (ad b t))))) : W p l e R s m args below meth c H locs cells slots Q (F0 m pc ls (S.map (cv (ad b t)))) := by
  obtain ⟨hx, hb, hr, hml, hown, hts, hlocks, hin, hE, hfr, hlo, hbs⟩ := C
  have ha' := ite_some ha; clear ha; obtain ⟨rfl, ha⟩ := ha'
  split at ha
  · unfold jmp at ha
    have ha' := ite_some ha; clear ha; obtain ⟨h0, ha⟩ := ha'
    cases ha
    exact lv_ifnullN hx hb hd (Int.toNat_of_nonneg h0).symm (k _ _ _ hL hW hS)
  · cases ha
    exact lv_ifnull hx hb hd (k _ _ _ hL hW hS)
  · cases ha
theorem s_ifnonnull {p : Program} {l : Launch} {e : Env} {R : Room} {s : State} {m : MethodId} {args : Array Value} {below : List Frame} {meth : Method} {c : Code} {H : Heap} {locs : List Loc} {cells slots : Nat} {Q : State → Prop} {b : Nat} {t : Nat → Nat} {ac : Nat → ClassId} {D : va_G} {i pc len : Nat} {ls : Array Slot} {L S : List Value} {h : List hC} {pc' : Nat} {L' S' : List Value} {h' : List hC} {off : Int} (C : Ctx b t ac D p s m args meth c R i) (hd : decode (mB i) pc = .ok (.ifnonnull off, len)) (ha : act i pc (.ifnonnull off) len L S h = some (.inl (pc', L', S', h'))) (hL : LR (ad b t) ls (mL i) L) (hW : WH b t ac D h H) (hS : va_S (fun q => b ≤ q) s.heap H locs) (hlen : h.length ≤ sB) (hcs : cells ≤ R.cells ∧ slots ≤ R.slots)
    (k : ∀ (ls' : Array Slot) (H' : Heap) (locs' : List Loc), LR (ad b t) ls' (mL i) L' → WH b t ac D h' H' → va_S (fun q => b ≤ q) s.heap H' locs' → W p l e R s m args below meth c H' locs' cells slots Q (F0 m pc' ls' (S'.map (cv (ad b t))))) : W p l e R s m args below meth c H locs cells slots Q (F0 m pc ls (S.map (cv (ad b t)))) := by
  obtain ⟨hx, hb, hr, hml, hown, hts, hlocks, hin, hE, hfr, hlo, hbs⟩ := C
  have ha' := ite_some ha; clear ha; obtain ⟨rfl, ha⟩ := ha'
  split at ha
  · cases ha
    exact lv_ifnonnullN hx hb hd (k _ _ _ hL hW hS)
  · unfold jmp at ha
    have ha' := ite_some ha; clear ha; obtain ⟨h0, ha⟩ := ha'
    cases ha
    exact lv_ifnonnull hx hb hd (Int.toNat_of_nonneg h0).symm (k _ _ _ hL hW hS)
  · cases ha
theorem s_table {p : Program} {l : Launch} {e : Env} {R : Room} {s : State} {m : MethodId} {args : Array Value} {below : List Frame} {meth : Method} {c : Code} {H : Heap} {locs : List Loc} {cells slots : Nat} {Q : State → Prop} {b : Nat} {t : Nat → Nat} {ac : Nat → ClassId} {D : va_G} {i pc len : Nat} {ls : Array Slot} {L S : List Value} {h : List hC} {pc' : Nat} {L' S' : List Value} {h' : List hC} {d lo hi : Int} {offs : Array Int} (C : Ctx b t ac D p s m args meth c R i) (hd : decode (mB i) pc = .ok (.tableswitch d lo hi offs, len)) (ha : act i pc (.tableswitch d lo hi offs) len L S h = some (.inl (pc', L', S', h'))) (hL : LR (ad b t) ls (mL i) L) (hW : WH b t ac D h H) (hS : va_S (fun q => b ≤ q) s.heap H locs) (hlen : h.length ≤ sB) (hcs : cells ≤ R.cells ∧ slots ≤ R.slots)
    (k : ∀ (ls' : Array Slot) (H' : Heap) (locs' : List Loc), LR (ad b t) ls' (mL i) L' → WH b t ac D h' H' → va_S (fun q => b ≤ q) s.heap H' locs' → W p l e R s m args below meth c H' locs' cells slots Q (F0 m pc' ls' (S'.map (cv (ad b t))))) : W p l e R s m args below meth c H locs cells slots Q (F0 m pc ls (S.map (cv (ad b t)))) := by
  obtain ⟨hx, hb, hr, hml, hown, hts, hlocks, hin, hE, hfr, hlo, hbs⟩ := C
  simp only [act] at ha
  split at ha
  · split at ha
    · rename_i hq
      unfold jmp at ha
      have ha' := ite_some ha; clear ha; obtain ⟨h0, ha⟩ := ha'
      cases ha
      exact lv_tableOut hx hb hd hq (Int.toNat_of_nonneg h0).symm (k _ _ _ hL hW hS)
    · rename_i hq
      split at ha
      · rename_i off hoff
        unfold jmp at ha
        have ha' := ite_some ha; clear ha; obtain ⟨h0, ha⟩ := ha'
        cases ha
        exact lv_tableIn hx hb hd (fun q => hq (Or.inl q)) (fun q => hq (Or.inr q)) hoff (Int.toNat_of_nonneg h0).symm (k _ _ _ hL hW hS)
      · cases ha
  · cases ha
theorem s_lookup {p : Program} {l : Launch} {e : Env} {R : Room} {s : State} {m : MethodId} {args : Array Value} {below : List Frame} {meth : Method} {c : Code} {H : Heap} {locs : List Loc} {cells slots : Nat} {Q : State → Prop} {b : Nat} {t : Nat → Nat} {ac : Nat → ClassId} {D : va_G} {i pc len : Nat} {ls : Array Slot} {L S : List Value} {h : List hC} {pc' : Nat} {L' S' : List Value} {h' : List hC} {d : Int} {ps : Array (Int × Int)} (C : Ctx b t ac D p s m args meth c R i) (hd : decode (mB i) pc = .ok (.lookupswitch d ps, len)) (ha : act i pc (.lookupswitch d ps) len L S h = some (.inl (pc', L', S', h'))) (hL : LR (ad b t) ls (mL i) L) (hW : WH b t ac D h H) (hS : va_S (fun q => b ≤ q) s.heap H locs) (hlen : h.length ≤ sB) (hcs : cells ≤ R.cells ∧ slots ≤ R.slots)
    (k : ∀ (ls' : Array Slot) (H' : Heap) (locs' : List Loc), LR (ad b t) ls' (mL i) L' → WH b t ac D h' H' → va_S (fun q => b ≤ q) s.heap H' locs' → W p l e R s m args below meth c H' locs' cells slots Q (F0 m pc' ls' (S'.map (cv (ad b t))))) : W p l e R s m args below meth c H locs cells slots Q (F0 m pc ls (S.map (cv (ad b t)))) := by
  obtain ⟨hx, hb, hr, hml, hown, hts, hlocks, hin, hE, hfr, hlo, hbs⟩ := C
  simp only [act] at ha
  split at ha
  · have ha' := ite_some ha; clear ha; obtain ⟨hp, ha⟩ := ha'
    unfold jmp at ha
    have ha' := ite_some ha; clear ha; obtain ⟨h0, ha⟩ := ha'
    cases ha
    exact lv_lookup hx hb hd hp rfl (Int.toNat_of_nonneg h0).symm (k _ _ _ hL hW hS)
  · cases ha
theorem s_getfield {p : Program} {l : Launch} {e : Env} {R : Room} {s : State} {m : MethodId} {args : Array Value} {below : List Frame} {meth : Method} {c : Code} {H : Heap} {locs : List Loc} {cells slots : Nat} {Q : State → Prop} {b : Nat} {t : Nat → Nat} {ac : Nat → ClassId} {D : va_G} {i pc len : Nat} {ls : Array Slot} {L S : List Value} {h : List hC} {pc' : Nat} {L' S' : List Value} {h' : List hC} {idx : Nat} (C : Ctx b t ac D p s m args meth c R i) (hd : decode (mB i) pc = .ok (.getfield idx, len)) (ha : act i pc (.getfield idx) len L S h = some (.inl (pc', L', S', h'))) (hL : LR (ad b t) ls (mL i) L) (hW : WH b t ac D h H) (hS : va_S (fun q => b ≤ q) s.heap H locs) (hlen : h.length ≤ sB) (hcs : cells ≤ R.cells ∧ slots ≤ R.slots)
    (k : ∀ (ls' : Array Slot) (H' : Heap) (locs' : List Loc), LR (ad b t) ls' (mL i) L' → WH b t ac D h' H' → va_S (fun q => b ≤ q) s.heap H' locs' → W p l e R s m args below meth c H' locs' cells slots Q (F0 m pc' ls' (S'.map (cv (ad b t))))) : W p l e R s m args below meth c H locs cells slots Q (F0 m pc ls (S.map (cv (ad b t)))) := by
  obtain ⟨hx, hb, hr, hml, hown, hts, hlocks, hin, hE, hfr, hlo, hbs⟩ := C
  have ha' := ite_some ha; clear ha; obtain ⟨rfl, ha⟩ := ha'
  split at ha
  · rename_i a S0
    split at ha
    · rename_i ci kf hf
      obtain ⟨h12, hkN, hlink⟩ := fref_ok hf
      split at ha
      · rename_i v hv
        cases ha
        obtain ⟨fs, hc, hk, -⟩ := getF_ok hv
        exact va_get (D := D) (ci := ci) (v := cv (ad b t) v) hx hb hts (cls_at h12).2.2 hown hE.1 hW a (wz_at hc) (vw_at h12) kf hkN (hts _ hlink) (fun _ q => q) (by rw [List.getElem?_map, hk]; rfl) hd (k _ _ _ hL hW hS)
      · cases ha
    · cases ha
  · cases ha
theorem s_putfield {p : Program} {l : Launch} {e : Env} {R : Room} {s : State} {m : MethodId} {args : Array Value} {below : List Frame} {meth : Method} {c : Code} {H : Heap} {locs : List Loc} {cells slots : Nat} {Q : State → Prop} {b : Nat} {t : Nat → Nat} {ac : Nat → ClassId} {D : va_G} {i pc len : Nat} {ls : Array Slot} {L S : List Value} {h : List hC} {pc' : Nat} {L' S' : List Value} {h' : List hC} {idx : Nat} (C : Ctx b t ac D p s m args meth c R i) (hd : decode (mB i) pc = .ok (.putfield idx, len)) (ha : act i pc (.putfield idx) len L S h = some (.inl (pc', L', S', h'))) (hL : LR (ad b t) ls (mL i) L) (hW : WH b t ac D h H) (hS : va_S (fun q => b ≤ q) s.heap H locs) (hlen : h.length ≤ sB) (hcs : cells ≤ R.cells ∧ slots ≤ R.slots)
    (k : ∀ (ls' : Array Slot) (H' : Heap) (locs' : List Loc), LR (ad b t) ls' (mL i) L' → WH b t ac D h' H' → va_S (fun q => b ≤ q) s.heap H' locs' → W p l e R s m args below meth c H' locs' cells slots Q (F0 m pc' ls' (S'.map (cv (ad b t))))) : W p l e R s m args below meth c H locs cells slots Q (F0 m pc ls (S.map (cv (ad b t)))) := by
  obtain ⟨hx, hb, hr, hml, hown, hts, hlocks, hin, hE, hfr, hlo, hbs⟩ := C
  have ha' := ite_some ha; clear ha; obtain ⟨rfl, ha⟩ := ha'
  split at ha
  · rename_i v a S0
    split at ha
    · rename_i ci kf hf
      obtain ⟨h12, hkN, hlink⟩ := fref_ok hf
      have ha' := ite_some ha; clear ha; obtain ⟨hfin, ha⟩ := ha'
      split at ha
      · rename_i y hy
        cases ha
        obtain ⟨fs, hc, hk, hok, rfl⟩ := putF_ok hy
        have hset : (wz (ad b t) ac h).set a (ad b t a, .inr (ci, (fs.map (cv (ad b t))).set kf (cv (ad b t) v))) = wz (ad b t) ac (h.set a (.inl (ci, fs.set kf v))) := by
          rw [← wz_set]
          simp only [ce, List.map_set]
        by_cases hf2 : (fT ci kf).2.2.2 = false
        · exact va_put (D := D) (ci := ci) (v := cv (ad b t) v) hx hb hts (cls_at h12).2.2 (fty ci) (fun k hk => fty_ok h12 hk) (fnm_ok h12) hown hE.1 hW (wz_D hlen) hS a (wz_at hc) (vw_at h12) kf hkN (hts _ hlink) (fun _ q => q) hf2 (fty_ok h12 hkN) (okv_n hok).1 (okv_n hok).2 (by rw [List.length_map]; exact hk) hd (fun H1 locs1 hP1 _ hS1 => by rw [hset] at hP1; exact k _ _ _ hL hP1 hS1)
        · rcases hfin with q | ⟨hin', hci⟩
          · exact absurd q hf2
          · exact va_putF (D := D) (ci := ci) (v := cv (ad b t) v) hx hb hts (cls_at h12).2.2 (fty ci) (fun k hk => fty_ok h12 hk) (fnm_ok h12) hown hE.1 hW (wz_D hlen) hS a (wz_at hc) (vw_at h12) kf hkN (hts _ hlink) (fun _ q => q) (by simpa using hf2) (hin hin') (by rw [fdecl h12 hkN, hci]) (fty_ok h12 hkN) (okv_n hok).1 (okv_n hok).2 (by rw [List.length_map]; exact hk) hd (fun H1 locs1 hP1 _ hS1 => by rw [hset] at hP1; exact k _ _ _ hL hP1 hS1)
      · cases ha
    · cases ha
  · cases ha
theorem s_getstatic {p : Program} {l : Launch} {e : Env} {R : Room} {s : State} {m : MethodId} {args : Array Value} {below : List Frame} {meth : Method} {c : Code} {H : Heap} {locs : List Loc} {cells slots : Nat} {Q : State → Prop} {b : Nat} {t : Nat → Nat} {ac : Nat → ClassId} {D : va_G} {i pc len : Nat} {ls : Array Slot} {L S : List Value} {h : List hC} {pc' : Nat} {L' S' : List Value} {h' : List hC} {idx : Nat} (C : Ctx b t ac D p s m args meth c R i) (hd : decode (mB i) pc = .ok (.getstatic idx, len)) (ha : act i pc (.getstatic idx) len L S h = some (.inl (pc', L', S', h'))) (hL : LR (ad b t) ls (mL i) L) (hW : WH b t ac D h H) (hS : va_S (fun q => b ≤ q) s.heap H locs) (hlen : h.length ≤ sB) (hcs : cells ≤ R.cells ∧ slots ≤ R.slots)
    (k : ∀ (ls' : Array Slot) (H' : Heap) (locs' : List Loc), LR (ad b t) ls' (mL i) L' → WH b t ac D h' H' → va_S (fun q => b ≤ q) s.heap H' locs' → W p l e R s m args below meth c H' locs' cells slots Q (F0 m pc' ls' (S'.map (cv (ad b t))))) : W p l e R s m args below meth c H locs cells slots Q (F0 m pc ls (S.map (cv (ad b t)))) := by
  obtain ⟨hx, hb, hr, hml, hown, hts, hlocks, hin, hE, hfr, hlo, hbs⟩ := C
  have ha' := ite_some ha; clear ha; obtain ⟨rfl, ha⟩ := ha'
  split at ha
  · rename_i kf hf
    obtain ⟨h2, hlink⟩ := sref_ok hf
    have ha' := ite_some ha; clear ha; obtain ⟨hk2, ha⟩ := ha'
    cases ha
    have e : cv (ad b t) (.ref (sA kf)) = .ref (t kf) := by
      show Value.ref (ad b t (sA kf)) = _
      unfold ad
      rw [sIx_A hk2]
    have k2 := k _ _ _ hL hW hS
    rw [List.map_cons, e] at k2
    exact va_gets hx hb (hE.2.2.1 kf hk2).1 hS hown (hts _ hlink) (fun _ q => q) hd k2
  · cases ha
theorem s_iaload {p : Program} {l : Launch} {e : Env} {R : Room} {s : State} {m : MethodId} {args : Array Value} {below : List Frame} {meth : Method} {c : Code} {H : Heap} {locs : List Loc} {cells slots : Nat} {Q : State → Prop} {b : Nat} {t : Nat → Nat} {ac : Nat → ClassId} {D : va_G} {i pc len : Nat} {ls : Array Slot} {L S : List Value} {h : List hC} {pc' : Nat} {L' S' : List Value} {h' : List hC}  (C : Ctx b t ac D p s m args meth c R i) (hd : decode (mB i) pc = .ok (.iaload, len)) (ha : act i pc (.iaload) len L S h = some (.inl (pc', L', S', h'))) (hL : LR (ad b t) ls (mL i) L) (hW : WH b t ac D h H) (hS : va_S (fun q => b ≤ q) s.heap H locs) (hlen : h.length ≤ sB) (hcs : cells ≤ R.cells ∧ slots ≤ R.slots)
    (k : ∀ (ls' : Array Slot) (H' : Heap) (locs' : List Loc), LR (ad b t) ls' (mL i) L' → WH b t ac D h' H' → va_S (fun q => b ≤ q) s.heap H' locs' → W p l e R s m args below meth c H' locs' cells slots Q (F0 m pc' ls' (S'.map (cv (ad b t))))) : W p l e R s m args below meth c H locs cells slots Q (F0 m pc ls (S.map (cv (ad b t)))) := by
  obtain ⟨hx, hb, hr, hml, hown, hts, hlocks, hin, hE, hfr, hlo, hbs⟩ := C
  have ha' := ite_some ha; clear ha; obtain ⟨rfl, ha⟩ := ha'
  split at ha
  · rename_i j a S0
    split at ha
    · rename_i x hv
      cases ha
      rcases getI_ok hv with ⟨n, f, hc, hin', rfl⟩ | ⟨hn, -, z, hz, hin', rfl⟩
      · exact va_iald hx hb hE.1 hW a 0 (wz_at hc) rfl (okx_in hin') hd (k _ _ _ hL hW hS)
      · have h2 : z < 4 := by
          unfold sIx at hz
          split at hz
          · cases hz; decide
          · split at hz
            · cases hz; decide
            · split at hz
              · cases hz; decide
              · split at hz
                · cases hz; decide
                · cases hz
        have he1 : ad b t a = t z := by
          unfold ad
          rw [hz]
        show W p l e R s m args below meth c H locs cells slots Q (F0 m pc ls (.int j :: .ref (ad b t a) :: S0.map (cv (ad b t))))
        rw [he1]
        exact va_ti hx hb (hE.2.2.1 _ h2).2 hS (okx_in hin') rfl hd (k _ _ _ hL hW hS)
    · cases ha
  · cases ha
theorem s_caload {p : Program} {l : Launch} {e : Env} {R : Room} {s : State} {m : MethodId} {args : Array Value} {below : List Frame} {meth : Method} {c : Code} {H : Heap} {locs : List Loc} {cells slots : Nat} {Q : State → Prop} {b : Nat} {t : Nat → Nat} {ac : Nat → ClassId} {D : va_G} {i pc len : Nat} {ls : Array Slot} {L S : List Value} {h : List hC} {pc' : Nat} {L' S' : List Value} {h' : List hC}  (C : Ctx b t ac D p s m args meth c R i) (hd : decode (mB i) pc = .ok (.caload, len)) (ha : act i pc (.caload) len L S h = some (.inl (pc', L', S', h'))) (hL : LR (ad b t) ls (mL i) L) (hW : WH b t ac D h H) (hS : va_S (fun q => b ≤ q) s.heap H locs) (hlen : h.length ≤ sB) (hcs : cells ≤ R.cells ∧ slots ≤ R.slots)
    (k : ∀ (ls' : Array Slot) (H' : Heap) (locs' : List Loc), LR (ad b t) ls' (mL i) L' → WH b t ac D h' H' → va_S (fun q => b ≤ q) s.heap H' locs' → W p l e R s m args below meth c H' locs' cells slots Q (F0 m pc' ls' (S'.map (cv (ad b t))))) : W p l e R s m args below meth c H locs cells slots Q (F0 m pc ls (S.map (cv (ad b t)))) := by
  obtain ⟨hx, hb, hr, hml, hown, hts, hlocks, hin, hE, hfr, hlo, hbs⟩ := C
  have ha' := ite_some ha; clear ha; obtain ⟨rfl, ha⟩ := ha'
  split at ha
  · rename_i j a S0
    split at ha
    · rename_i x hv
      cases ha
      rcases getI_ok hv with ⟨n, f, hc, hin', rfl⟩ | ⟨hn, h0, -⟩
      · exact va_cald hx hb hE.1 hW a 1 (wz_at hc) rfl (okx_in hin') hd (k _ _ _ hL hW hS)
      · cases h0
    · cases ha
  · cases ha
theorem s_aaload {p : Program} {l : Launch} {e : Env} {R : Room} {s : State} {m : MethodId} {args : Array Value} {below : List Frame} {meth : Method} {c : Code} {H : Heap} {locs : List Loc} {cells slots : Nat} {Q : State → Prop} {b : Nat} {t : Nat → Nat} {ac : Nat → ClassId} {D : va_G} {i pc len : Nat} {ls : Array Slot} {L S : List Value} {h : List hC} {pc' : Nat} {L' S' : List Value} {h' : List hC}  (C : Ctx b t ac D p s m args meth c R i) (hd : decode (mB i) pc = .ok (.aaload, len)) (ha : act i pc (.aaload) len L S h = some (.inl (pc', L', S', h'))) (hL : LR (ad b t) ls (mL i) L) (hW : WH b t ac D h H) (hS : va_S (fun q => b ≤ q) s.heap H locs) (hlen : h.length ≤ sB) (hcs : cells ≤ R.cells ∧ slots ≤ R.slots)
    (k : ∀ (ls' : Array Slot) (H' : Heap) (locs' : List Loc), LR (ad b t) ls' (mL i) L' → WH b t ac D h' H' → va_S (fun q => b ≤ q) s.heap H' locs' → W p l e R s m args below meth c H' locs' cells slots Q (F0 m pc' ls' (S'.map (cv (ad b t))))) : W p l e R s m args below meth c H locs cells slots Q (F0 m pc ls (S.map (cv (ad b t)))) := by
  obtain ⟨hx, hb, hr, hml, hown, hts, hlocks, hin, hE, hfr, hlo, hbs⟩ := C
  have ha' := ite_some ha; clear ha; obtain ⟨rfl, ha⟩ := ha'
  split at ha
  · rename_i j a S0
    split at ha
    · rename_i v hv
      cases ha
      obtain ⟨u, n, g, hc, hu, hin', rfl⟩ := getQ_ok hv
      have k2 := k _ _ _ hL hW hS
      rw [List.map_cons, cv_rf] at k2
      rcases hu with rfl | rfl
      · exact va_aldq (C := RX0) hx hb hE.1 hW a 2 (wz_at hc) rfl (okx_in hin') hd k2
      · exact va_aldq (C := RX9) hx hb hE.1 hW a 3 (wz_at hc) rfl (okx_in hin') hd k2
    · cases ha
  · cases ha
theorem s_iastore {p : Program} {l : Launch} {e : Env} {R : Room} {s : State} {m : MethodId} {args : Array Value} {below : List Frame} {meth : Method} {c : Code} {H : Heap} {locs : List Loc} {cells slots : Nat} {Q : State → Prop} {b : Nat} {t : Nat → Nat} {ac : Nat → ClassId} {D : va_G} {i pc len : Nat} {ls : Array Slot} {L S : List Value} {h : List hC} {pc' : Nat} {L' S' : List Value} {h' : List hC}  (C : Ctx b t ac D p s m args meth c R i) (hd : decode (mB i) pc = .ok (.iastore, len)) (ha : act i pc (.iastore) len L S h = some (.inl (pc', L', S', h'))) (hL : LR (ad b t) ls (mL i) L) (hW : WH b t ac D h H) (hS : va_S (fun q => b ≤ q) s.heap H locs) (hlen : h.length ≤ sB) (hcs : cells ≤ R.cells ∧ slots ≤ R.slots)
    (k : ∀ (ls' : Array Slot) (H' : Heap) (locs' : List Loc), LR (ad b t) ls' (mL i) L' → WH b t ac D h' H' → va_S (fun q => b ≤ q) s.heap H' locs' → W p l e R s m args below meth c H' locs' cells slots Q (F0 m pc' ls' (S'.map (cv (ad b t))))) : W p l e R s m args below meth c H locs cells slots Q (F0 m pc ls (S.map (cv (ad b t)))) := by
  obtain ⟨hx, hb, hr, hml, hown, hts, hlocks, hin, hE, hfr, hlo, hbs⟩ := C
  have ha' := ite_some ha; clear ha; obtain ⟨rfl, ha⟩ := ha'
  split at ha
  · rename_i x j a S0
    split at ha
    · rename_i y hy
      cases ha
      obtain ⟨n, f, hc, hin', rfl⟩ := putI_ok hy
      exact va_iast hx hb hE.1 hW (wz_D hlen) hS a 0 (wz_at hc) rfl (okx_in hin') hd (fun H1 locs1 hP1 _ hS1 => k _ _ _ hL (by
        have e := wz_set (ad b t) ac h a (.inr (0, n, .inl (upd f j.toNatClampNeg x)))
        unfold WH
        rw [← e]
        exact hP1) hS1)
    · cases ha
  · cases ha
theorem s_castore {p : Program} {l : Launch} {e : Env} {R : Room} {s : State} {m : MethodId} {args : Array Value} {below : List Frame} {meth : Method} {c : Code} {H : Heap} {locs : List Loc} {cells slots : Nat} {Q : State → Prop} {b : Nat} {t : Nat → Nat} {ac : Nat → ClassId} {D : va_G} {i pc len : Nat} {ls : Array Slot} {L S : List Value} {h : List hC} {pc' : Nat} {L' S' : List Value} {h' : List hC}  (C : Ctx b t ac D p s m args meth c R i) (hd : decode (mB i) pc = .ok (.castore, len)) (ha : act i pc (.castore) len L S h = some (.inl (pc', L', S', h'))) (hL : LR (ad b t) ls (mL i) L) (hW : WH b t ac D h H) (hS : va_S (fun q => b ≤ q) s.heap H locs) (hlen : h.length ≤ sB) (hcs : cells ≤ R.cells ∧ slots ≤ R.slots)
    (k : ∀ (ls' : Array Slot) (H' : Heap) (locs' : List Loc), LR (ad b t) ls' (mL i) L' → WH b t ac D h' H' → va_S (fun q => b ≤ q) s.heap H' locs' → W p l e R s m args below meth c H' locs' cells slots Q (F0 m pc' ls' (S'.map (cv (ad b t))))) : W p l e R s m args below meth c H locs cells slots Q (F0 m pc ls (S.map (cv (ad b t)))) := by
  obtain ⟨hx, hb, hr, hml, hown, hts, hlocks, hin, hE, hfr, hlo, hbs⟩ := C
  have ha' := ite_some ha; clear ha; obtain ⟨rfl, ha⟩ := ha'
  split at ha
  · rename_i x j a S0
    split at ha
    · rename_i y hy
      cases ha
      obtain ⟨n, f, hc, hin', rfl⟩ := putI_ok hy
      exact va_cast hx hb hE.1 hW (wz_D hlen) hS a 1 (wz_at hc) rfl (okx_in hin') hd (fun H1 locs1 hP1 _ hS1 => k _ _ _ hL (by
        have e := wz_set (ad b t) ac h a (.inr (1, n, .inl (upd f j.toNatClampNeg (vp_nar .char x))))
        unfold WH
        rw [← e]
        exact hP1) hS1)
    · cases ha
  · cases ha
theorem s_aastore {p : Program} {l : Launch} {e : Env} {R : Room} {s : State} {m : MethodId} {args : Array Value} {below : List Frame} {meth : Method} {c : Code} {H : Heap} {locs : List Loc} {cells slots : Nat} {Q : State → Prop} {b : Nat} {t : Nat → Nat} {ac : Nat → ClassId} {D : va_G} {i pc len : Nat} {ls : Array Slot} {L S : List Value} {h : List hC} {pc' : Nat} {L' S' : List Value} {h' : List hC}  (C : Ctx b t ac D p s m args meth c R i) (hd : decode (mB i) pc = .ok (.aastore, len)) (ha : act i pc (.aastore) len L S h = some (.inl (pc', L', S', h'))) (hL : LR (ad b t) ls (mL i) L) (hW : WH b t ac D h H) (hS : va_S (fun q => b ≤ q) s.heap H locs) (hlen : h.length ≤ sB) (hcs : cells ≤ R.cells ∧ slots ≤ R.slots)
    (k : ∀ (ls' : Array Slot) (H' : Heap) (locs' : List Loc), LR (ad b t) ls' (mL i) L' → WH b t ac D h' H' → va_S (fun q => b ≤ q) s.heap H' locs' → W p l e R s m args below meth c H' locs' cells slots Q (F0 m pc' ls' (S'.map (cv (ad b t))))) : W p l e R s m args below meth c H locs cells slots Q (F0 m pc ls (S.map (cv (ad b t)))) := by
  obtain ⟨hx, hb, hr, hml, hown, hts, hlocks, hin, hE, hfr, hlo, hbs⟩ := C
  have ha' := ite_some ha; clear ha; obtain ⟨rfl, ha⟩ := ha'
  split at ha
  · rename_i v j a S0
    split at ha
    · rename_i y hy
      cases ha
      obtain ⟨u, n, g, fs, hc, hv, hu, hin', rfl⟩ := putQ_ok hy
      have e0 := wz_set (ad b t) ac h a (.inr (u, n, .inr (va_up g j.toNatClampNeg (some v))))
      have e1 : ce (ad b t) ac (.inr (u, n, .inr (va_up g j.toNatClampNeg (some v)))) = .inl (ac u, n, .inr (.inr (.inr (.inr (va_up (fun j => (g j).map (ad b t)) j.toNatClampNeg (some (ad b t v))))))) := by
        have hf : (fun z => (va_up g j.toNatClampNeg (some v) z).map (ad b t)) = va_up (fun j => (g j).map (ad b t)) j.toNatClampNeg (some (ad b t v)) := by
          funext z
          unfold va_up
          by_cases hz : z = j.toNatClampNeg
          · rw [if_pos hz, if_pos hz]; rfl
          · rw [if_neg hz, if_neg hz]
        simp only [ce]
        rw [hf]
      rw [e1] at e0
      have k2 : ∀ (H1 : Heap) (locs1 : List Loc), va_P D vwCl ((wz (ad b t) ac h).set a (ad b t a, .inl (ac u, n, .inr (.inr (.inr (.inr (va_up (fun j => (g j).map (ad b t)) j.toNatClampNeg (some (ad b t v))))))))) H1 → va_S (fun q => b ≤ q) s.heap H1 locs1 → W p l e R s m args below meth c H1 locs1 cells slots Q (F0 m (pc + 1) ls (S'.map (cv (ad b t)))) := by
        intro H1 locs1 hP1 hS1
        rw [e0] at hP1
        exact k _ _ _ hL hP1 hS1
      rcases hu with rfl | rfl
      · exact va_astq hx hb hE.1 hW (wz_D hlen) hS a 2 v 0 (r := (RX0, TX0, 8)) (wz_at hc) rfl (wz_at hv) rfl (okx_in hin') hd (fun H1 locs1 hP1 _ hS1 => k2 H1 locs1 hP1 hS1)
      · exact va_astq hx hb hE.1 hW (wz_D hlen) hS a 3 v 9 (r := (RX9, TX9, 12)) (wz_at hc) rfl (wz_at hv) rfl (okx_in hin') hd (fun H1 locs1 hP1 _ hS1 => k2 H1 locs1 hP1 hS1)
    · cases ha
  · cases ha
end
section
/-! the machine does what the small machine does: calls, new cells, ends, and the whole -/
theorem lref_ok {oc i k j : Nat} (h : lref oc i = some (k, j)) :
    (k = 0 → j < mtab.length ∧ (mP j).1 = 0 ∧ Cond.methodLink (fR oc) i (mN j) ∈ gw) ∧ (k = 1 → j < mtab.length ∧ (mP j).1 = 2 ∧ Cond.methodLink (fR oc) i (mN j) ∈ gw) ∧
    (k = 2 → j < mtab.length ∧ (mP j).1 = 1 ∧ Cond.methodLink (fR oc) i (mN j) ∈ gw) ∧ (k = 3 → j < mtab.length ∧ (mP j).1 = 1 ∧ (fR oc, i, mN j, RX10) ∈ ntab) ∧ (k = 4 → j < mtab.length ∧ (mP j).1 = 2 ∧ (fR oc, i, mN j, RX10) ∈ ntab) ∧
    (k = 5 → Cond.methodLink (fR oc) i Lib.objectInit ∈ gw) ∧ (k = 6 → Cond.methodLink (fR oc) i Lib.Math.max.name ∈ gw) ∧ (k = 7 → Cond.methodLink (fR oc) i Lib.Math.min.name ∈ gw) ∧ (k = 8 → Cond.methodLink (fR oc) i arraycopyName ∈ gw) := by
  unfold lref at h
  cases he : ltab.find? (fun e => e.1 == oc && e.2.1 == i) with
  | none => rw [he] at h; cases h
  | some e =>
    rw [he] at h
    have h1 := List.find?_some he
    have h2 := List.all_eq_true.mp ltab_ok e (List.mem_of_find?_eq_some he)
    obtain ⟨a, b, c, d, q⟩ := e
    cases h
    simp only [Bool.and_eq_true, beq_iff_eq] at h1
    obtain ⟨rfl, rfl⟩ := h1
    refine ⟨?_, ?_, ?_, ?_, ?_, ?_, ?_, ?_, ?_⟩
    all_goals
      intro hk
      subst hk
      simp only [Bool.and_eq_true, decide_eq_true_eq] at h2
    · exact ⟨h2.1.1, h2.1.2, lw_at h2.2 rfl⟩
    · exact ⟨h2.1.1, h2.1.2, lw_at h2.2 rfl⟩
    · exact ⟨h2.1.1, h2.1.2, lw_at h2.2 rfl⟩
    · exact ⟨h2.1.1, h2.1.2, List.mem_of_getElem? h2.2⟩
    · exact ⟨h2.1.1, h2.1.2, List.mem_of_getElem? h2.2⟩
    · exact lw_at h2 rfl
    · exact lw_at h2 rfl
    · exact lw_at h2 rfl
    · exact lw_at h2 rfl
theorem jdk_at : Cond.instanceMethod Lib.objectInit ∈ gw ∧ Cond.code Lib.objectInit ⟨#[0xb1]⟩ 1 none ∈ gw ∧ Cond.initialized "java/lang/Math" ∈ gw ∧ Cond.initialized "java/lang/System" ∈ gw ∧ Cond.static Lib.Math.min.name ∈ gw ∧ Cond.code Lib.Math.min.name Lib.Math.min.code 2 (some .int) ∈ gw ∧ Cond.static arraycopyName ∈ gw ∧ Cond.native arraycopyName ∈ gw ∧ Cond.static Lib.Math.max.name ∈ gw ∧ Cond.code Lib.Math.max.name Lib.Math.max.code 2 (some .int) ∈ gw ∧ Cond.arrayClass .int ∈ gw ∧ Cond.arrayClass .char ∈ gw := by
  have h := jdk_ok
  simp only [Bool.and_eq_true, decide_eq_true_eq] at h
  obtain ⟨⟨⟨⟨⟨⟨⟨⟨⟨⟨⟨h1, h2⟩, h3⟩, h4⟩, h5⟩, h6⟩, h7⟩, h8⟩, h9⟩, h10⟩, h11⟩, h12⟩ := h
  exact ⟨lw_at h1 rfl, lw_at h2 rfl, lw_at h3 rfl, lw_at h4 rfl, lw_at h5 rfl, lw_at h6 rfl, lw_at h7 rfl, lw_at h8 rfl, lw_at h9 rfl, lw_at h10 rfl, lw_at h11 rfl, lw_at h12 rfl⟩
theorem mlen : mtab.length = 209 := by decide +kernel
theorem mcode_at {j : Nat} (hj : j < mtab.length) : Cond.code (mN j) (mB j) (mL j) (mR j) ∈ gw := by
  rw [mlen] at hj
  have h := congrArg (fun z => z[j]?) codes_ok
  simp only [List.getElem?_map, List.getElem?_range hj, Option.map_some] at h
  exact gw_in (sgm_in (List.mem_of_getElem? (Option.some.inj h))) rfl
theorem mrow_at {j : Nat} (hj : j < mtab.length) : Cond.initialized (mN j).cls ∈ gw ∧ (mN j).cls = fR (mC j) ∧ mC j < 12 ∧ plainName (mN j).cls = true ∧ (mN j).cls ≠ "java/lang/invoke/MethodHandle" ∧ (mN j).cls ≠ "java/lang/invoke/VarHandle" ∧
    ((mP j).1 = 0 → Cond.instanceMethod (mN j) ∈ gw ∧ Cond.selects (mN j).cls (mN j) (mN j) ∈ gw ∧ (parseMethodDescriptor (mN j).desc).map (fun d => d.parameters.length + 1) = some (mA j)) ∧
    ((mP j).1 = 1 → Cond.instanceMethod (mN j) ∈ gw ∧ (mN j).name = "<init>" ∧ mR j = none ∧ (parseMethodDescriptor (mN j).desc).map (fun d => d.parameters.length + 1) = some (mA j)) ∧
    ((mP j).1 = 2 → Cond.static (mN j) ∈ gw ∧ (parseMethodDescriptor (mN j).desc).map (fun d => d.parameters.length) = some (mA j)) := by
  have h := List.all_eq_true.mp mtab_ok j (List.mem_range.mpr hj)
  simp only [Bool.and_eq_true, decide_eq_true_eq] at h
  obtain ⟨⟨⟨⟨⟨⟨h1, h2⟩, h3⟩, h4⟩, h5⟩, h6⟩, h7⟩ := h
  refine ⟨lw_at h1 rfl, h2, h3, h4, h5, h6, fun q => ?_, fun q => ?_, fun q => ?_⟩
  · rw [q] at h7
    simp only [Bool.and_eq_true, decide_eq_true_eq] at h7
    exact ⟨lw_at h7.1.1 rfl, lw_at h7.1.2 rfl, h7.2⟩
  · rw [q] at h7
    simp only [Bool.and_eq_true, decide_eq_true_eq] at h7
    exact ⟨lw_at h7.1.1.1 rfl, h7.1.1.2, h7.1.2, h7.2⟩
  · rw [q] at h7
    simp only [Bool.and_eq_true, decide_eq_true_eq] at h7
    exact ⟨lw_at h7.1 rfl, h7.2⟩
theorem gw_all {ws : List Cond} (h : ∀ w ∈ ws, w ∈ gw) : GoodIn gw ws := fun w hw => ⟨h w hw, good_of_word (gw_good w (h w hw))⟩
abbrev wsm (j : Nat) : List Cond := .code (mN j) (mB j) (mL j) (mR j) :: gw
theorem wsm_in {j : Nat} (hj : j < mtab.length) : ∀ w ∈ wsm j, w ∈ gw := fun w hw => (List.mem_cons.mp hw).elim (fun e => e ▸ mcode_at hj) id
theorem desc_n {j n : Nat} (h : (parseMethodDescriptor (mN j).desc).map (fun d => d.parameters.length + 1) = some (n + 1)) : (parseMethodDescriptor (mN j).desc).map (fun d => d.parameters.length) = some n := by
  cases hp : parseMethodDescriptor (mN j).desc with
  | none => rw [hp] at h; cases h
  | some d => rw [hp] at h; simp only [Option.map_some, Option.some.injEq] at h ⊢; omega
section SND
variable {p : Program} {l : Launch} {e : Env} {R : Room} {s : State} {m : MethodId} {args : Array Value} {below : List Frame} {meth : Method} {c : Code} {H : Heap} {locs : List Loc} {cells slots : Nat} {Q : State → Prop} {b : Nat} {t : Nat → Nat} {ac : Nat → ClassId} {D : va_G} {i pc len : Nat} {ls : Array Slot} {L S : List Value} {h : List hC}
theorem s_invS {pc' idx : Nat} {L' S' : List Value} {h' : List hC} (C : Ctx b t ac D p s m args meth c R i) (hd : decode (mB i) pc = .ok (.invokestatic idx, len)) (ha : act i pc (.invokestatic idx) len L S h = some (.inl (pc', L', S', h'))) (hL : LR (ad b t) ls (mL i) L) (hW : WH b t ac D h H) (hS : va_S (fun q => b ≤ q) s.heap H locs) (hlen : h.length ≤ sB) (hcs : cells ≤ R.cells ∧ slots ≤ R.slots)
    (k : ∀ (ls' : Array Slot) (H' : Heap) (locs' : List Loc), LR (ad b t) ls' (mL i) L' → WH b t ac D h' H' → va_S (fun q => b ≤ q) s.heap H' locs' → W p l e R s m args below meth c H' locs' cells slots Q (F0 m pc' ls' (S'.map (cv (ad b t))))) : W p l e R s m args below meth c H locs cells slots Q (F0 m pc ls (S.map (cv (ad b t)))) := by
  obtain ⟨hx, hb, hr, hml, hown, hts, hlocks, hin, hE, hfr, hlo, hbs⟩ := C
  have jd := jdk_at
  have ha' := ite_some ha; clear ha; obtain ⟨rfl, ha⟩ := ha'
  unfold invS at ha
  split at ha
  · split at ha
    · cases ha
    · cases ha
  · split at ha
    · cases ha
    · cases ha
  · rename_i hl
    split at ha
    · split at ha
      · rename_i hc
        simp only [Bool.and_eq_true, decide_eq_true_eq] at hc
        cases ha
        have hk := k _ _ _ hL hW hS
        exact va_mmax hx hb (by rw [hml, hL.1]) hown (hts _ ((lref_ok hl).2.2.2.2.2.2.1 rfl)) (hts _ jd.2.2.2.2.2.2.2.2.1) (hts _ jd.2.2.1) (hts _ jd.2.2.2.2.2.2.2.2.2.1) (by omega) (by rw [cat_sum _ hc.2]; omega) hcs.1 hcs.2 hd hk
      · cases ha
    · cases ha
  · rename_i hl
    split at ha
    · split at ha
      · rename_i hc
        simp only [Bool.and_eq_true, decide_eq_true_eq] at hc
        cases ha
        have hk := k _ _ _ hL hW hS
        exact va_mmin hx hb (by rw [hml, hL.1]) hown (hts _ ((lref_ok hl).2.2.2.2.2.2.2.1 rfl)) (hts _ jd.2.2.2.2.1) (hts _ jd.2.2.1) (hts _ jd.2.2.2.2.2.1) (by omega) (by rw [cat_sum _ hc.2]; omega) hcs.1 hcs.2 hd hk
      · cases ha
    · cases ha
  · rename_i hl
    split at ha
    · rename_i n dp a1 sp a0 S0
      split at ha
      · rename_i hc
        simp only [Bool.and_eq_true, decide_eq_true_eq] at hc
        split at ha
        · rename_i y hy
          cases ha
          obtain ⟨n0, f, n1, g, h0, h1, ⟨g1, g2, g3, g4, g5⟩, rfl⟩ := cpyI_ok hy
          have rn := room_nat
          refine va_copyi hx hb (by rw [hml, hL.1]) hown (hts _ ((lref_ok hl).2.2.2.2.2.2.2.2 rfl)) (hts _ jd.2.2.2.2.2.2.2.1) (hts _ jd.2.2.2.2.2.2.1) (hts _ jd.2.2.2.1) hE.1 hW (wz_D hlen) hS a0 a1 0 0 (wz_at h0) (wz_at h1) rfl rfl rfl g1 g2 g3 g4 g5 (fun _ _ => rfl) (by omega) (by rw [cat_sum _ hc.2]; omega) hd (fun H1 locs1 hP1 _ hS1 => k _ _ _ hL (by
            have he1 := wz_set (ad b t) ac h a1 (.inr (0, n1, .inl (va_cpy f g sp.toNatClampNeg dp.toNatClampNeg n.toNatClampNeg)))
            unfold WH
            rw [← he1]
            exact hP1) hS1)
        · cases ha
      · cases ha
    · cases ha
  · cases ha
theorem s_invI {pc' idx : Nat} {L' S' : List Value} {h' : List hC} (C : Ctx b t ac D p s m args meth c R i) (hd : decode (mB i) pc = .ok (.invokespecial idx, len)) (ha : act i pc (.invokespecial idx) len L S h = some (.inl (pc', L', S', h'))) (hL : LR (ad b t) ls (mL i) L) (hW : WH b t ac D h H) (hS : va_S (fun q => b ≤ q) s.heap H locs) (hlen : h.length ≤ sB) (hcs : cells ≤ R.cells ∧ slots ≤ R.slots)
    (k : ∀ (ls' : Array Slot) (H' : Heap) (locs' : List Loc), LR (ad b t) ls' (mL i) L' → WH b t ac D h' H' → va_S (fun q => b ≤ q) s.heap H' locs' → W p l e R s m args below meth c H' locs' cells slots Q (F0 m pc' ls' (S'.map (cv (ad b t))))) : W p l e R s m args below meth c H locs cells slots Q (F0 m pc ls (S.map (cv (ad b t)))) := by
  obtain ⟨hx, hb, hr, hml, hown, hts, hlocks, hin, hE, hfr, hlo, hbs⟩ := C
  have jd := jdk_at
  have ha' := ite_some ha; clear ha; obtain ⟨rfl, ha⟩ := ha'
  unfold invI at ha
  split at ha
  · repeat' split at ha
    all_goals (cases ha)
  · repeat' split at ha
    all_goals (cases ha)
  · rename_i hl
    split at ha
    · split at ha
      · rename_i hc
        simp only [Bool.and_eq_true, decide_eq_true_eq] at hc
        cases ha
        have hk := k _ _ _ hL hW hS
        refine W.objInit hx hb hown (hts _ ((lref_ok hl).2.2.2.2.2.1 rfl)) (hts _ jd.1) (hts _ jd.2.1) rfl (by rw [hml]; exact hL.1) rfl hd (by omega) (by
          show 2 * 0 + _ + 12 ≤ _
          rw [cat_sum _ hc.2]; omega) ?_
        exact W.eq rfl hk
      · cases ha
    · cases ha
  · cases ha
theorem s_next {ins : Instr} {pc' : Nat} {L' S' : List Value} {h' : List hC} (C : Ctx b t ac D p s m args meth c R i) (hd : decode (mB i) pc = .ok (ins, len)) (ha : act i pc ins len L S h = some (.inl (pc', L', S', h'))) (hL : LR (ad b t) ls (mL i) L) (hW : WH b t ac D h H) (hS : va_S (fun q => b ≤ q) s.heap H locs) (hlen : h.length ≤ sB) (hcs : cells ≤ R.cells ∧ slots ≤ R.slots)
    (k : ∀ (ls' : Array Slot) (H' : Heap) (locs' : List Loc), LR (ad b t) ls' (mL i) L' → WH b t ac D h' H' → va_S (fun q => b ≤ q) s.heap H' locs' → W p l e R s m args below meth c H' locs' cells slots Q (F0 m pc' ls' (S'.map (cv (ad b t))))) : W p l e R s m args below meth c H locs cells slots Q (F0 m pc ls (S.map (cv (ad b t)))) := by
  cases ins
  case aload => exact s_aload C hd ha hL hW hS hlen hcs k
  case aload_n => exact s_aload_n C hd ha hL hW hS hlen hcs k
  case iload => exact s_iload C hd ha hL hW hS hlen hcs k
  case iload_n => exact s_iload_n C hd ha hL hW hS hlen hcs k
  case astore => exact s_astore C hd ha hL hW hS hlen hcs k
  case astore_n => exact s_astore_n C hd ha hL hW hS hlen hcs k
  case istore => exact s_istore C hd ha hL hW hS hlen hcs k
  case istore_n => exact s_istore_n C hd ha hL hW hS hlen hcs k
  case iconst => exact s_iconst C hd ha hL hW hS hlen hcs k
  case bipush => exact s_bipush C hd ha hL hW hS hlen hcs k
  case sipush => exact s_sipush C hd ha hL hW hS hlen hcs k
  case aconst_null => exact s_null C hd ha hL hW hS hlen hcs k
  case ldc => exact s_ldc C hd ha hL hW hS hlen hcs k
  case iadd => exact s_iadd C hd ha hL hW hS hlen hcs k
  case isub => exact s_isub C hd ha hL hW hS hlen hcs k
  case imul => exact s_imul C hd ha hL hW hS hlen hcs k
  case iand => exact s_iand C hd ha hL hW hS hlen hcs k
  case ior => exact s_ior C hd ha hL hW hS hlen hcs k
  case ishl => exact s_ishl C hd ha hL hW hS hlen hcs k
  case ishr => exact s_ishr C hd ha hL hW hS hlen hcs k
  case idiv => exact s_idiv C hd ha hL hW hS hlen hcs k
  case irem => exact s_irem C hd ha hL hW hS hlen hcs k
  case i2c => exact s_i2c C hd ha hL hW hS hlen hcs k
  case iinc => exact s_iinc C hd ha hL hW hS hlen hcs k
  case dup => exact s_dup C hd ha hL hW hS hlen hcs k
  case pop => exact s_pop C hd ha hL hW hS hlen hcs k
  case dup2 => exact s_dup2 C hd ha hL hW hS hlen hcs k
  case goto => exact s_goto C hd ha hL hW hS hlen hcs k
  case ifCond cnd off =>
    cases cnd
    · exact s_if_eq C hd ha hL hW hS hlen hcs k
    · exact s_if_ne C hd ha hL hW hS hlen hcs k
    · exact s_if_lt C hd ha hL hW hS hlen hcs k
    · exact s_if_ge C hd ha hL hW hS hlen hcs k
    · exact s_if_gt C hd ha hL hW hS hlen hcs k
    · exact s_if_le C hd ha hL hW hS hlen hcs k
  case if_icmp cnd off =>
    cases cnd
    · exact s_icmp_eq C hd ha hL hW hS hlen hcs k
    · exact s_icmp_ne C hd ha hL hW hS hlen hcs k
    · exact s_icmp_lt C hd ha hL hW hS hlen hcs k
    · exact s_icmp_ge C hd ha hL hW hS hlen hcs k
    · exact s_icmp_gt C hd ha hL hW hS hlen hcs k
    · exact s_icmp_le C hd ha hL hW hS hlen hcs k
  case ifnull => exact s_ifnull C hd ha hL hW hS hlen hcs k
  case ifnonnull => exact s_ifnonnull C hd ha hL hW hS hlen hcs k
  case tableswitch => exact s_table C hd ha hL hW hS hlen hcs k
  case lookupswitch => exact s_lookup C hd ha hL hW hS hlen hcs k
  case getfield => exact s_getfield C hd ha hL hW hS hlen hcs k
  case putfield => exact s_putfield C hd ha hL hW hS hlen hcs k
  case getstatic => exact s_getstatic C hd ha hL hW hS hlen hcs k
  case iaload => exact s_iaload C hd ha hL hW hS hlen hcs k
  case caload => exact s_caload C hd ha hL hW hS hlen hcs k
  case aaload => exact s_aaload C hd ha hL hW hS hlen hcs k
  case iastore => exact s_iastore C hd ha hL hW hS hlen hcs k
  case castore => exact s_castore C hd ha hL hW hS hlen hcs k
  case aastore => exact s_aastore C hd ha hL hW hS hlen hcs k
  case invokestatic => exact s_invS C hd ha hL hW hS hlen hcs k
  case invokespecial => exact s_invI C hd ha hL hW hS hlen hcs k
  all_goals (simp only [act, invV] at ha)
  all_goals (repeat' split at ha)
  all_goals (cases ha)
theorem dfl_ok : (List.range 12).all (fun ci => (List.range (fN ci)).all (fun k => decide (defaultValue (fty ci k) = dfl (fty ci k)))) = true := by decide +kernel
theorem dfl_cv {r : Nat → Nat} (ty : FieldType) : cv r (dfl ty) = dfl ty := by cases ty <;> rfl
/-- a new cell -/
theorem s_alloc {ins : Instr} {pc' : Nat} {S' : List Value} {x : hC} (C : Ctx b t ac D p s m args meth c R i) (hd : decode (mB i) pc = .ok (ins, len)) (ha : act i pc ins len L S h = some (.inr (.inr (.inl (x, pc', S'))))) (hW : WH b t ac D h H) (hS : va_S (fun q => b ≤ q) s.heap H locs) (hlen : h.length < sB) (hsz : s.heap.size + cells ≤ b + h.length) (hcs : cells + 1 ≤ R.cells ∧ slots + csz x ≤ R.slots)
    (k : ∀ (H' : Heap) (locs' : List Loc), WH b t ac D (h ++ [x]) H' → va_S (fun q => b ≤ q) s.heap H' locs' → W p l e R s m args below meth c H' locs' (cells + 1) (slots + csz x) Q (F0 m pc' ls ((.ref h.length :: S').map (cv (ad b t))))) : W p l e R s m args below meth c H locs cells slots Q (F0 m pc ls (S.map (cv (ad b t)))) := by
  obtain ⟨hx, hb, hr, hml, hown, hts, hlocks, hin, hE, hfr, hlo, hbs⟩ := C
  have hA : ∀ q : Nat, s.heap.size ≤ q → b ≤ q := fun q hq => Nat.le_trans hbs hq
  have jd := jdk_at
  -- the new cell's address is the next one
  have key : ∀ (q : Nat) (H1 : Heap) (g : JFrame), va_P D vwCl (wz (ad b t) ac h ++ [(q, ce (ad b t) ac x)]) H1 → va_D (fun q => b ≤ q) (wz (ad b t) ac h ++ [(q, ce (ad b t) ac x)]) → va_S (fun q => b ≤ q) s.heap H1 locs →
      W p l e R s m args below meth c H1 locs (cells + 1) (slots + csz x) Q (F0 m pc' ls (.ref q :: S'.map (cv (ad b t)))) := by
    intro q H1 g hP1 hD1 hS1 T hT X
    have hlw : (wz (ad b t) ac h).length = h.length := by simp [wz]
    have hlast : (wz (ad b t) ac h ++ [(q, ce (ad b t) ac x)])[h.length]? = some (q, ce (ad b t) ac x) := by
      rw [List.getElem?_append_right (by omega), hlw, Nat.sub_self]; rfl
    have h1 : q < H1.size := (hP1 _ _ hlast).lt
    have h2 : H1.size ≤ s.heap.size + (cells + 1) := by rw [← hT]; exact X.heapSize
    have h3 : b ≤ q := hD1.2 _ _ hlast
    have h4 : ¬ q < b + h.length := by
      intro hq
      have hk : q - b < h.length := by omega
      have hat := wz_at (r := ad b t) (ac := ac) (h := h) (k := q - b) (x := h[q - b]) (List.getElem?_eq_getElem hk)
      have hat2 : (wz (ad b t) ac h ++ [(q, ce (ad b t) ac x)])[q - b]? = some (ad b t (q - b), ce (ad b t) ac h[q - b]) := by
        rw [List.getElem?_append_left (by omega)]; exact hat
      have := hD1.1 _ _ _ _ hat2 hlast (by
        show ad b t (q - b) = q
        rw [ad_lt (by omega)]; omega)
      omega
    have hq : q = ad b t h.length := by rw [ad_lt hlen]; omega
    subst hq
    rw [← wz_push] at hP1
    exact k H1 locs hP1 hS1 T hT X
  rcases act_alloc ha with ⟨idx, ci, rfl, rfl, hci, rfl, rfl, rfl⟩ | ⟨ty, n, rfl, rfl, rfl, hn, hn2, hty, rfl⟩ | ⟨idx, n, tt, rfl, rfl, rfl, hat, hn, hn2, htt, rfl, rfl⟩
  · obtain ⟨h12, hlink⟩ := nref_ok hci
    have hN : csz (.inl (ci, (List.range (fN ci)).map (fun k => dfl (fty ci k)))) = fN ci := by simp [csz]
    rw [hN] at hcs key
    refine va_new (ci := ci) (fs := ((List.range (fN ci)).map (fun k => dfl (fty ci k))).map (cv (ad b t))) hx hb hts (cls_at h12).2.2 (fty ci) (fun k hk => fty_ok h12 hk) hown (hts _ hlink) (hts _ (cls_at h12).1) (hts _ (cls_at h12).2.1) hE.1 hW (wz_D (Nat.le_of_lt hlen)) hS hA (vw_at h12) (fun j hj => ?_) hcs.1 hcs.2 hd (fun q H1 hP1 hD1 hS1 => key q H1 (F0 m 0 ls []) hP1 hD1 hS1)
    have := of_decide_eq_true (List.all_eq_true.mp (List.all_eq_true.mp dfl_ok ci (List.mem_range.mpr h12)) j (List.mem_range.mpr hj))
    rw [this]
    simp [vp_V, hj, dfl_cv]
  · rcases hty with ⟨rfl, rfl⟩ | ⟨rfl, rfl⟩
    · refine va_newa (atype := .int) (a0 := (n.toNatClampNeg, .inl (fun _ => 0))) hx hb (hts _ jd.2.2.2.2.2.2.2.2.2.2.1) rfl hE.1 hW (wz_D (Nat.le_of_lt hlen)) hS hA (fun cA => rfl) hn rfl (by show n.toNatClampNeg * 4 ≤ _; omega) hcs.1 hcs.2 hd (fun q cA H1 hK1 hP1 hD1 hS1 => ?_)
      have e1 : cA = ac 0 := by
        have z1 : s.vm.findClass ("[" ++ FieldType.int.toString) = some cA := (hK1.2 4 (cA, .int) rfl).2
        have z2 : s.vm.findClass ("[" ++ FieldType.int.toString) = some (ac 0) := (hE.1.2 0 (ac 0, .int) rfl).2
        exact Option.some.inj (z1.symm.trans z2)
      subst e1
      exact key q H1 (F0 m 0 ls []) hP1 hD1 hS1
    · refine va_newa (atype := .char) (a0 := (n.toNatClampNeg, .inl (fun _ => 0))) hx hb (hts _ jd.2.2.2.2.2.2.2.2.2.2.2) rfl hE.1 hW (wz_D (Nat.le_of_lt hlen)) hS hA (fun cA => rfl) hn rfl (by show n.toNatClampNeg * 2 ≤ _; omega) hcs.1 hcs.2 hd (fun q cA H1 hK1 hP1 hD1 hS1 => ?_)
      have e1 : cA = ac 1 := by
        have z1 : s.vm.findClass ("[" ++ FieldType.char.toString) = some cA := (hK1.2 4 (cA, .char) rfl).2
        have z2 : s.vm.findClass ("[" ++ FieldType.char.toString) = some (ac 1) := (hE.1.2 1 (ac 1, .char) rfl).2
        exact Option.some.inj (z1.symm.trans z2)
      subst e1
      exact key q H1 (F0 m 0 ls []) hP1 hD1 hS1
  · have e0 : ∀ cA : ClassId, (∃ (kA : Class) (comp : ClassId), s.vm.classes[cA]? = some kA ∧ kA.kind = .array comp (.object (fR (qcl tt))) ∧ s.vm.findClass (fR (qcl tt)) = some comp ∧ s.vm.findClass ("[" ++ (FieldType.object (fR (qcl tt))).toString) = some cA) → cA = ac tt := by
      intro cA ⟨_, _, _, _, _, z1⟩
      rcases htt with rfl | rfl
      · obtain ⟨_, _, _, _, _, z2⟩ := (hE.1.2 2 (ac 2, .object RX0) rfl).2
        exact Option.some.inj (z1.symm.trans z2)
      · obtain ⟨_, _, _, _, _, z2⟩ := (hE.1.2 3 (ac 3, .object RX9) rfl).2
        exact Option.some.inj (z1.symm.trans z2)
    have hover : va_AO (fR (qcl tt)) s := by
      rcases htt with rfl | rfl
      · exact hE.2.2.2.1
      · exact hE.2.2.2.2
    refine va_newq hx hb hown (hts _ (aref_ok hat)) hover hE.1 hW (wz_D (Nat.le_of_lt hlen)) hS hA hn rfl (by omega) hcs.1 hcs.2 hd (fun q cA H1 hK1 hP1 hD1 hS1 => ?_)
    have e1 := e0 cA (hK1.2 4 (cA, .object (fR (qcl tt))) rfl).2
    subst e1
    exact key q H1 (F0 m 0 ls []) hP1 hD1 hS1
end SND
end
section
/-! the whole: whatever the small machine answers, the machine answers -/
abbrev rmm (j a b : Nat) : Room := { frames := mF j, cells := a, slots := b, locals := mW j }
def Qm (b : Nat) (t : Nat → Nat) (ac : Nat → ClassId) (D : va_G) (v : Option Value) (h' : List hC) : Array Value → State → Outcome → State → Prop := fun _ st oc u => oc = .returned (v.map (cv (ad b t))) ∧ WH b t ac D h' u.heap ∧ va_F (fun q => b ≤ q) st u
def Pm (b : Nat) (t : Nat → Nat) (ac : Nat → ClassId) (D : va_G) (as : List Value) (h : List hC) : Array Value → State → Prop := va_Pc (as.map (cv (ad b t))) (fun U => WH b t ac D h U.heap ∧ EV b t ac D U ∧ b ≤ U.heap.size ∧ U.heap.size ≤ b + h.length)
theorem Pm_blind {b : Nat} {t : Nat → Nat} {ac : Nat → ClassId} {D : va_G} {as : List Value} {h : List hC} : FrameBlind (Pm b t ac D as h) := by
  intro a U g mk hp
  obtain ⟨h1, h2, h3, h4, h5⟩ := hp
  exact ⟨h1, h2, h3.call, h4, h5⟩
def Snd (l : Launch) (n : Nat) : Prop := ∀ (i pc : Nat) (L S : List Value) (h : List hC) (v : Option Value) (h' : List hC) (a bb : Nat), exec n i pc L S h = some (v, h', a, bb) →
  ∀ {p : Program} {e : Env} {R : Room} {s : State} {m : MethodId} {args : Array Value} {below : List Frame} {meth : Method} {c : Code} {b : Nat} {t : Nat → Nat} {ac : Nat → ClassId} {D : va_G} (_ : Ctx b t ac D p s m args meth c R i) (H : Heap) (locs : List Loc) (cells slots : Nat) (ls : Array Slot) (mc ms : Nat), LR (ad b t) ls (mL i) L → WH b t ac D h H → va_S (fun q => b ≤ q) s.heap H locs → h.length + a ≤ sB → s.heap.size + cells ≤ b + h.length → cells + a ≤ mc → slots + bb ≤ ms → mc ≤ R.cells → ms ≤ R.slots →
    W p l e R s m args below meth c H locs cells slots (MQ below (Qm b t ac D v h') args s mc ms (fun q => b ≤ q)) (F0 m pc ls (S.map (cv (ad b t))))
theorem lv_args1 : ∀ (vs : List Value) (i : Nat), (∀ v ∈ vs, v.category = 1) → ∀ (k : Nat) (v : Value), vs[k]? = some v → (i + k, v) ∈ lv_args i vs
  | [], _, _, k, v, h => by simp at h
  | w :: vs, i, hc, k, v, h => by
    have hw : ¬ w.category = 2 := by rw [hc w List.mem_cons_self]; decide
    simp only [lv_args, hw, if_false]
    cases k with
    | zero => rw [List.getElem?_cons_zero] at h; cases h; exact List.mem_cons_self
    | succ k =>
      rw [List.getElem?_cons_succ] at h
      have := lv_args1 vs (i + 1) (fun v hv => hc v (List.mem_cons_of_mem _ hv)) k v h
      rw [show i + (k + 1) = i + 1 + k by omega]
      exact List.mem_cons_of_mem _ this
theorem lg_len1 : ∀ (vs : List Value), (∀ v ∈ vs, v.category = 1) → (lg_sl vs).length = vs.length
  | [], _ => rfl
  | w :: vs, hc => by
    have hw : ¬ w.category = 2 := by rw [hc w List.mem_cons_self]; decide
    have := lg_len1 vs (fun v hv => hc v (List.mem_cons_of_mem _ hv))
    have e : lg_sl (w :: vs) = [Slot.val w] ++ lg_sl vs := by simp [lg_sl, hw]
    rw [e, List.length_append, this, List.length_singleton, List.length_cons]
    omega
theorem pad_LR {r : Nat → Nat} {j : Nat} {as : List Value} (hc : as.all cat1 = true) (hl : as.length ≤ mL j) :
    LR r ((lg_sl (as.map (cv r)) ++ List.replicate (mL j - (lg_sl (as.map (cv r))).length) Slot.unset).toArray) (mL j) (pad j as) := by
  have h1 : ∀ v ∈ as.map (cv r), v.category = 1 := by
    intro v hv
    obtain ⟨w, hw, rfl⟩ := List.mem_map.mp hv
    exact cat1_c (List.all_eq_true.mp hc w hw)
  have h2 := lg_len1 _ h1
  have h3 := lv_entry (as.map (cv r)) (n := mL j) (by rw [h2, List.length_map]; exact hl)
  refine ⟨h3.1, h3.2.1, by simp [pad]; omega, fun k v hk hv => ?_⟩
  unfold pad at hk
  by_cases hk2 : k < as.length
  · rw [List.getElem?_append_left hk2] at hk
    have := h3.2.2 (k, cv r v) (by
      have := lv_args1 _ 0 h1 k (cv r v) (by rw [List.getElem?_map, hk]; rfl)
      rwa [Nat.zero_add] at this)
    exact this
  · rw [List.getElem?_append_right (by omega)] at hk
    have := List.eq_of_mem_replicate (List.mem_of_getElem? hk)
    subst this
    cases hv
/-- a contract out of a run of the small machine -/
theorem met_of {l : Launch} {n : Nat} (hS : Snd l n) {b : Nat} {t : Nat → Nat} {ac : Nat → ClassId} {D : va_G} {j : Nat} {as : List Value} {h h' : List hC} {v : Option Value} {a bb : Nat} (hj : j < mtab.length) (hx : exec n j 0 (pad j as) [] h = some (v, h', a, bb)) (hc : as.all cat1 = true) (hl : as.length ≤ mL j) (hlen : h.length + a ≤ sB) :
    Met l (mN j) (wsm j) (rmm j a bb) (Pm b t ac D as h) (Qm b t ac D v h') a bb (fun q => b ≤ q) := by
  have hr := mrow_at hj
  refine Met.ofW (cc := mB j) (maxL := mL j) (ret := mR j) hr.2.2.2.1 rfl ?_
  intro p e s m args below meth c s₁ B hml hv
  obtain ⟨rfl, hW, hE, hb0, hsz⟩ := hv
  have hts := atoms_spec (ws := wsm j) B.pre
  have hown : s.vm.findClass (mN j).cls = some m.cls := findClass_of_methodNamed B.named
  rw [hr.2.1] at hown
  rw [lg_entry_eq]
  exact hS j 0 (pad j as) [] h v h' a bb hx (R := rmm j a bb) ⟨B.exec, B.bytes, B.returns, hml, hown, fun w hw => hts w (List.mem_cons_of_mem _ hw), B.notSynchronized, fun hn => by rw [← hn]; exact (name_of_methodNamed B.named B.method).1, hE, Nat.le_refl _, Nat.le_refl _, hb0⟩ s.heap [] 0 0 _ a bb (pad_LR hc hl) hW va_S.rf hlen hsz (by omega) (by omega) (Nat.le_refl _) (Nat.le_refl _)
section SND2
variable {p : Program} {l : Launch} {e : Env} {R : Room} {s : State} {m : MethodId} {args : Array Value} {below : List Frame} {meth : Method} {c : Code} {H : Heap} {locs : List Loc} {cells slots : Nat} {Q : State → Prop} {b : Nat} {t : Nat → Nat} {ac : Nat → ClassId} {D : va_G} {i pc len : Nat} {ls : Array Slot} {L S : List Value} {h : List hC}
theorem W_call {st0 rest : List Value} {a : Array Value} {mc ms : Nat} {v : Option Value} {h1 : List hC} (hr : va_Run p l e R s m args below meth c H locs cells slots mc ms (F0 m pc ls st0) rest (Qm b t ac D v h1 a) (fun q => b ≤ q)) (hS : va_S (fun q => b ≤ q) s.heap H locs)
    (kk : ∀ (H1 : Heap) (locs1 : List Loc), WH b t ac D h1 H1 → va_S (fun q => b ≤ q) s.heap H1 locs1 → W p l e R s m args below meth c H1 locs1 (cells + mc) (slots + ms) Q (F0 m (pc + 3) ls ((v.map (cv (ad b t))).toList ++ rest))) : W p l e R s m args below meth c H locs cells slots Q (F0 m pc ls st0) := by
  intro T hT X
  obtain ⟨w, st₀, u, T', L', h0, X', hL, e1, e2, ⟨hv, hw, hF⟩, st⟩ := hr T hT X
  have hv := Outcome.returned.inj hv
  subst hv
  rw [va_F, h0] at hF
  obtain ⟨u2, a1, b1⟩ := kk T'.heap (locs ++ L') (by rw [e1]; exact hw) ⟨Nat.le_trans hS.1 (by rw [e1]; exact hF.1), fun q g1 g2 => by rw [e1, hF.2 q (Nat.lt_of_lt_of_le g1 hS.1) g2]; exact hS.2.1 q g1 g2, fun q hq => (List.mem_append.mp hq).elim (hS.2.2 q) (hL q)⟩ T' rfl X'
  exact ⟨u2, st u2 a1, b1⟩
theorem s_call {n : Nat} (hSn : Snd l n) {ins : Instr} {j : Nat} {as rest : List Value} {v : Option Value} {h1 : List hC} {a1 b1 : Nat} (C : Ctx b t ac D p s m args meth c R i) (hd : decode (mB i) pc = .ok (ins, len)) (ha : act i pc ins len L S h = some (.inr (.inr (.inr (j, as, rest))))) (he : exec n j 0 (pad j as) [] h = some (v, h1, a1, b1)) (hL : LR (ad b t) ls (mL i) L) (hW : WH b t ac D h H) (hS : va_S (fun q => b ≤ q) s.heap H locs) (hlen : h.length + a1 ≤ sB) (hsz : s.heap.size + cells ≤ b + h.length) (hcs : cells + a1 ≤ R.cells ∧ slots + b1 ≤ R.slots)
    (k : ∀ (H' : Heap) (locs' : List Loc), WH b t ac D h1 H' → va_S (fun q => b ≤ q) s.heap H' locs' → W p l e R s m args below meth c H' locs' (cells + a1) (slots + b1) Q (F0 m (pc + 3) ls ((v.toList ++ rest).map (cv (ad b t))))) : W p l e R s m args below meth c H locs cells slots Q (F0 m pc ls (S.map (cv (ad b t)))) := by
  obtain ⟨hx, hb, hr, hml, hown, hts, hlocks, hin, hE, hfr, hlo, hbs⟩ := C
  obtain ⟨rfl, hroom, has, hrest, hkind⟩ := act_call ha
  obtain ⟨r1, r2, r3, r4, -, r6, r7⟩ := room_z hroom
  have hSS : S = as.reverse ++ rest := by rw [has, hrest, List.reverse_reverse, List.take_append_drop]
  have hall : as.all cat1 = true ∧ rest.all cat1 = true := by
    rw [hSS, List.all_append, Bool.and_eq_true, List.all_reverse] at r4
    exact r4
  have hasl : as.length = mA j := by rw [has, List.length_reverse, List.length_take]; omega
  have hrl : rest.length ≤ 8 := by rw [hrest, List.length_drop]; omega
  -- the call can only run when the heap is no larger than told: so it is read off at the machine's own state
  intro T hT X
  have hTs : H.size ≤ b + h.length := by
    have := X.heapSize
    rw [hT] at this
    omega
  have hb2 : b ≤ H.size := Nat.le_trans hbs hS.1
  have hPm : ∀ U : State, U.heap = H → s.WarmedH U.vm → Pm b t ac D as h ((as.map (cv (ad b t))).toArray) U := fun U hU hWm => ⟨rfl, by rw [hU]; exact hW, hE.to hS hWm hU, by rw [hU]; exact hb2, by rw [hU]; exact hTs⟩
  have hmon : 2 * (F0 m pc ls (S.map (cv (ad b t)))).monitorRoom + ((rest.map (cv (ad b t))).map fun v => v.category).sum ≤ 8 := lv_room (by rw [cat_sum _ hall.2]; exact hrl)
  have hvl : ((v.toList ++ rest).map (cv (ad b t))) = (v.map (cv (ad b t))).toList ++ rest.map (cv (ad b t)) := by
    cases v <;> simp
  have kk : ∀ (H' : Heap) (locs' : List Loc), WH b t ac D h1 H' → va_S (fun q => b ≤ q) s.heap H' locs' → W p l e R s m args below meth c H' locs' (cells + a1) (slots + b1) Q (F0 m (pc + 3) ls ((v.map (cv (ad b t))).toList ++ rest.map (cv (ad b t)))) := by
    intro H' locs' g1 g2
    rw [← hvl]
    exact k H' locs' g1 g2
  have hfix : CallFix p m c (mB i) (mL i) s args gw (fR (mC i)) := ⟨hx, hb, hml, hown, hts⟩
  rcases hkind with ⟨idx, b0, as', fs, rfl, hl, hb0, hcell⟩ | ⟨idx, kd, rfl, hkd, hl⟩ | ⟨idx, kd, b0, as', rfl, hkd, hl, hb0⟩
  · obtain ⟨hj, hP0, hlink⟩ := (lref_ok hl).1 rfl
    have hM := met_of hSn (b := b) (t := t) (ac := ac) (D := D) hj he hall.1 (by omega) hlen
    obtain ⟨w1, w2, w3, w4, w5, w6, w7, -, -⟩ := mrow_at hj
    obtain ⟨q1, q2, q3⟩ := w7 hP0
    subst hb0
    have hn : (parseMethodDescriptor (mN j).desc).map (fun d => d.parameters.length) = some as'.length := desc_n (by rw [q3, ← hasl]; rfl)
    refine W_call (va_runV (C := (mN j).cls) (As := as'.map (cv (ad b t))) (rest := rest.map (cv (ad b t))) (b := ad b t b0) hfix hM (cwV as'.length hts (gw_all (fun w hw => ?_)) rfl rfl rfl ⟨rfl, w5, w6, hn⟩ ⟨by show mF j + 1 ≤ R.frames; omega, by show 8 + (mL j + 11) + mW j ≤ R.locals; omega⟩) ⟨Pm_blind, ?_, fun U hU hWm => hPm U hU hWm⟩ rfl (by rw [List.length_map]) hL.1 ?_ hmon hd hcs) hS kk T hT X
    · rcases List.mem_append.mp hw with hw | hw
      · simp only [List.mem_cons, List.not_mem_nil, or_false] at hw
        rcases hw with rfl | rfl | rfl | rfl
        · exact hlink
        · exact q1
        · exact q2
        · exact w1
      · exact wsm_in hj w hw
    · rw [w2]
      exact va_recv hE.1 hW (vw_at w3) (wz_at hcell)
    · rw [hSS]
      simp [cv]
  · have hjs : j < mtab.length ∧ (mP j).1 = 2 := by
      rcases hkd with rfl | rfl
      · exact ⟨((lref_ok hl).2.1 rfl).1, ((lref_ok hl).2.1 rfl).2.1⟩
      · exact ⟨((lref_ok hl).2.2.2.2.1 rfl).1, ((lref_ok hl).2.2.2.2.1 rfl).2.1⟩
    obtain ⟨hj, hP0⟩ := hjs
    have hM := met_of hSn (b := b) (t := t) (ac := ac) (D := D) hj he hall.1 (by omega) hlen
    obtain ⟨w1, w2, w3, w4, w5, w6, -, -, w7⟩ := mrow_at hj
    obtain ⟨q1, q3⟩ := w7 hP0
    have hn : (parseMethodDescriptor (mN j).desc).map (fun d => d.parameters.length) = some as.length := by rw [q3, hasl]
    rcases hkd with rfl | rfl
    · have hlink := ((lref_ok hl).2.1 rfl).2.2
      refine W_call (va_runS (As := as.map (cv (ad b t))) (rest := rest.map (cv (ad b t))) hfix hM (va_cwS as.length hts (gw_all (fun w hw => ?_)) rfl rfl rfl ⟨w5, w6, hn⟩ ⟨by show mF j + 1 ≤ R.frames; omega, by show 8 + (mL j + 11) + mW j ≤ R.locals; omega⟩) ⟨Pm_blind, fun U hU hWm => hPm U hU hWm⟩ rfl (by rw [List.length_map]) hL.1 ?_ hmon hd hcs) hS kk T hT X
      · rcases List.mem_append.mp hw with hw | hw
        · simp only [List.mem_cons, List.not_mem_nil, or_false] at hw
          rcases hw with rfl | rfl | rfl
          · exact hlink
          · exact q1
          · exact w1
        · exact wsm_in hj w hw
      · rw [hSS]
        simp
    · have hnest := hE.2.1 _ ((lref_ok hl).2.2.2.2.1 rfl).2.2
      refine W_call (va_runSN (As := as.map (cv (ad b t))) (rest := rest.map (cv (ad b t))) hfix hM ⟨va_cnB as.length hts (gw_all (fun w hw => wsm_in hj w hw)) rfl rfl rfl hnest (hts _ w1) ⟨w5, w6, hn⟩ ⟨by show mF j + 1 ≤ R.frames; omega, by show 8 + (mL j + 11) + mW j ≤ R.locals; omega⟩, hts _ q1, trivial⟩ ⟨Pm_blind, fun U hU hWm => hPm U hU hWm⟩ rfl (by rw [List.length_map]) hL.1 ?_ hmon hd hcs) hS kk T hT X
      rw [hSS]
      simp
  · have hjs : j < mtab.length ∧ (mP j).1 = 1 := by
      rcases hkd with rfl | rfl
      · exact ⟨((lref_ok hl).2.2.1 rfl).1, ((lref_ok hl).2.2.1 rfl).2.1⟩
      · exact ⟨((lref_ok hl).2.2.2.1 rfl).1, ((lref_ok hl).2.2.2.1 rfl).2.1⟩
    obtain ⟨hj, hP0⟩ := hjs
    have hM := met_of hSn (b := b) (t := t) (ac := ac) (D := D) hj he hall.1 (by omega) hlen
    obtain ⟨w1, w2, w3, w4, w5, w6, -, w7, -⟩ := mrow_at hj
    obtain ⟨q1, q2, q4, q3⟩ := w7 hP0
    subst hb0
    have hn : (parseMethodDescriptor (mN j).desc).map (fun d => d.parameters.length) = some as'.length := desc_n (by rw [q3, ← hasl]; rfl)
    have hwr : wsm j = Cond.code (mN j) (mB j) (mL j) none :: gw := by unfold wsm; rw [q4]
    rcases hkd with rfl | rfl
    · have hlink := ((lref_ok hl).2.2.1 rfl).2.2
      refine W_call (va_runI (As := as'.map (cv (ad b t))) (rest := rest.map (cv (ad b t))) (b := ad b t b0) hfix hM (cwI as'.length hts (gw_all (fun w hw => wsm_in hj w hw)) hwr rfl rfl (hts _ w1) (hts _ hlink) (hts _ q1) q2 ⟨w5, w6, hn⟩ ⟨by show mF j + 1 ≤ R.frames; omega, by show 8 + (mL j + 11) + mW j ≤ R.locals; omega⟩) ⟨Pm_blind, fun U hU hWm => hPm U hU hWm⟩ rfl (by rw [List.length_map]) hL.1 ?_ hmon hd hcs) hS kk T hT X
      rw [hSS]
      simp [cv]
    · have hnest := hE.2.1 _ ((lref_ok hl).2.2.2.1 rfl).2.2
      refine W_call (va_runIN (As := as'.map (cv (ad b t))) (rest := rest.map (cv (ad b t))) (b := ad b t b0) hfix hM ⟨va_cnB as'.length hts (gw_all (fun w hw => wsm_in hj w hw)) hwr rfl rfl hnest (hts _ w1) ⟨w5, w6, hn⟩ ⟨by show mF j + 1 ≤ R.frames; omega, by show 8 + (mL j + 11) + mW j ≤ R.locals; omega⟩, q2, hts _ q1⟩ ⟨Pm_blind, fun U hU hWm => hPm U hU hWm⟩ rfl (by rw [List.length_map]) hL.1 ?_ hmon hd hcs) hS kk T hT X
      rw [hSS]
      simp [cv]
theorem s_ret {ins : Instr} {v : Option Value} {mc ms : Nat} (C : Ctx b t ac D p s m args meth c R i) (hd : decode (mB i) pc = .ok (ins, len)) (ha : act i pc ins len L S h = some (.inr (.inl v))) (hW : WH b t ac D h H) (hS : va_S (fun q => b ≤ q) s.heap H locs) (hc : cells ≤ mc) (hs : slots ≤ ms) :
    W p l e R s m args below meth c H locs cells slots (MQ below (Qm b t ac D v h) args s mc ms (fun q => b ≤ q)) (F0 m pc ls (S.map (cv (ad b t)))) := by
  obtain ⟨hx, hb, hr, hml, hown, hts, hlocks, hin, hE, hfr, hlo, hbs⟩ := C
  refine W.widen (k := mc) (n := ms) hc hs ?_
  obtain ⟨rfl, hk⟩ := act_ret ha
  rcases hk with ⟨x, ty, rfl, rfl, hty, hok, rfl⟩ | ⟨w, n, rfl, rfl, hty, hw, rfl⟩ | ⟨rfl, rfl, hty, rfl⟩
  · exact W.zret (ty := ty) hx hb (by rw [hr, hty]) (okv_n (r := ad b t) hok).1 (fun u hu _ => ⟨rfl, by rw [hu]; exact hW, hS.F hu⟩) (fun q hq => hS.2.2 q hq) hd hlocks
  · exact W.aret (v := cv (ad b t) w) (rt := .object n) hx hb (by rw [hr, hty]) (Or.inl ⟨n, rfl⟩) (by
      rcases hw with rfl | ⟨z, rfl⟩
      · exact Or.inl rfl
      · exact Or.inr ⟨_, rfl⟩) (fun u hu _ => ⟨rfl, by rw [hu]; exact hW, hS.F hu⟩) (fun q hq => hS.2.2 q hq) hd hlocks
  · exact W.vret hx hb (by rw [hr, hty]) (fun u hu _ => ⟨rfl, by rw [hu]; exact hW, hS.F hu⟩) (fun q hq => hS.2.2 q hq) hd hlocks
end SND2
theorem snd (l : Launch) : ∀ n : Nat, Snd l n := by
  intro n
  induction n with
  | zero => intro i pc L S h v h' a bb hv; cases hv
  | succ n ih =>
    intro i pc L S h v h' a bb hv p e R s m args below meth c b t ac D C H locs cells slots ls mc ms hL hW hS hlen hsz hc hs hmc hms
    change stp (exec n) i pc L S h = _ at hv
    unfold stp at hv
    cases hd : decode (mB i) pc with
    | error e => rw [hd] at hv; cases hv
    | ok q =>
      obtain ⟨ins, len⟩ := q
      simp only [hd] at hv
      cases ha : act i pc ins len L S h with
      | none => simp only [ha] at hv; cases hv
      | some r =>
        simp only [ha] at hv
        rcases r with ⟨pc', L', S', h1⟩ | v' | ⟨x, pc', S'⟩ | ⟨j, as, rest⟩
        · have hl1 := act_len ha
          exact s_next C hd ha hL hW hS (by omega) ⟨by omega, by omega⟩ (fun ls' H' locs' g1 g2 g3 => ih _ _ _ _ _ _ _ _ _ hv C H' locs' cells slots ls' mc ms g1 g2 g3 (by omega) (by omega) hc hs hmc hms)
        · cases hv
          exact s_ret C hd ha hW hS (by omega) (by omega)
        · simp only at hv
          split at hv
          · cases he : exec n i pc' L (.ref h.length :: S') (h ++ [x]) with
            | none => rw [he] at hv; cases hv
            | some w =>
              obtain ⟨v1, h1, a1, b1⟩ := w
              rw [he] at hv
              cases hv
              refine s_alloc C hd ha hW hS (by omega) hsz ⟨by omega, by omega⟩ (fun H' locs' g1 g2 => ih _ _ _ _ _ _ _ _ _ he C H' locs' (cells + 1) (slots + csz x) ls mc ms hL g1 g2 ?_ ?_ (by omega) (by omega) hmc hms)
              · rw [List.length_append, List.length_singleton]; omega
              · rw [List.length_append, List.length_singleton]; omega
          · cases hv
        · simp only at hv
          cases he : exec n j 0 (pad j as) [] h with
          | none => rw [he] at hv; cases hv
          | some w =>
            obtain ⟨v1, h1, a1, b1⟩ := w
            rw [he] at hv
            simp only at hv
            cases he2 : exec n i (pc + 3) L (v1.toList ++ rest) h1 with
            | none => rw [he2] at hv; cases hv
            | some w2 =>
              obtain ⟨v2, h2, a2, b2⟩ := w2
              rw [he2] at hv
              cases hv
              have hl1 := exec_len _ _ _ _ _ _ _ _ _ _ he
              exact s_call ih C hd ha he hL hW hS (by omega) hsz ⟨by omega, by omega⟩ (fun H' locs' g1 g2 => ih _ _ _ _ _ _ _ _ _ he2 C H' locs' (cells + a1) (slots + b1) ls mc ms hL g1 g2 (by omega) (by omega) (by omega) (by omega) hmc hms)
/-- THE CONTRACT of a method that makes no cell, out of its answer X -/
theorem met_X (l : Launch) {b : Nat} {t : Nat → Nat} {ac : Nat → ClassId} {D : va_G} {j : Nat} {as : List Value} {h h' : List hC} {v : Option Value} (hj : j < mtab.length) (hz : mZ j = false) (hx : X j 0 (pad j as) [] h = some (v, h')) (hc : as.all cat1 = true) (hl : as.length ≤ mL j) (hlen : h.length ≤ sB) :
    Met l (mN j) (wsm j) (rmm j 0 0) (Pm b t ac D as h) (Qm b t ac D v h') 0 0 (fun q => b ≤ q) := by
  obtain ⟨n, a, bb, hn⟩ := X_to hx
  obtain ⟨rfl, rfl⟩ := exec_none _ _ _ _ _ _ _ _ _ _ hz hn
  exact met_of (snd l n) hj hn hc hl (by omega)
end
section
/-! X, an instruction at a time -/
section XE
variable {i pc idx ci k a b j : Nat} {L S : List Value} {h : List hC}
theorem X_iload {n : Nat} {x : Int32} (hd : decode (mB i) pc = .ok (.iload n, 2)) (hl : L[n]? = some (.int x)) : X i pc L S h = X i (pc + 2) L (.int x :: S) h := X_next hd (by simp only [act, ldi, hl]; rfl)
theorem X_iload_n {n : Fin 4} {x : Int32} (hd : decode (mB i) pc = .ok (.iload_n n, 1)) (hl : L[(n : Nat)]? = some (.int x)) : X i pc L S h = X i (pc + 1) L (.int x :: S) h := X_next hd (by simp only [act, ldi, hl]; rfl)
theorem X_aload {n x : Nat} (hd : decode (mB i) pc = .ok (.aload n, 2)) (hl : L[n]? = some (.ref x)) : X i pc L S h = X i (pc + 2) L (.ref x :: S) h := X_next hd (by simp only [act, lda, hl]; rfl)
theorem X_aload_n {n : Fin 4} {x : Nat} (hd : decode (mB i) pc = .ok (.aload_n n, 1)) (hl : L[(n : Nat)]? = some (.ref x)) : X i pc L S h = X i (pc + 1) L (.ref x :: S) h := X_next hd (by simp only [act, lda, hl]; rfl)
theorem X_aloadN {n : Nat} (hd : decode (mB i) pc = .ok (.aload n, 2)) (hl : L[n]? = some .null) : X i pc L S h = X i (pc + 2) L (.null :: S) h := X_next hd (by simp only [act, lda, hl]; rfl)
theorem X_aload_nN {n : Fin 4} (hd : decode (mB i) pc = .ok (.aload_n n, 1)) (hl : L[(n : Nat)]? = some .null) : X i pc L S h = X i (pc + 1) L (.null :: S) h := X_next hd (by simp only [act, lda, hl]; rfl)
theorem X_istore {n : Nat} {x : Int32} (hd : decode (mB i) pc = .ok (.istore n, 2)) (hl : n < L.length) : X i pc L (.int x :: S) h = X i (pc + 2) (L.set n (.int x)) S h := X_next hd (by simp only [act, sti, if_pos hl]; rfl)
theorem X_istore_n {n : Fin 4} {x : Int32} (hd : decode (mB i) pc = .ok (.istore_n n, 1)) (hl : (n : Nat) < L.length) : X i pc L (.int x :: S) h = X i (pc + 1) (L.set n (.int x)) S h := X_next hd (by simp only [act, sti, if_pos hl]; rfl)
theorem X_astore {n x : Nat} (hd : decode (mB i) pc = .ok (.astore n, 2)) (hl : n < L.length) : X i pc L (.ref x :: S) h = X i (pc + 2) (L.set n (.ref x)) S h := X_next hd (by simp only [act, sta, if_pos hl]; rfl)
theorem X_astore_n {n : Fin 4} {x : Nat} (hd : decode (mB i) pc = .ok (.astore_n n, 1)) (hl : (n : Nat) < L.length) : X i pc L (.ref x :: S) h = X i (pc + 1) (L.set n (.ref x)) S h := X_next hd (by simp only [act, sta, if_pos hl]; rfl)
theorem X_astoreN {n : Nat} (hd : decode (mB i) pc = .ok (.astore n, 2)) (hl : n < L.length) : X i pc L (.null :: S) h = X i (pc + 2) (L.set n .null) S h := X_next hd (by simp only [act, sta, if_pos hl]; rfl)
theorem X_astore_nN {n : Fin 4} (hd : decode (mB i) pc = .ok (.astore_n n, 1)) (hl : (n : Nat) < L.length) : X i pc L (.null :: S) h = X i (pc + 1) (L.set n .null) S h := X_next hd (by simp only [act, sta, if_pos hl]; rfl)
theorem X_iconst {n : Int} {v : Int32} (hd : decode (mB i) pc = .ok (.iconst n, 1)) (hv : Int32.ofInt n = v) : X i pc L S h = X i (pc + 1) L (.int v :: S) h := X_next hd (by subst hv; rfl)
theorem X_bipush {n : Int} {v : Int32} (hd : decode (mB i) pc = .ok (.bipush n, 2)) (hv : (Int8.ofInt n).toInt32 = v) : X i pc L S h = X i (pc + 2) L (.int v :: S) h := X_next hd (by subst hv; rfl)
theorem X_sipush {n : Int} {v : Int32} (hd : decode (mB i) pc = .ok (.sipush n, 3)) (hv : (Int16.ofInt n).toInt32 = v) : X i pc L S h = X i (pc + 3) L (.int v :: S) h := X_next hd (by subst hv; rfl)
theorem X_null (hd : decode (mB i) pc = .ok (.aconst_null, 1)) : X i pc L S h = X i (pc + 1) L (.null :: S) h := X_next hd rfl
theorem X_ldc {v : Int32} (hd : decode (mB i) pc = .ok (.ldc idx, 2)) (hv : kref (mC i) idx = some v) : X i pc L S h = X i (pc + 2) L (.int v :: S) h := X_next hd (by simp only [act, hv]; rfl)
theorem X_iadd {x y : Int32} (hd : decode (mB i) pc = .ok (.iadd, 1)) : X i pc L (.int y :: .int x :: S) h = X i (pc + 1) L (.int (x + y) :: S) h := X_next hd rfl
theorem X_isub {x y : Int32} (hd : decode (mB i) pc = .ok (.isub, 1)) : X i pc L (.int y :: .int x :: S) h = X i (pc + 1) L (.int (x - y) :: S) h := X_next hd rfl
theorem X_imul {x y : Int32} (hd : decode (mB i) pc = .ok (.imul, 1)) : X i pc L (.int y :: .int x :: S) h = X i (pc + 1) L (.int (x * y) :: S) h := X_next hd rfl
theorem X_iand {x y : Int32} (hd : decode (mB i) pc = .ok (.iand, 1)) : X i pc L (.int y :: .int x :: S) h = X i (pc + 1) L (.int (x &&& y) :: S) h := X_next hd rfl
theorem X_ior {x y : Int32} (hd : decode (mB i) pc = .ok (.ior, 1)) : X i pc L (.int y :: .int x :: S) h = X i (pc + 1) L (.int (x ||| y) :: S) h := X_next hd rfl
theorem X_ishl {x y : Int32} (hd : decode (mB i) pc = .ok (.ishl, 1)) : X i pc L (.int y :: .int x :: S) h = X i (pc + 1) L (.int (x <<< (y &&& 31)) :: S) h := X_next hd rfl
theorem X_ishr {x y : Int32} (hd : decode (mB i) pc = .ok (.ishr, 1)) : X i pc L (.int y :: .int x :: S) h = X i (pc + 1) L (.int (x >>> (y &&& 31)) :: S) h := X_next hd rfl
theorem X_idiv {x y : Int32} (hd : decode (mB i) pc = .ok (.idiv, 1)) : X i pc L (.int y :: .int x :: S) h = if y = 0 then none else X i (pc + 1) L (.int (x / y) :: S) h := by
  by_cases hy : y = 0
  · rw [if_pos hy]; exact X_stuck hd (by simp [act, hy])
  · rw [if_neg hy]; exact X_next hd (by simp [act, hy])
theorem X_irem {x y : Int32} (hd : decode (mB i) pc = .ok (.irem, 1)) : X i pc L (.int y :: .int x :: S) h = if y = 0 then none else X i (pc + 1) L (.int (x - x / y * y) :: S) h := by
  by_cases hy : y = 0
  · rw [if_pos hy]; exact X_stuck hd (by simp [act, hy])
  · rw [if_neg hy]; exact X_next hd (by simp [act, hy])
theorem X_i2c {x : Int32} (hd : decode (mB i) pc = .ok (.i2c, 1)) : X i pc L (.int x :: S) h = X i (pc + 1) L (.int (x.toUInt32 % 65536).toInt32 :: S) h := X_next hd rfl
theorem X_iinc {n : Nat} {d : Int} {x v : Int32} (hd : decode (mB i) pc = .ok (.iinc n d, 3)) (hl : L[n]? = some (.int x)) (hv : Int32.ofInt d = v) : X i pc L S h = X i (pc + 3) (L.set n (.int (x + v))) S h := X_next hd (by subst hv; simp only [act, hl]; rfl)
theorem X_dup {v : Value} (hd : decode (mB i) pc = .ok (.dup, 1)) (hv : cat1 v = true) : X i pc L (v :: S) h = X i (pc + 1) L (v :: v :: S) h := X_next hd (by simp [act, hv])
theorem X_pop {v : Value} (hd : decode (mB i) pc = .ok (.pop, 1)) (hv : cat1 v = true) : X i pc L (v :: S) h = X i (pc + 1) L S h := X_next hd (by simp [act, hv])
theorem X_dup2 {v w : Value} (hd : decode (mB i) pc = .ok (.dup2, 1)) (hv : cat1 v = true) (hw : cat1 w = true) : X i pc L (v :: w :: S) h = X i (pc + 1) L (v :: w :: v :: w :: S) h := X_next hd (by simp [act, hv, hw])
theorem X_goto {off : Int} {t : Nat} (hd : decode (mB i) pc = .ok (.goto off, 3)) (ht : (pc : Int) + off = (t : Int)) : X i pc L S h = X i t L S h := X_next hd (by simp [act, jmp, ht])
theorem X_if {c : ClassFile.Cond} {off : Int} {t : Nat} {x : Int32} (hd : decode (mB i) pc = .ok (.ifCond c off, 3)) (ht : (pc : Int) + off = (t : Int)) : X i pc L (.int x :: S) h = if cmpI c x 0 = true then X i t L S h else X i (pc + 3) L S h := by
  have e : act i pc (.ifCond c off) 3 L (.int x :: S) h = some (.inl (if cmpI c x 0 = true then t else pc + 3, L, S, h)) := by simp [act, ht]
  rw [X_next hd e]
  split <;> rfl
theorem X_icmp {c : ClassFile.Cond} {off : Int} {t : Nat} {x y : Int32} (hd : decode (mB i) pc = .ok (.if_icmp c off, 3)) (ht : (pc : Int) + off = (t : Int)) : X i pc L (.int y :: .int x :: S) h = if cmpI c x y = true then X i t L S h else X i (pc + 3) L S h := by
  have e : act i pc (.if_icmp c off) 3 L (.int y :: .int x :: S) h = some (.inl (if cmpI c x y = true then t else pc + 3, L, S, h)) := by simp [act, ht]
  rw [X_next hd e]
  split <;> rfl
theorem X_if_eq {off : Int} {t : Nat} {x : Int32} (hd : decode (mB i) pc = .ok (.ifCond .eq off, 3)) (ht : (pc : Int) + off = (t : Int)) : X i pc L (.int x :: S) h = if x = 0 then X i t L S h else X i (pc + 3) L S h := by rw [X_if hd ht]; simp only [cmpI, decide_eq_true_eq]
theorem X_if_ne {off : Int} {t : Nat} {x : Int32} (hd : decode (mB i) pc = .ok (.ifCond .ne off, 3)) (ht : (pc : Int) + off = (t : Int)) : X i pc L (.int x :: S) h = if x = 0 then X i (pc + 3) L S h else X i t L S h := by
  rw [X_if hd ht]
  by_cases hx : x = 0
  · simp [cmpI, hx]
  · simp [cmpI, hx]
theorem X_if_lt {off : Int} {t : Nat} {x : Int32} (hd : decode (mB i) pc = .ok (.ifCond .lt off, 3)) (ht : (pc : Int) + off = (t : Int)) : X i pc L (.int x :: S) h = if x < 0 then X i t L S h else X i (pc + 3) L S h := by rw [X_if hd ht]; simp only [cmpI, decide_eq_true_eq]
theorem X_if_ge {off : Int} {t : Nat} {x : Int32} (hd : decode (mB i) pc = .ok (.ifCond .ge off, 3)) (ht : (pc : Int) + off = (t : Int)) : X i pc L (.int x :: S) h = if x < 0 then X i (pc + 3) L S h else X i t L S h := by
  rw [X_if hd ht]
  by_cases hx : x < 0
  · rw [if_pos hx, if_neg (by simp only [cmpI, decide_eq_true_eq]; exact Int32.not_le.mpr hx)]
  · rw [if_neg hx, if_pos (by simp only [cmpI, decide_eq_true_eq]; exact Int32.not_lt.mp hx)]
theorem X_if_gt {off : Int} {t : Nat} {x : Int32} (hd : decode (mB i) pc = .ok (.ifCond .gt off, 3)) (ht : (pc : Int) + off = (t : Int)) : X i pc L (.int x :: S) h = if 0 < x then X i t L S h else X i (pc + 3) L S h := by rw [X_if hd ht]; simp only [cmpI, decide_eq_true_eq]
theorem X_if_le {off : Int} {t : Nat} {x : Int32} (hd : decode (mB i) pc = .ok (.ifCond .le off, 3)) (ht : (pc : Int) + off = (t : Int)) : X i pc L (.int x :: S) h = if 0 < x then X i (pc + 3) L S h else X i t L S h := by
  rw [X_if hd ht]
  by_cases hx : 0 < x
  · rw [if_pos hx, if_neg (by simp only [cmpI, decide_eq_true_eq]; exact Int32.not_le.mpr hx)]
  · rw [if_neg hx, if_pos (by simp only [cmpI, decide_eq_true_eq]; exact Int32.not_lt.mp hx)]
theorem X_icmp_eq {off : Int} {t : Nat} {x y : Int32} (hd : decode (mB i) pc = .ok (.if_icmp .eq off, 3)) (ht : (pc : Int) + off = (t : Int)) : X i pc L (.int y :: .int x :: S) h = if x = y then X i t L S h else X i (pc + 3) L S h := by rw [X_icmp hd ht]; simp only [cmpI, decide_eq_true_eq]
theorem X_icmp_ne {off : Int} {t : Nat} {x y : Int32} (hd : decode (mB i) pc = .ok (.if_icmp .ne off, 3)) (ht : (pc : Int) + off = (t : Int)) : X i pc L (.int y :: .int x :: S) h = if x = y then X i (pc + 3) L S h else X i t L S h := by
  rw [X_icmp hd ht]
  by_cases hx : x = y
  · simp [cmpI, hx]
  · simp [cmpI, hx]
theorem X_icmp_lt {off : Int} {t : Nat} {x y : Int32} (hd : decode (mB i) pc = .ok (.if_icmp .lt off, 3)) (ht : (pc : Int) + off = (t : Int)) : X i pc L (.int y :: .int x :: S) h = if x < y then X i t L S h else X i (pc + 3) L S h := by rw [X_icmp hd ht]; simp only [cmpI, decide_eq_true_eq]
theorem X_icmp_ge {off : Int} {t : Nat} {x y : Int32} (hd : decode (mB i) pc = .ok (.if_icmp .ge off, 3)) (ht : (pc : Int) + off = (t : Int)) : X i pc L (.int y :: .int x :: S) h = if x < y then X i (pc + 3) L S h else X i t L S h := by
  rw [X_icmp hd ht]
  by_cases hx : x < y
  · rw [if_pos hx, if_neg (by simp only [cmpI, decide_eq_true_eq]; exact Int32.not_le.mpr hx)]
  · rw [if_neg hx, if_pos (by simp only [cmpI, decide_eq_true_eq]; exact Int32.not_lt.mp hx)]
theorem X_icmp_gt {off : Int} {t : Nat} {x y : Int32} (hd : decode (mB i) pc = .ok (.if_icmp .gt off, 3)) (ht : (pc : Int) + off = (t : Int)) : X i pc L (.int y :: .int x :: S) h = if y < x then X i t L S h else X i (pc + 3) L S h := by rw [X_icmp hd ht]; simp only [cmpI, decide_eq_true_eq]
theorem X_icmp_le {off : Int} {t : Nat} {x y : Int32} (hd : decode (mB i) pc = .ok (.if_icmp .le off, 3)) (ht : (pc : Int) + off = (t : Int)) : X i pc L (.int y :: .int x :: S) h = if y < x then X i (pc + 3) L S h else X i t L S h := by
  rw [X_icmp hd ht]
  by_cases hx : y < x
  · rw [if_pos hx, if_neg (by simp only [cmpI, decide_eq_true_eq]; exact Int32.not_le.mpr hx)]
  · rw [if_neg hx, if_pos (by simp only [cmpI, decide_eq_true_eq]; exact Int32.not_lt.mp hx)]
theorem X_ifnull {off : Int} {t x : Nat} (hd : decode (mB i) pc = .ok (.ifnull off, 3)) : X i pc L (.ref x :: S) h = X i (pc + 3) L S h := X_next hd (by simp [act])
theorem X_ifnullN {off : Int} {t : Nat} (hd : decode (mB i) pc = .ok (.ifnull off, 3)) (ht : (pc : Int) + off = (t : Int)) : X i pc L (.null :: S) h = X i t L S h := X_next hd (by simp [act, jmp, ht])
theorem X_ifnonnull {off : Int} {t x : Nat} (hd : decode (mB i) pc = .ok (.ifnonnull off, 3)) (ht : (pc : Int) + off = (t : Int)) : X i pc L (.ref x :: S) h = X i t L S h := X_next hd (by simp [act, jmp, ht])
theorem X_ifnonnullN {off : Int} (hd : decode (mB i) pc = .ok (.ifnonnull off, 3)) : X i pc L (.null :: S) h = X i (pc + 3) L S h := X_next hd (by simp [act])
theorem X_getfield (hd : decode (mB i) pc = .ok (.getfield idx, 3)) (hf : fref (mC i) idx = some (ci, k)) : X i pc L (.ref a :: S) h = (getF h[a]? ci k).bind (fun v => X i (pc + 3) L (v :: S) h) := by
  cases hg : getF h[a]? ci k with
  | none => exact X_stuck hd (by simp [act, hf, hg])
  | some v => exact X_next hd (by simp [act, hf, hg])
theorem X_putfield {v : Value} (hd : decode (mB i) pc = .ok (.putfield idx, 3)) (hf : fref (mC i) idx = some (ci, k)) (hn : (fT ci k).2.2.2 = false) : X i pc L (v :: .ref a :: S) h = (putF h[a]? ci k v).bind (fun c => X i (pc + 3) L S (h.set a c)) := by
  cases hg : putF h[a]? ci k v with
  | none => exact X_stuck hd (by simp [act, hf, hg])
  | some v => exact X_next hd (by simp [act, hf, hg, hn])
theorem X_getstatic (hd : decode (mB i) pc = .ok (.getstatic idx, 3)) (hf : sref (mC i) idx = some k) (hk : k < 4) : X i pc L S h = X i (pc + 3) L (.ref (sA k) :: S) h := X_next hd (by simp [act, hf, hk])
theorem X_iaload {x : Int32} (hd : decode (mB i) pc = .ok (.iaload, 1)) : X i pc L (.int x :: .ref a :: S) h = (getI h[a]? a 0 x).bind (fun v => X i (pc + 1) L (.int v :: S) h) := by
  cases hg : getI h[a]? a 0 x with
  | none => exact X_stuck hd (by simp [act, hg])
  | some v => exact X_next hd (by simp [act, hg])
theorem X_caload {x : Int32} (hd : decode (mB i) pc = .ok (.caload, 1)) : X i pc L (.int x :: .ref a :: S) h = (getI h[a]? a 1 x).bind (fun v => X i (pc + 1) L (.int v :: S) h) := by
  cases hg : getI h[a]? a 1 x with
  | none => exact X_stuck hd (by simp [act, hg])
  | some v => exact X_next hd (by simp [act, hg])
theorem X_aaload {x : Int32} (hd : decode (mB i) pc = .ok (.aaload, 1)) : X i pc L (.int x :: .ref a :: S) h = (getQ h[a]? x).bind (fun v => X i (pc + 1) L (v :: S) h) := by
  cases hg : getQ h[a]? x with
  | none => exact X_stuck hd (by simp [act, hg])
  | some v => exact X_next hd (by simp [act, hg])
theorem X_iastore {x y : Int32} (hd : decode (mB i) pc = .ok (.iastore, 1)) : X i pc L (.int y :: .int x :: .ref a :: S) h = (putI h[a]? 0 x y).bind (fun c => X i (pc + 1) L S (h.set a c)) := by
  cases hg : putI h[a]? 0 x y with
  | none => exact X_stuck hd (by simp [act, hg])
  | some v => exact X_next hd (by simp [act, hg])
theorem X_castore {x y : Int32} (hd : decode (mB i) pc = .ok (.castore, 1)) : X i pc L (.int y :: .int x :: .ref a :: S) h = (putI h[a]? 1 x (vp_nar .char y)).bind (fun c => X i (pc + 1) L S (h.set a c)) := by
  cases hg : putI h[a]? 1 x (vp_nar .char y) with
  | none => exact X_stuck hd (by simp [act, hg])
  | some v => exact X_next hd (by simp [act, hg])
theorem X_aastore {x : Int32} (hd : decode (mB i) pc = .ok (.aastore, 1)) : X i pc L (.ref b :: .int x :: .ref a :: S) h = (putQ h[a]? x h[b]? b).bind (fun c => X i (pc + 1) L S (h.set a c)) := by
  cases hg : putQ h[a]? x h[b]? b with
  | none => exact X_stuck hd (by simp [act, hg])
  | some v => exact X_next hd (by simp [act, hg])
theorem X_ireturn {x : Int32} {ty : FieldType} (hd : decode (mB i) pc = .ok (.ireturn, 1)) (hr : mR i = some ty) : X i pc L [.int x] h = if okv ty (.int x) = true then some (some (.int x), h) else none := by
  by_cases ho : okv ty (.int x) = true
  · rw [if_pos ho]; exact X_ret hd (by simp [act, hr, ho])
  · rw [if_neg ho]; exact X_stuck hd (by simp [act, hr, ho])
theorem X_iret {x : Int32} (hd : decode (mB i) pc = .ok (.ireturn, 1)) (hr : mR i = some .int) : X i pc L [.int x] h = some (some (.int x), h) := X_ret hd (by simp [act, hr, okv])
theorem X_zret {x : Int32} (hd : decode (mB i) pc = .ok (.ireturn, 1)) (hr : mR i = some .boolean) : X i pc L [.int x] h = if x = 0 ∨ x = 1 then some (some (.int x), h) else none := by
  rw [X_ireturn hd hr]; simp only [okv, Bool.or_eq_true, decide_eq_true_eq]
theorem X_aret {n : String} (hd : decode (mB i) pc = .ok (.areturn, 1)) (hr : mR i = some (.object n)) : X i pc L [.ref a] h = some (some (.ref a), h) := X_ret hd (by simp [act, hr])
theorem X_aretN {n : String} (hd : decode (mB i) pc = .ok (.areturn, 1)) (hr : mR i = some (.object n)) : X i pc L [.null] h = some (some .null, h) := X_ret hd (by simp [act, hr])
theorem X_vret (hd : decode (mB i) pc = .ok (.return_, 1)) (hr : mR i = none) : X i pc L [] h = some (none, h) := X_ret hd (by simp [act, hr])
/-- what follows a call -/
def aft (o : Option (Option Value × List hC)) (F : List Value → List hC → Option (Option Value × List hC)) : Option (Option Value × List hC) := match o with
  | some (v, h) => F v.toList h
  | none => none
theorem aft_some (v : Value) (h : List hC) (F : List Value → List hC → Option (Option Value × List hC)) : aft (some (some v, h)) F = F [v] h := rfl
theorem aft_void (h : List hC) (F : List Value → List hC → Option (Option Value × List hC)) : aft (some (none, h)) F = F [] h := rfl
/-- is the receiver of this class -/
def isO (c : Option hC) (ci : Nat) : Bool := match c with
  | some (.inl (d, _)) => decide (d = ci)
  | _ => false
theorem isO_some (ci : Nat) (fs : List Value) : isO (some (.inl (ci, fs))) ci = true := by simp [isO]
theorem X_invV {as : List Value} (hd : decode (mB i) pc = .ok (.invokevirtual idx, 3)) (hl : lref (mC i) idx = some (0, j)) (hr : room i j (as.reverse ++ .ref a :: S) = true) (hn : as.length + 1 = mA j) (ho : isO h[a]? (mC j) = true) :
    X i pc L (as.reverse ++ .ref a :: S) h = aft (X j 0 (pad j (.ref a :: as)) [] h) (fun v h1 => X i (pc + 3) L (v ++ S) h1) := by
  have h1 : ((as.reverse ++ .ref a :: S).take (mA j)).reverse = .ref a :: as := by
    rw [← hn, show as.reverse ++ .ref a :: S = (as.reverse ++ [.ref a]) ++ S by simp, List.take_left' (by simp)]
    simp
  have h2 : (as.reverse ++ .ref a :: S).drop (mA j) = S := by
    rw [← hn, show as.reverse ++ .ref a :: S = (as.reverse ++ [.ref a]) ++ S by simp, List.drop_left' (by simp)]
  have h3 : ∃ fs, h[a]? = some (.inl (mC j, fs)) := by
    unfold isO at ho
    split at ho
    · rename_i d fs hq
      simp only [decide_eq_true_eq] at ho
      exact ⟨fs, by rw [hq, ho]⟩
    · cases ho
  obtain ⟨fs, h3⟩ := h3
  have ha : act i pc (.invokevirtual idx) 3 L (as.reverse ++ .ref a :: S) h = some (.inr (.inr (.inr (j, .ref a :: as, S)))) := by
    simp only [act, invV, hl, hr, if_true, h1, h2, h3]
  rw [X_call hd ha]
  unfold aft
  rfl
theorem X_invS {as : List Value} {kd : Nat} (hd : decode (mB i) pc = .ok (.invokestatic idx, 3)) (hl : lref (mC i) idx = some (kd, j)) (hk : kd = 1 ∨ kd = 4) (hr : room i j (as.reverse ++ S) = true) (hn : as.length = mA j) :
    X i pc L (as.reverse ++ S) h = aft (X j 0 (pad j as) [] h) (fun v h1 => X i (pc + 3) L (v ++ S) h1) := by
  have h1 : ((as.reverse ++ S).take (mA j)).reverse = as := by
    rw [← hn, List.take_left' (by simp)]
    simp
  have h2 : (as.reverse ++ S).drop (mA j) = S := by
    rw [← hn, List.drop_left' (by simp)]
  have ha : act i pc (.invokestatic idx) 3 L (as.reverse ++ S) h = some (.inr (.inr (.inr (j, as, S)))) := by
    rcases hk with rfl | rfl <;> simp only [act, invS, hl, hr, if_true, h1, h2]
  rw [X_call hd ha]
  unfold aft
  rfl
theorem X_max {x y : Int32} (hd : decode (mB i) pc = .ok (.invokestatic idx, 3)) (hl : lref (mC i) idx = some (6, j)) (hr : (decide (1 ≤ mF i) && decide (21 ≤ mW i) && decide (S.length ≤ 8) && S.all cat1) = true) : X i pc L (.int y :: .int x :: S) h = X i (pc + 3) L (.int (if x < y then y else x) :: S) h := X_next hd (by simp only [act, invS, hl, hr, if_true])
theorem X_min {x y : Int32} (hd : decode (mB i) pc = .ok (.invokestatic idx, 3)) (hl : lref (mC i) idx = some (7, j)) (hr : (decide (1 ≤ mF i) && decide (21 ≤ mW i) && decide (S.length ≤ 8) && S.all cat1) = true) : X i pc L (.int y :: .int x :: S) h = X i (pc + 3) L (.int (if y < x then y else x) :: S) h := X_next hd (by simp only [act, invS, hl, hr, if_true])
theorem X_copy {n dp sp : Int32} (hd : decode (mB i) pc = .ok (.invokestatic idx, 3)) (hl : lref (mC i) idx = some (8, j)) (hr : (decide (1 ≤ mF i) && decide (100 ≤ mW i) && decide (S.length ≤ 8) && S.all cat1) = true) : X i pc L (.int n :: .int dp :: .ref b :: .int sp :: .ref a :: S) h = (cpyI h[a]? h[b]? sp dp n).bind (fun c => X i (pc + 3) L S (h.set b c)) := by
  cases hg : cpyI h[a]? h[b]? sp dp n with
  | none => exact X_stuck hd (by simp only [act, invS, hl, hr, if_true, hg])
  | some v => exact X_next hd (by simp only [act, invS, hl, hr, if_true, hg])
theorem X_table {d lo hi : Int} {offs : Array Int} {len t : Nat} {x : Int32} (hd : decode (mB i) pc = .ok (.tableswitch d lo hi offs, len)) {off : Int} (ho : (if x.toInt < lo ∨ hi < x.toInt then some d else offs[(x.toInt - lo).toNat]?) = some off) (ht : (pc : Int) + off = (t : Int)) : X i pc L (.int x :: S) h = X i t L S h := by
  refine X_next hd ?_
  by_cases hc : x.toInt < lo ∨ hi < x.toInt
  · rw [if_pos hc] at ho
    cases ho
    simp [act, hc, jmp, ht]
  · rw [if_neg hc] at ho
    simp [act, hc, ho, jmp, ht]
theorem X_lookup {d : Int} {ps : Array (Int × Int)} {len t : Nat} {x : Int32} (hd : decode (mB i) pc = .ok (.lookupswitch d ps, len)) (hp : (ps.toList.zip (ps.toList.drop 1)).all (fun (a, next) => a.1 < next.1) = true) {off : Int} (ho : Op.lookupswitch.offset ps.toList d x.toInt = off) (ht : (pc : Int) + off = (t : Int)) : X i pc L (.int x :: S) h = X i t L S h := by
  refine X_next hd ?_
  simp only [act]
  rw [if_pos hp, ho]
  simp [jmp, ht]
end XE
theorem room_of {i j m : Nat} {S : List Value} (h1 : (decide (mF j + 1 ≤ mF i) && decide (8 + (mL j + 11) + mW j ≤ mW i) && (!mZ j || mZ i) && decide (mA j ≤ mL j)) = true) (hm : mA j = m) (h2 : (Nat.ble S.length (m + 8) && S.all cat1 && Nat.ble m S.length) = true) : room i j S = true := by
  subst hm
  simp only [Bool.and_eq_true, decide_eq_true_eq, Nat.ble_eq] at h1 h2
  simp only [room, Bool.and_eq_true, decide_eq_true_eq]
  exact ⟨⟨⟨⟨⟨⟨h1.1.1.1, h1.1.1.2⟩, h2.1.1⟩, h2.1.2⟩, h1.1.2⟩, h1.2⟩, h2.2⟩
theorem pad_of {j m : Nat} {as : List Value} (hm : mL j = m) : pad j as = as ++ List.replicate (m - as.length) (.long 0) := by
  subst hm; rfl
section XE2
variable {i pc idx a j : Nat} {L S : List Value} {h : List hC}
theorem X_invV' {as P st : List Value} {n ci m : Nat} (hd : decode (mB i) pc = .ok (.invokevirtual idx, 3)) (hl : lref (mC i) idx = some (0, j)) (h1 : (decide (mF j + 1 ≤ mF i) && decide (8 + (mL j + 11) + mW j ≤ mW i) && (!mZ j || mZ i) && decide (mA j ≤ mL j)) = true) (hm : (mA j, mL j, mC j) = (n, m, ci)) (h2 : (Nat.ble st.length (n + 8) && st.all cat1 && Nat.ble n st.length) = true) (hst : st = as.reverse ++ .ref a :: S) (hn : as.length + 1 = n) (hP : P = .ref a :: as ++ List.replicate (m - (as.length + 1)) (.long 0)) :
    X i pc L st h = if isO h[a]? ci = true then aft (X j 0 P [] h) (fun v h1 => X i (pc + 3) L (v ++ S) h1) else none := by
  have e1 := congrArg Prod.fst hm
  have e2 := congrArg (fun q => q.2.1) hm
  have e3 := congrArg (fun q => q.2.2) hm
  simp only at e1 e2 e3
  have hr := room_of h1 e1 h2
  subst hst
  by_cases ho : isO h[a]? ci = true
  · rw [if_pos ho, X_invV hd hl hr (by rw [e1]; exact hn) (by rw [e3]; exact ho), pad_of e2, hP]
    rfl
  · rw [if_neg ho]
    refine X_stuck hd ?_
    have g1 : ((as.reverse ++ .ref a :: S).take (mA j)).reverse = .ref a :: as := by
      rw [e1, ← hn, show as.reverse ++ .ref a :: S = (as.reverse ++ [.ref a]) ++ S by simp, List.take_left' (by simp)]
      simp
    simp only [act, invV, hl, hr, if_true, g1]
    split
    · rename_i c fs hq
      rw [if_neg]
      intro hc
      apply ho
      rw [hq, hc, e3]
      exact isO_some _ _
    · rfl
theorem X_invS' {as P st : List Value} {n m kd : Nat} (hd : decode (mB i) pc = .ok (.invokestatic idx, 3)) (hl : lref (mC i) idx = some (kd, j)) (hk : kd = 1 ∨ kd = 4) (h1 : (decide (mF j + 1 ≤ mF i) && decide (8 + (mL j + 11) + mW j ≤ mW i) && (!mZ j || mZ i) && decide (mA j ≤ mL j)) = true) (hm : (mA j, mL j) = (n, m)) (h2 : (Nat.ble st.length (n + 8) && st.all cat1 && Nat.ble n st.length) = true) (hst : st = as.reverse ++ S) (hn : as.length = n) (hP : P = as ++ List.replicate (m - as.length) (.long 0)) :
    X i pc L st h = aft (X j 0 P [] h) (fun v h1 => X i (pc + 3) L (v ++ S) h1) := by
  have e1 := congrArg Prod.fst hm
  have e2 := congrArg Prod.snd hm
  simp only at e1 e2
  have hr := room_of h1 e1 h2
  subst hst
  rw [X_invS hd hl hk hr (by rw [e1]; exact hn), pad_of e2, hP]
end XE2
end
