/-! a small machine of our own, without frames and rooms: its heap is a list of cells, its addresses are places in it; part 04 says that the machine does what it does -/
abbrev hC : Type := (Nat × List Value) ⊕ (Nat × Nat × ((Nat → Int32) ⊕ (Nat → Option Nat)))
abbrev hO (ci : Nat) (fs : List Value) : hC := .inl (ci, fs)
abbrev hI (n : Nat) (f : Nat → Int32) : hC := .inr (0, n, .inl f)
abbrev hH (n : Nat) (f : Nat → Int32) : hC := .inr (1, n, .inl f)
abbrev hQ (t n : Nat) (f : Nat → Option Nat) : hC := .inr (t, n, .inr f)
def csz (c : hC) : Nat := match c with
  | .inl (_, fs) => fs.length
  | .inr (_, n, _) => n
/-- the places of the two static arrays -/
def sB : Nat := 1000000
def sB1 : Nat := 1000001
def sB2 : Nat := 1000002
def sB3 : Nat := 1000003
def sA (k : Nat) : Nat := match k with
  | 0 => sB
  | 1 => sB1
  | 2 => sB2
  | _ => sB3
def sIx (a : Nat) : Option Nat := if a = sB then some 0 else if a = sB1 then some 1 else if a = sB2 then some 2 else if a = sB3 then some 3 else none
def sArr (k : Nat) (j : Nat) : Int32 := match k, j with
  | 0, 0 => 5
  | 0, 1 => 4
  | 0, 2 => 6
  | 0, _ => 8
  | 1, 0 => 1000
  | 1, 1 => 100
  | 1, 2 => 10
  | 1, _ => 1
  | 2, 0 => 1
  | 2, 1 => 1
  | 2, _ => 0
  | _, 0 => 1
  | _, 1 => 1
  | _, 2 => 1
  | _, _ => 0
/-- what a step does: goes on; ends; makes a cell; calls -/
abbrev rT : Type := (Nat × List Value × List Value × List hC) ⊕ (Option Value ⊕ ((hC × Nat × List Value) ⊕ (Nat × List Value × List Value)))
abbrev rN (pc : Nat) (L S : List Value) (h : List hC) : Option rT := some (.inl (pc, L, S, h))
abbrev rR (v : Option Value) : Option rT := some (.inr (.inl v))
abbrev rA (c : hC) (pc : Nat) (S : List Value) : Option rT := some (.inr (.inr (.inl (c, pc, S))))
abbrev rC (j : Nat) (args rest : List Value) : Option rT := some (.inr (.inr (.inr (j, args, rest))))
def ldi (L S : List Value) (k pc : Nat) (h : List hC) : Option rT := match L[k]? with
  | some (.int x) => rN pc L (.int x :: S) h
  | _ => none
def lda (L S : List Value) (k pc : Nat) (h : List hC) : Option rT := match L[k]? with
  | some (.ref x) => rN pc L (.ref x :: S) h
  | some .null => rN pc L (.null :: S) h
  | _ => none
def sti (L S : List Value) (k pc : Nat) (h : List hC) : Option rT := match S with
  | .int x :: S => if k < L.length then rN pc (L.set k (.int x)) S h else none
  | _ => none
def sta (L S : List Value) (k pc : Nat) (h : List hC) : Option rT := match S with
  | .ref x :: S => if k < L.length then rN pc (L.set k (.ref x)) S h else none
  | .null :: S => if k < L.length then rN pc (L.set k .null) S h else none
  | _ => none
def ldl (L S : List Value) (k pc : Nat) (h : List hC) : Option rT := match L[k]?, L[k + 1]? with
  | some (.long x), some (.double _) => rN pc L (.long x :: S) h
  | _, _ => none
def stl (L S : List Value) (k pc : Nat) (h : List hC) : Option rT := match S with
  | .long x :: S => if k + 1 < L.length then rN pc ((L.set k (.long x)).set (k + 1) (.double 0)) S h else none
  | _ => none
def jmp (pc : Nat) (off : Int) (L S : List Value) (h : List hC) : Option rT := if 0 ≤ (pc : Int) + off then rN ((pc : Int) + off).toNat L S h else none
def cmpI (c : ClassFile.Cond) (x y : Int32) : Bool := match c with
  | .eq => decide (x = y)
  | .ne => decide (¬ x = y)
  | .lt => decide (x < y)
  | .ge => decide (y ≤ x)
  | .gt => decide (y < x)
  | .le => decide (x ≤ y)
/-- may this value stand in a field, or be an answer, of this type as it is -/
def okv (ty : FieldType) (v : Value) : Bool := match ty, v with
  | .int, .int _ => true
  | .boolean, .int x => decide (x = 0) || decide (x = 1)
  | .object _, .ref _ => true
  | .object _, .null => true
  | .array _, .ref _ => true
  | .array _, .null => true
  | _, _ => false
def cat1 (v : Value) : Bool := match v with
  | .int _ => true
  | .ref _ => true
  | .null => true
  | _ => false
/-- an array's index -/
def okx (i : Int32) (n : Nat) : Bool := decide (0 ≤ i) && decide (i.toNatClampNeg < n)
def dfl (ty : FieldType) : Value := match ty with
  | .int => .int 0
  | .boolean => .int 0
  | _ => .null
def getF (c : Option hC) (ci k : Nat) : Option Value := match c with
  | some (.inl (d, fs)) => if d = ci then (match fs[k]? with
    | some v => if cat1 v then some v else none
    | none => none) else none
  | _ => none
def putF (c : Option hC) (ci k : Nat) (v : Value) : Option hC := match c with
  | some (.inl (d, fs)) => if d = ci ∧ k < fs.length ∧ okv (fty ci k) v = true then some (.inl (d, fs.set k v)) else none
  | _ => none
def getI (c : Option hC) (a t : Nat) (i : Int32) : Option Int32 := match c with
  | some (.inr (u, n, .inl f)) => if u = t ∧ okx i n = true then some (f i.toNatClampNeg) else none
  | some _ => none
  | none => (match sIx a with
    | some k => if t = 0 ∧ okx i 4 = true then some (sArr k i.toNatClampNeg) else none
    | none => none)
def putI (c : Option hC) (t : Nat) (i x : Int32) : Option hC := match c with
  | some (.inr (u, n, .inl f)) => if u = t ∧ okx i n = true then some (.inr (u, n, .inl (upd f i.toNatClampNeg x))) else none
  | _ => none
def getQ (c : Option hC) (i : Int32) : Option Value := match c with
  | some (.inr (u, n, .inr f)) => if (u = 2 ∨ u = 3) ∧ okx i n = true then some (va_rf (f i.toNatClampNeg)) else none
  | _ => none
def putQ (c : Option hC) (i : Int32) (d : Option hC) (v : Nat) : Option hC := match c, d with
  | some (.inr (u, n, .inr f)), some (.inl (ci, _)) => if (u = 2 ∨ u = 3) ∧ ci = qcl u ∧ okx i n = true then some (.inr (u, n, .inr (va_up f i.toNatClampNeg (some v)))) else none
  | _, _ => none
def cpyI (c d : Option hC) (sp dp n : Int32) : Option hC := match c, d with
  | some (.inr (0, n0, .inl f)), some (.inr (0, n1, .inl g)) =>
    if ¬ sp < 0 ∧ ¬ dp < 0 ∧ ¬ n < 0 ∧ sp.toNatClampNeg + n.toNatClampNeg ≤ n0 ∧ dp.toNatClampNeg + n.toNatClampNeg ≤ n1 then some (.inr (0, n1, .inl (va_cpy f g sp.toNatClampNeg dp.toNatClampNeg n.toNatClampNeg))) else none
  | _, _ => none
/-- the words that values take -/
def cs (S : List Value) : Nat := (S.map fun v => v.category).sum
/-- may the callee be called from here: frames, locals' words, cells, the stack below -/
def room (i j : Nat) (S : List Value) : Bool := decide (mF j + 1 ≤ mF i) && decide (8 + (mL j + 11) + mW j ≤ mW i) && decide (cs (S.drop (mA j)) ≤ 8) && (S.take (mA j)).all cat1 && (!mZ j || mZ i) && decide (mA j ≤ mL j) && decide (mA j ≤ S.length)
def invV (i idx : Nat) (S : List Value) (h : List hC) : Option rT := match lref (mC i) idx with
  | some (0, j) => if room i j S = true then (match (S.take (mA j)).reverse with
    | .ref b :: as => (match h[b]? with
      | some (.inl (ci, _)) => if ci = mC j then rC j (.ref b :: as) (S.drop (mA j)) else none
      | _ => none)
    | _ => none) else none
  | _ => none
def invS (i idx pc : Nat) (L S : List Value) (h : List hC) : Option rT := match lref (mC i) idx with
  | some (1, j) => if room i j S = true then rC j (S.take (mA j)).reverse (S.drop (mA j)) else none
  | some (4, j) => if room i j S = true then rC j (S.take (mA j)).reverse (S.drop (mA j)) else none
  | some (6, _) => (match S with
    | .int y :: .int x :: S => if decide (1 ≤ mF i) && decide (21 ≤ mW i) && decide (S.length ≤ 8) && S.all cat1 then rN (pc + 3) L (.int (if x < y then y else x) :: S) h else none
    | _ => none)
  | some (7, _) => (match S with
    | .int y :: .int x :: S => if decide (1 ≤ mF i) && decide (21 ≤ mW i) && decide (S.length ≤ 8) && S.all cat1 then rN (pc + 3) L (.int (if y < x then y else x) :: S) h else none
    | _ => none)
  | some (8, _) => (match S with
    | .int n :: .int dp :: .ref a1 :: .int sp :: .ref a0 :: S => if decide (1 ≤ mF i) && decide (100 ≤ mW i) && decide (S.length ≤ 8) && S.all cat1 then (match cpyI h[a0]? h[a1]? sp dp n with
      | some c => rN (pc + 3) L S (h.set a1 c)
      | none => none) else none
    | _ => none)
  | _ => none
def invI (i idx pc : Nat) (L S : List Value) (h : List hC) : Option rT := match lref (mC i) idx with
  | some (2, j) => if room i j S = true then (match (S.take (mA j)).reverse with
    | .ref b :: as => rC j (.ref b :: as) (S.drop (mA j))
    | _ => none) else none
  | some (3, j) => if room i j S = true then (match (S.take (mA j)).reverse with
    | .ref b :: as => rC j (.ref b :: as) (S.drop (mA j))
    | _ => none) else none
  | some (5, _) => (match S with
    | .ref b :: S => if decide (1 ≤ mF i) && decide (21 ≤ mW i) && decide (S.length ≤ 8) && S.all cat1 then rN (pc + 3) L S h else none
    | _ => none)
  | _ => none
/-- one instruction -/
def act (i pc : Nat) (ins : Instr) (len : Nat) (L S : List Value) (h : List hC) : Option rT := match ins with
  | .aload k => if len = 2 then lda L S k (pc + 2) h else none
  | .aload_n k => if len = 1 then lda L S k (pc + 1) h else none
  | .iload k => if len = 2 then ldi L S k (pc + 2) h else none
  | .iload_n k => if len = 1 then ldi L S k (pc + 1) h else none
  | .astore k => if len = 2 then sta L S k (pc + 2) h else none
  | .astore_n k => if len = 1 then sta L S k (pc + 1) h else none
  | .istore k => if len = 2 then sti L S k (pc + 2) h else none
  | .istore_n k => if len = 1 then sti L S k (pc + 1) h else none
  | .iconst n => if len = 1 then rN (pc + 1) L (.int (Int32.ofInt n) :: S) h else none
  | .bipush n => if len = 2 then rN (pc + 2) L (.int (Int8.ofInt n).toInt32 :: S) h else none
  | .sipush n => if len = 3 then rN (pc + 3) L (.int (Int16.ofInt n).toInt32 :: S) h else none
  | .aconst_null => if len = 1 then rN (pc + 1) L (.null :: S) h else none
  | .ldc idx => if len = 2 then (match kref (mC i) idx with
    | some v => rN (pc + 2) L (.int v :: S) h
    | none => none) else none
  | .ldc2_w idx => if len = 3 then (match k2ref (mC i) idx with
    | some v => rN (pc + 3) L (.long v :: S) h
    | none => none) else none
  | .lload k => if len = 2 then ldl L S k (pc + 2) h else none
  | .lload_n k => if len = 1 then ldl L S k (pc + 1) h else none
  | .lstore k => if len = 2 then stl L S k (pc + 2) h else none
  | .lstore_n k => if len = 1 then stl L S k (pc + 1) h else none
  | .i2l => if len = 1 then (match S with
    | .int x :: S => rN (pc + 1) L (.long x.toInt64 :: S) h
    | _ => none) else none
  | .ladd => if len = 1 then (match S with
    | .long y :: .long x :: S => rN (pc + 1) L (.long (x + y) :: S) h
    | _ => none) else none
  | .lmul => if len = 1 then (match S with
    | .long y :: .long x :: S => rN (pc + 1) L (.long (x * y) :: S) h
    | _ => none) else none
  | .lreturn => if len = 1 then (match S with
    | [.long x] => (match mR i with
      | some .long => rR (some (.long x))
      | _ => none)
    | _ => none) else none
  | .iadd => if len = 1 then (match S with
    | .int y :: .int x :: S => rN (pc + 1) L (.int (x + y) :: S) h
    | _ => none) else none
  | .isub => if len = 1 then (match S with
    | .int y :: .int x :: S => rN (pc + 1) L (.int (x - y) :: S) h
    | _ => none) else none
  | .imul => if len = 1 then (match S with
    | .int y :: .int x :: S => rN (pc + 1) L (.int (x * y) :: S) h
    | _ => none) else none
  | .iand => if len = 1 then (match S with
    | .int y :: .int x :: S => rN (pc + 1) L (.int (x &&& y) :: S) h
    | _ => none) else none
  | .ior => if len = 1 then (match S with
    | .int y :: .int x :: S => rN (pc + 1) L (.int (x ||| y) :: S) h
    | _ => none) else none
  | .ishl => if len = 1 then (match S with
    | .int y :: .int x :: S => rN (pc + 1) L (.int (x <<< (y &&& 31)) :: S) h
    | _ => none) else none
  | .ishr => if len = 1 then (match S with
    | .int y :: .int x :: S => rN (pc + 1) L (.int (x >>> (y &&& 31)) :: S) h
    | _ => none) else none
  | .idiv => if len = 1 then (match S with
    | .int y :: .int x :: S => if ¬ y = 0 then rN (pc + 1) L (.int (x / y) :: S) h else none
    | _ => none) else none
  | .irem => if len = 1 then (match S with
    | .int y :: .int x :: S => if ¬ y = 0 then rN (pc + 1) L (.int (x - x / y * y) :: S) h else none
    | _ => none) else none
  | .i2c => if len = 1 then (match S with
    | .int x :: S => rN (pc + 1) L (.int (x.toUInt32 % 65536).toInt32 :: S) h
    | _ => none) else none
  | .iinc k n => if len = 3 then (match L[k]? with
    | some (.int x) => rN (pc + 3) (L.set k (.int (x + Int32.ofInt n))) S h
    | _ => none) else none
  | .dup => if len = 1 then (match S with
    | v :: S => if cat1 v then rN (pc + 1) L (v :: v :: S) h else none
    | _ => none) else none
  | .pop => if len = 1 then (match S with
    | v :: S => if cat1 v then rN (pc + 1) L S h else none
    | _ => none) else none
  | .dup2 => if len = 1 then (match S with
    | v :: w :: S => if cat1 v && cat1 w then rN (pc + 1) L (v :: w :: v :: w :: S) h else none
    | _ => none) else none
  | .goto off => if len = 3 then jmp pc off L S h else none
  | .ifCond c off => if len = 3 ∧ 0 ≤ (pc : Int) + off then (match S with
    | .int x :: S => rN (if cmpI c x 0 = true then ((pc : Int) + off).toNat else pc + 3) L S h
    | _ => none) else none
  | .if_icmp c off => if len = 3 ∧ 0 ≤ (pc : Int) + off then (match S with
    | .int y :: .int x :: S => rN (if cmpI c x y = true then ((pc : Int) + off).toNat else pc + 3) L S h
    | _ => none) else none
  | .ifnull off => if len = 3 then (match S with
    | .null :: S => jmp pc off L S h
    | .ref _ :: S => rN (pc + 3) L S h
    | _ => none) else none
  | .ifnonnull off => if len = 3 then (match S with
    | .null :: S => rN (pc + 3) L S h
    | .ref _ :: S => jmp pc off L S h
    | _ => none) else none
  | .tableswitch d lo hi offs => (match S with
    | .int x :: S => if x.toInt < lo ∨ hi < x.toInt then jmp pc d L S h else (match offs[(x.toInt - lo).toNat]? with
      | some off => jmp pc off L S h
      | none => none)
    | _ => none)
  | .lookupswitch d ps => (match S with
    | .int x :: S => if (ps.toList.zip (ps.toList.drop 1)).all (fun (a, next) => a.1 < next.1) = true then jmp pc (Op.lookupswitch.offset ps.toList d x.toInt) L S h else none
    | _ => none)
  | .getfield idx => if len = 3 then (match S with
    | .ref a :: S => (match fref (mC i) idx with
      | some (ci, k) => (match getF h[a]? ci k with
        | some v => rN (pc + 3) L (v :: S) h
        | none => none)
      | none => none)
    | _ => none) else none
  | .putfield idx => if len = 3 then (match S with
    | v :: .ref a :: S => (match fref (mC i) idx with
      | some (ci, k) => if (fT ci k).2.2.2 = false ∨ ((mN i).name = "<init>" ∧ ci = mC i) then (match putF h[a]? ci k v with
        | some c => rN (pc + 3) L S (h.set a c)
        | none => none) else none
      | none => none)
    | _ => none) else none
  | .getstatic idx => if len = 3 then (match sref (mC i) idx with
    | some k => if k < 4 then rN (pc + 3) L (.ref (sA k) :: S) h else none
    | none => none) else none
  | .iaload => if len = 1 then (match S with
    | .int j :: .ref a :: S => (match getI h[a]? a 0 j with
      | some x => rN (pc + 1) L (.int x :: S) h
      | none => none)
    | _ => none) else none
  | .caload => if len = 1 then (match S with
    | .int j :: .ref a :: S => (match getI h[a]? a 1 j with
      | some x => rN (pc + 1) L (.int x :: S) h
      | none => none)
    | _ => none) else none
  | .aaload => if len = 1 then (match S with
    | .int j :: .ref a :: S => (match getQ h[a]? j with
      | some v => rN (pc + 1) L (v :: S) h
      | none => none)
    | _ => none) else none
  | .iastore => if len = 1 then (match S with
    | .int x :: .int j :: .ref a :: S => (match putI h[a]? 0 j x with
      | some c => rN (pc + 1) L S (h.set a c)
      | none => none)
    | _ => none) else none
  | .castore => if len = 1 then (match S with
    | .int x :: .int j :: .ref a :: S => (match putI h[a]? 1 j (vp_nar .char x) with
      | some c => rN (pc + 1) L S (h.set a c)
      | none => none)
    | _ => none) else none
  | .aastore => if len = 1 then (match S with
    | .ref v :: .int j :: .ref a :: S => (match putQ h[a]? j h[v]? v with
      | some c => rN (pc + 1) L S (h.set a c)
      | none => none)
    | _ => none) else none
  | .new idx => if len = 3 then (match nref (mC i) idx with
    | some ci => rA (.inl (ci, (List.range (fN ci)).map (fun k => dfl (fty ci k)))) (pc + 3) S
    | none => none) else none
  | .newarray t => if len = 2 then (match S with
    | .int n :: S => if ¬ n < 0 ∧ n.toNatClampNeg ≤ 10000 then (match t with
      | .int => rA (hI n.toNatClampNeg (fun _ => 0)) (pc + 2) S
      | .char => rA (hH n.toNatClampNeg (fun _ => 0)) (pc + 2) S
      | _ => none) else none
    | _ => none) else none
  | .anewarray idx => if len = 3 then (match S with
    | .int n :: S => (match aref (mC i) idx with
      | some t => if ¬ n < 0 ∧ n.toNatClampNeg ≤ 10000 ∧ (t = 2 ∨ t = 3) then rA (hQ t n.toNatClampNeg (fun _ => none)) (pc + 3) S else none
      | none => none)
    | _ => none) else none
  | .invokevirtual idx => if len = 3 then invV i idx S h else none
  | .invokestatic idx => if len = 3 then invS i idx pc L S h else none
  | .invokespecial idx => if len = 3 then invI i idx pc L S h else none
  | .ireturn => if len = 1 then (match S with
    | [.int x] => (match mR i with
      | some ty => if okv ty (.int x) = true then rR (some (.int x)) else none
      | none => none)
    | _ => none) else none
  | .areturn => if len = 1 then (match S with
    | [v] => (match mR i, v with
      | some (.object _), .ref a => rR (some (.ref a))
      | some (.object _), .null => rR (some .null)
      | _, _ => none)
    | _ => none) else none
  | .return_ => if len = 1 then (match S, mR i with
    | [], none => rR none
    | _, _ => none) else none
  | _ => none
def pad (j : Nat) (as : List Value) : List Value := as ++ List.replicate (mL j - as.length) (.long 0)
abbrev eR : Type := Option (Option Value × List hC × Nat × Nat)
abbrev eT : Type := Nat → Nat → List Value → List Value → List hC → eR
/-- one step, and what follows by E -/
def stp (E : eT) : eT := fun i pc L S h => match decode (mB i) pc with
    | .ok (ins, len) => (match act i pc ins len L S h with
      | some (.inl (pc', L', S', h')) => E i pc' L' S' h'
      | some (.inr (.inl v)) => some (v, h, 0, 0)
      | some (.inr (.inr (.inl (c, pc', S')))) => if mZ i = true then (match E i pc' L (.ref h.length :: S') (h ++ [c]) with
        | some (v, h', a, b) => some (v, h', a + 1, b + csz c)
        | none => none) else none
      | some (.inr (.inr (.inr (j, as, rest)))) => (match E j 0 (pad j as) [] h with
        | some (v, h1, a1, b1) => (match E i (pc + 3) L (v.toList ++ rest) h1 with
          | some (v2, h2, a2, b2) => some (v2, h2, a1 + a2, b1 + b2)
          | none => none)
        | none => none)
      | none => none)
    | .error _ => none
/-- so many steps at most; the answer, the heap, and how many cells and slots were made -/
def exec : Nat → eT
  | 0 => fun _ _ _ _ _ => none
  | n + 1 => stp (exec n)
