/-! X, an instruction at a time -/
section XE
variable {i pc idx ci k a b j : Nat} {L S : List Value} {h : List hC}
theorem X_iload {n : Nat} {x : Int32} (hd : decode (mB i) pc = .ok (.iload n, 2)) (hl : L[n]? = some (.int x)) : X i pc L S h = X i (pc + 2) L (.int x :: S) h := X_next hd (by simp only [act, ldi, hl]; rfl)
theorem X_iload_n {n : Fin 4} {x : Int32} (hd : decode (mB i) pc = .ok (.iload_n n, 1)) (hl : L[(n : Nat)]? = some (.int x)) : X i pc L S h = X i (pc + 1) L (.int x :: S) h := X_next hd (by simp only [act, ldi, hl]; rfl)
theorem X_aload {n x : Nat} (hd : decode (mB i) pc = .ok (.aload n, 2)) (hl : L[n]? = some (.ref x)) : X i pc L S h = X i (pc + 2) L (.ref x :: S) h := X_next hd (by simp only [act, lda, hl]; rfl)
theorem X_aload_n {n : Fin 4} {x : Nat} (hd : decode (mB i) pc = .ok (.aload_n n, 1)) (hl : L[(n : Nat)]? = some (.ref x)) : X i pc L S h = X i (pc + 1) L (.ref x :: S) h := X_next hd (by simp only [act, lda, hl]; rfl)
theorem X_aloadN {n : Nat} (hd : decode (mB i) pc = .ok (.aload n, 2)) (hl : L[n]? = some .null) : X i pc L S h = X i (pc + 2) L (.null :: S) h := X_next hd (by simp only [act, lda, hl]; rfl)
theorem X_aload_nN {n : Fin 4} (hd : decode (mB i) pc = .ok (.aload_n n, 1)) (hl : L[(n : Nat)]? = some .null) : X i pc L S h = X i (pc + 1) L (.null :: S) h := X_next hd (by simp only [act, lda, hl]; rfl)
theorem X_istore {n : Nat} {x : Int32} (hd : decode (mB i) pc = .ok (.istore n, 2)) (hl : n < L.length) : X i pc L (.int x :: S) h = X i (pc + 2) (L.set n (.int x)) S h := X_next hd (by simp only [act, sti, if_pos hl]; rfl)
theorem X_istore_n {n : Fin 4} {x : Int32} (hd : decode (mB i) pc = .ok (.istore_n n, 1)) (hl : (n : Nat) < L.length) : X i pc L (.int x :: S) h = X i (pc + 1) (L.set n (.int x)) S h := X_next hd (by simp only [act, sti, if_pos hl]; rfl)
theorem X_astore {n x : Nat} (hd : decode (mB i) pc = .ok (.astore n, 2)) (hl : n < L.length) : X i pc L (.ref x :: S) h = X i (pc + 2) (L.set n (.ref x)) S h := X_next hd (by simp only [act, sta, if_pos hl]; rfl)
theorem X_astore_n {n : Fin 4} {x : Nat} (hd : decode (mB i) pc = .ok (.astore_n n, 1)) (hl : (n : Nat) < L.length) : X i pc L (.ref x :: S) h = X i (pc + 1) (L.set n (.ref x)) S h := X_next hd (by simp only [act, sta, if_pos hl]; rfl)
theorem X_astoreN {n : Nat} (hd : decode (mB i) pc = .ok (.astore n, 2)) (hl : n < L.length) : X i pc L (.null :: S) h = X i (pc + 2) (L.set n .null) S h := X_next hd (by simp only [act, sta, if_pos hl]; rfl)
theorem X_astore_nN {n : Fin 4} (hd : decode (mB i) pc = .ok (.astore_n n, 1)) (hl : (n : Nat) < L.length) : X i pc L (.null :: S) h = X i (pc + 1) (L.set n .null) S h := X_next hd (by simp only [act, sta, if_pos hl]; rfl)
theorem X_iconst {n : Int} {v : Int32} (hd : decode (mB i) pc = .ok (.iconst n, 1)) (hv : Int32.ofInt n = v) : X i pc L S h = X i (pc + 1) L (.int v :: S) h := X_next hd (by subst hv; rfl)
theorem X_bipush {n : Int} {v : Int32} (hd : decode (mB i) pc = .ok (.bipush n, 2)) (hv : (Int8.ofInt n).toInt32 = v) : X i pc L S h = X i (pc + 2) L (.int v :: S) h := X_next hd (by subst hv; rfl)
theorem X_sipush {n : Int} {v : Int32} (hd : decode (mB i) pc = .ok (.sipush n, 3)) (hv : (Int16.ofInt n).toInt32 = v) : X i pc L S h = X i (pc + 3) L (.int v :: S) h := X_next hd (by subst hv; rfl)
theorem X_null (hd : decode (mB i) pc = .ok (.aconst_null, 1)) : X i pc L S h = X i (pc + 1) L (.null :: S) h := X_next hd rfl
theorem X_ldc {v : Int32} (hd : decode (mB i) pc = .ok (.ldc idx, 2)) (hv : kref (mC i) idx = some v) : X i pc L S h = X i (pc + 2) L (.int v :: S) h := X_next hd (by simp only [act, hv]; rfl)
theorem X_iadd {x y : Int32} (hd : decode (mB i) pc = .ok (.iadd, 1)) : X i pc L (.int y :: .int x :: S) h = X i (pc + 1) L (.int (x + y) :: S) h := X_next hd rfl
theorem X_isub {x y : Int32} (hd : decode (mB i) pc = .ok (.isub, 1)) : X i pc L (.int y :: .int x :: S) h = X i (pc + 1) L (.int (x - y) :: S) h := X_next hd rfl
theorem X_imul {x y : Int32} (hd : decode (mB i) pc = .ok (.imul, 1)) : X i pc L (.int y :: .int x :: S) h = X i (pc + 1) L (.int (x * y) :: S) h := X_next hd rfl
theorem X_iand {x y : Int32} (hd : decode (mB i) pc = .ok (.iand, 1)) : X i pc L (.int y :: .int x :: S) h = X i (pc + 1) L (.int (x &&& y) :: S) h := X_next hd rfl
theorem X_ior {x y : Int32} (hd : decode (mB i) pc = .ok (.ior, 1)) : X i pc L (.int y :: .int x :: S) h = X i (pc + 1) L (.int (x ||| y) :: S) h := X_next hd rfl
theorem X_ishl {x y : Int32} (hd : decode (mB i) pc = .ok (.ishl, 1)) : X i pc L (.int y :: .int x :: S) h = X i (pc + 1) L (.int (x <<< (y &&& 31)) :: S) h := X_next hd rfl
theorem X_ishr {x y : Int32} (hd : decode (mB i) pc = .ok (.ishr, 1)) : X i pc L (.int y :: .int x :: S) h = X i (pc + 1) L (.int (x >>> (y &&& 31)) :: S) h := X_next hd rfl
theorem X_idiv {x y : Int32} (hd : decode (mB i) pc = .ok (.idiv, 1)) : X i pc L (.int y :: .int x :: S) h = if y = 0 then none else X i (pc + 1) L (.int (x / y) :: S) h := by
  by_cases hy : y = 0
  · rw [if_pos hy]; exact X_stuck hd (by simp [act, hy])
  · rw [if_neg hy]; exact X_next hd (by simp [act, hy])
theorem X_irem {x y : Int32} (hd : decode (mB i) pc = .ok (.irem, 1)) : X i pc L (.int y :: .int x :: S) h = if y = 0 then none else X i (pc + 1) L (.int (x - x / y * y) :: S) h := by
  by_cases hy : y = 0
  · rw [if_pos hy]; exact X_stuck hd (by simp [act, hy])
  · rw [if_neg hy]; exact X_next hd (by simp [act, hy])
theorem X_i2c {x : Int32} (hd : decode (mB i) pc = .ok (.i2c, 1)) : X i pc L (.int x :: S) h = X i (pc + 1) L (.int (x.toUInt32 % 65536).toInt32 :: S) h := X_next hd rfl
theorem X_iinc {n : Nat} {d : Int} {x v : Int32} (hd : decode (mB i) pc = .ok (.iinc n d, 3)) (hl : L[n]? = some (.int x)) (hv : Int32.ofInt d = v) : X i pc L S h = X i (pc + 3) (L.set n (.int (x + v))) S h := X_next hd (by subst hv; simp only [act, hl]; rfl)
theorem X_dup {v : Value} (hd : decode (mB i) pc = .ok (.dup, 1)) (hv : cat1 v = true) : X i pc L (v :: S) h = X i (pc + 1) L (v :: v :: S) h := X_next hd (by simp [act, hv])
theorem X_pop {v : Value} (hd : decode (mB i) pc = .ok (.pop, 1)) (hv : cat1 v = true) : X i pc L (v :: S) h = X i (pc + 1) L S h := X_next hd (by simp [act, hv])
theorem X_dup2 {v w : Value} (hd : decode (mB i) pc = .ok (.dup2, 1)) (hv : cat1 v = true) (hw : cat1 w = true) : X i pc L (v :: w :: S) h = X i (pc + 1) L (v :: w :: v :: w :: S) h := X_next hd (by simp [act, hv, hw])
theorem X_goto {off : Int} {t : Nat} (hd : decode (mB i) pc = .ok (.goto off, 3)) (ht : (pc : Int) + off = (t : Int)) : X i pc L S h = X i t L S h := X_next hd (by simp [act, jmp, ht])
theorem X_if {c : ClassFile.Cond} {off : Int} {t : Nat} {x : Int32} (hd : decode (mB i) pc = .ok (.ifCond c off, 3)) (ht : (pc : Int) + off = (t : Int)) : X i pc L (.int x :: S) h = if cmpI c x 0 = true then X i t L S h else X i (pc + 3) L S h := by
  have e : act i pc (.ifCond c off) 3 L (.int x :: S) h = some (.inl (if cmpI c x 0 = true then t else pc + 3, L, S, h)) := by simp [act, ht]
  rw [X_next hd e]
  split <;> rfl
theorem X_icmp {c : ClassFile.Cond} {off : Int} {t : Nat} {x y : Int32} (hd : decode (mB i) pc = .ok (.if_icmp c off, 3)) (ht : (pc : Int) + off = (t : Int)) : X i pc L (.int y :: .int x :: S) h = if cmpI c x y = true then X i t L S h else X i (pc + 3) L S h := by
  have e : act i pc (.if_icmp c off) 3 L (.int y :: .int x :: S) h = some (.inl (if cmpI c x y = true then t else pc + 3, L, S, h)) := by simp [act, ht]
  rw [X_next hd e]
  split <;> rfl
theorem X_if_eq {off : Int} {t : Nat} {x : Int32} (hd : decode (mB i) pc = .ok (.ifCond .eq off, 3)) (ht : (pc : Int) + off = (t : Int)) : X i pc L (.int x :: S) h = if x = 0 then X i t L S h else X i (pc + 3) L S h := by rw [X_if hd ht]; simp only [cmpI, decide_eq_true_eq]
theorem X_if_ne {off : Int} {t : Nat} {x : Int32} (hd : decode (mB i) pc = .ok (.ifCond .ne off, 3)) (ht : (pc : Int) + off = (t : Int)) : X i pc L (.int x :: S) h = if x = 0 then X i (pc + 3) L S h else X i t L S h := by
  rw [X_if hd ht]
  by_cases hx : x = 0
  · simp [cmpI, hx]
  · simp [cmpI, hx]
theorem X_if_lt {off : Int} {t : Nat} {x : Int32} (hd : decode (mB i) pc = .ok (.ifCond .lt off, 3)) (ht : (pc : Int) + off = (t : Int)) : X i pc L (.int x :: S) h = if x < 0 then X i t L S h else X i (pc + 3) L S h := by rw [X_if hd ht]; simp only [cmpI, decide_eq_true_eq]
theorem X_if_ge {off : Int} {t : Nat} {x : Int32} (hd : decode (mB i) pc = .ok (.ifCond .ge off, 3)) (ht : (pc : Int) + off = (t : Int)) : X i pc L (.int x :: S) h = if x < 0 then X i (pc + 3) L S h else X i t L S h := by
  rw [X_if hd ht]
  by_cases hx : x < 0
  · rw [if_pos hx, if_neg (by simp only [cmpI, decide_eq_true_eq]; exact Int32.not_le.mpr hx)]
  · rw [if_neg hx, if_pos (by simp only [cmpI, decide_eq_true_eq]; exact Int32.not_lt.mp hx)]
theorem X_if_gt {off : Int} {t : Nat} {x : Int32} (hd : decode (mB i) pc = .ok (.ifCond .gt off, 3)) (ht : (pc : Int) + off = (t : Int)) : X i pc L (.int x :: S) h = if 0 < x then X i t L S h else X i (pc + 3) L S h := by rw [X_if hd ht]; simp only [cmpI, decide_eq_true_eq]
theorem X_if_le {off : Int} {t : Nat} {x : Int32} (hd : decode (mB i) pc = .ok (.ifCond .le off, 3)) (ht : (pc : Int) + off = (t : Int)) : X i pc L (.int x :: S) h = if 0 < x then X i (pc + 3) L S h else X i t L S h := by
  rw [X_if hd ht]
  by_cases hx : 0 < x
  · rw [if_pos hx, if_neg (by simp only [cmpI, decide_eq_true_eq]; exact Int32.not_le.mpr hx)]
  · rw [if_neg hx, if_pos (by simp only [cmpI, decide_eq_true_eq]; exact Int32.not_lt.mp hx)]
theorem X_icmp_eq {off : Int} {t : Nat} {x y : Int32} (hd : decode (mB i) pc = .ok (.if_icmp .eq off, 3)) (ht : (pc : Int) + off = (t : Int)) : X i pc L (.int y :: .int x :: S) h = if x = y then X i t L S h else X i (pc + 3) L S h := by rw [X_icmp hd ht]; simp only [cmpI, decide_eq_true_eq]
theorem X_icmp_ne {off : Int} {t : Nat} {x y : Int32} (hd : decode (mB i) pc = .ok (.if_icmp .ne off, 3)) (ht : (pc : Int) + off = (t : Int)) : X i pc L (.int y :: .int x :: S) h = if x = y then X i (pc + 3) L S h else X i t L S h := by
  rw [X_icmp hd ht]
  by_cases hx : x = y
  · simp [cmpI, hx]
  · simp [cmpI, hx]
theorem X_icmp_lt {off : Int} {t : Nat} {x y : Int32} (hd : decode (mB i) pc = .ok (.if_icmp .lt off, 3)) (ht : (pc : Int) + off = (t : Int)) : X i pc L (.int y :: .int x :: S) h = if x < y then X i t L S h else X i (pc + 3) L S h := by rw [X_icmp hd ht]; simp only [cmpI, decide_eq_true_eq]
theorem X_icmp_ge {off : Int} {t : Nat} {x y : Int32} (hd : decode (mB i) pc = .ok (.if_icmp .ge off, 3)) (ht : (pc : Int) + off = (t : Int)) : X i pc L (.int y :: .int x :: S) h = if x < y then X i (pc + 3) L S h else X i t L S h := by
  rw [X_icmp hd ht]
  by_cases hx : x < y
  · rw [if_pos hx, if_neg (by simp only [cmpI, decide_eq_true_eq]; exact Int32.not_le.mpr hx)]
  · rw [if_neg hx, if_pos (by simp only [cmpI, decide_eq_true_eq]; exact Int32.not_lt.mp hx)]
theorem X_icmp_gt {off : Int} {t : Nat} {x y : Int32} (hd : decode (mB i) pc = .ok (.if_icmp .gt off, 3)) (ht : (pc : Int) + off = (t : Int)) : X i pc L (.int y :: .int x :: S) h = if y < x then X i t L S h else X i (pc + 3) L S h := by rw [X_icmp hd ht]; simp only [cmpI, decide_eq_true_eq]
theorem X_icmp_le {off : Int} {t : Nat} {x y : Int32} (hd : decode (mB i) pc = .ok (.if_icmp .le off, 3)) (ht : (pc : Int) + off = (t : Int)) : X i pc L (.int y :: .int x :: S) h = if y < x then X i (pc + 3) L S h else X i t L S h := by
  rw [X_icmp hd ht]
  by_cases hx : y < x
  · rw [if_pos hx, if_neg (by simp only [cmpI, decide_eq_true_eq]; exact Int32.not_le.mpr hx)]
  · rw [if_neg hx, if_pos (by simp only [cmpI, decide_eq_true_eq]; exact Int32.not_lt.mp hx)]
theorem X_ifnull {off : Int} {t x : Nat} (hd : decode (mB i) pc = .ok (.ifnull off, 3)) : X i pc L (.ref x :: S) h = X i (pc + 3) L S h := X_next hd (by simp [act])
theorem X_ifnullN {off : Int} {t : Nat} (hd : decode (mB i) pc = .ok (.ifnull off, 3)) (ht : (pc : Int) + off = (t : Int)) : X i pc L (.null :: S) h = X i t L S h := X_next hd (by simp [act, jmp, ht])
theorem X_ifnonnull {off : Int} {t x : Nat} (hd : decode (mB i) pc = .ok (.ifnonnull off, 3)) (ht : (pc : Int) + off = (t : Int)) : X i pc L (.ref x :: S) h = X i t L S h := X_next hd (by simp [act, jmp, ht])
theorem X_ifnonnullN {off : Int} (hd : decode (mB i) pc = .ok (.ifnonnull off, 3)) : X i pc L (.null :: S) h = X i (pc + 3) L S h := X_next hd (by simp [act])
theorem X_getfield (hd : decode (mB i) pc = .ok (.getfield idx, 3)) (hf : fref (mC i) idx = some (ci, k)) : X i pc L (.ref a :: S) h = (getF h[a]? ci k).bind (fun v => X i (pc + 3) L (v :: S) h) := by
  cases hg : getF h[a]? ci k with
  | none => exact X_stuck hd (by simp [act, hf, hg])
  | some v => exact X_next hd (by simp [act, hf, hg])
theorem X_putfield {v : Value} (hd : decode (mB i) pc = .ok (.putfield idx, 3)) (hf : fref (mC i) idx = some (ci, k)) (hn : (fT ci k).2.2.2 = false) : X i pc L (v :: .ref a :: S) h = (putF h[a]? ci k v).bind (fun c => X i (pc + 3) L S (h.set a c)) := by
  cases hg : putF h[a]? ci k v with
  | none => exact X_stuck hd (by simp [act, hf, hg])
  | some v => exact X_next hd (by simp [act, hf, hg, hn])
theorem X_getstatic (hd : decode (mB i) pc = .ok (.getstatic idx, 3)) (hf : sref (mC i) idx = some k) (hk : k < 4) : X i pc L S h = X i (pc + 3) L (.ref (sA k) :: S) h := X_next hd (by simp [act, hf, hk])
theorem X_iaload {x : Int32} (hd : decode (mB i) pc = .ok (.iaload, 1)) : X i pc L (.int x :: .ref a :: S) h = (getI h[a]? a 0 x).bind (fun v => X i (pc + 1) L (.int v :: S) h) := by
  cases hg : getI h[a]? a 0 x with
  | none => exact X_stuck hd (by simp [act, hg])
  | some v => exact X_next hd (by simp [act, hg])
theorem X_caload {x : Int32} (hd : decode (mB i) pc = .ok (.caload, 1)) : X i pc L (.int x :: .ref a :: S) h = (getI h[a]? a 1 x).bind (fun v => X i (pc + 1) L (.int v :: S) h) := by
  cases hg : getI h[a]? a 1 x with
  | none => exact X_stuck hd (by simp [act, hg])
  | some v => exact X_next hd (by simp [act, hg])
theorem X_aaload {x : Int32} (hd : decode (mB i) pc = .ok (.aaload, 1)) : X i pc L (.int x :: .ref a :: S) h = (getQ h[a]? x).bind (fun v => X i (pc + 1) L (v :: S) h) := by
  cases hg : getQ h[a]? x with
  | none => exact X_stuck hd (by simp [act, hg])
  | some v => exact X_next hd (by simp [act, hg])
theorem X_iastore {x y : Int32} (hd : decode (mB i) pc = .ok (.iastore, 1)) : X i pc L (.int y :: .int x :: .ref a :: S) h = (putI h[a]? 0 x y).bind (fun c => X i (pc + 1) L S (h.set a c)) := by
  cases hg : putI h[a]? 0 x y with
  | none => exact X_stuck hd (by simp [act, hg])
  | some v => exact X_next hd (by simp [act, hg])
theorem X_castore {x y : Int32} (hd : decode (mB i) pc = .ok (.castore, 1)) : X i pc L (.int y :: .int x :: .ref a :: S) h = (putI h[a]? 1 x (vp_nar .char y)).bind (fun c => X i (pc + 1) L S (h.set a c)) := by
  cases hg : putI h[a]? 1 x (vp_nar .char y) with
  | none => exact X_stuck hd (by simp [act, hg])
  | some v => exact X_next hd (by simp [act, hg])
theorem X_aastore {x : Int32} (hd : decode (mB i) pc = .ok (.aastore, 1)) : X i pc L (.ref b :: .int x :: .ref a :: S) h = (putQ h[a]? x h[b]? b).bind (fun c => X i (pc + 1) L S (h.set a c)) := by
  cases hg : putQ h[a]? x h[b]? b with
  | none => exact X_stuck hd (by simp [act, hg])
  | some v => exact X_next hd (by simp [act, hg])
theorem X_ldc2_w {v : Int64} (hd : decode (mB i) pc = .ok (.ldc2_w idx, 3)) (hf : k2ref (mC i) idx = some v) : X i pc L S h = X i (pc + 3) L (.long v :: S) h := X_next hd (by simp [act, hf])
theorem X_lload {k : Nat} {x : Int64} {y : UInt64} (hd : decode (mB i) pc = .ok (.lload k, 2)) (h1 : L[k]? = some (.long x)) (h2 : L[k + 1]? = some (.double y)) : X i pc L S h = X i (pc + 2) L (.long x :: S) h := X_next hd (by simp only [act, ldl, h1, h2, if_true])
theorem X_lload_n {k : Fin 4} {x : Int64} {y : UInt64} (hd : decode (mB i) pc = .ok (.lload_n k, 1)) (h1 : L[(k : Nat)]? = some (.long x)) (h2 : L[(k : Nat) + 1]? = some (.double y)) : X i pc L S h = X i (pc + 1) L (.long x :: S) h := X_next hd (by simp only [act, ldl, h1, h2, if_true])
theorem X_lstore {k : Nat} {x : Int64} (hd : decode (mB i) pc = .ok (.lstore k, 2)) (hk : k + 1 < L.length) : X i pc L (.long x :: S) h = X i (pc + 2) ((L.set k (.long x)).set (k + 1) (.double 0)) S h := X_next hd (by simp only [act, stl, hk, if_true])
theorem X_lstore_n {k : Fin 4} {x : Int64} (hd : decode (mB i) pc = .ok (.lstore_n k, 1)) (hk : (k : Nat) + 1 < L.length) : X i pc L (.long x :: S) h = X i (pc + 1) ((L.set (k : Nat) (.long x)).set ((k : Nat) + 1) (.double 0)) S h := X_next hd (by simp only [act, stl, hk, if_true])
theorem X_i2l {x : Int32} (hd : decode (mB i) pc = .ok (.i2l, 1)) : X i pc L (.int x :: S) h = X i (pc + 1) L (.long x.toInt64 :: S) h := X_next hd (by simp [act])
theorem X_ladd {x y : Int64} (hd : decode (mB i) pc = .ok (.ladd, 1)) : X i pc L (.long y :: .long x :: S) h = X i (pc + 1) L (.long (x + y) :: S) h := X_next hd (by simp [act])
theorem X_lmul {x y : Int64} (hd : decode (mB i) pc = .ok (.lmul, 1)) : X i pc L (.long y :: .long x :: S) h = X i (pc + 1) L (.long (x * y) :: S) h := X_next hd (by simp [act])
theorem X_lret {x : Int64} (hd : decode (mB i) pc = .ok (.lreturn, 1)) (hr : mR i = some .long) : X i pc L [.long x] h = some (some (.long x), h) := X_ret hd (by simp [act, hr])
theorem X_ireturn {x : Int32} {ty : FieldType} (hd : decode (mB i) pc = .ok (.ireturn, 1)) (hr : mR i = some ty) : X i pc L [.int x] h = if okv ty (.int x) = true then some (some (.int x), h) else none := by
  by_cases ho : okv ty (.int x) = true
  · rw [if_pos ho]; exact X_ret hd (by simp [act, hr, ho])
  · rw [if_neg ho]; exact X_stuck hd (by simp [act, hr, ho])
theorem X_iret {x : Int32} (hd : decode (mB i) pc = .ok (.ireturn, 1)) (hr : mR i = some .int) : X i pc L [.int x] h = some (some (.int x), h) := X_ret hd (by simp [act, hr, okv])
theorem X_zret {x : Int32} (hd : decode (mB i) pc = .ok (.ireturn, 1)) (hr : mR i = some .boolean) : X i pc L [.int x] h = if x = 0 ∨ x = 1 then some (some (.int x), h) else none := by
  rw [X_ireturn hd hr]; simp only [okv, Bool.or_eq_true, decide_eq_true_eq]
theorem X_aret {n : String} (hd : decode (mB i) pc = .ok (.areturn, 1)) (hr : mR i = some (.object n)) : X i pc L [.ref a] h = some (some (.ref a), h) := X_ret hd (by simp [act, hr])
theorem X_aretN {n : String} (hd : decode (mB i) pc = .ok (.areturn, 1)) (hr : mR i = some (.object n)) : X i pc L [.null] h = some (some .null, h) := X_ret hd (by simp [act, hr])
theorem X_vret (hd : decode (mB i) pc = .ok (.return_, 1)) (hr : mR i = none) : X i pc L [] h = some (none, h) := X_ret hd (by simp [act, hr])
/-- what follows a call -/
def aft (o : Option (Option Value × List hC)) (F : List Value → List hC → Option (Option Value × List hC)) : Option (Option Value × List hC) := match o with
  | some (v, h) => F v.toList h
  | none => none
theorem aft_some (v : Value) (h : List hC) (F : List Value → List hC → Option (Option Value × List hC)) : aft (some (some v, h)) F = F [v] h := rfl
theorem aft_void (h : List hC) (F : List Value → List hC → Option (Option Value × List hC)) : aft (some (none, h)) F = F [] h := rfl
/-- is the receiver of this class -/
def isO (c : Option hC) (ci : Nat) : Bool := match c with
  | some (.inl (d, _)) => decide (d = ci)
  | _ => false
theorem isO_some (ci : Nat) (fs : List Value) : isO (some (.inl (ci, fs))) ci = true := by simp [isO]
theorem X_invV {as : List Value} (hd : decode (mB i) pc = .ok (.invokevirtual idx, 3)) (hl : lref (mC i) idx = some (0, j)) (hr : room i j (as.reverse ++ .ref a :: S) = true) (hn : as.length + 1 = mA j) (ho : isO h[a]? (mC j) = true) :
    X i pc L (as.reverse ++ .ref a :: S) h = aft (X j 0 (pad j (.ref a :: as)) [] h) (fun v h1 => X i (pc + 3) L (v ++ S) h1) := by
  have h1 : ((as.reverse ++ .ref a :: S).take (mA j)).reverse = .ref a :: as := by
    rw [← hn, show as.reverse ++ .ref a :: S = (as.reverse ++ [.ref a]) ++ S by simp, List.take_left' (by simp)]
    simp
  have h2 : (as.reverse ++ .ref a :: S).drop (mA j) = S := by
    rw [← hn, show as.reverse ++ .ref a :: S = (as.reverse ++ [.ref a]) ++ S by simp, List.drop_left' (by simp)]
  have h3 : ∃ fs, h[a]? = some (.inl (mC j, fs)) := by
    unfold isO at ho
    split at ho
    · rename_i d fs hq
      simp only [decide_eq_true_eq] at ho
      exact ⟨fs, by rw [hq, ho]⟩
    · cases ho
  obtain ⟨fs, h3⟩ := h3
  have ha : act i pc (.invokevirtual idx) 3 L (as.reverse ++ .ref a :: S) h = some (.inr (.inr (.inr (j, .ref a :: as, S)))) := by
    simp only [act, invV, hl, hr, if_true, h1, h2, h3]
  rw [X_call hd ha]
  unfold aft
  rfl
theorem X_invS {as : List Value} {kd : Nat} (hd : decode (mB i) pc = .ok (.invokestatic idx, 3)) (hl : lref (mC i) idx = some (kd, j)) (hk : kd = 1 ∨ kd = 4) (hr : room i j (as.reverse ++ S) = true) (hn : as.length = mA j) :
    X i pc L (as.reverse ++ S) h = aft (X j 0 (pad j as) [] h) (fun v h1 => X i (pc + 3) L (v ++ S) h1) := by
  have h1 : ((as.reverse ++ S).take (mA j)).reverse = as := by
    rw [← hn, List.take_left' (by simp)]
    simp
  have h2 : (as.reverse ++ S).drop (mA j) = S := by
    rw [← hn, List.drop_left' (by simp)]
  have ha : act i pc (.invokestatic idx) 3 L (as.reverse ++ S) h = some (.inr (.inr (.inr (j, as, S)))) := by
    rcases hk with rfl | rfl <;> simp only [act, invS, hl, hr, if_true, h1, h2]
  rw [X_call hd ha]
  unfold aft
  rfl
theorem X_min {x y : Int32} (hd : decode (mB i) pc = .ok (.invokestatic idx, 3)) (hl : lref (mC i) idx = some (7, j)) (hr : (decide (1 ≤ mF i) && decide (21 ≤ mW i) && decide (S.length ≤ 8) && S.all cat1) = true) : X i pc L (.int y :: .int x :: S) h = X i (pc + 3) L (.int (if y < x then y else x) :: S) h := X_next hd (by simp only [act, invS, hl, hr, if_true])
theorem X_copy {n dp sp : Int32} (hd : decode (mB i) pc = .ok (.invokestatic idx, 3)) (hl : lref (mC i) idx = some (8, j)) (hr : (decide (1 ≤ mF i) && decide (100 ≤ mW i) && decide (S.length ≤ 8) && S.all cat1) = true) : X i pc L (.int n :: .int dp :: .ref b :: .int sp :: .ref a :: S) h = (cpyI h[a]? h[b]? sp dp n).bind (fun c => X i (pc + 3) L S (h.set b c)) := by
  cases hg : cpyI h[a]? h[b]? sp dp n with
  | none => exact X_stuck hd (by simp only [act, invS, hl, hr, if_true, hg])
  | some v => exact X_next hd (by simp only [act, invS, hl, hr, if_true, hg])
theorem X_table {d lo hi : Int} {offs : Array Int} {len t : Nat} {x : Int32} (hd : decode (mB i) pc = .ok (.tableswitch d lo hi offs, len)) {off : Int} (ho : (if x.toInt < lo ∨ hi < x.toInt then some d else offs[(x.toInt - lo).toNat]?) = some off) (ht : (pc : Int) + off = (t : Int)) : X i pc L (.int x :: S) h = X i t L S h := by
  refine X_next hd ?_
  by_cases hc : x.toInt < lo ∨ hi < x.toInt
  · rw [if_pos hc] at ho
    cases ho
    simp [act, hc, jmp, ht]
  · rw [if_neg hc] at ho
    simp [act, hc, ho, jmp, ht]
theorem X_lookup {d : Int} {ps : Array (Int × Int)} {len t : Nat} {x : Int32} (hd : decode (mB i) pc = .ok (.lookupswitch d ps, len)) (hp : (ps.toList.zip (ps.toList.drop 1)).all (fun (a, next) => a.1 < next.1) = true) {off : Int} (ho : Op.lookupswitch.offset ps.toList d x.toInt = off) (ht : (pc : Int) + off = (t : Int)) : X i pc L (.int x :: S) h = X i t L S h := by
  refine X_next hd ?_
  simp only [act]
  rw [if_pos hp, ho]
  simp [jmp, ht]
end XE
theorem room_of {i j m : Nat} {S : List Value} (h1 : (decide (mF j + 1 ≤ mF i) && decide (8 + (mL j + 11) + mW j ≤ mW i) && (!mZ j || mZ i) && decide (mA j ≤ mL j)) = true) (hm : mA j = m) (h2 : (Nat.ble (cs (S.drop m)) 8 && (S.take m).all cat1 && Nat.ble m S.length) = true) : room i j S = true := by
  subst hm
  simp only [Bool.and_eq_true, decide_eq_true_eq, Nat.ble_eq] at h1 h2
  simp only [room, Bool.and_eq_true, decide_eq_true_eq]
  exact ⟨⟨⟨⟨⟨⟨h1.1.1.1, h1.1.1.2⟩, h2.1.1⟩, h2.1.2⟩, h1.1.2⟩, h1.2⟩, h2.2⟩
theorem pad_of {j m : Nat} {as : List Value} (hm : mL j = m) : pad j as = as ++ List.replicate (m - as.length) (.long 0) := by
  subst hm; rfl
section XE2
variable {i pc idx a j : Nat} {L S : List Value} {h : List hC}
theorem X_invV' {as P st : List Value} {n ci m : Nat} (hd : decode (mB i) pc = .ok (.invokevirtual idx, 3)) (hl : lref (mC i) idx = some (0, j)) (h1 : (decide (mF j + 1 ≤ mF i) && decide (8 + (mL j + 11) + mW j ≤ mW i) && (!mZ j || mZ i) && decide (mA j ≤ mL j)) = true) (hm : (mA j, mL j, mC j) = (n, m, ci)) (h2 : (Nat.ble (cs (st.drop n)) 8 && (st.take n).all cat1 && Nat.ble n st.length) = true) (hst : st = as.reverse ++ .ref a :: S) (hn : as.length + 1 = n) (hP : P = .ref a :: as ++ List.replicate (m - (as.length + 1)) (.long 0)) :
    X i pc L st h = if isO h[a]? ci = true then aft (X j 0 P [] h) (fun v h1 => X i (pc + 3) L (v ++ S) h1) else none := by
  have e1 := congrArg Prod.fst hm
  have e2 := congrArg (fun q => q.2.1) hm
  have e3 := congrArg (fun q => q.2.2) hm
  simp only at e1 e2 e3
  have hr := room_of h1 e1 h2
  subst hst
  by_cases ho : isO h[a]? ci = true
  · rw [if_pos ho, X_invV hd hl hr (by rw [e1]; exact hn) (by rw [e3]; exact ho), pad_of e2, hP]
    rfl
  · rw [if_neg ho]
    refine X_stuck hd ?_
    have g1 : ((as.reverse ++ .ref a :: S).take (mA j)).reverse = .ref a :: as := by
      rw [e1, ← hn, show as.reverse ++ .ref a :: S = (as.reverse ++ [.ref a]) ++ S by simp, List.take_left' (by simp)]
      simp
    simp only [act, invV, hl, hr, if_true, g1]
    split
    · rename_i c fs hq
      rw [if_neg]
      intro hc
      apply ho
      rw [hq, hc, e3]
      exact isO_some _ _
    · rfl
theorem X_invS' {as P st : List Value} {n m kd : Nat} (hd : decode (mB i) pc = .ok (.invokestatic idx, 3)) (hl : lref (mC i) idx = some (kd, j)) (hk : kd = 1 ∨ kd = 4) (h1 : (decide (mF j + 1 ≤ mF i) && decide (8 + (mL j + 11) + mW j ≤ mW i) && (!mZ j || mZ i) && decide (mA j ≤ mL j)) = true) (hm : (mA j, mL j) = (n, m)) (h2 : (Nat.ble (cs (st.drop n)) 8 && (st.take n).all cat1 && Nat.ble n st.length) = true) (hst : st = as.reverse ++ S) (hn : as.length = n) (hP : P = as ++ List.replicate (m - as.length) (.long 0)) :
    X i pc L st h = aft (X j 0 P [] h) (fun v h1 => X i (pc + 3) L (v ++ S) h1) := by
  have e1 := congrArg Prod.fst hm
  have e2 := congrArg Prod.snd hm
  simp only at e1 e2
  have hr := room_of h1 e1 h2
  subst hst
  rw [X_invS hd hl hk hr (by rw [e1]; exact hn), pad_of e2, hP]
end XE2
