section
/-! a name of the library that part 78 stands on: so the claim is read over the whole library from its first part on -/
theorem lib_nn {a b : UInt32} (ha : Jvm.FP.Core.fIsNaN a = false) (hb : Jvm.FP.Core.FFin b) (hz : ¬ Jvm.FP.Core.FZero b) : Jvm.FP.Core.fIsNaN (Jvm.FP.Core.fdiv a b) = false := Jvm.FP.Core.fdiv_out ha hb hz
end
section
-- ===== PART A: goes FIRST, ahead of the names: the tables' words, and 'selects' of the private methods out of them =====
/-- a private method of a class that the tables say can be made, by its rows of tables_1 -/
def lw_okq (q : MethodName × Nat) : Prop := (q.1.cls ≠ "java/lang/invoke/MethodHandle" ∧ q.1.cls ≠ "java/lang/invoke/VarHandle") ∧ Cond.instantiable q.1.cls q.2 ∈ tables_1 ∧ Cond.privateMethod q.1 ∈ tables_1 ∧ Cond.instanceMethod q.1 ∈ tables_1
theorem lw_p0 : lw_okq (⟨"IroningBaskets$Customers", "sumOf", "([I)I"⟩, 4) := ⟨⟨by decide +kernel, by decide +kernel⟩, List.mem_of_getElem? (i := 29) (by decide +kernel), List.mem_of_getElem? (i := 479) (by decide +kernel), List.mem_of_getElem? (i := 480) (by decide +kernel)⟩
theorem lw_p1 : lw_okq (⟨"IroningBaskets", "tryOrder", "(II)I"⟩, 6) := ⟨⟨by decide +kernel, by decide +kernel⟩, List.mem_of_getElem? (i := 15) (by decide +kernel), List.mem_of_getElem? (i := 495) (by decide +kernel), List.mem_of_getElem? (i := 496) (by decide +kernel)⟩
theorem lw_p2 : lw_okq (⟨"IroningBaskets$HangersOut", "dropEmptyBatches", "()V"⟩, 4) := ⟨⟨by decide +kernel, by decide +kernel⟩, List.mem_of_getElem? (i := 125) (by decide +kernel), List.mem_of_getElem? (i := 647) (by decide +kernel), List.mem_of_getElem? (i := 648) (by decide +kernel)⟩
def lw_privs_1 : List (MethodName × Nat) := [(⟨"IroningBaskets$Customers", "sumOf", "([I)I"⟩, 4), (⟨"IroningBaskets", "tryOrder", "(II)I"⟩, 6), (⟨"IroningBaskets$HangersOut", "dropEmptyBatches", "()V"⟩, 4)]
theorem lw_r1 : ∀ q ∈ lw_privs_1, lw_okq q := List.forall_mem_cons.mpr ⟨lw_p0, List.forall_mem_cons.mpr ⟨lw_p1, List.forall_mem_cons.mpr ⟨lw_p2, fun _ h => absurd h List.not_mem_nil⟩⟩⟩
def lw_privs : List (MethodName × Nat) := lw_privs_1
def lw_tbl : List Cond := k2_sels lw_privs ++ tables_1
theorem lw_privs_ok : ∀ q ∈ lw_privs, lw_okq q := lw_r1
/-- the streams that the claim lets the run draw from -/
abbrev lw_cs : List Choice := [Jvm.Choice.named "NaN.bits"]
theorem lw_bits : nanBits ∈ lw_cs := by first | decide | exact List.mem_cons_self | simp [lw_cs, nanBits]
/-! ===== BEGIN words of one list among another's, by their places ===== -/
theorem goodIn_r {big : List Cond} (ws : List Cond) (ps : List Nat) (hp : ws = ps.filterMap (fun i => big[i]?)) (h : ws.all goodWord = true) : GoodIn big ws := by
  intro w hw
  have h1 := List.all_eq_true.mp h w hw
  rw [hp] at hw
  obtain ⟨i, -, hi⟩ := List.mem_filterMap.mp hw
  have hm : w ∈ big := by first | exact List.mem_of_getElem? hi | exact List.getElem?_mem hi
  exact ⟨hm, good_of_word h1⟩
theorem goodIn_app {big a b : List Cond} (ha : GoodIn big a) (hb : GoodIn big b) : GoodIn big (a ++ b) := fun w h => (List.mem_append.mp h).elim (ha w) (hb w)
theorem goodIn_ca {big a b : List Cond} {c : Cond} (ha : GoodIn big (c :: a)) (hb : GoodIn big b) : GoodIn big (c :: (a ++ b)) := fun w h => (List.mem_cons.mp h).elim (fun e => ha w (List.mem_cons.mpr (Or.inl e))) (fun h => (List.mem_append.mp h).elim (fun h => ha w (List.mem_cons.mpr (Or.inr h))) (hb w))
theorem goodIn_sub {big ws : List Cond} (hm : ∀ w ∈ ws, w ∈ big) (h : ws.all goodWord = true) : GoodIn big ws := fun w hw => ⟨hm w hw, good_of_word (List.all_eq_true.mp h w hw)⟩
/-! ===== END ===== -/

/-! ===== BEGIN printed: names, fields, word lists, decode rows ===== -/
def RX0 : String := "IroningBaskets$Basket"
def TX0 : u_T := fun k => match k with
  | 0 => ("IroningBaskets$Basket", "number", "I", false)
  | 1 => ("IroningBaskets$Basket", "customer", "I", false)
  | 2 => ("IroningBaskets$Basket", "pin", "I", false)
  | 3 => ("IroningBaskets$Basket", "starch", "I", false)
  | 4 => ("IroningBaskets$Basket", "day", "I", false)
  | 5 => ("IroningBaskets$Basket", "pieces", "[I", true)
  | 6 => ("IroningBaskets$Basket", "ironed", "[I", true)
  | _ => ("IroningBaskets$Basket", "missed", "[I", true)
def tyX0 : Nat → FieldType := fun k => match k with
  | 0 => .int
  | 1 => .int
  | 2 => .int
  | 3 => .int
  | 4 => .int
  | 5 => .array .int
  | 6 => .array .int
  | _ => .array .int
abbrev wsX00 : List Cond := u_ws RX0 TX0 8
theorem nmX0 : ∀ a, a < 8 → ∀ b, b < 8 → a ≠ b → (TX0 a).2.1 ≠ (TX0 b).2.1 := by decide +kernel
theorem tyX0_ok : ∀ k, k < 8 → parseFieldDescriptor (TX0 k).2.2.1 = some (tyX0 k) := by decide +kernel
abbrev cX0_init : ByteArray := prog_2_method_1_code
def yX0_init : MethodName := ⟨RX0, "<init>", "()V"⟩
abbrev cX0_copyFrom : ByteArray := prog_2_method_2_code
def yX0_copyFrom : MethodName := ⟨RX0, "copyFrom", "(LIroningBaskets$Basket;)V"⟩
abbrev cX0_fill : ByteArray := prog_2_method_3_code
def yX0_fill : MethodName := ⟨RX0, "fill", "(I)V"⟩
abbrev cX0_asDigits : ByteArray := prog_2_method_4_code
def yX0_asDigits : MethodName := ⟨RX0, "asDigits", "([I)I"⟩
abbrev cX0_takesStarch : ByteArray := prog_2_method_5_code
def yX0_takesStarch : MethodName := ⟨RX0, "takesStarch", "(I)Z"⟩
abbrev cX0_takesHanger : ByteArray := prog_2_method_6_code
def yX0_takesHanger : MethodName := ⟨RX0, "takesHanger", "(I)Z"⟩
abbrev cX0_degree : ByteArray := prog_2_method_7_code
def yX0_degree : MethodName := ⟨RX0, "degree", "(I)I"⟩
abbrev cX0_minutes : ByteArray := prog_2_method_8_code
def yX0_minutes : MethodName := ⟨RX0, "minutes", "(I)I"⟩
abbrev cX0_open : ByteArray := prog_2_method_9_code
def yX0_open : MethodName := ⟨RX0, "open", "(I)I"⟩
abbrev cX0_openMinutes : ByteArray := prog_2_method_10_code
def yX0_openMinutes : MethodName := ⟨RX0, "openMinutes", "()I"⟩
abbrev cX0_lowestIronable : ByteArray := prog_2_method_11_code
def yX0_lowestIronable : MethodName := ⟨RX0, "lowestIronable", "(Z)I"⟩
abbrev cX0_misses : ByteArray := prog_2_method_12_code
def yX0_misses : MethodName := ⟨RX0, "misses", "(II)Z"⟩
abbrev cX0_isReady : ByteArray := prog_2_method_13_code
def yX0_isReady : MethodName := ⟨RX0, "isReady", "()Z"⟩
abbrev cX0_price : ByteArray := prog_2_method_14_code
def yX0_price : MethodName := ⟨RX0, "price", "()I"⟩
abbrev cX0_needingHangers : ByteArray := prog_2_method_15_code
def yX0_needingHangers : MethodName := ⟨RX0, "needingHangers", "([I)I"⟩
def RX1 : String := "IroningBaskets$BasketText"
def TX1 : u_T := fun k => match k with
  | 0 => ("IroningBaskets$BasketText", "characters", "[C", true)
  | 1 => ("IroningBaskets$BasketText", "length", "I", false)
  | 2 => ("IroningBaskets$BasketText", "baskets", "I", false)
  | 3 => ("IroningBaskets$BasketText", "customer", "[I", true)
  | 4 => ("IroningBaskets$BasketText", "pieces", "[I", true)
  | 5 => ("IroningBaskets$BasketText", "starch", "[I", true)
  | 6 => ("IroningBaskets$BasketText", "hangers", "[I", true)
  | 7 => ("IroningBaskets$BasketText", "place", "I", false)
  | _ => ("IroningBaskets$BasketText", "kind", "I", false)
def tyX1 : Nat → FieldType := fun k => match k with
  | 0 => .array .char
  | 1 => .int
  | 2 => .int
  | 3 => .array .int
  | 4 => .array .int
  | 5 => .array .int
  | 6 => .array .int
  | 7 => .int
  | _ => .int
abbrev wsX10 : List Cond := u_ws RX1 TX1 9
theorem nmX1 : ∀ a, a < 9 → ∀ b, b < 9 → a ≠ b → (TX1 a).2.1 ≠ (TX1 b).2.1 := by decide +kernel
theorem tyX1_ok : ∀ k, k < 9 → parseFieldDescriptor (TX1 k).2.2.1 = some (tyX1 k) := by decide +kernel
abbrev cX1_init : ByteArray := prog_3_method_1_code
def yX1_init : MethodName := ⟨RX1, "<init>", "()V"⟩
def RX2 : String := "IroningBaskets$Board"
def TX2 : u_T := fun k => match k with
  | 0 => ("IroningBaskets$Board", "pot", "I", false)
  | 1 => ("IroningBaskets$Board", "stirred", "I", false)
  | 2 => ("IroningBaskets$Board", "pieces", "I", false)
  | _ => ("IroningBaskets$Board", "minutes", "I", false)
def tyX2 : Nat → FieldType := fun k => match k with
  | 0 => .int
  | 1 => .int
  | 2 => .int
  | _ => .int
abbrev wsX20 : List Cond := u_ws RX2 TX2 4
theorem nmX2 : ∀ a, a < 4 → ∀ b, b < 4 → a ≠ b → (TX2 a).2.1 ≠ (TX2 b).2.1 := by decide +kernel
theorem tyX2_ok : ∀ k, k < 4 → parseFieldDescriptor (TX2 k).2.2.1 = some (tyX2 k) := by decide +kernel
abbrev cX2_init : ByteArray := prog_4_method_1_code
def yX2_init : MethodName := ⟨RX2, "<init>", "()V"⟩
abbrev cX2_copyFrom : ByteArray := prog_4_method_2_code
def yX2_copyFrom : MethodName := ⟨RX2, "copyFrom", "(LIroningBaskets$Board;)V"⟩
def RX3 : String := "IroningBaskets$Customers"
def TX3 : u_T := fun k => match k with
  | 0 => ("IroningBaskets$Customers", "number", "I", false)
  | 1 => ("IroningBaskets$Customers", "district", "[I", true)
  | 2 => ("IroningBaskets$Customers", "owes", "[I", true)
  | _ => ("IroningBaskets$Customers", "hangersPaid", "[I", true)
def tyX3 : Nat → FieldType := fun k => match k with
  | 0 => .int
  | 1 => .array .int
  | 2 => .array .int
  | _ => .array .int
abbrev wsX30 : List Cond := u_ws RX3 TX3 4
theorem nmX3 : ∀ a, a < 4 → ∀ b, b < 4 → a ≠ b → (TX3 a).2.1 ≠ (TX3 b).2.1 := by decide +kernel
theorem tyX3_ok : ∀ k, k < 4 → parseFieldDescriptor (TX3 k).2.2.1 = some (tyX3 k) := by decide +kernel
abbrev cX3_init : ByteArray := prog_5_method_1_code
def yX3_init : MethodName := ⟨RX3, "<init>", "()V"⟩
abbrev cX3_copyFrom : ByteArray := prog_5_method_2_code
def yX3_copyFrom : MethodName := ⟨RX3, "copyFrom", "(LIroningBaskets$Customers;)V"⟩
abbrev cX3_has : ByteArray := prog_5_method_3_code
def yX3_has : MethodName := ⟨RX3, "has", "(I)Z"⟩
abbrev cX3_enter : ByteArray := prog_5_method_4_code
def yX3_enter : MethodName := ⟨RX3, "enter", "(I)I"⟩
abbrev cX3_owedByAll : ByteArray := prog_5_method_5_code
def yX3_owedByAll : MethodName := ⟨RX3, "owedByAll", "()I"⟩
abbrev cX3_hangersPaidByAll : ByteArray := prog_5_method_6_code
def yX3_hangersPaidByAll : MethodName := ⟨RX3, "hangersPaidByAll", "()I"⟩
abbrev cX3_sumOf : ByteArray := prog_5_method_7_code
def yX3_sumOf : MethodName := ⟨RX3, "sumOf", "([I)I"⟩
def RX4 : String := "IroningBaskets$HangersOut"
def TX4 : u_T := fun k => match k with
  | 0 => ("IroningBaskets$HangersOut", "customer", "[I", true)
  | 1 => ("IroningBaskets$HangersOut", "day", "[I", true)
  | 2 => ("IroningBaskets$HangersOut", "hangers", "[I", true)
  | _ => ("IroningBaskets$HangersOut", "batches", "I", false)
def tyX4 : Nat → FieldType := fun k => match k with
  | 0 => .array .int
  | 1 => .array .int
  | 2 => .array .int
  | _ => .int
abbrev wsX40 : List Cond := u_ws RX4 TX4 4
theorem nmX4 : ∀ a, a < 4 → ∀ b, b < 4 → a ≠ b → (TX4 a).2.1 ≠ (TX4 b).2.1 := by decide +kernel
theorem tyX4_ok : ∀ k, k < 4 → parseFieldDescriptor (TX4 k).2.2.1 = some (tyX4 k) := by decide +kernel
abbrev cX4_init : ByteArray := prog_6_method_1_code
def yX4_init : MethodName := ⟨RX4, "<init>", "()V"⟩
abbrev cX4_copyFrom : ByteArray := prog_6_method_2_code
def yX4_copyFrom : MethodName := ⟨RX4, "copyFrom", "(LIroningBaskets$HangersOut;)V"⟩
abbrev cX4_send : ByteArray := prog_6_method_3_code
def yX4_send : MethodName := ⟨RX4, "send", "(III)V"⟩
abbrev cX4_outTo : ByteArray := prog_6_method_4_code
def yX4_outTo : MethodName := ⟨RX4, "outTo", "(I)I"⟩
abbrev cX4_outToAll : ByteArray := prog_6_method_5_code
def yX4_outToAll : MethodName := ⟨RX4, "outToAll", "()I"⟩
abbrev cX4_firstDay : ByteArray := prog_6_method_6_code
def yX4_firstDay : MethodName := ⟨RX4, "firstDay", "(I)I"⟩
abbrev cX4_takeBack : ByteArray := prog_6_method_7_code
def yX4_takeBack : MethodName := ⟨RX4, "takeBack", "(II)V"⟩
abbrev cX4_anyFromBefore : ByteArray := prog_6_method_8_code
def yX4_anyFromBefore : MethodName := ⟨RX4, "anyFromBefore", "(I)Z"⟩
abbrev cX4_takeFromBefore : ByteArray := prog_6_method_9_code
def yX4_takeFromBefore : MethodName := ⟨RX4, "takeFromBefore", "(II)I"⟩
abbrev cX4_dropEmptyBatches : ByteArray := prog_6_method_10_code
def yX4_dropEmptyBatches : MethodName := ⟨RX4, "dropEmptyBatches", "()V"⟩
def RX5 : String := "IroningBaskets$History"
def TX5 : u_T := fun k => match k with
  | 0 => ("IroningBaskets$History", "kept", "[LIroningBaskets$State;", true)
  | 1 => ("IroningBaskets$History", "states", "I", false)
  | _ => ("IroningBaskets$History", "latest", "I", false)
def tyX5 : Nat → FieldType := fun k => match k with
  | 0 => .array (.object "IroningBaskets$State")
  | 1 => .int
  | _ => .int
abbrev wsX50 : List Cond := u_ws RX5 TX5 3
theorem nmX5 : ∀ a, a < 3 → ∀ b, b < 3 → a ≠ b → (TX5 a).2.1 ≠ (TX5 b).2.1 := by decide +kernel
theorem tyX5_ok : ∀ k, k < 3 → parseFieldDescriptor (TX5 k).2.2.1 = some (tyX5 k) := by decide +kernel
abbrev cX5_init : ByteArray := prog_7_method_1_code
def yX5_init : MethodName := ⟨RX5, "<init>", "()V"⟩
abbrev cX5_push : ByteArray := prog_7_method_2_code
def yX5_push : MethodName := ⟨RX5, "push", "(LIroningBaskets$State;)V"⟩
abbrev cX5_popInto : ByteArray := prog_7_method_3_code
def yX5_popInto : MethodName := ⟨RX5, "popInto", "(LIroningBaskets$State;)V"⟩
def RX6 : String := "IroningBaskets$Journal"
def TX6 : u_T := fun k => match k with
  | 0 => ("IroningBaskets$Journal", "cells", "[I", true)
  | 1 => ("IroningBaskets$Journal", "known", "I", false)
  | _ => ("IroningBaskets$Journal", "latest", "I", false)
def tyX6 : Nat → FieldType := fun k => match k with
  | 0 => .array .int
  | 1 => .int
  | _ => .int
abbrev wsX60 : List Cond := u_ws RX6 TX6 3
theorem nmX6 : ∀ a, a < 3 → ∀ b, b < 3 → a ≠ b → (TX6 a).2.1 ≠ (TX6 b).2.1 := by decide +kernel
theorem tyX6_ok : ∀ k, k < 3 → parseFieldDescriptor (TX6 k).2.2.1 = some (tyX6 k) := by decide +kernel
abbrev cX6_init : ByteArray := prog_8_method_1_code
def yX6_init : MethodName := ⟨RX6, "<init>", "()V"⟩
abbrev cX6_copyFrom : ByteArray := prog_8_method_2_code
def yX6_copyFrom : MethodName := ⟨RX6, "copyFrom", "(LIroningBaskets$Journal;)V"⟩
abbrev cX6_write : ByteArray := prog_8_method_3_code
def yX6_write : MethodName := ⟨RX6, "write", "(IIII)V"⟩
abbrev cX6_tell : ByteArray := prog_8_method_4_code
def yX6_tell : MethodName := ⟨RX6, "tell", "(II)I"⟩
def RX7 : String := "IroningBaskets$PinlessPieces"
def TX7 : u_T := fun k => match k with
  | 0 => ("IroningBaskets$PinlessPieces", "kind", "[I", true)
  | 1 => ("IroningBaskets$PinlessPieces", "degree", "[I", true)
  | _ => ("IroningBaskets$PinlessPieces", "number", "I", false)
def tyX7 : Nat → FieldType := fun k => match k with
  | 0 => .array .int
  | 1 => .array .int
  | _ => .int
abbrev wsX70 : List Cond := u_ws RX7 TX7 3
theorem nmX7 : ∀ a, a < 3 → ∀ b, b < 3 → a ≠ b → (TX7 a).2.1 ≠ (TX7 b).2.1 := by decide +kernel
theorem tyX7_ok : ∀ k, k < 3 → parseFieldDescriptor (TX7 k).2.2.1 = some (tyX7 k) := by decide +kernel
abbrev cX7_init : ByteArray := prog_9_method_1_code
def yX7_init : MethodName := ⟨RX7, "<init>", "()V"⟩
abbrev cX7_copyFrom : ByteArray := prog_9_method_2_code
def yX7_copyFrom : MethodName := ⟨RX7, "copyFrom", "(LIroningBaskets$PinlessPieces;)V"⟩
abbrev cX7_has : ByteArray := prog_9_method_3_code
def yX7_has : MethodName := ⟨RX7, "has", "(I)Z"⟩
abbrev cX7_append : ByteArray := prog_9_method_4_code
def yX7_append : MethodName := ⟨RX7, "append", "(II)V"⟩
abbrev cX7_removeAt : ByteArray := prog_9_method_5_code
def yX7_removeAt : MethodName := ⟨RX7, "removeAt", "(I)V"⟩
def RX8 : String := "IroningBaskets$Shelf"
def TX8 : u_T := fun k => match k with
  | 0 => ("IroningBaskets$Shelf", "baskets", "[LIroningBaskets$Basket;", true)
  | 1 => ("IroningBaskets$Shelf", "number", "I", false)
  | _ => ("IroningBaskets$Shelf", "came", "I", false)
def tyX8 : Nat → FieldType := fun k => match k with
  | 0 => .array (.object "IroningBaskets$Basket")
  | 1 => .int
  | _ => .int
abbrev wsX80 : List Cond := u_ws RX8 TX8 3
theorem nmX8 : ∀ a, a < 3 → ∀ b, b < 3 → a ≠ b → (TX8 a).2.1 ≠ (TX8 b).2.1 := by decide +kernel
theorem tyX8_ok : ∀ k, k < 3 → parseFieldDescriptor (TX8 k).2.2.1 = some (tyX8 k) := by decide +kernel
abbrev cX8_init : ByteArray := prog_10_method_1_code
def yX8_init : MethodName := ⟨RX8, "<init>", "()V"⟩
abbrev cX8_copyFrom : ByteArray := prog_10_method_2_code
def yX8_copyFrom : MethodName := ⟨RX8, "copyFrom", "(LIroningBaskets$Shelf;)V"⟩
abbrev cX8_isFull : ByteArray := prog_10_method_3_code
def yX8_isFull : MethodName := ⟨RX8, "isFull", "()Z"⟩
abbrev cX8_add : ByteArray := prog_10_method_4_code
def yX8_add : MethodName := ⟨RX8, "add", "()LIroningBaskets$Basket;"⟩
abbrev cX8_lowestFreePin : ByteArray := prog_10_method_5_code
def yX8_lowestFreePin : MethodName := ⟨RX8, "lowestFreePin", "()I"⟩
abbrev cX8_withNumber : ByteArray := prog_10_method_6_code
def yX8_withNumber : MethodName := ⟨RX8, "withNumber", "(I)LIroningBaskets$Basket;"⟩
abbrev cX8_numberFrom : ByteArray := prog_10_method_7_code
def yX8_numberFrom : MethodName := ⟨RX8, "numberFrom", "(I)I"⟩
abbrev cX8_numberReady : ByteArray := prog_10_method_8_code
def yX8_numberReady : MethodName := ⟨RX8, "numberReady", "()I"⟩
abbrev cX8_numberMissing : ByteArray := prog_10_method_9_code
def yX8_numberMissing : MethodName := ⟨RX8, "numberMissing", "(II)I"⟩
abbrev cX8_lowestMissing : ByteArray := prog_10_method_10_code
def yX8_lowestMissing : MethodName := ⟨RX8, "lowestMissing", "(II)I"⟩
abbrev cX8_hangersOnPieces : ByteArray := prog_10_method_11_code
def yX8_hangersOnPieces : MethodName := ⟨RX8, "hangersOnPieces", "()I"⟩
def RX9 : String := "IroningBaskets$State"
def TX9 : u_T := fun k => match k with
  | 0 => ("IroningBaskets$State", "day", "I", false)
  | 1 => ("IroningBaskets$State", "stock", "I", false)
  | 2 => ("IroningBaskets$State", "bought", "I", false)
  | 3 => ("IroningBaskets$State", "coinsPaid", "I", false)
  | 4 => ("IroningBaskets$State", "settings", "[I", true)
  | 5 => ("IroningBaskets$State", "visits", "[I", true)
  | 6 => ("IroningBaskets$State", "customers", "LIroningBaskets$Customers;", true)
  | 7 => ("IroningBaskets$State", "shelf", "LIroningBaskets$Shelf;", true)
  | 8 => ("IroningBaskets$State", "out", "LIroningBaskets$HangersOut;", true)
  | 9 => ("IroningBaskets$State", "pinless", "LIroningBaskets$PinlessPieces;", true)
  | 10 => ("IroningBaskets$State", "board", "LIroningBaskets$Board;", true)
  | _ => ("IroningBaskets$State", "journal", "LIroningBaskets$Journal;", true)
def tyX9 : Nat → FieldType := fun k => match k with
  | 0 => .int
  | 1 => .int
  | 2 => .int
  | 3 => .int
  | 4 => .array .int
  | 5 => .array .int
  | 6 => .object "IroningBaskets$Customers"
  | 7 => .object "IroningBaskets$Shelf"
  | 8 => .object "IroningBaskets$HangersOut"
  | 9 => .object "IroningBaskets$PinlessPieces"
  | 10 => .object "IroningBaskets$Board"
  | _ => .object "IroningBaskets$Journal"
abbrev wsX90 : List Cond := u_ws RX9 TX9 12
theorem nmX9 : ∀ a, a < 12 → ∀ b, b < 12 → a ≠ b → (TX9 a).2.1 ≠ (TX9 b).2.1 := by decide +kernel
theorem tyX9_ok : ∀ k, k < 12 → parseFieldDescriptor (TX9 k).2.2.1 = some (tyX9 k) := by decide +kernel
abbrev cX9_init : ByteArray := prog_11_method_1_code
def yX9_init : MethodName := ⟨RX9, "<init>", "()V"⟩
abbrev cX9_copyFrom : ByteArray := prog_11_method_2_code
def yX9_copyFrom : MethodName := ⟨RX9, "copyFrom", "(LIroningBaskets$State;)V"⟩
abbrev cX9_refusal : ByteArray := prog_11_method_3_code
def yX9_refusal : MethodName := ⟨RX9, "refusal", "(IIII)I"⟩
abbrev cX9_receive : ByteArray := prog_11_method_4_code
def yX9_receive : MethodName := ⟨RX9, "receive", "(IIII)I"⟩
abbrev cX9_hangersOfTheService : ByteArray := prog_11_method_5_code
def yX9_hangersOfTheService : MethodName := ⟨RX9, "hangersOfTheService", "()I"⟩
abbrev cX9_nextVisit : ByteArray := prog_11_method_6_code
def yX9_nextVisit : MethodName := ⟨RX9, "nextVisit", "(I)I"⟩
abbrev cX9_isVisited : ByteArray := prog_11_method_7_code
def yX9_isVisited : MethodName := ⟨RX9, "isVisited", "(II)Z"⟩
abbrev cX9_turn : ByteArray := prog_11_method_8_code
def yX9_turn : MethodName := ⟨RX9, "turn", "(LIroningBaskets$Basket;)I"⟩
abbrev cX9_basketAtRank : ByteArray := prog_11_method_9_code
def yX9_basketAtRank : MethodName := ⟨RX9, "basketAtRank", "(I)I"⟩
abbrev cX9_rankOf : ByteArray := prog_11_method_10_code
def yX9_rankOf : MethodName := ⟨RX9, "rankOf", "(I)I"⟩
abbrev cX9_nextToIron : ByteArray := prog_11_method_11_code
def yX9_nextToIron : MethodName := ⟨RX9, "nextToIron", "()LIroningBaskets$Basket;"⟩
abbrev cX9_ironFor : ByteArray := prog_11_method_12_code
def yX9_ironFor : MethodName := ⟨RX9, "ironFor", "(I)I"⟩
abbrev cX9_ironNext : ByteArray := prog_11_method_13_code
def yX9_ironNext : MethodName := ⟨RX9, "ironNext", "(LIroningBaskets$Basket;I)I"⟩
abbrev cX9_nextDay : ByteArray := prog_11_method_14_code
def yX9_nextDay : MethodName := ⟨RX9, "nextDay", "()I"⟩
abbrev cX9_chargeHangers : ByteArray := prog_11_method_15_code
def yX9_chargeHangers : MethodName := ⟨RX9, "chargeHangers", "()V"⟩
abbrev cX9_loadVan : ByteArray := prog_11_method_16_code
def yX9_loadVan : MethodName := ⟨RX9, "loadVan", "()I"⟩
abbrev cX9_handOver : ByteArray := prog_11_method_17_code
def yX9_handOver : MethodName := ⟨RX9, "handOver", "(LIroningBaskets$Basket;)V"⟩
def RX10 : String := "IroningBaskets"
def TX10 : u_T := fun k => match k with
  | 0 => ("IroningBaskets", "now", "LIroningBaskets$State;", true)
  | 1 => ("IroningBaskets", "snapshot", "LIroningBaskets$State;", true)
  | 2 => ("IroningBaskets", "trial", "LIroningBaskets$State;", true)
  | 3 => ("IroningBaskets", "history", "LIroningBaskets$History;", true)
  | 4 => ("IroningBaskets", "text", "LIroningBaskets$BasketText;", true)
  | _ => ("IroningBaskets", "kept", "Z", false)
def tyX10 : Nat → FieldType := fun k => match k with
  | 0 => .object "IroningBaskets$State"
  | 1 => .object "IroningBaskets$State"
  | 2 => .object "IroningBaskets$State"
  | 3 => .object "IroningBaskets$History"
  | 4 => .object "IroningBaskets$BasketText"
  | _ => .boolean
abbrev wsX100 : List Cond := u_ws RX10 TX10 6
theorem nmX10 : ∀ a, a < 6 → ∀ b, b < 6 → a ≠ b → (TX10 a).2.1 ≠ (TX10 b).2.1 := by decide +kernel
theorem tyX10_ok : ∀ k, k < 6 → parseFieldDescriptor (TX10 k).2.2.1 = some (tyX10 k) := by decide +kernel
abbrev cX10_init : ByteArray := prog_1_method_1_code
def yX10_init : MethodName := ⟨RX10, "<init>", "()V"⟩
abbrev cX10_customer : ByteArray := prog_1_method_2_code
def yX10_customer : MethodName := ⟨RX10, "customer", "(I)I"⟩
abbrev cX10_visit : ByteArray := prog_1_method_3_code
def yX10_visit : MethodName := ⟨RX10, "visit", "(II)I"⟩
abbrev cX10_basket : ByteArray := prog_1_method_4_code
def yX10_basket : MethodName := ⟨RX10, "basket", "(IIII)I"⟩
abbrev cX10_lose : ByteArray := prog_1_method_6_code
def yX10_lose : MethodName := ⟨RX10, "lose", "(II)I"⟩
abbrev cX10_find : ByteArray := prog_1_method_7_code
def yX10_find : MethodName := ⟨RX10, "find", "(II)I"⟩
abbrev cX10_iron : ByteArray := prog_1_method_8_code
def yX10_iron : MethodName := ⟨RX10, "iron", "(I)I"⟩
abbrev cX10_pass : ByteArray := prog_1_method_9_code
def yX10_pass : MethodName := ⟨RX10, "pass", "(I)I"⟩
abbrev cX10_buy : ByteArray := prog_1_method_10_code
def yX10_buy : MethodName := ⟨RX10, "buy", "(I)I"⟩
abbrev cX10_pay : ByteArray := prog_1_method_11_code
def yX10_pay : MethodName := ⟨RX10, "pay", "(I)I"⟩
abbrev cX10_set : ByteArray := prog_1_method_12_code
def yX10_set : MethodName := ⟨RX10, "set", "(II)I"⟩
abbrev cX10_undo : ByteArray := prog_1_method_16_code
def yX10_undo : MethodName := ⟨RX10, "undo", "()I"⟩
abbrev cX10_keep : ByteArray := prog_1_method_17_code
def yX10_keep : MethodName := ⟨RX10, "keep", "()I"⟩
abbrev cX10_restore : ByteArray := prog_1_method_18_code
def yX10_restore : MethodName := ⟨RX10, "restore", "()I"⟩
abbrev cX10_customerOf : ByteArray := prog_1_method_19_code
def yX10_customerOf : MethodName := ⟨RX10, "customerOf", "(II)I"⟩
abbrev cX10_basketOf : ByteArray := prog_1_method_20_code
def yX10_basketOf : MethodName := ⟨RX10, "basketOf", "(II)I"⟩
abbrev cX10_lost : ByteArray := prog_1_method_21_code
def yX10_lost : MethodName := ⟨RX10, "lost", "(II)I"⟩
abbrev cX10_ordered : ByteArray := prog_1_method_22_code
def yX10_ordered : MethodName := ⟨RX10, "ordered", "(I)I"⟩
abbrev cX10_book : ByteArray := prog_1_method_23_code
def yX10_book : MethodName := ⟨RX10, "book", "(II)I"⟩
abbrev cX10_count : ByteArray := prog_1_method_24_code
def yX10_count : MethodName := ⟨RX10, "count", "(I)I"⟩
abbrev cX10_meanMinutes : ByteArray := prog_1_method_25_code
def yX10_meanMinutes : MethodName := ⟨RX10, "meanMinutes", "()F"⟩
abbrev cX10_ifIroned : ByteArray := prog_1_method_26_code
def yX10_ifIroned : MethodName := ⟨RX10, "ifIroned", "(III)I"⟩
abbrev cX10_tryOrder : ByteArray := prog_1_method_31_code
def yX10_tryOrder : MethodName := ⟨RX10, "tryOrder", "(II)I"⟩
abbrev cX10_within : ByteArray := prog_1_method_32_code
def yX10_within : MethodName := ⟨RX10, "within", "(III)Z"⟩
abbrev cX10_lowest : ByteArray := prog_1_method_33_code
def yX10_lowest : MethodName := ⟨RX10, "lowest", "(I)I"⟩
abbrev cX10_highest : ByteArray := prog_1_method_34_code
def yX10_highest : MethodName := ⟨RX10, "highest", "(I)I"⟩
def RX11 : String := "IroningBasketsModel"
def TX11 : u_T := fun k => match k with
  | _ => ("", "", "", false)
def tyX11 : Nat → FieldType := fun k => match k with
  | _ => .int
abbrev wsX110 : List Cond := u_ws RX11 TX11 0
theorem nmX11 : ∀ a, a < 0 → ∀ b, b < 0 → a ≠ b → (TX11 a).2.1 ≠ (TX11 b).2.1 := by decide +kernel
theorem tyX11_ok : ∀ k, k < 0 → parseFieldDescriptor (TX11 k).2.2.1 = some (tyX11 k) := by decide +kernel
def RJ9 : String := "java/lang/Math"
def TJ9 : u_T := fun k => match k with
  | _ => ("", "", "", false)
def tyJ9 : Nat → FieldType := fun k => match k with
  | _ => .int
abbrev wsJ90 : List Cond := u_ws RJ9 TJ9 0
theorem nmJ9 : ∀ a, a < 0 → ∀ b, b < 0 → a ≠ b → (TJ9 a).2.1 ≠ (TJ9 b).2.1 := by decide +kernel
theorem tyJ9_ok : ∀ k, k < 0 → parseFieldDescriptor (TJ9 k).2.2.1 = some (tyJ9 k) := by decide +kernel
abbrev cJ9_min_7cf53 : ByteArray := prog_14_method_69_code
def yJ9_min_7cf53 : MethodName := ⟨RJ9, "min", "(II)I"⟩
def RJ10 : String := "java/lang/System"
def TJ10 : u_T := fun k => match k with
  | _ => ("", "", "", false)
def tyJ10 : Nat → FieldType := fun k => match k with
  | _ => .int
abbrev wsJ100 : List Cond := u_ws RJ10 TJ10 0
theorem nmJ10 : ∀ a, a < 0 → ∀ b, b < 0 → a ≠ b → (TJ10 a).2.1 ≠ (TJ10 b).2.1 := by decide +kernel
theorem tyJ10_ok : ∀ k, k < 0 → parseFieldDescriptor (TJ10 k).2.2.1 = some (tyJ10 k) := by decide +kernel
def RL : String := "IroningBasketsLaw"
abbrev cL_cell : ByteArray := method_2_code
def yL_cell : MethodName := ⟨RL, "cell", "([II)I"⟩
abbrev cL_low : ByteArray := method_3_code
def yL_low : MethodName := ⟨RL, "low", "(II)I"⟩
abbrev cL_told : ByteArray := method_4_code
def yL_told : MethodName := ⟨RL, "told", "(LIroningBaskets;)J"⟩
abbrev cL_act : ByteArray := method_5_code
def yL_act : MethodName := ⟨RL, "act", "(LIroningBaskets;II)I"⟩
abbrev cL_holds : ByteArray := method_6_code
def yL_holds : MethodName := ⟨RL, "holds", "(LIroningBaskets;)Z"⟩
abbrev cL_law : ByteArray := code
def yL_law : MethodName := ⟨RL, "law", "([I)Z"⟩
abbrev vwCl : List vw_C := [(RX0, TX0, 8), (RX1, TX1, 9), (RX2, TX2, 4), (RX3, TX3, 4), (RX4, TX4, 4), (RX5, TX5, 3), (RX6, TX6, 3), (RX7, TX7, 3), (RX8, TX8, 3), (RX9, TX9, 12), (RX10, TX10, 6), (RX10, TX10, 6)]
/-- the words that a call may take along -/
def gw : List Cond := lw_tbl.filter goodWord
theorem gw_good : ∀ w ∈ gw, goodWord w = true := fun w h => (List.mem_filter.mp h).2
theorem gw_tbl : ∀ w ∈ gw, w ∈ lw_tbl := fun w h => (List.mem_filter.mp h).1
theorem gw_in {w : Cond} (h : w ∈ lw_tbl) (g : goodWord w = true) : w ∈ gw := List.mem_filter.mpr ⟨h, g⟩
end
