section
-- ===== PART A: goes FIRST, ahead of the names: the tables' words, and 'selects' of the private methods out of them =====
/-- a private method of a class that the tables say can be made, by its rows of tables_1 -/
def lw_okq (q : MethodName × Nat) : Prop := (q.1.cls ≠ "java/lang/invoke/MethodHandle" ∧ q.1.cls ≠ "java/lang/invoke/VarHandle") ∧ Cond.instantiable q.1.cls q.2 ∈ tables_1 ∧ Cond.privateMethod q.1 ∈ tables_1 ∧ Cond.instanceMethod q.1 ∈ tables_1
theorem lw_p0 : lw_okq (⟨"IroningBaskets$HangersOut", "dropEmptyBatches", "()V"⟩, 4) := ⟨⟨by decide +kernel, by decide +kernel⟩, List.mem_of_getElem? (i := 127) (by decide +kernel), List.mem_of_getElem? (i := 443) (by decide +kernel), List.mem_of_getElem? (i := 444) (by decide +kernel)⟩
theorem lw_p1 : lw_okq (⟨"IroningBaskets$BasketText", "take", "(C)Z"⟩, 9) := ⟨⟨by decide +kernel, by decide +kernel⟩, List.mem_of_getElem? (i := 277) (by decide +kernel), List.mem_of_getElem? (i := 460) (by decide +kernel), List.mem_of_getElem? (i := 461) (by decide +kernel)⟩
theorem lw_p2 : lw_okq (⟨"IroningBaskets$BasketText", "takeCustomer", "(C)Z"⟩, 9) := ⟨⟨by decide +kernel, by decide +kernel⟩, List.mem_of_getElem? (i := 277) (by decide +kernel), List.mem_of_getElem? (i := 464) (by decide +kernel), List.mem_of_getElem? (i := 465) (by decide +kernel)⟩
theorem lw_p3 : lw_okq (⟨"IroningBaskets$BasketText", "takeSign", "(CCI)Z"⟩, 9) := ⟨⟨by decide +kernel, by decide +kernel⟩, List.mem_of_getElem? (i := 277) (by decide +kernel), List.mem_of_getElem? (i := 471) (by decide +kernel), List.mem_of_getElem? (i := 472) (by decide +kernel)⟩
theorem lw_p4 : lw_okq (⟨"IroningBaskets$BasketText", "takeKind", "(C)Z"⟩, 9) := ⟨⟨by decide +kernel, by decide +kernel⟩, List.mem_of_getElem? (i := 277) (by decide +kernel), List.mem_of_getElem? (i := 475) (by decide +kernel), List.mem_of_getElem? (i := 476) (by decide +kernel)⟩
theorem lw_p5 : lw_okq (⟨"IroningBaskets$BasketText", "takePieces", "(C)Z"⟩, 9) := ⟨⟨by decide +kernel, by decide +kernel⟩, List.mem_of_getElem? (i := 277) (by decide +kernel), List.mem_of_getElem? (i := 482) (by decide +kernel), List.mem_of_getElem? (i := 483) (by decide +kernel)⟩
theorem lw_p6 : lw_okq (⟨"IroningBaskets$BasketText", "takeEnding", "(C)Z"⟩, 9) := ⟨⟨by decide +kernel, by decide +kernel⟩, List.mem_of_getElem? (i := 277) (by decide +kernel), List.mem_of_getElem? (i := 487) (by decide +kernel), List.mem_of_getElem? (i := 488) (by decide +kernel)⟩
theorem lw_p7 : lw_okq (⟨"IroningBaskets$BasketText", "takeStarch", "(C)Z"⟩, 9) := ⟨⟨by decide +kernel, by decide +kernel⟩, List.mem_of_getElem? (i := 277) (by decide +kernel), List.mem_of_getElem? (i := 491) (by decide +kernel), List.mem_of_getElem? (i := 492) (by decide +kernel)⟩
theorem lw_p8 : lw_okq (⟨"IroningBaskets$BasketText", "takeHangers", "(CI)Z"⟩, 9) := ⟨⟨by decide +kernel, by decide +kernel⟩, List.mem_of_getElem? (i := 277) (by decide +kernel), List.mem_of_getElem? (i := 495) (by decide +kernel), List.mem_of_getElem? (i := 496) (by decide +kernel)⟩
theorem lw_p9 : lw_okq (⟨"IroningBaskets$BasketText", "mayEnd", "()Z"⟩, 9) := ⟨⟨by decide +kernel, by decide +kernel⟩, List.mem_of_getElem? (i := 277) (by decide +kernel), List.mem_of_getElem? (i := 499) (by decide +kernel), List.mem_of_getElem? (i := 500) (by decide +kernel)⟩
theorem lw_p10 : lw_okq (⟨"IroningBaskets$Customers", "sumOf", "([I)I"⟩, 4) := ⟨⟨by decide +kernel, by decide +kernel⟩, List.mem_of_getElem? (i := 30) (by decide +kernel), List.mem_of_getElem? (i := 774) (by decide +kernel), List.mem_of_getElem? (i := 775) (by decide +kernel)⟩
theorem lw_p11 : lw_okq (⟨"IroningBaskets", "tryOrder", "(II)I"⟩, 6) := ⟨⟨by decide +kernel, by decide +kernel⟩, List.mem_of_getElem? (i := 16) (by decide +kernel), List.mem_of_getElem? (i := 790) (by decide +kernel), List.mem_of_getElem? (i := 791) (by decide +kernel)⟩
theorem lw_p12 : lw_okq (⟨"IroningBasketsModel", "records", "()V"⟩, 13) := ⟨⟨by decide +kernel, by decide +kernel⟩, List.mem_of_getElem? (i := 817) (by decide +kernel), List.mem_of_getElem? (i := 870) (by decide +kernel), List.mem_of_getElem? (i := 871) (by decide +kernel)⟩
theorem lw_p13 : lw_okq (⟨"IroningBasketsModel", "layCustomer", "(III)V"⟩, 13) := ⟨⟨by decide +kernel, by decide +kernel⟩, List.mem_of_getElem? (i := 817) (by decide +kernel), List.mem_of_getElem? (i := 874) (by decide +kernel), List.mem_of_getElem? (i := 875) (by decide +kernel)⟩
theorem lw_p14 : lw_okq (⟨"IroningBasketsModel", "refusesBasket", "(IIII)I"⟩, 13) := ⟨⟨by decide +kernel, by decide +kernel⟩, List.mem_of_getElem? (i := 817) (by decide +kernel), List.mem_of_getElem? (i := 886) (by decide +kernel), List.mem_of_getElem? (i := 887) (by decide +kernel)⟩
theorem lw_p15 : lw_okq (⟨"IroningBasketsModel", "isCustomer", "(I)Z"⟩, 13) := ⟨⟨by decide +kernel, by decide +kernel⟩, List.mem_of_getElem? (i := 817) (by decide +kernel), List.mem_of_getElem? (i := 890) (by decide +kernel), List.mem_of_getElem? (i := 891) (by decide +kernel)⟩
def lw_privs_1 : List (MethodName × Nat) := [(⟨"IroningBaskets$HangersOut", "dropEmptyBatches", "()V"⟩, 4), (⟨"IroningBaskets$BasketText", "take", "(C)Z"⟩, 9), (⟨"IroningBaskets$BasketText", "takeCustomer", "(C)Z"⟩, 9), (⟨"IroningBaskets$BasketText", "takeSign", "(CCI)Z"⟩, 9), (⟨"IroningBaskets$BasketText", "takeKind", "(C)Z"⟩, 9), (⟨"IroningBaskets$BasketText", "takePieces", "(C)Z"⟩, 9), (⟨"IroningBaskets$BasketText", "takeEnding", "(C)Z"⟩, 9), (⟨"IroningBaskets$BasketText", "takeStarch", "(C)Z"⟩, 9), (⟨"IroningBaskets$BasketText", "takeHangers", "(CI)Z"⟩, 9), (⟨"IroningBaskets$BasketText", "mayEnd", "()Z"⟩, 9), (⟨"IroningBaskets$Customers", "sumOf", "([I)I"⟩, 4), (⟨"IroningBaskets", "tryOrder", "(II)I"⟩, 6), (⟨"IroningBasketsModel", "records", "()V"⟩, 13), (⟨"IroningBasketsModel", "layCustomer", "(III)V"⟩, 13), (⟨"IroningBasketsModel", "refusesBasket", "(IIII)I"⟩, 13), (⟨"IroningBasketsModel", "isCustomer", "(I)Z"⟩, 13)]
theorem lw_r1 : ∀ q ∈ lw_privs_1, lw_okq q := List.forall_mem_cons.mpr ⟨lw_p0, List.forall_mem_cons.mpr ⟨lw_p1, List.forall_mem_cons.mpr ⟨lw_p2, List.forall_mem_cons.mpr ⟨lw_p3, List.forall_mem_cons.mpr ⟨lw_p4, List.forall_mem_cons.mpr ⟨lw_p5, List.forall_mem_cons.mpr ⟨lw_p6, List.forall_mem_cons.mpr ⟨lw_p7, List.forall_mem_cons.mpr ⟨lw_p8, List.forall_mem_cons.mpr ⟨lw_p9, List.forall_mem_cons.mpr ⟨lw_p10, List.forall_mem_cons.mpr ⟨lw_p11, List.forall_mem_cons.mpr ⟨lw_p12, List.forall_mem_cons.mpr ⟨lw_p13, List.forall_mem_cons.mpr ⟨lw_p14, List.forall_mem_cons.mpr ⟨lw_p15, fun _ h => absurd h List.not_mem_nil⟩⟩⟩⟩⟩⟩⟩⟩⟩⟩⟩⟩⟩⟩⟩⟩
theorem lw_p16 : lw_okq (⟨"IroningBasketsModel", "outTo", "(I)I"⟩, 13) := ⟨⟨by decide +kernel, by decide +kernel⟩, List.mem_of_getElem? (i := 817) (by decide +kernel), List.mem_of_getElem? (i := 894) (by decide +kernel), List.mem_of_getElem? (i := 895) (by decide +kernel)⟩
theorem lw_p17 : lw_okq (⟨"IroningBasketsModel", "comes", "(IIII)I"⟩, 13) := ⟨⟨by decide +kernel, by decide +kernel⟩, List.mem_of_getElem? (i := 817) (by decide +kernel), List.mem_of_getElem? (i := 898) (by decide +kernel), List.mem_of_getElem? (i := 899) (by decide +kernel)⟩
theorem lw_p18 : lw_okq (⟨"IroningBasketsModel", "lay", "(III)V"⟩, 13) := ⟨⟨by decide +kernel, by decide +kernel⟩, List.mem_of_getElem? (i := 817) (by decide +kernel), List.mem_of_getElem? (i := 902) (by decide +kernel), List.mem_of_getElem? (i := 903) (by decide +kernel)⟩
theorem lw_p19 : lw_okq (⟨"IroningBasketsModel", "freePin", "()I"⟩, 13) := ⟨⟨by decide +kernel, by decide +kernel⟩, List.mem_of_getElem? (i := 817) (by decide +kernel), List.mem_of_getElem? (i := 906) (by decide +kernel), List.mem_of_getElem? (i := 907) (by decide +kernel)⟩
theorem lw_p20 : lw_okq (⟨"IroningBasketsModel", "of", "(II)I"⟩, 13) := ⟨⟨by decide +kernel, by decide +kernel⟩, List.mem_of_getElem? (i := 817) (by decide +kernel), List.mem_of_getElem? (i := 910) (by decide +kernel), List.mem_of_getElem? (i := 911) (by decide +kernel)⟩
theorem lw_p21 : lw_okq (⟨"IroningBasketsModel", "comeBack", "(II)V"⟩, 13) := ⟨⟨by decide +kernel, by decide +kernel⟩, List.mem_of_getElem? (i := 817) (by decide +kernel), List.mem_of_getElem? (i := 914) (by decide +kernel), List.mem_of_getElem? (i := 915) (by decide +kernel)⟩
theorem lw_p22 : lw_okq (⟨"IroningBasketsModel", "oldest", "(I)I"⟩, 13) := ⟨⟨by decide +kernel, by decide +kernel⟩, List.mem_of_getElem? (i := 817) (by decide +kernel), List.mem_of_getElem? (i := 918) (by decide +kernel), List.mem_of_getElem? (i := 919) (by decide +kernel)⟩
theorem lw_p23 : lw_okq (⟨"IroningBasketsModel", "books", "(III)V"⟩, 13) := ⟨⟨by decide +kernel, by decide +kernel⟩, List.mem_of_getElem? (i := 817) (by decide +kernel), List.mem_of_getElem? (i := 922) (by decide +kernel), List.mem_of_getElem? (i := 923) (by decide +kernel)⟩
theorem lw_p24 : lw_okq (⟨"IroningBasketsModel", "reads", "()I"⟩, 13) := ⟨⟨by decide +kernel, by decide +kernel⟩, List.mem_of_getElem? (i := 817) (by decide +kernel), List.mem_of_getElem? (i := 930) (by decide +kernel), List.mem_of_getElem? (i := 931) (by decide +kernel)⟩
theorem lw_p25 : lw_okq (⟨"IroningBasketsModel", "readsBasket", "()V"⟩, 13) := ⟨⟨by decide +kernel, by decide +kernel⟩, List.mem_of_getElem? (i := 817) (by decide +kernel), List.mem_of_getElem? (i := 934) (by decide +kernel), List.mem_of_getElem? (i := 935) (by decide +kernel)⟩
theorem lw_p26 : lw_okq (⟨"IroningBasketsModel", "digit", "(II)I"⟩, 13) := ⟨⟨by decide +kernel, by decide +kernel⟩, List.mem_of_getElem? (i := 817) (by decide +kernel), List.mem_of_getElem? (i := 938) (by decide +kernel), List.mem_of_getElem? (i := 939) (by decide +kernel)⟩
theorem lw_p27 : lw_okq (⟨"IroningBasketsModel", "sign", "()I"⟩, 13) := ⟨⟨by decide +kernel, by decide +kernel⟩, List.mem_of_getElem? (i := 817) (by decide +kernel), List.mem_of_getElem? (i := 942) (by decide +kernel), List.mem_of_getElem? (i := 943) (by decide +kernel)⟩
theorem lw_p28 : lw_okq (⟨"IroningBasketsModel", "takes", "(I)Z"⟩, 13) := ⟨⟨by decide +kernel, by decide +kernel⟩, List.mem_of_getElem? (i := 817) (by decide +kernel), List.mem_of_getElem? (i := 946) (by decide +kernel), List.mem_of_getElem? (i := 947) (by decide +kernel)⟩
theorem lw_p29 : lw_okq (⟨"IroningBasketsModel", "readsPieces", "()I"⟩, 13) := ⟨⟨by decide +kernel, by decide +kernel⟩, List.mem_of_getElem? (i := 817) (by decide +kernel), List.mem_of_getElem? (i := 950) (by decide +kernel), List.mem_of_getElem? (i := 951) (by decide +kernel)⟩
theorem lw_p30 : lw_okq (⟨"IroningBasketsModel", "readsHangers", "()I"⟩, 13) := ⟨⟨by decide +kernel, by decide +kernel⟩, List.mem_of_getElem? (i := 817) (by decide +kernel), List.mem_of_getElem? (i := 960) (by decide +kernel), List.mem_of_getElem? (i := 961) (by decide +kernel)⟩
theorem lw_p31 : lw_okq (⟨"IroningBasketsModel", "putAside", "()V"⟩, 13) := ⟨⟨by decide +kernel, by decide +kernel⟩, List.mem_of_getElem? (i := 817) (by decide +kernel), List.mem_of_getElem? (i := 964) (by decide +kernel), List.mem_of_getElem? (i := 965) (by decide +kernel)⟩
def lw_privs_2 : List (MethodName × Nat) := [(⟨"IroningBasketsModel", "outTo", "(I)I"⟩, 13), (⟨"IroningBasketsModel", "comes", "(IIII)I"⟩, 13), (⟨"IroningBasketsModel", "lay", "(III)V"⟩, 13), (⟨"IroningBasketsModel", "freePin", "()I"⟩, 13), (⟨"IroningBasketsModel", "of", "(II)I"⟩, 13), (⟨"IroningBasketsModel", "comeBack", "(II)V"⟩, 13), (⟨"IroningBasketsModel", "oldest", "(I)I"⟩, 13), (⟨"IroningBasketsModel", "books", "(III)V"⟩, 13), (⟨"IroningBasketsModel", "reads", "()I"⟩, 13), (⟨"IroningBasketsModel", "readsBasket", "()V"⟩, 13), (⟨"IroningBasketsModel", "digit", "(II)I"⟩, 13), (⟨"IroningBasketsModel", "sign", "()I"⟩, 13), (⟨"IroningBasketsModel", "takes", "(I)Z"⟩, 13), (⟨"IroningBasketsModel", "readsPieces", "()I"⟩, 13), (⟨"IroningBasketsModel", "readsHangers", "()I"⟩, 13), (⟨"IroningBasketsModel", "putAside", "()V"⟩, 13)]
theorem lw_r2 : ∀ q ∈ lw_privs_2, lw_okq q := List.forall_mem_cons.mpr ⟨lw_p16, List.forall_mem_cons.mpr ⟨lw_p17, List.forall_mem_cons.mpr ⟨lw_p18, List.forall_mem_cons.mpr ⟨lw_p19, List.forall_mem_cons.mpr ⟨lw_p20, List.forall_mem_cons.mpr ⟨lw_p21, List.forall_mem_cons.mpr ⟨lw_p22, List.forall_mem_cons.mpr ⟨lw_p23, List.forall_mem_cons.mpr ⟨lw_p24, List.forall_mem_cons.mpr ⟨lw_p25, List.forall_mem_cons.mpr ⟨lw_p26, List.forall_mem_cons.mpr ⟨lw_p27, List.forall_mem_cons.mpr ⟨lw_p28, List.forall_mem_cons.mpr ⟨lw_p29, List.forall_mem_cons.mpr ⟨lw_p30, List.forall_mem_cons.mpr ⟨lw_p31, fun _ h => absurd h List.not_mem_nil⟩⟩⟩⟩⟩⟩⟩⟩⟩⟩⟩⟩⟩⟩⟩⟩
theorem lw_p32 : lw_okq (⟨"IroningBasketsModel", "takeBack", "()V"⟩, 13) := ⟨⟨by decide +kernel, by decide +kernel⟩, List.mem_of_getElem? (i := 817) (by decide +kernel), List.mem_of_getElem? (i := 968) (by decide +kernel), List.mem_of_getElem? (i := 969) (by decide +kernel)⟩
theorem lw_p33 : lw_okq (⟨"IroningBasketsModel", "placeOf", "(I)I"⟩, 13) := ⟨⟨by decide +kernel, by decide +kernel⟩, List.mem_of_getElem? (i := 817) (by decide +kernel), List.mem_of_getElem? (i := 976) (by decide +kernel), List.mem_of_getElem? (i := 977) (by decide +kernel)⟩
theorem lw_p34 : lw_okq (⟨"IroningBasketsModel", "left", "(II)I"⟩, 13) := ⟨⟨by decide +kernel, by decide +kernel⟩, List.mem_of_getElem? (i := 817) (by decide +kernel), List.mem_of_getElem? (i := 980) (by decide +kernel), List.mem_of_getElem? (i := 981) (by decide +kernel)⟩
theorem lw_p35 : lw_okq (⟨"IroningBasketsModel", "degree", "(II)I"⟩, 13) := ⟨⟨by decide +kernel, by decide +kernel⟩, List.mem_of_getElem? (i := 817) (by decide +kernel), List.mem_of_getElem? (i := 984) (by decide +kernel), List.mem_of_getElem? (i := 985) (by decide +kernel)⟩
theorem lw_p36 : lw_okq (⟨"IroningBasketsModel", "isLost", "(I)Z"⟩, 13) := ⟨⟨by decide +kernel, by decide +kernel⟩, List.mem_of_getElem? (i := 817) (by decide +kernel), List.mem_of_getElem? (i := 992) (by decide +kernel), List.mem_of_getElem? (i := 993) (by decide +kernel)⟩
theorem lw_p37 : lw_okq (⟨"IroningBasketsModel", "canBelong", "(II)Z"⟩, 13) := ⟨⟨by decide +kernel, by decide +kernel⟩, List.mem_of_getElem? (i := 817) (by decide +kernel), List.mem_of_getElem? (i := 996) (by decide +kernel), List.mem_of_getElem? (i := 997) (by decide +kernel)⟩
theorem lw_p38 : lw_okq (⟨"IroningBasketsModel", "irons", "(I)I"⟩, 13) := ⟨⟨by decide +kernel, by decide +kernel⟩, List.mem_of_getElem? (i := 817) (by decide +kernel), List.mem_of_getElem? (i := 1004) (by decide +kernel), List.mem_of_getElem? (i := 1005) (by decide +kernel)⟩
theorem lw_p39 : lw_okq (⟨"IroningBasketsModel", "nextBasket", "()I"⟩, 13) := ⟨⟨by decide +kernel, by decide +kernel⟩, List.mem_of_getElem? (i := 817) (by decide +kernel), List.mem_of_getElem? (i := 1008) (by decide +kernel), List.mem_of_getElem? (i := 1009) (by decide +kernel)⟩
theorem lw_p40 : lw_okq (⟨"IroningBasketsModel", "ranked", "(I)I"⟩, 13) := ⟨⟨by decide +kernel, by decide +kernel⟩, List.mem_of_getElem? (i := 817) (by decide +kernel), List.mem_of_getElem? (i := 1012) (by decide +kernel), List.mem_of_getElem? (i := 1013) (by decide +kernel)⟩
theorem lw_p41 : lw_okq (⟨"IroningBasketsModel", "keyOf", "(I)I"⟩, 13) := ⟨⟨by decide +kernel, by decide +kernel⟩, List.mem_of_getElem? (i := 817) (by decide +kernel), List.mem_of_getElem? (i := 1016) (by decide +kernel), List.mem_of_getElem? (i := 1017) (by decide +kernel)⟩
theorem lw_p42 : lw_okq (⟨"IroningBasketsModel", "ofCustomer", "(II)I"⟩, 13) := ⟨⟨by decide +kernel, by decide +kernel⟩, List.mem_of_getElem? (i := 817) (by decide +kernel), List.mem_of_getElem? (i := 1020) (by decide +kernel), List.mem_of_getElem? (i := 1021) (by decide +kernel)⟩
theorem lw_p43 : lw_okq (⟨"IroningBasketsModel", "nextVisit", "(I)I"⟩, 13) := ⟨⟨by decide +kernel, by decide +kernel⟩, List.mem_of_getElem? (i := 817) (by decide +kernel), List.mem_of_getElem? (i := 1024) (by decide +kernel), List.mem_of_getElem? (i := 1025) (by decide +kernel)⟩
theorem lw_p44 : lw_okq (⟨"IroningBasketsModel", "minutesLeft", "(I)I"⟩, 13) := ⟨⟨by decide +kernel, by decide +kernel⟩, List.mem_of_getElem? (i := 817) (by decide +kernel), List.mem_of_getElem? (i := 1029) (by decide +kernel), List.mem_of_getElem? (i := 1030) (by decide +kernel)⟩
theorem lw_p45 : lw_okq (⟨"IroningBasketsModel", "kindNow", "(I)I"⟩, 13) := ⟨⟨by decide +kernel, by decide +kernel⟩, List.mem_of_getElem? (i := 817) (by decide +kernel), List.mem_of_getElem? (i := 1036) (by decide +kernel), List.mem_of_getElem? (i := 1037) (by decide +kernel)⟩
theorem lw_p46 : lw_okq (⟨"IroningBasketsModel", "goesBy", "()I"⟩, 13) := ⟨⟨by decide +kernel, by decide +kernel⟩, List.mem_of_getElem? (i := 817) (by decide +kernel), List.mem_of_getElem? (i := 1044) (by decide +kernel), List.mem_of_getElem? (i := 1045) (by decide +kernel)⟩
theorem lw_p47 : lw_okq (⟨"IroningBasketsModel", "pays", "(I)V"⟩, 13) := ⟨⟨by decide +kernel, by decide +kernel⟩, List.mem_of_getElem? (i := 817) (by decide +kernel), List.mem_of_getElem? (i := 1048) (by decide +kernel), List.mem_of_getElem? (i := 1049) (by decide +kernel)⟩
def lw_privs_3 : List (MethodName × Nat) := [(⟨"IroningBasketsModel", "takeBack", "()V"⟩, 13), (⟨"IroningBasketsModel", "placeOf", "(I)I"⟩, 13), (⟨"IroningBasketsModel", "left", "(II)I"⟩, 13), (⟨"IroningBasketsModel", "degree", "(II)I"⟩, 13), (⟨"IroningBasketsModel", "isLost", "(I)Z"⟩, 13), (⟨"IroningBasketsModel", "canBelong", "(II)Z"⟩, 13), (⟨"IroningBasketsModel", "irons", "(I)I"⟩, 13), (⟨"IroningBasketsModel", "nextBasket", "()I"⟩, 13), (⟨"IroningBasketsModel", "ranked", "(I)I"⟩, 13), (⟨"IroningBasketsModel", "keyOf", "(I)I"⟩, 13), (⟨"IroningBasketsModel", "ofCustomer", "(II)I"⟩, 13), (⟨"IroningBasketsModel", "nextVisit", "(I)I"⟩, 13), (⟨"IroningBasketsModel", "minutesLeft", "(I)I"⟩, 13), (⟨"IroningBasketsModel", "kindNow", "(I)I"⟩, 13), (⟨"IroningBasketsModel", "goesBy", "()I"⟩, 13), (⟨"IroningBasketsModel", "pays", "(I)V"⟩, 13)]
theorem lw_r3 : ∀ q ∈ lw_privs_3, lw_okq q := List.forall_mem_cons.mpr ⟨lw_p32, List.forall_mem_cons.mpr ⟨lw_p33, List.forall_mem_cons.mpr ⟨lw_p34, List.forall_mem_cons.mpr ⟨lw_p35, List.forall_mem_cons.mpr ⟨lw_p36, List.forall_mem_cons.mpr ⟨lw_p37, List.forall_mem_cons.mpr ⟨lw_p38, List.forall_mem_cons.mpr ⟨lw_p39, List.forall_mem_cons.mpr ⟨lw_p40, List.forall_mem_cons.mpr ⟨lw_p41, List.forall_mem_cons.mpr ⟨lw_p42, List.forall_mem_cons.mpr ⟨lw_p43, List.forall_mem_cons.mpr ⟨lw_p44, List.forall_mem_cons.mpr ⟨lw_p45, List.forall_mem_cons.mpr ⟨lw_p46, List.forall_mem_cons.mpr ⟨lw_p47, fun _ h => absurd h List.not_mem_nil⟩⟩⟩⟩⟩⟩⟩⟩⟩⟩⟩⟩⟩⟩⟩⟩
theorem lw_p48 : lw_okq (⟨"IroningBasketsModel", "ageOf", "(I)I"⟩, 13) := ⟨⟨by decide +kernel, by decide +kernel⟩, List.mem_of_getElem? (i := 817) (by decide +kernel), List.mem_of_getElem? (i := 1052) (by decide +kernel), List.mem_of_getElem? (i := 1053) (by decide +kernel)⟩
theorem lw_p49 : lw_okq (⟨"IroningBasketsModel", "isReady", "(I)Z"⟩, 13) := ⟨⟨by decide +kernel, by decide +kernel⟩, List.mem_of_getElem? (i := 817) (by decide +kernel), List.mem_of_getElem? (i := 1056) (by decide +kernel), List.mem_of_getElem? (i := 1057) (by decide +kernel)⟩
theorem lw_p50 : lw_okq (⟨"IroningBasketsModel", "leaves", "(I)V"⟩, 13) := ⟨⟨by decide +kernel, by decide +kernel⟩, List.mem_of_getElem? (i := 817) (by decide +kernel), List.mem_of_getElem? (i := 1060) (by decide +kernel), List.mem_of_getElem? (i := 1061) (by decide +kernel)⟩
theorem lw_p51 : lw_okq (⟨"IroningBasketsModel", "priceOf", "(I)I"⟩, 13) := ⟨⟨by decide +kernel, by decide +kernel⟩, List.mem_of_getElem? (i := 817) (by decide +kernel), List.mem_of_getElem? (i := 1064) (by decide +kernel), List.mem_of_getElem? (i := 1065) (by decide +kernel)⟩
theorem lw_p52 : lw_okq (⟨"IroningBasketsModel", "basketsOf", "(I)I"⟩, 13) := ⟨⟨by decide +kernel, by decide +kernel⟩, List.mem_of_getElem? (i := 817) (by decide +kernel), List.mem_of_getElem? (i := 1111) (by decide +kernel), List.mem_of_getElem? (i := 1112) (by decide +kernel)⟩
theorem lw_p53 : lw_okq (⟨"IroningBasketsModel", "oldestDay", "(I)I"⟩, 13) := ⟨⟨by decide +kernel, by decide +kernel⟩, List.mem_of_getElem? (i := 817) (by decide +kernel), List.mem_of_getElem? (i := 1115) (by decide +kernel), List.mem_of_getElem? (i := 1116) (by decide +kernel)⟩
theorem lw_p54 : lw_okq (⟨"IroningBasketsModel", "digitsOf", "(II)I"⟩, 13) := ⟨⟨by decide +kernel, by decide +kernel⟩, List.mem_of_getElem? (i := 817) (by decide +kernel), List.mem_of_getElem? (i := 1123) (by decide +kernel), List.mem_of_getElem? (i := 1124) (by decide +kernel)⟩
theorem lw_p55 : lw_okq (⟨"IroningBasketsModel", "belongsTo", "(I)I"⟩, 13) := ⟨⟨by decide +kernel, by decide +kernel⟩, List.mem_of_getElem? (i := 817) (by decide +kernel), List.mem_of_getElem? (i := 1131) (by decide +kernel), List.mem_of_getElem? (i := 1132) (by decide +kernel)⟩
theorem lw_p56 : lw_okq (⟨"IroningBasketsModel", "lowestFor", "(I)I"⟩, 13) := ⟨⟨by decide +kernel, by decide +kernel⟩, List.mem_of_getElem? (i := 817) (by decide +kernel), List.mem_of_getElem? (i := 1135) (by decide +kernel), List.mem_of_getElem? (i := 1136) (by decide +kernel)⟩
theorem lw_p57 : lw_okq (⟨"IroningBasketsModel", "tellsCount", "(I)I"⟩, 13) := ⟨⟨by decide +kernel, by decide +kernel⟩, List.mem_of_getElem? (i := 817) (by decide +kernel), List.mem_of_getElem? (i := 1151) (by decide +kernel), List.mem_of_getElem? (i := 1152) (by decide +kernel)⟩
theorem lw_p58 : lw_okq (⟨"IroningBasketsModel", "readyMany", "()I"⟩, 13) := ⟨⟨by decide +kernel, by decide +kernel⟩, List.mem_of_getElem? (i := 817) (by decide +kernel), List.mem_of_getElem? (i := 1155) (by decide +kernel), List.mem_of_getElem? (i := 1156) (by decide +kernel)⟩
theorem lw_p59 : lw_okq (⟨"IroningBasketsModel", "onPieces", "()I"⟩, 13) := ⟨⟨by decide +kernel, by decide +kernel⟩, List.mem_of_getElem? (i := 817) (by decide +kernel), List.mem_of_getElem? (i := 1159) (by decide +kernel), List.mem_of_getElem? (i := 1160) (by decide +kernel)⟩
theorem lw_p60 : lw_okq (⟨"IroningBasketsModel", "outInAll", "()I"⟩, 13) := ⟨⟨by decide +kernel, by decide +kernel⟩, List.mem_of_getElem? (i := 817) (by decide +kernel), List.mem_of_getElem? (i := 1163) (by decide +kernel), List.mem_of_getElem? (i := 1164) (by decide +kernel)⟩
theorem lw_p61 : lw_okq (⟨"IroningBasketsModel", "owedInAll", "()I"⟩, 13) := ⟨⟨by decide +kernel, by decide +kernel⟩, List.mem_of_getElem? (i := 817) (by decide +kernel), List.mem_of_getElem? (i := 1167) (by decide +kernel), List.mem_of_getElem? (i := 1168) (by decide +kernel)⟩
theorem lw_p62 : lw_okq (⟨"IroningBasketsModel", "would", "(III)I"⟩, 13) := ⟨⟨by decide +kernel, by decide +kernel⟩, List.mem_of_getElem? (i := 817) (by decide +kernel), List.mem_of_getElem? (i := 1179) (by decide +kernel), List.mem_of_getElem? (i := 1180) (by decide +kernel)⟩
def lw_privs_4 : List (MethodName × Nat) := [(⟨"IroningBasketsModel", "ageOf", "(I)I"⟩, 13), (⟨"IroningBasketsModel", "isReady", "(I)Z"⟩, 13), (⟨"IroningBasketsModel", "leaves", "(I)V"⟩, 13), (⟨"IroningBasketsModel", "priceOf", "(I)I"⟩, 13), (⟨"IroningBasketsModel", "basketsOf", "(I)I"⟩, 13), (⟨"IroningBasketsModel", "oldestDay", "(I)I"⟩, 13), (⟨"IroningBasketsModel", "digitsOf", "(II)I"⟩, 13), (⟨"IroningBasketsModel", "belongsTo", "(I)I"⟩, 13), (⟨"IroningBasketsModel", "lowestFor", "(I)I"⟩, 13), (⟨"IroningBasketsModel", "tellsCount", "(I)I"⟩, 13), (⟨"IroningBasketsModel", "readyMany", "()I"⟩, 13), (⟨"IroningBasketsModel", "onPieces", "()I"⟩, 13), (⟨"IroningBasketsModel", "outInAll", "()I"⟩, 13), (⟨"IroningBasketsModel", "owedInAll", "()I"⟩, 13), (⟨"IroningBasketsModel", "would", "(III)I"⟩, 13)]
theorem lw_r4 : ∀ q ∈ lw_privs_4, lw_okq q := List.forall_mem_cons.mpr ⟨lw_p48, List.forall_mem_cons.mpr ⟨lw_p49, List.forall_mem_cons.mpr ⟨lw_p50, List.forall_mem_cons.mpr ⟨lw_p51, List.forall_mem_cons.mpr ⟨lw_p52, List.forall_mem_cons.mpr ⟨lw_p53, List.forall_mem_cons.mpr ⟨lw_p54, List.forall_mem_cons.mpr ⟨lw_p55, List.forall_mem_cons.mpr ⟨lw_p56, List.forall_mem_cons.mpr ⟨lw_p57, List.forall_mem_cons.mpr ⟨lw_p58, List.forall_mem_cons.mpr ⟨lw_p59, List.forall_mem_cons.mpr ⟨lw_p60, List.forall_mem_cons.mpr ⟨lw_p61, List.forall_mem_cons.mpr ⟨lw_p62, fun _ h => absurd h List.not_mem_nil⟩⟩⟩⟩⟩⟩⟩⟩⟩⟩⟩⟩⟩⟩⟩
def lw_privs : List (MethodName × Nat) := lw_privs_1 ++ (lw_privs_2 ++ (lw_privs_3 ++ (lw_privs_4)))
def lw_tbl : List Cond := k2_sels lw_privs ++ tables_1
theorem lw_privs_ok : ∀ q ∈ lw_privs, lw_okq q := by
  show ∀ q ∈ lw_privs_1 ++ (lw_privs_2 ++ (lw_privs_3 ++ (lw_privs_4))), lw_okq q
  exact List.forall_mem_append.mpr ⟨lw_r1, List.forall_mem_append.mpr ⟨lw_r2, List.forall_mem_append.mpr ⟨lw_r3, lw_r4⟩⟩⟩
/-- the streams that the claim lets the run draw from -/
abbrev lw_cs : List Choice := [Jvm.Choice.named "NaN.bits"]
theorem lw_bits : nanBits ∈ lw_cs := by first | decide | exact List.mem_cons_self | simp [lw_cs, nanBits]
/-! ===== BEGIN words of one list among another's, by their places ===== -/
theorem goodIn_r {big : List Cond} (ws : List Cond) (ps : List Nat) (hp : ws = ps.filterMap (fun i => big[i]?)) (h : ws.all goodWord = true) : GoodIn big ws := by
  intro w hw
  have h1 := List.all_eq_true.mp h w hw
  rw [hp] at hw
  obtain ⟨i, -, hi⟩ := List.mem_filterMap.mp hw
  have hm : w ∈ big := by first | exact List.mem_of_getElem? hi | exact List.getElem?_mem hi
  exact ⟨hm, good_of_word h1⟩
theorem goodIn_app {big a b : List Cond} (ha : GoodIn big a) (hb : GoodIn big b) : GoodIn big (a ++ b) := fun w h => (List.mem_append.mp h).elim (ha w) (hb w)
theorem goodIn_ca {big a b : List Cond} {c : Cond} (ha : GoodIn big (c :: a)) (hb : GoodIn big b) : GoodIn big (c :: (a ++ b)) := fun w h => (List.mem_cons.mp h).elim (fun e => ha w (List.mem_cons.mpr (Or.inl e))) (fun h => (List.mem_append.mp h).elim (fun h => ha w (List.mem_cons.mpr (Or.inr h))) (hb w))
theorem goodIn_sub {big ws : List Cond} (hm : ∀ w ∈ ws, w ∈ big) (h : ws.all goodWord = true) : GoodIn big ws := fun w hw => ⟨hm w hw, good_of_word (List.all_eq_true.mp h w hw)⟩
/-! ===== END ===== -/

/-! ===== BEGIN printed: names, fields, word lists, decode rows ===== -/
def RX0 : String := "IroningBaskets$Basket"
def TX0 : u_T := fun k => match k with
  | 0 => ("IroningBaskets$Basket", "number", "I", false)
  | 1 => ("IroningBaskets$Basket", "customer", "I", false)
  | 2 => ("IroningBaskets$Basket", "pin", "I", false)
  | 3 => ("IroningBaskets$Basket", "starch", "I", false)
  | 4 => ("IroningBaskets$Basket", "day", "I", false)
  | 5 => ("IroningBaskets$Basket", "pieces", "[I", true)
  | 6 => ("IroningBaskets$Basket", "ironed", "[I", true)
  | _ => ("IroningBaskets$Basket", "missed", "[I", true)
def tyX0 : Nat → FieldType := fun k => match k with
  | 0 => .int
  | 1 => .int
  | 2 => .int
  | 3 => .int
  | 4 => .int
  | 5 => .array .int
  | 6 => .array .int
  | _ => .array .int
abbrev wsX00 : List Cond := u_ws RX0 TX0 8
theorem nmX0 : ∀ a, a < 8 → ∀ b, b < 8 → a ≠ b → (TX0 a).2.1 ≠ (TX0 b).2.1 := by decide +kernel
theorem tyX0_ok : ∀ k, k < 8 → parseFieldDescriptor (TX0 k).2.2.1 = some (tyX0 k) := by decide +kernel
abbrev cX0_init : ByteArray := prog_2_method_1_code
def yX0_init : MethodName := ⟨RX0, "<init>", "()V"⟩
abbrev cX0_copyFrom : ByteArray := prog_2_method_2_code
def yX0_copyFrom : MethodName := ⟨RX0, "copyFrom", "(LIroningBaskets$Basket;)V"⟩
abbrev cX0_fill : ByteArray := prog_2_method_3_code
def yX0_fill : MethodName := ⟨RX0, "fill", "(I)V"⟩
abbrev cX0_asDigits : ByteArray := prog_2_method_4_code
def yX0_asDigits : MethodName := ⟨RX0, "asDigits", "([I)I"⟩
abbrev cX0_takesStarch : ByteArray := prog_2_method_5_code
def yX0_takesStarch : MethodName := ⟨RX0, "takesStarch", "(I)Z"⟩
abbrev cX0_takesHanger : ByteArray := prog_2_method_6_code
def yX0_takesHanger : MethodName := ⟨RX0, "takesHanger", "(I)Z"⟩
abbrev cX0_degree : ByteArray := prog_2_method_7_code
def yX0_degree : MethodName := ⟨RX0, "degree", "(I)I"⟩
abbrev cX0_minutes : ByteArray := prog_2_method_8_code
def yX0_minutes : MethodName := ⟨RX0, "minutes", "(I)I"⟩
abbrev cX0_open : ByteArray := prog_2_method_9_code
def yX0_open : MethodName := ⟨RX0, "open", "(I)I"⟩
abbrev cX0_openMinutes : ByteArray := prog_2_method_10_code
def yX0_openMinutes : MethodName := ⟨RX0, "openMinutes", "()I"⟩
abbrev cX0_lowestIronable : ByteArray := prog_2_method_11_code
def yX0_lowestIronable : MethodName := ⟨RX0, "lowestIronable", "(Z)I"⟩
abbrev cX0_misses : ByteArray := prog_2_method_12_code
def yX0_misses : MethodName := ⟨RX0, "misses", "(II)Z"⟩
abbrev cX0_isReady : ByteArray := prog_2_method_13_code
def yX0_isReady : MethodName := ⟨RX0, "isReady", "()Z"⟩
abbrev cX0_price : ByteArray := prog_2_method_14_code
def yX0_price : MethodName := ⟨RX0, "price", "()I"⟩
abbrev cX0_needingHangers : ByteArray := prog_2_method_15_code
def yX0_needingHangers : MethodName := ⟨RX0, "needingHangers", "([I)I"⟩
def RX1 : String := "IroningBaskets$BasketText"
def TX1 : u_T := fun k => match k with
  | 0 => ("IroningBaskets$BasketText", "characters", "[C", true)
  | 1 => ("IroningBaskets$BasketText", "length", "I", false)
  | 2 => ("IroningBaskets$BasketText", "baskets", "I", false)
  | 3 => ("IroningBaskets$BasketText", "customer", "[I", true)
  | 4 => ("IroningBaskets$BasketText", "pieces", "[I", true)
  | 5 => ("IroningBaskets$BasketText", "starch", "[I", true)
  | 6 => ("IroningBaskets$BasketText", "hangers", "[I", true)
  | 7 => ("IroningBaskets$BasketText", "place", "I", false)
  | _ => ("IroningBaskets$BasketText", "kind", "I", false)
def tyX1 : Nat → FieldType := fun k => match k with
  | 0 => .array .char
  | 1 => .int
  | 2 => .int
  | 3 => .array .int
  | 4 => .array .int
  | 5 => .array .int
  | 6 => .array .int
  | 7 => .int
  | _ => .int
abbrev wsX10 : List Cond := u_ws RX1 TX1 9
theorem nmX1 : ∀ a, a < 9 → ∀ b, b < 9 → a ≠ b → (TX1 a).2.1 ≠ (TX1 b).2.1 := by decide +kernel
theorem tyX1_ok : ∀ k, k < 9 → parseFieldDescriptor (TX1 k).2.2.1 = some (tyX1 k) := by decide +kernel
abbrev cX1_init : ByteArray := prog_3_method_1_code
def yX1_init : MethodName := ⟨RX1, "<init>", "()V"⟩
abbrev cX1_append : ByteArray := prog_3_method_2_code
def yX1_append : MethodName := ⟨RX1, "append", "(C)V"⟩
abbrev cX1_read : ByteArray := prog_3_method_3_code
def yX1_read : MethodName := ⟨RX1, "read", "()I"⟩
abbrev cX1_mayEnd : ByteArray := prog_3_method_4_code
def yX1_mayEnd : MethodName := ⟨RX1, "mayEnd", "()Z"⟩
abbrev cX1_take : ByteArray := prog_3_method_5_code
def yX1_take : MethodName := ⟨RX1, "take", "(C)Z"⟩
abbrev cX1_takeCustomer : ByteArray := prog_3_method_6_code
def yX1_takeCustomer : MethodName := ⟨RX1, "takeCustomer", "(C)Z"⟩
abbrev cX1_takeKind : ByteArray := prog_3_method_7_code
def yX1_takeKind : MethodName := ⟨RX1, "takeKind", "(C)Z"⟩
abbrev cX1_takePieces : ByteArray := prog_3_method_8_code
def yX1_takePieces : MethodName := ⟨RX1, "takePieces", "(C)Z"⟩
abbrev cX1_takeStarch : ByteArray := prog_3_method_9_code
def yX1_takeStarch : MethodName := ⟨RX1, "takeStarch", "(C)Z"⟩
abbrev cX1_takeHangers : ByteArray := prog_3_method_10_code
def yX1_takeHangers : MethodName := ⟨RX1, "takeHangers", "(CI)Z"⟩
abbrev cX1_takeEnding : ByteArray := prog_3_method_11_code
def yX1_takeEnding : MethodName := ⟨RX1, "takeEnding", "(C)Z"⟩
abbrev cX1_takeSign : ByteArray := prog_3_method_12_code
def yX1_takeSign : MethodName := ⟨RX1, "takeSign", "(CCI)Z"⟩
abbrev cX1_isDigit : ByteArray := prog_3_method_13_code
def yX1_isDigit : MethodName := ⟨RX1, "isDigit", "(CII)Z"⟩
abbrev cX1_kindOf : ByteArray := prog_3_method_14_code
def yX1_kindOf : MethodName := ⟨RX1, "kindOf", "(C)I"⟩
def RX2 : String := "IroningBaskets$Board"
def TX2 : u_T := fun k => match k with
  | 0 => ("IroningBaskets$Board", "pot", "I", false)
  | 1 => ("IroningBaskets$Board", "stirred", "I", false)
  | 2 => ("IroningBaskets$Board", "pieces", "I", false)
  | _ => ("IroningBaskets$Board", "minutes", "I", false)
def tyX2 : Nat → FieldType := fun k => match k with
  | 0 => .int
  | 1 => .int
  | 2 => .int
  | _ => .int
abbrev wsX20 : List Cond := u_ws RX2 TX2 4
theorem nmX2 : ∀ a, a < 4 → ∀ b, b < 4 → a ≠ b → (TX2 a).2.1 ≠ (TX2 b).2.1 := by decide +kernel
theorem tyX2_ok : ∀ k, k < 4 → parseFieldDescriptor (TX2 k).2.2.1 = some (tyX2 k) := by decide +kernel
abbrev cX2_init : ByteArray := prog_4_method_1_code
def yX2_init : MethodName := ⟨RX2, "<init>", "()V"⟩
abbrev cX2_copyFrom : ByteArray := prog_4_method_2_code
def yX2_copyFrom : MethodName := ⟨RX2, "copyFrom", "(LIroningBaskets$Board;)V"⟩
def RX3 : String := "IroningBaskets$Customers"
def TX3 : u_T := fun k => match k with
  | 0 => ("IroningBaskets$Customers", "number", "I", false)
  | 1 => ("IroningBaskets$Customers", "district", "[I", true)
  | 2 => ("IroningBaskets$Customers", "owes", "[I", true)
  | _ => ("IroningBaskets$Customers", "hangersPaid", "[I", true)
def tyX3 : Nat → FieldType := fun k => match k with
  | 0 => .int
  | 1 => .array .int
  | 2 => .array .int
  | _ => .array .int
abbrev wsX30 : List Cond := u_ws RX3 TX3 4
theorem nmX3 : ∀ a, a < 4 → ∀ b, b < 4 → a ≠ b → (TX3 a).2.1 ≠ (TX3 b).2.1 := by decide +kernel
theorem tyX3_ok : ∀ k, k < 4 → parseFieldDescriptor (TX3 k).2.2.1 = some (tyX3 k) := by decide +kernel
abbrev cX3_init : ByteArray := prog_5_method_1_code
def yX3_init : MethodName := ⟨RX3, "<init>", "()V"⟩
abbrev cX3_copyFrom : ByteArray := prog_5_method_2_code
def yX3_copyFrom : MethodName := ⟨RX3, "copyFrom", "(LIroningBaskets$Customers;)V"⟩
abbrev cX3_has : ByteArray := prog_5_method_3_code
def yX3_has : MethodName := ⟨RX3, "has", "(I)Z"⟩
abbrev cX3_enter : ByteArray := prog_5_method_4_code
def yX3_enter : MethodName := ⟨RX3, "enter", "(I)I"⟩
abbrev cX3_owedByAll : ByteArray := prog_5_method_5_code
def yX3_owedByAll : MethodName := ⟨RX3, "owedByAll", "()I"⟩
abbrev cX3_hangersPaidByAll : ByteArray := prog_5_method_6_code
def yX3_hangersPaidByAll : MethodName := ⟨RX3, "hangersPaidByAll", "()I"⟩
abbrev cX3_sumOf : ByteArray := prog_5_method_7_code
def yX3_sumOf : MethodName := ⟨RX3, "sumOf", "([I)I"⟩
def RX4 : String := "IroningBaskets$HangersOut"
def TX4 : u_T := fun k => match k with
  | 0 => ("IroningBaskets$HangersOut", "customer", "[I", true)
  | 1 => ("IroningBaskets$HangersOut", "day", "[I", true)
  | 2 => ("IroningBaskets$HangersOut", "hangers", "[I", true)
  | _ => ("IroningBaskets$HangersOut", "batches", "I", false)
def tyX4 : Nat → FieldType := fun k => match k with
  | 0 => .array .int
  | 1 => .array .int
  | 2 => .array .int
  | _ => .int
abbrev wsX40 : List Cond := u_ws RX4 TX4 4
theorem nmX4 : ∀ a, a < 4 → ∀ b, b < 4 → a ≠ b → (TX4 a).2.1 ≠ (TX4 b).2.1 := by decide +kernel
theorem tyX4_ok : ∀ k, k < 4 → parseFieldDescriptor (TX4 k).2.2.1 = some (tyX4 k) := by decide +kernel
abbrev cX4_init : ByteArray := prog_6_method_1_code
def yX4_init : MethodName := ⟨RX4, "<init>", "()V"⟩
abbrev cX4_copyFrom : ByteArray := prog_6_method_2_code
def yX4_copyFrom : MethodName := ⟨RX4, "copyFrom", "(LIroningBaskets$HangersOut;)V"⟩
abbrev cX4_send : ByteArray := prog_6_method_3_code
def yX4_send : MethodName := ⟨RX4, "send", "(III)V"⟩
abbrev cX4_outTo : ByteArray := prog_6_method_4_code
def yX4_outTo : MethodName := ⟨RX4, "outTo", "(I)I"⟩
abbrev cX4_outToAll : ByteArray := prog_6_method_5_code
def yX4_outToAll : MethodName := ⟨RX4, "outToAll", "()I"⟩
abbrev cX4_firstDay : ByteArray := prog_6_method_6_code
def yX4_firstDay : MethodName := ⟨RX4, "firstDay", "(I)I"⟩
abbrev cX4_takeBack : ByteArray := prog_6_method_7_code
def yX4_takeBack : MethodName := ⟨RX4, "takeBack", "(II)V"⟩
abbrev cX4_anyFromBefore : ByteArray := prog_6_method_8_code
def yX4_anyFromBefore : MethodName := ⟨RX4, "anyFromBefore", "(I)Z"⟩
abbrev cX4_takeFromBefore : ByteArray := prog_6_method_9_code
def yX4_takeFromBefore : MethodName := ⟨RX4, "takeFromBefore", "(II)I"⟩
abbrev cX4_dropEmptyBatches : ByteArray := prog_6_method_10_code
def yX4_dropEmptyBatches : MethodName := ⟨RX4, "dropEmptyBatches", "()V"⟩
def RX5 : String := "IroningBaskets$History"
def TX5 : u_T := fun k => match k with
  | 0 => ("IroningBaskets$History", "kept", "[LIroningBaskets$State;", true)
  | 1 => ("IroningBaskets$History", "states", "I", false)
  | _ => ("IroningBaskets$History", "latest", "I", false)
def tyX5 : Nat → FieldType := fun k => match k with
  | 0 => .array (.object "IroningBaskets$State")
  | 1 => .int
  | _ => .int
abbrev wsX50 : List Cond := u_ws RX5 TX5 3
theorem nmX5 : ∀ a, a < 3 → ∀ b, b < 3 → a ≠ b → (TX5 a).2.1 ≠ (TX5 b).2.1 := by decide +kernel
theorem tyX5_ok : ∀ k, k < 3 → parseFieldDescriptor (TX5 k).2.2.1 = some (tyX5 k) := by decide +kernel
abbrev cX5_init : ByteArray := prog_7_method_1_code
def yX5_init : MethodName := ⟨RX5, "<init>", "()V"⟩
abbrev cX5_push : ByteArray := prog_7_method_2_code
def yX5_push : MethodName := ⟨RX5, "push", "(LIroningBaskets$State;)V"⟩
abbrev cX5_popInto : ByteArray := prog_7_method_3_code
def yX5_popInto : MethodName := ⟨RX5, "popInto", "(LIroningBaskets$State;)V"⟩
def RX6 : String := "IroningBaskets$Journal"
def TX6 : u_T := fun k => match k with
  | 0 => ("IroningBaskets$Journal", "cells", "[I", true)
  | 1 => ("IroningBaskets$Journal", "known", "I", false)
  | _ => ("IroningBaskets$Journal", "latest", "I", false)
def tyX6 : Nat → FieldType := fun k => match k with
  | 0 => .array .int
  | 1 => .int
  | _ => .int
abbrev wsX60 : List Cond := u_ws RX6 TX6 3
theorem nmX6 : ∀ a, a < 3 → ∀ b, b < 3 → a ≠ b → (TX6 a).2.1 ≠ (TX6 b).2.1 := by decide +kernel
theorem tyX6_ok : ∀ k, k < 3 → parseFieldDescriptor (TX6 k).2.2.1 = some (tyX6 k) := by decide +kernel
abbrev cX6_init : ByteArray := prog_8_method_1_code
def yX6_init : MethodName := ⟨RX6, "<init>", "()V"⟩
abbrev cX6_copyFrom : ByteArray := prog_8_method_2_code
def yX6_copyFrom : MethodName := ⟨RX6, "copyFrom", "(LIroningBaskets$Journal;)V"⟩
abbrev cX6_write : ByteArray := prog_8_method_3_code
def yX6_write : MethodName := ⟨RX6, "write", "(IIII)V"⟩
abbrev cX6_tell : ByteArray := prog_8_method_4_code
def yX6_tell : MethodName := ⟨RX6, "tell", "(II)I"⟩
def RX7 : String := "IroningBaskets$PinlessPieces"
def TX7 : u_T := fun k => match k with
  | 0 => ("IroningBaskets$PinlessPieces", "kind", "[I", true)
  | 1 => ("IroningBaskets$PinlessPieces", "degree", "[I", true)
  | _ => ("IroningBaskets$PinlessPieces", "number", "I", false)
def tyX7 : Nat → FieldType := fun k => match k with
  | 0 => .array .int
  | 1 => .array .int
  | _ => .int
abbrev wsX70 : List Cond := u_ws RX7 TX7 3
theorem nmX7 : ∀ a, a < 3 → ∀ b, b < 3 → a ≠ b → (TX7 a).2.1 ≠ (TX7 b).2.1 := by decide +kernel
theorem tyX7_ok : ∀ k, k < 3 → parseFieldDescriptor (TX7 k).2.2.1 = some (tyX7 k) := by decide +kernel
abbrev cX7_init : ByteArray := prog_9_method_1_code
def yX7_init : MethodName := ⟨RX7, "<init>", "()V"⟩
abbrev cX7_copyFrom : ByteArray := prog_9_method_2_code
def yX7_copyFrom : MethodName := ⟨RX7, "copyFrom", "(LIroningBaskets$PinlessPieces;)V"⟩
abbrev cX7_has : ByteArray := prog_9_method_3_code
def yX7_has : MethodName := ⟨RX7, "has", "(I)Z"⟩
abbrev cX7_append : ByteArray := prog_9_method_4_code
def yX7_append : MethodName := ⟨RX7, "append", "(II)V"⟩
abbrev cX7_removeAt : ByteArray := prog_9_method_5_code
def yX7_removeAt : MethodName := ⟨RX7, "removeAt", "(I)V"⟩
def RX8 : String := "IroningBaskets$Shelf"
def TX8 : u_T := fun k => match k with
  | 0 => ("IroningBaskets$Shelf", "baskets", "[LIroningBaskets$Basket;", true)
  | 1 => ("IroningBaskets$Shelf", "number", "I", false)
  | _ => ("IroningBaskets$Shelf", "came", "I", false)
def tyX8 : Nat → FieldType := fun k => match k with
  | 0 => .array (.object "IroningBaskets$Basket")
  | 1 => .int
  | _ => .int
abbrev wsX80 : List Cond := u_ws RX8 TX8 3
theorem nmX8 : ∀ a, a < 3 → ∀ b, b < 3 → a ≠ b → (TX8 a).2.1 ≠ (TX8 b).2.1 := by decide +kernel
theorem tyX8_ok : ∀ k, k < 3 → parseFieldDescriptor (TX8 k).2.2.1 = some (tyX8 k) := by decide +kernel
abbrev cX8_init : ByteArray := prog_10_method_1_code
def yX8_init : MethodName := ⟨RX8, "<init>", "()V"⟩
abbrev cX8_copyFrom : ByteArray := prog_10_method_2_code
def yX8_copyFrom : MethodName := ⟨RX8, "copyFrom", "(LIroningBaskets$Shelf;)V"⟩
abbrev cX8_isFull : ByteArray := prog_10_method_3_code
def yX8_isFull : MethodName := ⟨RX8, "isFull", "()Z"⟩
abbrev cX8_add : ByteArray := prog_10_method_4_code
def yX8_add : MethodName := ⟨RX8, "add", "()LIroningBaskets$Basket;"⟩
abbrev cX8_lowestFreePin : ByteArray := prog_10_method_5_code
def yX8_lowestFreePin : MethodName := ⟨RX8, "lowestFreePin", "()I"⟩
abbrev cX8_withNumber : ByteArray := prog_10_method_6_code
def yX8_withNumber : MethodName := ⟨RX8, "withNumber", "(I)LIroningBaskets$Basket;"⟩
abbrev cX8_numberFrom : ByteArray := prog_10_method_7_code
def yX8_numberFrom : MethodName := ⟨RX8, "numberFrom", "(I)I"⟩
abbrev cX8_numberReady : ByteArray := prog_10_method_8_code
def yX8_numberReady : MethodName := ⟨RX8, "numberReady", "()I"⟩
abbrev cX8_numberMissing : ByteArray := prog_10_method_9_code
def yX8_numberMissing : MethodName := ⟨RX8, "numberMissing", "(II)I"⟩
abbrev cX8_lowestMissing : ByteArray := prog_10_method_10_code
def yX8_lowestMissing : MethodName := ⟨RX8, "lowestMissing", "(II)I"⟩
abbrev cX8_hangersOnPieces : ByteArray := prog_10_method_11_code
def yX8_hangersOnPieces : MethodName := ⟨RX8, "hangersOnPieces", "()I"⟩
abbrev cX8_hangersToCome : ByteArray := prog_10_method_12_code
def yX8_hangersToCome : MethodName := ⟨RX8, "hangersToCome", "()I"⟩
def RX9 : String := "IroningBaskets$State"
def TX9 : u_T := fun k => match k with
  | 0 => ("IroningBaskets$State", "day", "I", false)
  | 1 => ("IroningBaskets$State", "stock", "I", false)
  | 2 => ("IroningBaskets$State", "bought", "I", false)
  | 3 => ("IroningBaskets$State", "coinsPaid", "I", false)
  | 4 => ("IroningBaskets$State", "settings", "[I", true)
  | 5 => ("IroningBaskets$State", "visits", "[I", true)
  | 6 => ("IroningBaskets$State", "customers", "LIroningBaskets$Customers;", true)
  | 7 => ("IroningBaskets$State", "shelf", "LIroningBaskets$Shelf;", true)
  | 8 => ("IroningBaskets$State", "out", "LIroningBaskets$HangersOut;", true)
  | 9 => ("IroningBaskets$State", "pinless", "LIroningBaskets$PinlessPieces;", true)
  | 10 => ("IroningBaskets$State", "board", "LIroningBaskets$Board;", true)
  | _ => ("IroningBaskets$State", "journal", "LIroningBaskets$Journal;", true)
def tyX9 : Nat → FieldType := fun k => match k with
  | 0 => .int
  | 1 => .int
  | 2 => .int
  | 3 => .int
  | 4 => .array .int
  | 5 => .array .int
  | 6 => .object "IroningBaskets$Customers"
  | 7 => .object "IroningBaskets$Shelf"
  | 8 => .object "IroningBaskets$HangersOut"
  | 9 => .object "IroningBaskets$PinlessPieces"
  | 10 => .object "IroningBaskets$Board"
  | _ => .object "IroningBaskets$Journal"
abbrev wsX90 : List Cond := u_ws RX9 TX9 12
theorem nmX9 : ∀ a, a < 12 → ∀ b, b < 12 → a ≠ b → (TX9 a).2.1 ≠ (TX9 b).2.1 := by decide +kernel
theorem tyX9_ok : ∀ k, k < 12 → parseFieldDescriptor (TX9 k).2.2.1 = some (tyX9 k) := by decide +kernel
abbrev cX9_init : ByteArray := prog_11_method_1_code
def yX9_init : MethodName := ⟨RX9, "<init>", "()V"⟩
abbrev cX9_copyFrom : ByteArray := prog_11_method_2_code
def yX9_copyFrom : MethodName := ⟨RX9, "copyFrom", "(LIroningBaskets$State;)V"⟩
abbrev cX9_refusal : ByteArray := prog_11_method_3_code
def yX9_refusal : MethodName := ⟨RX9, "refusal", "(IIII)I"⟩
abbrev cX9_receive : ByteArray := prog_11_method_4_code
def yX9_receive : MethodName := ⟨RX9, "receive", "(IIII)I"⟩
abbrev cX9_hangersOfTheService : ByteArray := prog_11_method_5_code
def yX9_hangersOfTheService : MethodName := ⟨RX9, "hangersOfTheService", "()I"⟩
abbrev cX9_nextVisit : ByteArray := prog_11_method_6_code
def yX9_nextVisit : MethodName := ⟨RX9, "nextVisit", "(I)I"⟩
abbrev cX9_isVisited : ByteArray := prog_11_method_7_code
def yX9_isVisited : MethodName := ⟨RX9, "isVisited", "(II)Z"⟩
abbrev cX9_turn : ByteArray := prog_11_method_8_code
def yX9_turn : MethodName := ⟨RX9, "turn", "(LIroningBaskets$Basket;)I"⟩
abbrev cX9_basketAtRank : ByteArray := prog_11_method_9_code
def yX9_basketAtRank : MethodName := ⟨RX9, "basketAtRank", "(I)I"⟩
abbrev cX9_rankOf : ByteArray := prog_11_method_10_code
def yX9_rankOf : MethodName := ⟨RX9, "rankOf", "(I)I"⟩
abbrev cX9_nextToIron : ByteArray := prog_11_method_11_code
def yX9_nextToIron : MethodName := ⟨RX9, "nextToIron", "()LIroningBaskets$Basket;"⟩
abbrev cX9_ironFor : ByteArray := prog_11_method_12_code
def yX9_ironFor : MethodName := ⟨RX9, "ironFor", "(I)I"⟩
abbrev cX9_ironNext : ByteArray := prog_11_method_13_code
def yX9_ironNext : MethodName := ⟨RX9, "ironNext", "(LIroningBaskets$Basket;I)I"⟩
abbrev cX9_nextDay : ByteArray := prog_11_method_14_code
def yX9_nextDay : MethodName := ⟨RX9, "nextDay", "()I"⟩
abbrev cX9_chargeHangers : ByteArray := prog_11_method_15_code
def yX9_chargeHangers : MethodName := ⟨RX9, "chargeHangers", "()V"⟩
abbrev cX9_loadVan : ByteArray := prog_11_method_16_code
def yX9_loadVan : MethodName := ⟨RX9, "loadVan", "()I"⟩
abbrev cX9_handOver : ByteArray := prog_11_method_17_code
def yX9_handOver : MethodName := ⟨RX9, "handOver", "(LIroningBaskets$Basket;)V"⟩
def RX10 : String := "IroningBaskets"
def TX10 : u_T := fun k => match k with
  | 0 => ("IroningBaskets", "now", "LIroningBaskets$State;", true)
  | 1 => ("IroningBaskets", "snapshot", "LIroningBaskets$State;", true)
  | 2 => ("IroningBaskets", "trial", "LIroningBaskets$State;", true)
  | 3 => ("IroningBaskets", "history", "LIroningBaskets$History;", true)
  | 4 => ("IroningBaskets", "text", "LIroningBaskets$BasketText;", true)
  | _ => ("IroningBaskets", "kept", "Z", false)
def tyX10 : Nat → FieldType := fun k => match k with
  | 0 => .object "IroningBaskets$State"
  | 1 => .object "IroningBaskets$State"
  | 2 => .object "IroningBaskets$State"
  | 3 => .object "IroningBaskets$History"
  | 4 => .object "IroningBaskets$BasketText"
  | _ => .boolean
abbrev wsX100 : List Cond := u_ws RX10 TX10 6
theorem nmX10 : ∀ a, a < 6 → ∀ b, b < 6 → a ≠ b → (TX10 a).2.1 ≠ (TX10 b).2.1 := by decide +kernel
theorem tyX10_ok : ∀ k, k < 6 → parseFieldDescriptor (TX10 k).2.2.1 = some (tyX10 k) := by decide +kernel
abbrev cX10_init : ByteArray := prog_1_method_1_code
def yX10_init : MethodName := ⟨RX10, "<init>", "()V"⟩
abbrev cX10_customer : ByteArray := prog_1_method_2_code
def yX10_customer : MethodName := ⟨RX10, "customer", "(I)I"⟩
abbrev cX10_visit : ByteArray := prog_1_method_3_code
def yX10_visit : MethodName := ⟨RX10, "visit", "(II)I"⟩
abbrev cX10_basket : ByteArray := prog_1_method_4_code
def yX10_basket : MethodName := ⟨RX10, "basket", "(IIII)I"⟩
abbrev cX10_baskets : ByteArray := prog_1_method_5_code
def yX10_baskets : MethodName := ⟨RX10, "baskets", "()I"⟩
abbrev cX10_lose : ByteArray := prog_1_method_6_code
def yX10_lose : MethodName := ⟨RX10, "lose", "(II)I"⟩
abbrev cX10_find : ByteArray := prog_1_method_7_code
def yX10_find : MethodName := ⟨RX10, "find", "(II)I"⟩
abbrev cX10_iron : ByteArray := prog_1_method_8_code
def yX10_iron : MethodName := ⟨RX10, "iron", "(I)I"⟩
abbrev cX10_pass : ByteArray := prog_1_method_9_code
def yX10_pass : MethodName := ⟨RX10, "pass", "(I)I"⟩
abbrev cX10_buy : ByteArray := prog_1_method_10_code
def yX10_buy : MethodName := ⟨RX10, "buy", "(I)I"⟩
abbrev cX10_pay : ByteArray := prog_1_method_11_code
def yX10_pay : MethodName := ⟨RX10, "pay", "(I)I"⟩
abbrev cX10_set : ByteArray := prog_1_method_12_code
def yX10_set : MethodName := ⟨RX10, "set", "(II)I"⟩
abbrev cX10_type : ByteArray := prog_1_method_13_code
def yX10_type : MethodName := ⟨RX10, "type", "(C)I"⟩
abbrev cX10_clearText : ByteArray := prog_1_method_14_code
def yX10_clearText : MethodName := ⟨RX10, "clearText", "()I"⟩
abbrev cX10_fault : ByteArray := prog_1_method_15_code
def yX10_fault : MethodName := ⟨RX10, "fault", "()I"⟩
abbrev cX10_undo : ByteArray := prog_1_method_16_code
def yX10_undo : MethodName := ⟨RX10, "undo", "()I"⟩
abbrev cX10_keep : ByteArray := prog_1_method_17_code
def yX10_keep : MethodName := ⟨RX10, "keep", "()I"⟩
abbrev cX10_restore : ByteArray := prog_1_method_18_code
def yX10_restore : MethodName := ⟨RX10, "restore", "()I"⟩
abbrev cX10_customerOf : ByteArray := prog_1_method_19_code
def yX10_customerOf : MethodName := ⟨RX10, "customerOf", "(II)I"⟩
abbrev cX10_basketOf : ByteArray := prog_1_method_20_code
def yX10_basketOf : MethodName := ⟨RX10, "basketOf", "(II)I"⟩
abbrev cX10_lost : ByteArray := prog_1_method_21_code
def yX10_lost : MethodName := ⟨RX10, "lost", "(II)I"⟩
abbrev cX10_ordered : ByteArray := prog_1_method_22_code
def yX10_ordered : MethodName := ⟨RX10, "ordered", "(I)I"⟩
abbrev cX10_book : ByteArray := prog_1_method_23_code
def yX10_book : MethodName := ⟨RX10, "book", "(II)I"⟩
abbrev cX10_count : ByteArray := prog_1_method_24_code
def yX10_count : MethodName := ⟨RX10, "count", "(I)I"⟩
abbrev cX10_meanMinutes : ByteArray := prog_1_method_25_code
def yX10_meanMinutes : MethodName := ⟨RX10, "meanMinutes", "()F"⟩
abbrev cX10_ifIroned : ByteArray := prog_1_method_26_code
def yX10_ifIroned : MethodName := ⟨RX10, "ifIroned", "(III)I"⟩
abbrev cX10_bestOrder : ByteArray := prog_1_method_27_code
def yX10_bestOrder : MethodName := ⟨RX10, "bestOrder", "(I)I"⟩
abbrev cX10_homeOn : ByteArray := prog_1_method_28_code
def yX10_homeOn : MethodName := ⟨RX10, "homeOn", "(II)I"⟩
abbrev cX10_wanting : ByteArray := prog_1_method_29_code
def yX10_wanting : MethodName := ⟨RX10, "wanting", "()I"⟩
abbrev cX10_sure : ByteArray := prog_1_method_30_code
def yX10_sure : MethodName := ⟨RX10, "sure", "()I"⟩
abbrev cX10_tryOrder : ByteArray := prog_1_method_31_code
def yX10_tryOrder : MethodName := ⟨RX10, "tryOrder", "(II)I"⟩
abbrev cX10_within : ByteArray := prog_1_method_32_code
def yX10_within : MethodName := ⟨RX10, "within", "(III)Z"⟩
abbrev cX10_lowest : ByteArray := prog_1_method_33_code
def yX10_lowest : MethodName := ⟨RX10, "lowest", "(I)I"⟩
abbrev cX10_highest : ByteArray := prog_1_method_34_code
def yX10_highest : MethodName := ⟨RX10, "highest", "(I)I"⟩
def RX11 : String := "IroningBasketsModel"
def TX11 : u_T := fun k => match k with
  | 0 => ("IroningBasketsModel", "thrown", "I", false)
  | 1 => ("IroningBasketsModel", "s", "[I", true)
  | 2 => ("IroningBasketsModel", "aside", "[I", true)
  | 3 => ("IroningBasketsModel", "states", "[I", true)
  | 4 => ("IroningBasketsModel", "stateMany", "I", false)
  | 5 => ("IroningBasketsModel", "snapshot", "[I", true)
  | 6 => ("IroningBasketsModel", "hasSnapshot", "Z", false)
  | 7 => ("IroningBasketsModel", "text", "[I", true)
  | 8 => ("IroningBasketsModel", "length", "I", false)
  | 9 => ("IroningBasketsModel", "at", "I", false)
  | 10 => ("IroningBasketsModel", "isWell", "Z", false)
  | 11 => ("IroningBasketsModel", "read", "[I", true)
  | _ => ("IroningBasketsModel", "readMany", "I", false)
def tyX11 : Nat → FieldType := fun k => match k with
  | 0 => .int
  | 1 => .array .int
  | 2 => .array .int
  | 3 => .array .int
  | 4 => .int
  | 5 => .array .int
  | 6 => .boolean
  | 7 => .array .int
  | 8 => .int
  | 9 => .int
  | 10 => .boolean
  | 11 => .array .int
  | _ => .int
abbrev wsX110 : List Cond := u_ws RX11 TX11 13
theorem nmX11 : ∀ a, a < 13 → ∀ b, b < 13 → a ≠ b → (TX11 a).2.1 ≠ (TX11 b).2.1 := by decide +kernel
theorem tyX11_ok : ∀ k, k < 13 → parseFieldDescriptor (TX11 k).2.2.1 = some (tyX11 k) := by decide +kernel
abbrev cX11_init : ByteArray := prog_13_method_1_code
def yX11_init : MethodName := ⟨RX11, "<init>", "()V"⟩
abbrev cX11_in : ByteArray := prog_13_method_3_code
def yX11_in : MethodName := ⟨RX11, "in", "(III)Z"⟩
abbrev cX11_isCustomer : ByteArray := prog_13_method_4_code
def yX11_isCustomer : MethodName := ⟨RX11, "isCustomer", "(I)Z"⟩
abbrev cX11_ofCustomer : ByteArray := prog_13_method_5_code
def yX11_ofCustomer : MethodName := ⟨RX11, "ofCustomer", "(II)I"⟩
abbrev cX11_layCustomer : ByteArray := prog_13_method_6_code
def yX11_layCustomer : MethodName := ⟨RX11, "layCustomer", "(III)V"⟩
abbrev cX11_of : ByteArray := prog_13_method_7_code
def yX11_of : MethodName := ⟨RX11, "of", "(II)I"⟩
abbrev cX11_lay : ByteArray := prog_13_method_8_code
def yX11_lay : MethodName := ⟨RX11, "lay", "(III)V"⟩
abbrev cX11_placeOf : ByteArray := prog_13_method_9_code
def yX11_placeOf : MethodName := ⟨RX11, "placeOf", "(I)I"⟩
abbrev cX11_records : ByteArray := prog_13_method_10_code
def yX11_records : MethodName := ⟨RX11, "records", "()V"⟩
abbrev cX11_putAside : ByteArray := prog_13_method_11_code
def yX11_putAside : MethodName := ⟨RX11, "putAside", "()V"⟩
abbrev cX11_takeBack : ByteArray := prog_13_method_12_code
def yX11_takeBack : MethodName := ⟨RX11, "takeBack", "()V"⟩
abbrev cX11_books : ByteArray := prog_13_method_13_code
def yX11_books : MethodName := ⟨RX11, "books", "(III)V"⟩
abbrev cX11_minutesOf : ByteArray := prog_13_method_14_code
def yX11_minutesOf : MethodName := ⟨RX11, "minutesOf", "(II)I"⟩
abbrev cX11_left : ByteArray := prog_13_method_15_code
def yX11_left : MethodName := ⟨RX11, "left", "(II)I"⟩
abbrev cX11_minutesLeft : ByteArray := prog_13_method_16_code
def yX11_minutesLeft : MethodName := ⟨RX11, "minutesLeft", "(I)I"⟩
abbrev cX11_priceOf : ByteArray := prog_13_method_17_code
def yX11_priceOf : MethodName := ⟨RX11, "priceOf", "(I)I"⟩
abbrev cX11_isReady : ByteArray := prog_13_method_18_code
def yX11_isReady : MethodName := ⟨RX11, "isReady", "(I)Z"⟩
abbrev cX11_readyMany : ByteArray := prog_13_method_19_code
def yX11_readyMany : MethodName := ⟨RX11, "readyMany", "()I"⟩
abbrev cX11_outTo : ByteArray := prog_13_method_20_code
def yX11_outTo : MethodName := ⟨RX11, "outTo", "(I)I"⟩
abbrev cX11_oldest : ByteArray := prog_13_method_21_code
def yX11_oldest : MethodName := ⟨RX11, "oldest", "(I)I"⟩
abbrev cX11_ageOf : ByteArray := prog_13_method_22_code
def yX11_ageOf : MethodName := ⟨RX11, "ageOf", "(I)I"⟩
abbrev cX11_comeBack : ByteArray := prog_13_method_23_code
def yX11_comeBack : MethodName := ⟨RX11, "comeBack", "(II)V"⟩
abbrev cX11_nextVisit : ByteArray := prog_13_method_24_code
def yX11_nextVisit : MethodName := ⟨RX11, "nextVisit", "(I)I"⟩
abbrev cX11_customer : ByteArray := prog_13_method_25_code
def yX11_customer : MethodName := ⟨RX11, "customer", "(I)I"⟩
abbrev cX11_visit : ByteArray := prog_13_method_26_code
def yX11_visit : MethodName := ⟨RX11, "visit", "(II)I"⟩
abbrev cX11_refusesBasket : ByteArray := prog_13_method_27_code
def yX11_refusesBasket : MethodName := ⟨RX11, "refusesBasket", "(IIII)I"⟩
abbrev cX11_freePin : ByteArray := prog_13_method_28_code
def yX11_freePin : MethodName := ⟨RX11, "freePin", "()I"⟩
abbrev cX11_comes : ByteArray := prog_13_method_29_code
def yX11_comes : MethodName := ⟨RX11, "comes", "(IIII)I"⟩
abbrev cX11_basket : ByteArray := prog_13_method_30_code
def yX11_basket : MethodName := ⟨RX11, "basket", "(IIII)I"⟩
abbrev cX11_baskets : ByteArray := prog_13_method_31_code
def yX11_baskets : MethodName := ⟨RX11, "baskets", "()I"⟩
abbrev cX11_degree : ByteArray := prog_13_method_32_code
def yX11_degree : MethodName := ⟨RX11, "degree", "(II)I"⟩
abbrev cX11_lose : ByteArray := prog_13_method_33_code
def yX11_lose : MethodName := ⟨RX11, "lose", "(II)I"⟩
abbrev cX11_canBelong : ByteArray := prog_13_method_34_code
def yX11_canBelong : MethodName := ⟨RX11, "canBelong", "(II)Z"⟩
abbrev cX11_isLost : ByteArray := prog_13_method_35_code
def yX11_isLost : MethodName := ⟨RX11, "isLost", "(I)Z"⟩
abbrev cX11_find : ByteArray := prog_13_method_36_code
def yX11_find : MethodName := ⟨RX11, "find", "(II)I"⟩
abbrev cX11_keyOf : ByteArray := prog_13_method_37_code
def yX11_keyOf : MethodName := ⟨RX11, "keyOf", "(I)I"⟩
abbrev cX11_ranked : ByteArray := prog_13_method_38_code
def yX11_ranked : MethodName := ⟨RX11, "ranked", "(I)I"⟩
abbrev cX11_kindNow : ByteArray := prog_13_method_39_code
def yX11_kindNow : MethodName := ⟨RX11, "kindNow", "(I)I"⟩
abbrev cX11_nextBasket : ByteArray := prog_13_method_40_code
def yX11_nextBasket : MethodName := ⟨RX11, "nextBasket", "()I"⟩
abbrev cX11_irons : ByteArray := prog_13_method_41_code
def yX11_irons : MethodName := ⟨RX11, "irons", "(I)I"⟩
abbrev cX11_iron : ByteArray := prog_13_method_42_code
def yX11_iron : MethodName := ⟨RX11, "iron", "(I)I"⟩
abbrev cX11_pays : ByteArray := prog_13_method_43_code
def yX11_pays : MethodName := ⟨RX11, "pays", "(I)V"⟩
abbrev cX11_leaves : ByteArray := prog_13_method_44_code
def yX11_leaves : MethodName := ⟨RX11, "leaves", "(I)V"⟩
abbrev cX11_goesBy : ByteArray := prog_13_method_45_code
def yX11_goesBy : MethodName := ⟨RX11, "goesBy", "()I"⟩
abbrev cX11_pass : ByteArray := prog_13_method_46_code
def yX11_pass : MethodName := ⟨RX11, "pass", "(I)I"⟩
abbrev cX11_buy : ByteArray := prog_13_method_47_code
def yX11_buy : MethodName := ⟨RX11, "buy", "(I)I"⟩
abbrev cX11_pay : ByteArray := prog_13_method_48_code
def yX11_pay : MethodName := ⟨RX11, "pay", "(I)I"⟩
abbrev cX11_mostOf : ByteArray := prog_13_method_49_code
def yX11_mostOf : MethodName := ⟨RX11, "mostOf", "(I)I"⟩
abbrev cX11_set : ByteArray := prog_13_method_50_code
def yX11_set : MethodName := ⟨RX11, "set", "(II)I"⟩
abbrev cX11_type : ByteArray := prog_13_method_51_code
def yX11_type : MethodName := ⟨RX11, "type", "(C)I"⟩
abbrev cX11_clearText : ByteArray := prog_13_method_52_code
def yX11_clearText : MethodName := ⟨RX11, "clearText", "()I"⟩
abbrev cX11_sign : ByteArray := prog_13_method_53_code
def yX11_sign : MethodName := ⟨RX11, "sign", "()I"⟩
abbrev cX11_digit : ByteArray := prog_13_method_54_code
def yX11_digit : MethodName := ⟨RX11, "digit", "(II)I"⟩
abbrev cX11_takes : ByteArray := prog_13_method_55_code
def yX11_takes : MethodName := ⟨RX11, "takes", "(I)Z"⟩
abbrev cX11_letterOf : ByteArray := prog_13_method_56_code
def yX11_letterOf : MethodName := ⟨RX11, "letterOf", "(I)I"⟩
abbrev cX11_unitOf : ByteArray := prog_13_method_57_code
def yX11_unitOf : MethodName := ⟨RX11, "unitOf", "(I)I"⟩
abbrev cX11_readsPieces : ByteArray := prog_13_method_58_code
def yX11_readsPieces : MethodName := ⟨RX11, "readsPieces", "()I"⟩
abbrev cX11_readsHangers : ByteArray := prog_13_method_59_code
def yX11_readsHangers : MethodName := ⟨RX11, "readsHangers", "()I"⟩
abbrev cX11_readsBasket : ByteArray := prog_13_method_60_code
def yX11_readsBasket : MethodName := ⟨RX11, "readsBasket", "()V"⟩
abbrev cX11_reads : ByteArray := prog_13_method_61_code
def yX11_reads : MethodName := ⟨RX11, "reads", "()I"⟩
abbrev cX11_fault : ByteArray := prog_13_method_62_code
def yX11_fault : MethodName := ⟨RX11, "fault", "()I"⟩
abbrev cX11_undo : ByteArray := prog_13_method_63_code
def yX11_undo : MethodName := ⟨RX11, "undo", "()I"⟩
abbrev cX11_keep : ByteArray := prog_13_method_64_code
def yX11_keep : MethodName := ⟨RX11, "keep", "()I"⟩
abbrev cX11_restore : ByteArray := prog_13_method_65_code
def yX11_restore : MethodName := ⟨RX11, "restore", "()I"⟩
abbrev cX11_basketsOf : ByteArray := prog_13_method_66_code
def yX11_basketsOf : MethodName := ⟨RX11, "basketsOf", "(I)I"⟩
abbrev cX11_oldestDay : ByteArray := prog_13_method_67_code
def yX11_oldestDay : MethodName := ⟨RX11, "oldestDay", "(I)I"⟩
abbrev cX11_customerOf : ByteArray := prog_13_method_68_code
def yX11_customerOf : MethodName := ⟨RX11, "customerOf", "(II)I"⟩
abbrev cX11_digitsOf : ByteArray := prog_13_method_69_code
def yX11_digitsOf : MethodName := ⟨RX11, "digitsOf", "(II)I"⟩
abbrev cX11_basketOf : ByteArray := prog_13_method_70_code
def yX11_basketOf : MethodName := ⟨RX11, "basketOf", "(II)I"⟩
abbrev cX11_belongsTo : ByteArray := prog_13_method_71_code
def yX11_belongsTo : MethodName := ⟨RX11, "belongsTo", "(I)I"⟩
abbrev cX11_lowestFor : ByteArray := prog_13_method_72_code
def yX11_lowestFor : MethodName := ⟨RX11, "lowestFor", "(I)I"⟩
abbrev cX11_lost : ByteArray := prog_13_method_73_code
def yX11_lost : MethodName := ⟨RX11, "lost", "(II)I"⟩
abbrev cX11_ordered : ByteArray := prog_13_method_74_code
def yX11_ordered : MethodName := ⟨RX11, "ordered", "(I)I"⟩
abbrev cX11_book : ByteArray := prog_13_method_75_code
def yX11_book : MethodName := ⟨RX11, "book", "(II)I"⟩
abbrev cX11_onPieces : ByteArray := prog_13_method_76_code
def yX11_onPieces : MethodName := ⟨RX11, "onPieces", "()I"⟩
abbrev cX11_outInAll : ByteArray := prog_13_method_77_code
def yX11_outInAll : MethodName := ⟨RX11, "outInAll", "()I"⟩
abbrev cX11_owedInAll : ByteArray := prog_13_method_78_code
def yX11_owedInAll : MethodName := ⟨RX11, "owedInAll", "()I"⟩
abbrev cX11_tellsCount : ByteArray := prog_13_method_79_code
def yX11_tellsCount : MethodName := ⟨RX11, "tellsCount", "(I)I"⟩
abbrev cX11_count : ByteArray := prog_13_method_80_code
def yX11_count : MethodName := ⟨RX11, "count", "(I)I"⟩
abbrev cX11_meanMinutes : ByteArray := prog_13_method_81_code
def yX11_meanMinutes : MethodName := ⟨RX11, "meanMinutes", "()F"⟩
abbrev cX11_would : ByteArray := prog_13_method_82_code
def yX11_would : MethodName := ⟨RX11, "would", "(III)I"⟩
abbrev cX11_ifIroned : ByteArray := prog_13_method_83_code
def yX11_ifIroned : MethodName := ⟨RX11, "ifIroned", "(III)I"⟩
abbrev cX11_bestOrder : ByteArray := prog_13_method_84_code
def yX11_bestOrder : MethodName := ⟨RX11, "bestOrder", "(I)I"⟩
abbrev cX11_homeOn : ByteArray := prog_13_method_85_code
def yX11_homeOn : MethodName := ⟨RX11, "homeOn", "(II)I"⟩
abbrev cX11_wanting : ByteArray := prog_13_method_86_code
def yX11_wanting : MethodName := ⟨RX11, "wanting", "()I"⟩
abbrev cX11_sure : ByteArray := prog_13_method_87_code
def yX11_sure : MethodName := ⟨RX11, "sure", "()I"⟩
def RJ9 : String := "java/lang/Math"
def TJ9 : u_T := fun k => match k with
  | _ => ("", "", "", false)
def tyJ9 : Nat → FieldType := fun k => match k with
  | _ => .int
abbrev wsJ90 : List Cond := u_ws RJ9 TJ9 0
theorem nmJ9 : ∀ a, a < 0 → ∀ b, b < 0 → a ≠ b → (TJ9 a).2.1 ≠ (TJ9 b).2.1 := by decide +kernel
theorem tyJ9_ok : ∀ k, k < 0 → parseFieldDescriptor (TJ9 k).2.2.1 = some (tyJ9 k) := by decide +kernel
abbrev cJ9_max_7cf53 : ByteArray := prog_14_method_65_code
def yJ9_max_7cf53 : MethodName := ⟨RJ9, "max", "(II)I"⟩
abbrev cJ9_min_7cf53 : ByteArray := prog_14_method_69_code
def yJ9_min_7cf53 : MethodName := ⟨RJ9, "min", "(II)I"⟩
def RJ10 : String := "java/lang/System"
def TJ10 : u_T := fun k => match k with
  | _ => ("", "", "", false)
def tyJ10 : Nat → FieldType := fun k => match k with
  | _ => .int
abbrev wsJ100 : List Cond := u_ws RJ10 TJ10 0
theorem nmJ10 : ∀ a, a < 0 → ∀ b, b < 0 → a ≠ b → (TJ10 a).2.1 ≠ (TJ10 b).2.1 := by decide +kernel
theorem tyJ10_ok : ∀ k, k < 0 → parseFieldDescriptor (TJ10 k).2.2.1 = some (tyJ10 k) := by decide +kernel
def RL : String := "IroningBasketsLaw"
abbrev cL_law : ByteArray := code
def yL_law : MethodName := ⟨RL, "law", "([I)Z"⟩
abbrev vwCl : List vw_C := [(RX0, TX0, 8), (RX1, TX1, 9), (RX2, TX2, 4), (RX3, TX3, 4), (RX4, TX4, 4), (RX5, TX5, 3), (RX6, TX6, 3), (RX7, TX7, 3), (RX8, TX8, 3), (RX9, TX9, 12), (RX10, TX10, 6), (RX11, TX11, 13)]
/-- the words that a call may take along -/
def gw : List Cond := lw_tbl.filter goodWord
theorem gw_good : ∀ w ∈ gw, goodWord w = true := fun w h => (List.mem_filter.mp h).2
theorem gw_tbl : ∀ w ∈ gw, w ∈ lw_tbl := fun w h => (List.mem_filter.mp h).1
theorem gw_in {w : Cond} (h : w ∈ lw_tbl) (g : goodWord w = true) : w ∈ gw := List.mem_filter.mpr ⟨h, g⟩
end
section
/-! the methods by number: name, code, locals, answer, class, arguments (with this), frames, locals' words, makes cells -/
def mt_0 : List (MethodName × ByteArray × Nat × Option FieldType × Nat × Nat × Nat × Nat × Bool) := [(yX0_init, cX0_init, 1, none, 0, 1, 1, 21, true),
  (yX0_copyFrom, cX0_copyFrom, 2, none, 0, 2, 1, 100, false),
  (yX0_fill, cX0_fill, 3, none, 0, 2, 0, 0, false),
  (yX0_asDigits, cX0_asDigits, 3, (some .int), 0, 1, 0, 0, false),
  (yX0_takesStarch, cX0_takesStarch, 1, (some .boolean), 0, 1, 0, 0, false),
  (yX0_takesHanger, cX0_takesHanger, 1, (some .boolean), 0, 1, 0, 0, false),
  (yX0_degree, cX0_degree, 2, (some .int), 0, 2, 1, 20, false),
  (yX0_minutes, cX0_minutes, 2, (some .int), 0, 2, 2, 41, false),
  (yX0_open, cX0_open, 2, (some .int), 0, 2, 0, 0, false),
  (yX0_openMinutes, cX0_openMinutes, 3, (some .int), 0, 1, 3, 62, false),
  (yX0_lowestIronable, cX0_lowestIronable, 3, (some .int), 0, 2, 1, 21, false),
  (yX0_misses, cX0_misses, 3, (some .boolean), 0, 3, 2, 41, false),
  (yX0_isReady, cX0_isReady, 2, (some .boolean), 0, 1, 0, 0, false),
  (yX0_price, cX0_price, 3, (some .int), 0, 1, 3, 62, false),
  (yX0_needingHangers, cX0_needingHangers, 3, (some .int), 0, 1, 1, 20, false),
  (yX1_init, cX1_init, 1, none, 1, 1, 1, 21, true),
  (yX1_append, cX1_append, 2, none, 1, 2, 0, 0, false),
  (yX1_read, cX1_read, 2, (some .int), 1, 1, 3, 65, false),
  (yX1_mayEnd, cX1_mayEnd, 1, (some .boolean), 1, 1, 0, 0, false),
  (yX1_take, cX1_take, 2, (some .boolean), 1, 2, 2, 44, false)]
def mt_1 : List (MethodName × ByteArray × Nat × Option FieldType × Nat × Nat × Nat × Nat × Bool) := [(yX1_takeCustomer, cX1_takeCustomer, 2, (some .boolean), 1, 2, 1, 22, false),
  (yX1_takeKind, cX1_takeKind, 3, (some .boolean), 1, 2, 1, 20, false),
  (yX1_takePieces, cX1_takePieces, 2, (some .boolean), 1, 2, 1, 22, false),
  (yX1_takeStarch, cX1_takeStarch, 2, (some .boolean), 1, 2, 1, 22, false),
  (yX1_takeHangers, cX1_takeHangers, 3, (some .boolean), 1, 3, 1, 22, false),
  (yX1_takeEnding, cX1_takeEnding, 2, (some .boolean), 1, 2, 1, 23, false),
  (yX1_takeSign, cX1_takeSign, 4, (some .boolean), 1, 4, 0, 0, false),
  (yX1_isDigit, cX1_isDigit, 3, (some .boolean), 1, 3, 0, 0, false),
  (yX1_kindOf, cX1_kindOf, 1, (some .int), 1, 1, 0, 0, false),
  (yX2_init, cX2_init, 1, none, 2, 1, 1, 21, false),
  (yX2_copyFrom, cX2_copyFrom, 2, none, 2, 2, 0, 0, false),
  (yX3_init, cX3_init, 1, none, 3, 1, 1, 21, true),
  (yX3_copyFrom, cX3_copyFrom, 2, none, 3, 2, 1, 100, false),
  (yX3_has, cX3_has, 2, (some .boolean), 3, 2, 0, 0, false),
  (yX3_enter, cX3_enter, 3, (some .int), 3, 2, 0, 0, false),
  (yX3_owedByAll, cX3_owedByAll, 1, (some .int), 3, 1, 1, 23, false),
  (yX3_hangersPaidByAll, cX3_hangersPaidByAll, 1, (some .int), 3, 1, 1, 23, false),
  (yX3_sumOf, cX3_sumOf, 4, (some .int), 3, 2, 0, 0, false),
  (yX4_init, cX4_init, 1, none, 4, 1, 1, 21, true),
  (yX4_copyFrom, cX4_copyFrom, 2, none, 4, 2, 1, 100, false)]
def mt_2 : List (MethodName × ByteArray × Nat × Option FieldType × Nat × Nat × Nat × Nat × Bool) := [(yX4_send, cX4_send, 4, none, 4, 4, 0, 0, false),
  (yX4_outTo, cX4_outTo, 4, (some .int), 4, 2, 0, 0, false),
  (yX4_outToAll, cX4_outToAll, 3, (some .int), 4, 1, 0, 0, false),
  (yX4_firstDay, cX4_firstDay, 3, (some .int), 4, 2, 0, 0, false),
  (yX4_takeBack, cX4_takeBack, 6, none, 4, 3, 1, 22, false),
  (yX4_anyFromBefore, cX4_anyFromBefore, 2, (some .boolean), 4, 2, 0, 0, false),
  (yX4_takeFromBefore, cX4_takeFromBefore, 5, (some .int), 4, 3, 1, 22, false),
  (yX4_dropEmptyBatches, cX4_dropEmptyBatches, 3, none, 4, 1, 0, 0, false),
  (yX5_init, cX5_init, 2, none, 5, 1, 4, 82, true),
  (yX5_push, cX5_push, 2, none, 5, 2, 4, 164, false),
  (yX5_popInto, cX5_popInto, 2, none, 5, 2, 4, 164, false),
  (yX6_init, cX6_init, 1, none, 6, 1, 1, 21, true),
  (yX6_copyFrom, cX6_copyFrom, 2, none, 6, 2, 1, 100, false),
  (yX6_write, cX6_write, 6, none, 6, 5, 1, 21, false),
  (yX6_tell, cX6_tell, 3, (some .int), 6, 3, 0, 0, false),
  (yX7_init, cX7_init, 1, none, 7, 1, 1, 21, true),
  (yX7_copyFrom, cX7_copyFrom, 2, none, 7, 2, 1, 100, false),
  (yX7_has, cX7_has, 2, (some .boolean), 7, 2, 0, 0, false),
  (yX7_append, cX7_append, 3, none, 7, 3, 0, 0, false),
  (yX7_removeAt, cX7_removeAt, 3, none, 7, 2, 0, 0, false)]
def mt_3 : List (MethodName × ByteArray × Nat × Option FieldType × Nat × Nat × Nat × Nat × Bool) := [(yX8_init, cX8_init, 2, none, 8, 1, 2, 41, true),
  (yX8_copyFrom, cX8_copyFrom, 3, none, 8, 2, 2, 121, false),
  (yX8_isFull, cX8_isFull, 1, (some .boolean), 8, 1, 0, 0, false),
  (yX8_add, cX8_add, 3, (some (.object "IroningBaskets$Basket")), 8, 1, 1, 22, false),
  (yX8_lowestFreePin, cX8_lowestFreePin, 3, (some .int), 8, 1, 0, 0, false),
  (yX8_withNumber, cX8_withNumber, 3, (some (.object "IroningBaskets$Basket")), 8, 2, 0, 0, false),
  (yX8_numberFrom, cX8_numberFrom, 4, (some .int), 8, 2, 0, 0, false),
  (yX8_numberReady, cX8_numberReady, 3, (some .int), 8, 1, 1, 21, false),
  (yX8_numberMissing, cX8_numberMissing, 5, (some .int), 8, 3, 3, 63, false),
  (yX8_lowestMissing, cX8_lowestMissing, 4, (some .int), 8, 3, 3, 63, false),
  (yX8_hangersOnPieces, cX8_hangersOnPieces, 3, (some .int), 8, 1, 2, 42, false),
  (yX8_hangersToCome, cX8_hangersToCome, 3, (some .int), 8, 1, 2, 42, false),
  (yX9_init, cX9_init, 1, none, 9, 1, 3, 62, true),
  (yX9_copyFrom, cX9_copyFrom, 2, none, 9, 2, 3, 143, false),
  (yX9_refusal, cX9_refusal, 5, (some .int), 9, 5, 1, 23, false),
  (yX9_receive, cX9_receive, 6, (some .int), 9, 5, 2, 47, false),
  (yX9_hangersOfTheService, cX9_hangersOfTheService, 1, (some .int), 9, 1, 3, 64, false),
  (yX9_nextVisit, cX9_nextVisit, 3, (some .int), 9, 2, 1, 22, false),
  (yX9_isVisited, cX9_isVisited, 3, (some .boolean), 9, 3, 0, 0, false),
  (yX9_turn, cX9_turn, 3, (some .int), 9, 2, 4, 84, false)]
def mt_4 : List (MethodName × ByteArray × Nat × Option FieldType × Nat × Nat × Nat × Nat × Bool) := [(yX9_basketAtRank, cX9_basketAtRank, 3, (some .int), 9, 2, 6, 131, false),
  (yX9_rankOf, cX9_rankOf, 6, (some .int), 9, 2, 5, 106, false),
  (yX9_nextToIron, cX9_nextToIron, 6, (some (.object "IroningBaskets$Basket")), 9, 1, 5, 106, false),
  (yX9_ironFor, cX9_ironFor, 6, (some .int), 9, 2, 6, 131, false),
  (yX9_ironNext, cX9_ironNext, 6, (some .int), 9, 3, 3, 62, false),
  (yX9_nextDay, cX9_nextDay, 1, (some .int), 9, 1, 6, 130, false),
  (yX9_chargeHangers, cX9_chargeHangers, 5, none, 9, 1, 2, 46, false),
  (yX9_loadVan, cX9_loadVan, 5, (some .int), 9, 1, 5, 106, false),
  (yX9_handOver, cX9_handOver, 3, none, 9, 2, 4, 84, false),
  (yX10_init, cX10_init, 1, none, 10, 1, 5, 103, true),
  (yX10_customer, cX10_customer, 2, (some .int), 10, 2, 5, 185, false),
  (yX10_visit, cX10_visit, 4, (some .int), 10, 3, 5, 185, false),
  (yX10_basket, cX10_basket, 6, (some .int), 10, 5, 5, 185, false),
  (yX10_baskets, cX10_baskets, 4, (some .int), 10, 1, 5, 185, false),
  (yX10_lose, cX10_lose, 4, (some .int), 10, 3, 5, 185, false),
  (yX10_find, cX10_find, 5, (some .int), 10, 3, 5, 185, false),
  (yX10_iron, cX10_iron, 2, (some .int), 10, 2, 7, 185, false),
  (yX10_pass, cX10_pass, 4, (some .int), 10, 2, 7, 185, false),
  (yX10_buy, cX10_buy, 2, (some .int), 10, 2, 5, 185, false),
  (yX10_pay, cX10_pay, 3, (some .int), 10, 2, 5, 185, false)]
def mt_5 : List (MethodName × ByteArray × Nat × Option FieldType × Nat × Nat × Nat × Nat × Bool) := [(yX10_set, cX10_set, 4, (some .int), 10, 3, 5, 185, false),
  (yX10_type, cX10_type, 2, (some .int), 10, 2, 1, 21, false),
  (yX10_clearText, cX10_clearText, 2, (some .int), 10, 1, 0, 0, false),
  (yX10_fault, cX10_fault, 1, (some .int), 10, 1, 4, 86, false),
  (yX10_undo, cX10_undo, 1, (some .int), 10, 1, 5, 185, false),
  (yX10_keep, cX10_keep, 1, (some .int), 10, 1, 4, 164, false),
  (yX10_restore, cX10_restore, 1, (some .int), 10, 1, 5, 185, false),
  (yX10_customerOf, cX10_customerOf, 3, (some .int), 10, 3, 2, 44, false),
  (yX10_basketOf, cX10_basketOf, 4, (some .int), 10, 3, 4, 84, false),
  (yX10_lost, cX10_lost, 5, (some .int), 10, 3, 4, 87, false),
  (yX10_ordered, cX10_ordered, 2, (some .int), 10, 2, 7, 153, false),
  (yX10_book, cX10_book, 3, (some .int), 10, 3, 1, 22, false),
  (yX10_count, cX10_count, 2, (some .int), 10, 2, 3, 64, false),
  (yX10_meanMinutes, cX10_meanMinutes, 1, (some .float), 10, 1, 0, 0, false),
  (yX10_ifIroned, cX10_ifIroned, 5, (some .int), 10, 4, 8, 186, false),
  (yX10_bestOrder, cX10_bestOrder, 8, (some .int), 10, 2, 8, 186, false),
  (yX10_homeOn, cX10_homeOn, 4, (some .int), 10, 3, 7, 164, false),
  (yX10_wanting, cX10_wanting, 1, (some .int), 10, 1, 3, 64, false),
  (yX10_sure, cX10_sure, 3, (some .int), 10, 1, 4, 87, false),
  (yX10_tryOrder, cX10_tryOrder, 3, (some .int), 10, 3, 7, 164, false)]
def mt_6 : List (MethodName × ByteArray × Nat × Option FieldType × Nat × Nat × Nat × Nat × Bool) := [(yX10_within, cX10_within, 3, (some .boolean), 10, 3, 0, 0, false),
  (yX10_lowest, cX10_lowest, 1, (some .int), 10, 1, 0, 0, false),
  (yX10_highest, cX10_highest, 1, (some .int), 10, 1, 0, 0, false),
  (yX11_init, cX11_init, 2, none, 11, 1, 1, 21, true),
  (yX11_in, cX11_in, 3, (some .boolean), 11, 3, 0, 0, false),
  (yX11_isCustomer, cX11_isCustomer, 2, (some .boolean), 11, 2, 1, 22, false),
  (yX11_ofCustomer, cX11_ofCustomer, 3, (some .int), 11, 3, 0, 0, false),
  (yX11_layCustomer, cX11_layCustomer, 4, none, 11, 4, 0, 0, false),
  (yX11_of, cX11_of, 3, (some .int), 11, 3, 0, 0, false),
  (yX11_lay, cX11_lay, 4, none, 11, 4, 0, 0, false),
  (yX11_placeOf, cX11_placeOf, 4, (some .int), 11, 2, 1, 22, false),
  (yX11_records, cX11_records, 2, none, 11, 1, 0, 0, false),
  (yX11_putAside, cX11_putAside, 2, none, 11, 1, 0, 0, false),
  (yX11_takeBack, cX11_takeBack, 2, none, 11, 1, 0, 0, false),
  (yX11_books, cX11_books, 5, none, 11, 4, 0, 0, false),
  (yX11_minutesOf, cX11_minutesOf, 2, (some .int), 11, 2, 0, 0, false),
  (yX11_left, cX11_left, 3, (some .int), 11, 3, 1, 22, false),
  (yX11_minutesLeft, cX11_minutesLeft, 4, (some .int), 11, 2, 2, 44, false),
  (yX11_priceOf, cX11_priceOf, 4, (some .int), 11, 2, 1, 22, false),
  (yX11_isReady, cX11_isReady, 4, (some .boolean), 11, 2, 1, 22, false)]
def mt_7 : List (MethodName × ByteArray × Nat × Option FieldType × Nat × Nat × Nat × Nat × Bool) := [(yX11_readyMany, cX11_readyMany, 3, (some .int), 11, 1, 2, 45, false),
  (yX11_outTo, cX11_outTo, 4, (some .int), 11, 2, 0, 0, false),
  (yX11_oldest, cX11_oldest, 4, (some .int), 11, 2, 0, 0, false),
  (yX11_ageOf, cX11_ageOf, 2, (some .int), 11, 2, 0, 0, false),
  (yX11_comeBack, cX11_comeBack, 6, none, 11, 3, 1, 23, false),
  (yX11_nextVisit, cX11_nextVisit, 3, (some .int), 11, 2, 0, 0, false),
  (yX11_customer, cX11_customer, 2, (some .int), 11, 2, 1, 23, false),
  (yX11_visit, cX11_visit, 4, (some .int), 11, 3, 1, 22, false),
  (yX11_refusesBasket, cX11_refusesBasket, 5, (some .int), 11, 5, 2, 43, false),
  (yX11_freePin, cX11_freePin, 3, (some .int), 11, 1, 1, 22, false),
  (yX11_comes, cX11_comes, 8, (some .int), 11, 5, 2, 48, false),
  (yX11_basket, cX11_basket, 6, (some .int), 11, 5, 3, 75, false),
  (yX11_baskets, cX11_baskets, 4, (some .int), 11, 1, 5, 108, false),
  (yX11_degree, cX11_degree, 3, (some .int), 11, 3, 1, 22, false),
  (yX11_lose, cX11_lose, 4, (some .int), 11, 3, 2, 45, false),
  (yX11_canBelong, cX11_canBelong, 4, (some .boolean), 11, 3, 2, 44, false),
  (yX11_isLost, cX11_isLost, 2, (some .boolean), 11, 2, 1, 22, false),
  (yX11_find, cX11_find, 6, (some .int), 11, 3, 3, 67, false),
  (yX11_keyOf, cX11_keyOf, 2, (some .int), 11, 2, 3, 67, false),
  (yX11_ranked, cX11_ranked, 5, (some .int), 11, 2, 4, 88, false)]
def mt_8 : List (MethodName × ByteArray × Nat × Option FieldType × Nat × Nat × Nat × Nat × Bool) := [(yX11_kindNow, cX11_kindNow, 3, (some .int), 11, 2, 2, 44, false),
  (yX11_nextBasket, cX11_nextBasket, 3, (some .int), 11, 1, 5, 112, false),
  (yX11_irons, cX11_irons, 8, (some .int), 11, 2, 6, 134, false),
  (yX11_iron, cX11_iron, 2, (some .int), 11, 2, 7, 161, false),
  (yX11_pays, cX11_pays, 4, none, 11, 2, 1, 24, false),
  (yX11_leaves, cX11_leaves, 4, none, 11, 2, 2, 45, false),
  (yX11_goesBy, cX11_goesBy, 5, (some .int), 11, 1, 3, 68, false),
  (yX11_pass, cX11_pass, 4, (some .int), 11, 2, 4, 92, false),
  (yX11_buy, cX11_buy, 2, (some .int), 11, 2, 1, 22, false),
  (yX11_pay, cX11_pay, 3, (some .int), 11, 2, 2, 43, false),
  (yX11_mostOf, cX11_mostOf, 1, (some .int), 11, 1, 0, 0, false),
  (yX11_set, cX11_set, 4, (some .int), 11, 3, 1, 22, false),
  (yX11_type, cX11_type, 2, (some .int), 11, 2, 0, 0, false),
  (yX11_clearText, cX11_clearText, 2, (some .int), 11, 1, 0, 0, false),
  (yX11_sign, cX11_sign, 1, (some .int), 11, 1, 0, 0, false),
  (yX11_digit, cX11_digit, 4, (some .int), 11, 3, 1, 22, false),
  (yX11_takes, cX11_takes, 3, (some .boolean), 11, 2, 1, 20, false),
  (yX11_letterOf, cX11_letterOf, 1, (some .int), 11, 1, 0, 0, false),
  (yX11_unitOf, cX11_unitOf, 1, (some .int), 11, 1, 0, 0, false),
  (yX11_readsPieces, cX11_readsPieces, 3, (some .int), 11, 1, 2, 45, false)]
def mt_9 : List (MethodName × ByteArray × Nat × Option FieldType × Nat × Nat × Nat × Nat × Bool) := [(yX11_readsHangers, cX11_readsHangers, 2, (some .int), 11, 1, 2, 45, false),
  (yX11_readsBasket, cX11_readsBasket, 2, none, 11, 1, 3, 67, false),
  (yX11_reads, cX11_reads, 1, (some .int), 11, 1, 4, 88, false),
  (yX11_fault, cX11_fault, 1, (some .int), 11, 1, 5, 108, false),
  (yX11_undo, cX11_undo, 2, (some .int), 11, 1, 0, 0, false),
  (yX11_keep, cX11_keep, 2, (some .int), 11, 1, 0, 0, false),
  (yX11_restore, cX11_restore, 2, (some .int), 11, 1, 1, 21, false),
  (yX11_basketsOf, cX11_basketsOf, 4, (some .int), 11, 2, 1, 22, false),
  (yX11_oldestDay, cX11_oldestDay, 3, (some .int), 11, 2, 1, 23, false),
  (yX11_customerOf, cX11_customerOf, 4, (some .int), 11, 3, 2, 45, false),
  (yX11_digitsOf, cX11_digitsOf, 3, (some .int), 11, 3, 1, 22, false),
  (yX11_basketOf, cX11_basketOf, 4, (some .int), 11, 3, 3, 67, false),
  (yX11_belongsTo, cX11_belongsTo, 4, (some .int), 11, 2, 3, 67, false),
  (yX11_lowestFor, cX11_lowestFor, 3, (some .int), 11, 2, 3, 67, false),
  (yX11_lost, cX11_lost, 3, (some .int), 11, 3, 4, 90, false),
  (yX11_ordered, cX11_ordered, 3, (some .int), 11, 2, 5, 112, false),
  (yX11_book, cX11_book, 3, (some .int), 11, 3, 1, 22, false),
  (yX11_onPieces, cX11_onPieces, 3, (some .int), 11, 1, 1, 22, false),
  (yX11_outInAll, cX11_outInAll, 3, (some .int), 11, 1, 1, 23, false),
  (yX11_owedInAll, cX11_owedInAll, 3, (some .int), 11, 1, 1, 22, false)]
def mt_10 : List (MethodName × ByteArray × Nat × Option FieldType × Nat × Nat × Nat × Nat × Bool) := [(yX11_tellsCount, cX11_tellsCount, 2, (some .int), 11, 2, 3, 67, false),
  (yX11_count, cX11_count, 2, (some .int), 11, 2, 4, 88, false),
  (yX11_meanMinutes, cX11_meanMinutes, 1, (some .float), 11, 1, 0, 0, false),
  (yX11_would, cX11_would, 6, (some .int), 11, 4, 7, 161, false),
  (yX11_ifIroned, cX11_ifIroned, 5, (some .int), 11, 4, 8, 186, false),
  (yX11_bestOrder, cX11_bestOrder, 6, (some .int), 11, 2, 8, 186, false),
  (yX11_homeOn, cX11_homeOn, 5, (some .int), 11, 3, 7, 161, false),
  (yX11_wanting, cX11_wanting, 4, (some .int), 11, 1, 1, 22, false),
  (yX11_sure, cX11_sure, 3, (some .int), 11, 1, 4, 90, false)]
def mtab : List (MethodName × ByteArray × Nat × Option FieldType × Nat × Nat × Nat × Nat × Bool) := mt_0 ++ (mt_1 ++ (mt_2 ++ (mt_3 ++ (mt_4 ++ (mt_5 ++ (mt_6 ++ (mt_7 ++ (mt_8 ++ (mt_9 ++ (mt_10))))))))))
def mrow (i : Nat) : MethodName × ByteArray × Nat × Option FieldType × Nat × Nat × Nat × Nat × Bool := mtab.getD i (yX0_init, cX0_init, 1, none, 0, 1, 0, 0, false)
def mN (i : Nat) : MethodName := (mrow i).1
def mB (i : Nat) : ByteArray := (mrow i).2.1
def mL (i : Nat) : Nat := (mrow i).2.2.1
def mR (i : Nat) : Option FieldType := (mrow i).2.2.2.1
def mC (i : Nat) : Nat := (mrow i).2.2.2.2.1
def mA (i : Nat) : Nat := (mrow i).2.2.2.2.2.1
def mF (i : Nat) : Nat := (mrow i).2.2.2.2.2.2.1
def mW (i : Nat) : Nat := (mrow i).2.2.2.2.2.2.2.1
def mZ (i : Nat) : Bool := (mrow i).2.2.2.2.2.2.2.2
def ftab : List (Nat × Nat × Nat × Nat × Nat) := [(0, 9, 0, 5, 149), (0, 15, 0, 6, 152), (0, 18, 0, 7, 156), (0, 21, 0, 0, 133), (0, 25, 0, 1, 136), (0, 28, 0, 2, 140), (0, 31, 0, 3, 143), (0, 34, 0, 4, 146), (1, 9, 1, 0, 345), (1, 15, 1, 3, 350), (1, 19, 1, 4, 352), (1, 22, 1, 5, 354), (1, 25, 1, 6, 356), (1, 28, 1, 1, 346), (1, 32, 1, 2, 348), (1, 35, 1, 7, 358), (1, 73, 1, 8, 359), (2, 7, 2, 0, 233), (2, 13, 2, 1, 236), (2, 16, 2, 2, 239), (2, 19, 2, 3, 242), (3, 9, 3, 1, 101), (3, 15, 3, 2, 104), (3, 18, 3, 3, 107), (3, 21, 3, 0, 98), (4, 9, 4, 0, 195), (4, 15, 4, 1, 196), (4, 18, 4, 2, 197), (4, 21, 4, 3, 198), (5, 11, 5, 0, 328), (5, 18, 5, 2, 331), (5, 22, 5, 1, 329), (6, 11, 6, 0, 260), (6, 15, 6, 1, 261), (6, 19, 6, 2, 262), (7, 9, 7, 0, 214), (7, 15, 7, 1, 216), (7, 18, 7, 2, 218), (8, 11, 8, 0, 175), (8, 18, 8, 1, 177), (8, 22, 8, 2, 180), (8, 33, 0, 0, 134), (8, 34, 0, 2, 141), (8, 37, 0, 1, 138), (8, 48, 0, 6, 153), (8, 56, 0, 5, 150), (9, 9, 9, 1, 272), (9, 15, 9, 4, 278), (9, 19, 9, 5, 280), (9, 25, 9, 6, 282), (9, 32, 9, 7, 284), (9, 39, 9, 8, 286), (9, 46, 9, 9, 288), (9, 53, 9, 10, 290), (9, 60, 9, 11, 292), (9, 64, 9, 0, 270), (9, 67, 9, 2, 274), (9, 70, 9, 3, 276), (9, 118, 0, 1, 137), (9, 123, 0, 3, 144), (9, 126, 0, 4, 147), (9, 135, 0, 0, 135), (9, 153, 3, 1, 102), (9, 163, 8, 1, 178), (9, 167, 8, 0, 176), (9, 189, 2, 0, 234), (9, 195, 2, 1, 237), (9, 201, 0, 6, 154), (9, 204, 2, 2, 240), (9, 207, 2, 3, 243), (9, 218, 3, 0, 100), (9, 223, 3, 3, 108), (9, 226, 3, 2, 106), (10, 12, 10, 0, 380), (10, 16, 10, 1, 381), (10, 19, 10, 2, 382), (10, 25, 10, 3, 383), (10, 32, 10, 4, 384), (10, 40, 9, 6, 283), (10, 44, 3, 0, 99), (10, 58, 9, 5, 281), (10, 76, 1, 2, 349), (10, 79, 1, 3, 351), (10, 82, 1, 4, 353), (10, 85, 1, 5, 355), (10, 88, 1, 6, 357), (10, 91, 9, 7, 285), (10, 101, 9, 9, 289), (10, 105, 7, 2, 219), (10, 113, 0, 7, 157), (10, 123, 9, 11, 293), (10, 127, 9, 0, 271), (10, 140, 7, 0, 215), (10, 143, 7, 1, 217), (10, 162, 9, 1, 273), (10, 165, 9, 2, 275), (10, 169, 3, 2, 105), (10, 172, 9, 3, 277), (10, 181, 9, 4, 279), (10, 184, 1, 1, 347), (10, 190, 5, 1, 330), (10, 196, 10, 5, 385), (10, 200, 3, 1, 103), (10, 203, 9, 8, 287), (10, 212, 3, 3, 109), (10, 224, 0, 1, 139), (10, 226, 0, 2, 142), (10, 229, 0, 3, 145), (10, 231, 0, 5, 151), (10, 236, 0, 6, 155), (10, 249, 0, 4, 148), (10, 263, 8, 1, 179), (10, 267, 8, 2, 181), (10, 279, 9, 10, 291), (10, 283, 2, 0, 235), (10, 288, 2, 1, 238), (10, 291, 2, 2, 241), (10, 293, 2, 3, 244), (11, 7, 11, 1, 886), (11, 13, 11, 2, 887), (11, 16, 11, 3, 888), (11, 19, 11, 5, 890), (11, 22, 11, 7, 892), (11, 25, 11, 11, 896), (11, 28, 11, 0, 885), (11, 40, 11, 4, 889), (11, 98, 11, 12, 897), (11, 160, 11, 8, 893), (11, 163, 11, 9, 894), (11, 166, 11, 10, 895), (11, 194, 11, 6, 891)]
def stab : List (Nat × Nat × Nat × Nat) := [(0, 43, 1, 498), (0, 50, 0, 648), (1, 80, 1, 548)]
def ctab : List (Nat × Nat × Nat × Nat) := [(5, 9, 9, 325), (8, 9, 0, 126), (9, 22, 3, 92), (9, 29, 8, 120), (9, 36, 4, 189), (9, 43, 7, 208), (9, 50, 2, 227), (9, 57, 6, 254), (10, 9, 9, 86), (10, 22, 5, 319), (10, 29, 1, 339)]
def atab : List (Nat × Nat × Nat × Nat) := [(5, 9, 3, 325), (8, 9, 2, 126)]
def ktab : List (Nat × Nat × Int32 × Nat) := [(9, 159, 1000000, 639), (11, 57, 99999, 1090)]
def ltab : List (Nat × Nat × Nat × Nat × Nat) := [(0, 3, 5, 0, 132), (0, 37, 8, 0, 433), (0, 46, 1, 4, 582), (0, 53, 0, 6, 602), (0, 57, 0, 8, 623), (0, 60, 0, 7, 644), (0, 63, 1, 5, 624), (1, 3, 5, 0, 344), (1, 38, 0, 19, 522), (1, 42, 0, 18, 561), (1, 46, 0, 20, 526), (1, 49, 0, 26, 533), (1, 53, 0, 21, 537), (1, 56, 0, 22, 544), (1, 59, 0, 25, 549), (1, 62, 0, 23, 553), (1, 65, 1, 27, 530), (1, 69, 0, 24, 557), (1, 76, 1, 28, 541), (2, 1, 5, 0, 232), (3, 3, 5, 0, 97), (3, 25, 8, 0, 424), (3, 31, 0, 37, 836), (4, 3, 5, 0, 194), (4, 25, 8, 0, 438), (4, 31, 7, 0, 504), (4, 37, 0, 47, 505), (5, 3, 5, 0, 324), (5, 17, 3, 72, 7), (5, 25, 7, 0, 410), (5, 31, 0, 73, 413), (6, 3, 5, 0, 259), (6, 22, 8, 0, 452), (6, 28, 7, 0, 513), (7, 3, 5, 0, 213), (7, 22, 8, 0, 443), (8, 3, 5, 0, 125), (8, 17, 3, 0, 2), (8, 25, 0, 1, 429), (8, 29, 0, 64, 490), (8, 40, 0, 12, 829), (8, 44, 0, 11, 796), (8, 52, 1, 14, 712), (9, 3, 5, 0, 91), (9, 24, 3, 31, 1), (9, 31, 2, 60, 122), (9, 38, 3, 38, 3), (9, 45, 3, 55, 4), (9, 52, 3, 29, 5), (9, 59, 3, 51, 6), (9, 73, 8, 0, 417), (9, 79, 0, 32, 420), (9, 83, 0, 61, 425), (9, 86, 0, 39, 434), (9, 89, 0, 56, 439), (9, 92, 0, 30, 444), (9, 95, 0, 52, 448), (9, 98, 0, 33, 469), (9, 102, 4, 120, 9), (9, 106, 0, 41, 474), (9, 110, 0, 62, 478), (9, 114, 0, 63, 486), (9, 127, 0, 2, 494), (9, 131, 0, 44, 500), (9, 138, 0, 53, 509), (9, 142, 0, 70, 708), (9, 146, 0, 42, 713), (9, 149, 0, 78, 635), (9, 156, 0, 77, 631), (9, 160, 0, 9, 640), (9, 164, 0, 81, 809), (9, 171, 0, 79, 627), (9, 175, 0, 10, 619), (9, 179, 0, 82, 615), (9, 182, 0, 84, 650), (9, 186, 1, 4, 654), (9, 192, 0, 7, 655), (9, 198, 1, 5, 656), (9, 209, 0, 86, 665), (9, 212, 0, 87, 677), (9, 215, 0, 45, 669), (9, 219, 0, 46, 673), (9, 229, 0, 12, 681), (9, 232, 0, 88, 685), (9, 236, 0, 13, 689), (9, 239, 1, 14, 693), (9, 243, 0, 40, 696), (10, 3, 5, 0, 83), (10, 11, 3, 72, 0), (10, 24, 2, 48, 321), (10, 31, 3, 15, 8), (10, 36, 1, 120, 403), (10, 50, 0, 49, 406), (10, 54, 0, 34, 453), (10, 62, 0, 74, 465), (10, 66, 0, 75, 482), (10, 69, 0, 17, 518), (10, 73, 0, 73, 565), (10, 95, 0, 65, 570), (10, 108, 0, 8, 574), (10, 116, 0, 6, 578), (10, 119, 0, 58, 585), (10, 130, 0, 53, 589), (10, 136, 0, 57, 594), (10, 145, 0, 11, 598), (10, 149, 0, 59, 603), (10, 153, 0, 83, 611), (10, 156, 0, 85, 661), (10, 159, 0, 76, 704), (10, 168, 0, 33, 721), (10, 175, 1, 121, 726), (10, 178, 1, 122, 729), (10, 187, 0, 16, 736), (10, 193, 0, 50, 752), (10, 207, 0, 41, 768), (10, 215, 0, 66, 769), (10, 218, 0, 43, 773), (10, 221, 0, 77, 777), (10, 232, 1, 3, 782), (10, 239, 0, 12, 785), (10, 243, 0, 13, 786), (10, 246, 0, 9, 787), (10, 250, 0, 68, 792), (10, 254, 0, 69, 797), (10, 257, 0, 80, 805), (10, 260, 0, 54, 817), (10, 264, 0, 67, 825), (10, 270, 0, 70, 830), (10, 273, 0, 42, 831), (10, 276, 0, 36, 832), (10, 296, 0, 35, 840), (10, 299, 0, 119, 852), (10, 302, 0, 71, 868), (10, 305, 6, 0, 872), (11, 1, 5, 0, 884), (11, 32, 1, 124, 929), (11, 36, 0, 128, 972), (11, 43, 0, 136, 1042), (11, 46, 1, 135, 1095), (11, 49, 0, 139, 1118), (11, 53, 0, 142, 980), (11, 58, 0, 131, 932), (11, 61, 0, 127, 936), (11, 65, 0, 125, 952), (11, 68, 0, 141, 956), (11, 71, 0, 129, 964), (11, 74, 0, 149, 968), (11, 78, 0, 144, 976), (11, 82, 0, 134, 984), (11, 85, 0, 148, 948), (11, 89, 0, 150, 960), (11, 92, 0, 182, 992), (11, 95, 0, 132, 1026), (11, 101, 0, 133, 1030), (11, 104, 0, 130, 1038), (11, 107, 0, 153, 1046), (11, 110, 0, 156, 1054), (11, 113, 0, 155, 1058), (11, 117, 0, 126, 1082), (11, 120, 0, 145, 1086), (11, 123, 0, 137, 1091), (11, 126, 0, 158, 1078), (11, 129, 0, 159, 1074), (11, 132, 0, 160, 1098), (11, 135, 0, 161, 1070), (11, 138, 0, 162, 1066), (11, 141, 0, 143, 1114), (11, 144, 0, 138, 1126), (11, 147, 0, 164, 1110), (11, 151, 0, 165, 1122), (11, 154, 0, 166, 1106), (11, 157, 1, 170, 1142), (11, 170, 0, 174, 1004), (11, 173, 1, 177, 1016), (11, 176, 0, 176, 1008), (11, 179, 1, 178, 1019), (11, 182, 0, 175, 1000), (11, 185, 0, 179, 1012), (11, 188, 0, 180, 1022), (11, 191, 0, 181, 996), (11, 197, 0, 187, 1173), (11, 200, 0, 188, 1177), (11, 203, 0, 190, 1185), (11, 206, 0, 192, 1193), (11, 209, 0, 193, 1197), (11, 212, 0, 140, 1217), (11, 215, 0, 197, 1221), (11, 218, 0, 198, 1225), (11, 221, 0, 199, 1229), (11, 224, 0, 200, 1213), (11, 227, 0, 203, 1241)]
def mpos : List (Nat × Nat × Nat × Nat × Nat) := [(1, 131, 130, 0, 68), (0, 432, 430, 431, 68), (0, 497, 495, 496, 68), (2, 784, 783, 0, 68), (2, 584, 583, 0, 68), (2, 626, 625, 0, 68), (0, 581, 579, 580, 68), (0, 647, 645, 646, 68), (0, 577, 575, 576, 68), (0, 643, 641, 642, 68), (0, 622, 620, 621, 68), (0, 601, 599, 600, 68), (0, 684, 682, 683, 68), (0, 692, 690, 691, 68), (2, 695, 694, 0, 68), (1, 343, 342, 0, 74), (0, 739, 737, 738, 74), (0, 521, 519, 520, 74), (0, 564, 563, 9, 74), (0, 525, 524, 1, 74), (0, 529, 528, 2, 74), (0, 540, 539, 4, 74), (0, 547, 546, 5, 74), (0, 556, 555, 7, 74), (0, 560, 559, 8, 74), (0, 552, 551, 6, 74), (0, 536, 535, 3, 74), (2, 532, 531, 0, 74), (2, 543, 542, 0, 74), (1, 231, 230, 0, 71), (0, 447, 445, 446, 71), (1, 96, 95, 0, 66), (0, 423, 421, 422, 66), (0, 472, 470, 471, 66), (0, 456, 454, 455, 66), (0, 843, 841, 842, 66), (0, 835, 833, 834, 66), (0, 839, 838, 10, 66), (1, 193, 192, 0, 69), (0, 437, 435, 436, 69), (0, 699, 697, 698, 69), (0, 477, 475, 476, 69), (0, 716, 714, 715, 69), (0, 776, 774, 775, 69), (0, 503, 501, 502, 69), (0, 672, 670, 671, 69), (0, 676, 674, 675, 69), (0, 508, 507, 0, 69), (1, 323, 322, 0, 73), (0, 409, 407, 408, 73), (0, 755, 753, 754, 73), (1, 258, 257, 0, 72), (0, 451, 449, 450, 72), (0, 512, 510, 511, 72), (0, 820, 818, 819, 72), (1, 212, 211, 0, 70), (0, 442, 440, 441, 70), (0, 597, 595, 596, 70), (0, 588, 586, 587, 70), (0, 606, 604, 605, 70), (1, 124, 123, 0, 67), (0, 428, 426, 427, 67), (0, 481, 479, 480, 67), (0, 489, 487, 488, 67), (0, 493, 491, 492, 67), (0, 573, 571, 572, 67), (0, 772, 770, 771, 67), (0, 828, 826, 827, 67), (0, 795, 793, 794, 67), (0, 800, 798, 799, 67), (0, 711, 709, 710, 67), (0, 871, 869, 870, 67), (1, 90, 89, 0, 65), (0, 416, 414, 415, 65), (0, 468, 466, 467, 65), (0, 485, 483, 484, 65), (0, 707, 705, 706, 65), (0, 634, 632, 633, 65), (0, 638, 636, 637, 65), (0, 630, 628, 629, 65), (0, 808, 806, 807, 65), (0, 812, 810, 811, 65), (0, 618, 616, 617, 65), (0, 614, 612, 613, 65), (0, 653, 651, 652, 65), (0, 664, 662, 663, 65), (0, 668, 666, 667, 65), (0, 680, 678, 679, 65), (0, 688, 686, 687, 65), (1, 82, 81, 0, 64), (0, 402, 400, 401, 64), (0, 460, 458, 459, 64), (0, 464, 462, 463, 64), (0, 517, 515, 516, 64), (0, 569, 567, 568, 64), (0, 593, 591, 592, 64), (0, 610, 608, 609, 64), (0, 660, 658, 659, 64), (0, 703, 701, 702, 64), (0, 720, 718, 719, 64), (0, 725, 723, 724, 64), (0, 735, 733, 734, 64), (0, 743, 741, 742, 64), (0, 747, 745, 746, 64), (0, 751, 749, 750, 64), (0, 759, 757, 758, 64), (0, 763, 761, 762, 64), (0, 767, 765, 766, 64), (0, 781, 779, 780, 64), (0, 791, 789, 790, 64), (0, 804, 802, 803, 64), (0, 816, 814, 815, 64), (0, 824, 822, 823, 64), (0, 847, 845, 846, 64), (0, 851, 849, 850, 64), (0, 859, 857, 858, 64), (0, 863, 861, 862, 64), (0, 867, 865, 866, 64), (0, 878, 876, 877, 64), (0, 855, 854, 11, 64), (2, 405, 404, 0, 64), (2, 728, 727, 0, 64), (2, 731, 730, 0, 64), (1, 883, 882, 0, 75), (2, 931, 930, 0, 75), (0, 955, 954, 15, 75), (0, 1085, 1084, 42, 75), (0, 939, 938, 13, 75), (0, 975, 974, 20, 75), (0, 967, 966, 18, 75), (0, 1041, 1040, 33, 75), (0, 935, 934, 12, 75), (0, 1029, 1028, 31, 75), (0, 1033, 1032, 32, 75), (0, 987, 986, 23, 75), (2, 1097, 1096, 0, 75), (0, 1045, 1044, 34, 75), (0, 1094, 1093, 44, 75), (0, 1129, 1128, 51, 75), (0, 1121, 1120, 49, 75), (0, 1220, 1219, 58, 75), (0, 959, 958, 16, 75), (0, 983, 982, 22, 75), (0, 1117, 1116, 48, 75), (0, 979, 978, 21, 75), (0, 1089, 1088, 43, 75), (0, 928, 926, 927, 75), (0, 943, 941, 942, 75), (0, 951, 950, 14, 75), (0, 971, 970, 19, 75), (0, 963, 962, 17, 75), (0, 947, 945, 946, 75), (0, 991, 989, 990, 75), (0, 1049, 1048, 35, 75), (0, 1037, 1035, 1036, 75), (0, 1061, 1060, 37, 75), (0, 1057, 1056, 36, 75), (0, 1053, 1051, 1052, 75), (0, 1081, 1080, 41, 75), (0, 1077, 1076, 40, 75), (0, 1101, 1100, 45, 75), (0, 1073, 1072, 39, 75), (0, 1069, 1068, 38, 75), (0, 1065, 1063, 1064, 75), (0, 1113, 1112, 47, 75), (0, 1125, 1124, 50, 75), (0, 1109, 1108, 46, 75), (0, 1105, 1103, 1104, 75), (0, 1133, 1131, 1132, 75), (0, 1137, 1135, 1136, 75), (2, 1144, 1143, 0, 75), (0, 1141, 1139, 1140, 75), (0, 1148, 1146, 1147, 75), (0, 1152, 1150, 1151, 75), (0, 1007, 1006, 27, 75), (0, 1003, 1002, 26, 75), (0, 1011, 1010, 28, 75), (2, 1018, 1017, 0, 75), (2, 1021, 1020, 0, 75), (0, 1015, 1014, 29, 75), (0, 1025, 1024, 30, 75), (0, 999, 998, 25, 75), (0, 995, 994, 24, 75), (0, 1156, 1154, 1155, 75), (0, 1160, 1158, 1159, 75), (0, 1164, 1162, 1163, 75), (0, 1168, 1166, 1167, 75), (0, 1176, 1175, 52, 75), (0, 1180, 1179, 53, 75), (0, 1172, 1170, 1171, 75), (0, 1188, 1187, 54, 75), (0, 1184, 1182, 1183, 75), (0, 1196, 1195, 55, 75), (0, 1200, 1199, 56, 75), (0, 1192, 1190, 1191, 75), (0, 1204, 1202, 1203, 75), (0, 1208, 1206, 1207, 75), (0, 1224, 1223, 59, 75), (0, 1228, 1227, 60, 75), (0, 1232, 1231, 61, 75), (0, 1216, 1215, 57, 75), (0, 1212, 1210, 1211, 75), (0, 1236, 1234, 1235, 75), (0, 1244, 1243, 62, 75), (0, 1240, 1238, 1239, 75), (0, 1248, 1246, 1247, 75), (0, 1252, 1250, 1251, 75), (0, 1256, 1254, 1255, 75), (0, 1260, 1258, 1259, 75)]
def ntab : List (String × Nat × MethodName × String) := [("IroningBaskets", 11, yX9_init, "IroningBaskets"), ("IroningBaskets$State", 24, yX3_init, "IroningBaskets"), ("IroningBaskets$Shelf", 17, yX0_init, "IroningBaskets"), ("IroningBaskets$State", 38, yX4_init, "IroningBaskets"), ("IroningBaskets$State", 45, yX7_init, "IroningBaskets"), ("IroningBaskets$State", 52, yX2_init, "IroningBaskets"), ("IroningBaskets$State", 59, yX6_init, "IroningBaskets"), ("IroningBaskets$History", 17, yX9_init, "IroningBaskets"), ("IroningBaskets", 31, yX1_init, "IroningBaskets"), ("IroningBaskets$State", 102, yX10_within, "IroningBaskets")]
def fref (oc i : Nat) : Option (Nat × Nat) := (ftab.find? (fun e => e.1 == oc && e.2.1 == i)).map (fun e => (e.2.2.1, e.2.2.2.1))
def sref (oc i : Nat) : Option Nat := (stab.find? (fun e => e.1 == oc && e.2.1 == i)).map (fun e => e.2.2.1)
def nref (oc i : Nat) : Option Nat := (ctab.find? (fun e => e.1 == oc && e.2.1 == i)).map (fun e => e.2.2.1)
def aref (oc i : Nat) : Option Nat := (atab.find? (fun e => e.1 == oc && e.2.1 == i)).map (fun e => e.2.2.1)
def kref (oc i : Nat) : Option Int32 := (ktab.find? (fun e => e.1 == oc && e.2.1 == i)).map (fun e => e.2.2.1)
def lref (oc i : Nat) : Option (Nat × Nat) := (ltab.find? (fun e => e.1 == oc && e.2.1 == i)).map (fun e => (e.2.2.1, e.2.2.2.1))
/-- a field's type, and whether it is final -/
def fty (ci k : Nat) : FieldType := match ci with
  | 0 => tyX0 k | 1 => tyX1 k | 2 => tyX2 k | 3 => tyX3 k | 4 => tyX4 k | 5 => tyX5 k | 6 => tyX6 k | 7 => tyX7 k | 8 => tyX8 k | 9 => tyX9 k | 10 => tyX10 k | _ => tyX11 k
def fT (ci : Nat) : u_T := match ci with
  | 0 => TX0 | 1 => TX1 | 2 => TX2 | 3 => TX3 | 4 => TX4 | 5 => TX5 | 6 => TX6 | 7 => TX7 | 8 => TX8 | 9 => TX9 | 10 => TX10 | _ => TX11
def fN (ci : Nat) : Nat := match ci with
  | 0 => 8 | 1 => 9 | 2 => 4 | 3 => 4 | 4 => 4 | 5 => 3 | 6 => 3 | 7 => 3 | 8 => 3 | 9 => 12 | 10 => 6 | _ => 13
def fR (ci : Nat) : String := match ci with
  | 0 => RX0 | 1 => RX1 | 2 => RX2 | 3 => RX3 | 4 => RX4 | 5 => RX5 | 6 => RX6 | 7 => RX7 | 8 => RX8 | 9 => RX9 | 10 => RX10 | _ => RX11
/-- the class of what an array of this type holds -/
def qcl (t : Nat) : Nat := if t = 2 then 0 else 9
end
section
/-! what the tables say, held against the claim's words -/
theorem lw_at {q : Nat} {w : Cond} (h : lw_tbl[q]? = some w) (g : goodWord w = true) : w ∈ gw := gw_in (List.mem_of_getElem? h) g
set_option maxRecDepth 100000 in
theorem ftab_ok : ftab.all (fun e => decide (e.2.2.1 < 12) && decide (e.2.2.2.1 < fN e.2.2.1) && decide (lw_tbl[e.2.2.2.2]? = some (Cond.fieldLink (fR e.1) e.2.1 (fT e.2.2.1 e.2.2.2.1).1 (fT e.2.2.1 e.2.2.2.1).2.1 (fT e.2.2.1 e.2.2.2.1).2.2.1))) = true := by decide +kernel
theorem fref_ok {oc i ci k : Nat} (h : fref oc i = some (ci, k)) : ci < 12 ∧ k < fN ci ∧ Cond.fieldLink (fR oc) i (fT ci k).1 (fT ci k).2.1 (fT ci k).2.2.1 ∈ gw := by
  unfold fref at h
  cases he : ftab.find? (fun e => e.1 == oc && e.2.1 == i) with
  | none => rw [he] at h; cases h
  | some e =>
    rw [he] at h
    have h1 := List.find?_some he
    have h2 := List.all_eq_true.mp ftab_ok e (List.mem_of_find?_eq_some he)
    obtain ⟨a, b, c, d, q⟩ := e
    cases h
    simp only [Bool.and_eq_true, beq_iff_eq, decide_eq_true_eq] at h1 h2
    obtain ⟨rfl, rfl⟩ := h1
    exact ⟨h2.1.1, h2.1.2, lw_at h2.2 rfl⟩
def sNm (k : Nat) : String := match k with
  | 0 => "MINUTES"
  | _ => "WEIGHTS"
set_option maxRecDepth 100000 in
theorem stab_ok : stab.all (fun e => decide (e.2.2.1 < 2) && decide (lw_tbl[e.2.2.2]? = some (Cond.fieldLink (fR e.1) e.2.1 RX0 (sNm e.2.2.1) "[I"))) = true := by decide +kernel
theorem sref_ok {oc i k : Nat} (h : sref oc i = some k) : k < 2 ∧ Cond.fieldLink (fR oc) i RX0 (sNm k) "[I" ∈ gw := by
  unfold sref at h
  cases he : stab.find? (fun e => e.1 == oc && e.2.1 == i) with
  | none => rw [he] at h; cases h
  | some e =>
    rw [he] at h
    have h1 := List.find?_some he
    have h2 := List.all_eq_true.mp stab_ok e (List.mem_of_find?_eq_some he)
    obtain ⟨a, b, c, q⟩ := e
    cases h
    simp only [Bool.and_eq_true, beq_iff_eq, decide_eq_true_eq] at h1 h2
    obtain ⟨rfl, rfl⟩ := h1
    exact ⟨h2.1, lw_at h2.2 rfl⟩
def insQ (ci : Nat) : Nat := match ci with
  | 0 => 128 | 1 => 340 | 2 => 228 | 3 => 93 | 4 => 190 | 5 => 320 | 6 => 255 | 7 => 209 | 8 => 121 | 9 => 87 | 10 => 79 | _ => 880
set_option maxRecDepth 100000 in
theorem cls_ok : (List.range 12).all (fun ci => decide (lw_tbl[insQ ci]? = some (Cond.instantiable (fR ci) (fN ci))) && decide (Cond.initialized (fR ci) ∈ lw_tbl) && (u_ws (fR ci) (fT ci) (fN ci)).all (fun w => decide (w ∈ lw_tbl))) = true := by decide +kernel
theorem vw_at {ci : Nat} (h : ci < 12) : vwCl[ci]? = some (fR ci, fT ci, fN ci) := by
  match ci, h with
  | 0, _ => rfl
  | 1, _ => rfl
  | 2, _ => rfl
  | 3, _ => rfl
  | 4, _ => rfl
  | 5, _ => rfl
  | 6, _ => rfl
  | 7, _ => rfl
  | 8, _ => rfl
  | 9, _ => rfl
  | 10, _ => rfl
  | 11, _ => rfl
theorem cls_at {ci : Nat} (h : ci < 12) : Cond.instantiable (fR ci) (fN ci) ∈ gw ∧ Cond.initialized (fR ci) ∈ gw ∧ ∀ w ∈ u_ws (fR ci) (fT ci) (fN ci), w ∈ gw := by
  have h1 := List.all_eq_true.mp cls_ok ci (List.mem_range.mpr h)
  simp only [Bool.and_eq_true, decide_eq_true_eq] at h1
  refine ⟨lw_at h1.1.1 rfl, gw_in h1.1.2 rfl, fun w hw => ?_⟩
  have h2 := List.all_eq_true.mp h1.2 w hw
  refine gw_in (of_decide_eq_true h2) ?_
  obtain ⟨k, -, rfl⟩ := List.mem_map.mp hw
  unfold u_lay
  split <;> rfl
set_option maxRecDepth 100000 in
theorem ctab_ok : ctab.all (fun e => decide (e.2.2.1 < 12) && decide (lw_tbl[e.2.2.2]? = some (Cond.classLink (fR e.1) e.2.1 (fR e.2.2.1)))) = true := by decide +kernel
theorem nref_ok {oc i ci : Nat} (h : nref oc i = some ci) : ci < 12 ∧ Cond.classLink (fR oc) i (fR ci) ∈ gw := by
  unfold nref at h
  cases he : ctab.find? (fun e => e.1 == oc && e.2.1 == i) with
  | none => rw [he] at h; cases h
  | some e =>
    rw [he] at h
    have h1 := List.find?_some he
    have h2 := List.all_eq_true.mp ctab_ok e (List.mem_of_find?_eq_some he)
    obtain ⟨a, b, c, q⟩ := e
    cases h
    simp only [Bool.and_eq_true, beq_iff_eq, decide_eq_true_eq] at h1 h2
    obtain ⟨rfl, rfl⟩ := h1
    exact ⟨h2.1, lw_at h2.2 rfl⟩
set_option maxRecDepth 100000 in
theorem atab_ok : atab.all (fun e => decide (lw_tbl[e.2.2.2]? = some (Cond.classLink (fR e.1) e.2.1 (fR (qcl e.2.2.1))))) = true := by decide +kernel
theorem aref_ok {oc i t : Nat} (h : aref oc i = some t) : Cond.classLink (fR oc) i (fR (qcl t)) ∈ gw := by
  unfold aref at h
  cases he : atab.find? (fun e => e.1 == oc && e.2.1 == i) with
  | none => rw [he] at h; cases h
  | some e =>
    rw [he] at h
    have h1 := List.find?_some he
    have h2 := List.all_eq_true.mp atab_ok e (List.mem_of_find?_eq_some he)
    obtain ⟨a, b, c, q⟩ := e
    cases h
    simp only [Bool.and_eq_true, beq_iff_eq, decide_eq_true_eq] at h1 h2
    obtain ⟨rfl, rfl⟩ := h1
    exact lw_at h2 rfl
set_option maxRecDepth 100000 in
theorem ktab_ok : ktab.all (fun e => decide (lw_tbl[e.2.2.2]? = some (Cond.constant (fR e.1) e.2.1 e.2.2.1))) = true := by decide +kernel
theorem kref_ok {oc i : Nat} {v : Int32} (h : kref oc i = some v) : Cond.constant (fR oc) i v ∈ gw := by
  unfold kref at h
  cases he : ktab.find? (fun e => e.1 == oc && e.2.1 == i) with
  | none => rw [he] at h; cases h
  | some e =>
    rw [he] at h
    have h1 := List.find?_some he
    have h2 := List.all_eq_true.mp ktab_ok e (List.mem_of_find?_eq_some he)
    obtain ⟨a, b, c, q⟩ := e
    cases h
    simp only [Bool.and_eq_true, beq_iff_eq, decide_eq_true_eq] at h1 h2
    obtain ⟨rfl, rfl⟩ := h1
    exact lw_at h2 rfl
/-- the words of a method: kind (0 of an object, 1 a constructor, 2 static), and the places of its words -/
def mP (i : Nat) : Nat × Nat × Nat × Nat × Nat := mpos.getD i (0, 0, 0, 0, 0)
set_option maxRecDepth 100000 in
theorem mtab_ok : (List.range mtab.length).all (fun i => decide (lw_tbl[(mP i).2.2.2.2]? = some (Cond.initialized (mN i).cls)) && decide ((mN i).cls = fR (mC i)) && decide (mC i < 12) && plainName (mN i).cls && decide ((mN i).cls ≠ "java/lang/invoke/MethodHandle") && decide ((mN i).cls ≠ "java/lang/invoke/VarHandle")
    && (match (mP i).1 with
      | 0 => decide (lw_tbl[(mP i).2.2.1]? = some (Cond.instanceMethod (mN i))) && decide (lw_tbl[(mP i).2.2.2.1]? = some (Cond.selects (mN i).cls (mN i) (mN i))) && decide ((parseMethodDescriptor (mN i).desc).map (fun d => d.parameters.length + 1) = some (mA i))
      | 1 => decide (lw_tbl[(mP i).2.2.1]? = some (Cond.instanceMethod (mN i))) && decide ((mN i).name = "<init>") && decide (mR i = none) && decide ((parseMethodDescriptor (mN i).desc).map (fun d => d.parameters.length + 1) = some (mA i))
      | _ => decide (lw_tbl[(mP i).2.2.1]? = some (Cond.static (mN i))) && decide ((parseMethodDescriptor (mN i).desc).map (fun d => d.parameters.length) = some (mA i)))) = true := by decide +kernel
set_option maxRecDepth 100000 in
theorem ltab_ok : ltab.all (fun e => match e.2.2.1 with
    | 0 => decide (e.2.2.2.1 < mtab.length) && decide ((mP e.2.2.2.1).1 = 0) && decide (lw_tbl[e.2.2.2.2]? = some (Cond.methodLink (fR e.1) e.2.1 (mN e.2.2.2.1)))
    | 1 => decide (e.2.2.2.1 < mtab.length) && decide ((mP e.2.2.2.1).1 = 2) && decide (lw_tbl[e.2.2.2.2]? = some (Cond.methodLink (fR e.1) e.2.1 (mN e.2.2.2.1)))
    | 2 => decide (e.2.2.2.1 < mtab.length) && decide ((mP e.2.2.2.1).1 = 1) && decide (lw_tbl[e.2.2.2.2]? = some (Cond.methodLink (fR e.1) e.2.1 (mN e.2.2.2.1)))
    | 3 => decide (e.2.2.2.1 < mtab.length) && decide ((mP e.2.2.2.1).1 = 1) && decide (ntab[e.2.2.2.2]? = some (fR e.1, e.2.1, mN e.2.2.2.1, RX10))
    | 4 => decide (e.2.2.2.1 < mtab.length) && decide ((mP e.2.2.2.1).1 = 2) && decide (ntab[e.2.2.2.2]? = some (fR e.1, e.2.1, mN e.2.2.2.1, RX10))
    | 5 => decide (lw_tbl[e.2.2.2.2]? = some (Cond.methodLink (fR e.1) e.2.1 Lib.objectInit))
    | 6 => decide (lw_tbl[e.2.2.2.2]? = some (Cond.methodLink (fR e.1) e.2.1 Lib.Math.max.name))
    | 7 => decide (lw_tbl[e.2.2.2.2]? = some (Cond.methodLink (fR e.1) e.2.1 Lib.Math.min.name))
    | _ => decide (lw_tbl[e.2.2.2.2]? = some (Cond.methodLink (fR e.1) e.2.1 arraycopyName))) = true := by decide +kernel
set_option maxRecDepth 100000 in
theorem jdk_ok : (decide (lw_tbl[84]? = some (Cond.instanceMethod Lib.objectInit)) && decide (lw_tbl[85]? = some (Cond.code Lib.objectInit ⟨#[0xb1]⟩ 1 none)) && decide (lw_tbl[76]? = some (Cond.initialized "java/lang/Math")) && decide (lw_tbl[77]? = some (Cond.initialized "java/lang/System")) && decide (lw_tbl[411]? = some (Cond.static Lib.Math.min.name)) && decide (lw_tbl[412]? = some (Cond.code Lib.Math.min.name Lib.Math.min.code 2 (some .int))) && decide (lw_tbl[418]? = some (Cond.static arraycopyName)) && decide (lw_tbl[419]? = some (Cond.native arraycopyName)) && decide (lw_tbl[873]? = some (Cond.static Lib.Math.max.name)) && decide (lw_tbl[874]? = some (Cond.code Lib.Math.max.name Lib.Math.max.code 2 (some .int))) && decide (lw_tbl[119]? = some (Cond.arrayClass .int)) && decide (lw_tbl[379]? = some (Cond.arrayClass .char))) = true := by decide +kernel
set_option maxRecDepth 100000 in
theorem codes_ok : (List.range 209).map (fun i => lw_tbl[(mP i).2.1]?) = (List.range 209).map (fun i => some (Cond.code (mN i) (mB i) (mL i) (mR i))) := rfl
theorem room_nat : nativeFrameWords "java/lang/System" "arraycopy" 5 + 11 + 8 ≤ 100 := by decide +kernel
end
section
/-! a small machine of our own, without frames and rooms: its heap is a list of cells, its addresses are places in it; part 04 says that the machine does what it does -/
abbrev hC : Type := (Nat × List Value) ⊕ (Nat × Nat × ((Nat → Int32) ⊕ (Nat → Option Nat)))
abbrev hO (ci : Nat) (fs : List Value) : hC := .inl (ci, fs)
abbrev hI (n : Nat) (f : Nat → Int32) : hC := .inr (0, n, .inl f)
abbrev hH (n : Nat) (f : Nat → Int32) : hC := .inr (1, n, .inl f)
abbrev hQ (t n : Nat) (f : Nat → Option Nat) : hC := .inr (t, n, .inr f)
def csz (c : hC) : Nat := match c with
  | .inl (_, fs) => fs.length
  | .inr (_, n, _) => n
/-- the places of the two static arrays -/
def sB : Nat := 1000000
def sB1 : Nat := 1000001
def sA (k : Nat) : Nat := match k with
  | 0 => sB
  | _ => sB1
def sIx (a : Nat) : Option Nat := if a = sB then some 0 else if a = sB1 then some 1 else none
def sArr (k : Nat) (j : Nat) : Int32 := match k, j with
  | 0, 0 => 5
  | 0, 1 => 4
  | 0, 2 => 6
  | 0, _ => 8
  | _, 0 => 1000
  | _, 1 => 100
  | _, 2 => 10
  | _, _ => 1
/-- what a step does: goes on; ends; makes a cell; calls -/
abbrev rT : Type := (Nat × List Value × List Value × List hC) ⊕ (Option Value ⊕ ((hC × Nat × List Value) ⊕ (Nat × List Value × List Value)))
abbrev rN (pc : Nat) (L S : List Value) (h : List hC) : Option rT := some (.inl (pc, L, S, h))
abbrev rR (v : Option Value) : Option rT := some (.inr (.inl v))
abbrev rA (c : hC) (pc : Nat) (S : List Value) : Option rT := some (.inr (.inr (.inl (c, pc, S))))
abbrev rC (j : Nat) (args rest : List Value) : Option rT := some (.inr (.inr (.inr (j, args, rest))))
def ldi (L S : List Value) (k pc : Nat) (h : List hC) : Option rT := match L[k]? with
  | some (.int x) => rN pc L (.int x :: S) h
  | _ => none
def lda (L S : List Value) (k pc : Nat) (h : List hC) : Option rT := match L[k]? with
  | some (.ref x) => rN pc L (.ref x :: S) h
  | some .null => rN pc L (.null :: S) h
  | _ => none
def sti (L S : List Value) (k pc : Nat) (h : List hC) : Option rT := match S with
  | .int x :: S => if k < L.length then rN pc (L.set k (.int x)) S h else none
  | _ => none
def sta (L S : List Value) (k pc : Nat) (h : List hC) : Option rT := match S with
  | .ref x :: S => if k < L.length then rN pc (L.set k (.ref x)) S h else none
  | .null :: S => if k < L.length then rN pc (L.set k .null) S h else none
  | _ => none
def jmp (pc : Nat) (off : Int) (L S : List Value) (h : List hC) : Option rT := if 0 ≤ (pc : Int) + off then rN ((pc : Int) + off).toNat L S h else none
def cmpI (c : ClassFile.Cond) (x y : Int32) : Bool := match c with
  | .eq => decide (x = y)
  | .ne => decide (¬ x = y)
  | .lt => decide (x < y)
  | .ge => decide (y ≤ x)
  | .gt => decide (y < x)
  | .le => decide (x ≤ y)
/-- may this value stand in a field, or be an answer, of this type as it is -/
def okv (ty : FieldType) (v : Value) : Bool := match ty, v with
  | .int, .int _ => true
  | .boolean, .int x => decide (x = 0) || decide (x = 1)
  | .object _, .ref _ => true
  | .object _, .null => true
  | .array _, .ref _ => true
  | .array _, .null => true
  | _, _ => false
def cat1 (v : Value) : Bool := match v with
  | .int _ => true
  | .ref _ => true
  | .null => true
  | _ => false
/-- an array's index -/
def okx (i : Int32) (n : Nat) : Bool := decide (0 ≤ i) && decide (i.toNatClampNeg < n)
def dfl (ty : FieldType) : Value := match ty with
  | .int => .int 0
  | .boolean => .int 0
  | _ => .null
def getF (c : Option hC) (ci k : Nat) : Option Value := match c with
  | some (.inl (d, fs)) => if d = ci then (match fs[k]? with
    | some v => if cat1 v then some v else none
    | none => none) else none
  | _ => none
def putF (c : Option hC) (ci k : Nat) (v : Value) : Option hC := match c with
  | some (.inl (d, fs)) => if d = ci ∧ k < fs.length ∧ okv (fty ci k) v = true then some (.inl (d, fs.set k v)) else none
  | _ => none
def getI (c : Option hC) (a t : Nat) (i : Int32) : Option Int32 := match c with
  | some (.inr (u, n, .inl f)) => if u = t ∧ okx i n = true then some (f i.toNatClampNeg) else none
  | some _ => none
  | none => (match sIx a with
    | some k => if t = 0 ∧ okx i 4 = true then some (sArr k i.toNatClampNeg) else none
    | none => none)
def putI (c : Option hC) (t : Nat) (i x : Int32) : Option hC := match c with
  | some (.inr (u, n, .inl f)) => if u = t ∧ okx i n = true then some (.inr (u, n, .inl (upd f i.toNatClampNeg x))) else none
  | _ => none
def getQ (c : Option hC) (i : Int32) : Option Value := match c with
  | some (.inr (u, n, .inr f)) => if (u = 2 ∨ u = 3) ∧ okx i n = true then some (va_rf (f i.toNatClampNeg)) else none
  | _ => none
def putQ (c : Option hC) (i : Int32) (d : Option hC) (v : Nat) : Option hC := match c, d with
  | some (.inr (u, n, .inr f)), some (.inl (ci, _)) => if (u = 2 ∨ u = 3) ∧ ci = qcl u ∧ okx i n = true then some (.inr (u, n, .inr (va_up f i.toNatClampNeg (some v)))) else none
  | _, _ => none
def cpyI (c d : Option hC) (sp dp n : Int32) : Option hC := match c, d with
  | some (.inr (0, n0, .inl f)), some (.inr (0, n1, .inl g)) =>
    if ¬ sp < 0 ∧ ¬ dp < 0 ∧ ¬ n < 0 ∧ sp.toNatClampNeg + n.toNatClampNeg ≤ n0 ∧ dp.toNatClampNeg + n.toNatClampNeg ≤ n1 then some (.inr (0, n1, .inl (va_cpy f g sp.toNatClampNeg dp.toNatClampNeg n.toNatClampNeg))) else none
  | _, _ => none
/-- may the callee be called from here: frames, locals' words, cells, the stack below -/
def room (i j : Nat) (S : List Value) : Bool := decide (mF j + 1 ≤ mF i) && decide (8 + (mL j + 11) + mW j ≤ mW i) && decide (S.length ≤ mA j + 8) && S.all cat1 && (!mZ j || mZ i) && decide (mA j ≤ mL j) && decide (mA j ≤ S.length)
def invV (i idx : Nat) (S : List Value) (h : List hC) : Option rT := match lref (mC i) idx with
  | some (0, j) => if room i j S = true then (match (S.take (mA j)).reverse with
    | .ref b :: as => (match h[b]? with
      | some (.inl (ci, _)) => if ci = mC j then rC j (.ref b :: as) (S.drop (mA j)) else none
      | _ => none)
    | _ => none) else none
  | _ => none
def invS (i idx pc : Nat) (L S : List Value) (h : List hC) : Option rT := match lref (mC i) idx with
  | some (1, j) => if room i j S = true then rC j (S.take (mA j)).reverse (S.drop (mA j)) else none
  | some (4, j) => if room i j S = true then rC j (S.take (mA j)).reverse (S.drop (mA j)) else none
  | some (6, _) => (match S with
    | .int y :: .int x :: S => if decide (1 ≤ mF i) && decide (21 ≤ mW i) && decide (S.length ≤ 8) && S.all cat1 then rN (pc + 3) L (.int (if x < y then y else x) :: S) h else none
    | _ => none)
  | some (7, _) => (match S with
    | .int y :: .int x :: S => if decide (1 ≤ mF i) && decide (21 ≤ mW i) && decide (S.length ≤ 8) && S.all cat1 then rN (pc + 3) L (.int (if y < x then y else x) :: S) h else none
    | _ => none)
  | some (8, _) => (match S with
    | .int n :: .int dp :: .ref a1 :: .int sp :: .ref a0 :: S => if decide (1 ≤ mF i) && decide (100 ≤ mW i) && decide (S.length ≤ 8) && S.all cat1 then (match cpyI h[a0]? h[a1]? sp dp n with
      | some c => rN (pc + 3) L S (h.set a1 c)
      | none => none) else none
    | _ => none)
  | _ => none
def invI (i idx pc : Nat) (L S : List Value) (h : List hC) : Option rT := match lref (mC i) idx with
  | some (2, j) => if room i j S = true then (match (S.take (mA j)).reverse with
    | .ref b :: as => rC j (.ref b :: as) (S.drop (mA j))
    | _ => none) else none
  | some (3, j) => if room i j S = true then (match (S.take (mA j)).reverse with
    | .ref b :: as => rC j (.ref b :: as) (S.drop (mA j))
    | _ => none) else none
  | some (5, _) => (match S with
    | .ref b :: S => if decide (1 ≤ mF i) && decide (21 ≤ mW i) && decide (S.length ≤ 8) && S.all cat1 then rN (pc + 3) L S h else none
    | _ => none)
  | _ => none
/-- one instruction -/
def act (i pc : Nat) (ins : Instr) (len : Nat) (L S : List Value) (h : List hC) : Option rT := match ins with
  | .aload k => if len = 2 then lda L S k (pc + 2) h else none
  | .aload_n k => if len = 1 then lda L S k (pc + 1) h else none
  | .iload k => if len = 2 then ldi L S k (pc + 2) h else none
  | .iload_n k => if len = 1 then ldi L S k (pc + 1) h else none
  | .astore k => if len = 2 then sta L S k (pc + 2) h else none
  | .astore_n k => if len = 1 then sta L S k (pc + 1) h else none
  | .istore k => if len = 2 then sti L S k (pc + 2) h else none
  | .istore_n k => if len = 1 then sti L S k (pc + 1) h else none
  | .iconst n => if len = 1 then rN (pc + 1) L (.int (Int32.ofInt n) :: S) h else none
  | .bipush n => if len = 2 then rN (pc + 2) L (.int (Int8.ofInt n).toInt32 :: S) h else none
  | .sipush n => if len = 3 then rN (pc + 3) L (.int (Int16.ofInt n).toInt32 :: S) h else none
  | .aconst_null => if len = 1 then rN (pc + 1) L (.null :: S) h else none
  | .ldc idx => if len = 2 then (match kref (mC i) idx with
    | some v => rN (pc + 2) L (.int v :: S) h
    | none => none) else none
  | .iadd => if len = 1 then (match S with
    | .int y :: .int x :: S => rN (pc + 1) L (.int (x + y) :: S) h
    | _ => none) else none
  | .isub => if len = 1 then (match S with
    | .int y :: .int x :: S => rN (pc + 1) L (.int (x - y) :: S) h
    | _ => none) else none
  | .imul => if len = 1 then (match S with
    | .int y :: .int x :: S => rN (pc + 1) L (.int (x * y) :: S) h
    | _ => none) else none
  | .iand => if len = 1 then (match S with
    | .int y :: .int x :: S => rN (pc + 1) L (.int (x &&& y) :: S) h
    | _ => none) else none
  | .ior => if len = 1 then (match S with
    | .int y :: .int x :: S => rN (pc + 1) L (.int (x ||| y) :: S) h
    | _ => none) else none
  | .ishl => if len = 1 then (match S with
    | .int y :: .int x :: S => rN (pc + 1) L (.int (x <<< (y &&& 31)) :: S) h
    | _ => none) else none
  | .ishr => if len = 1 then (match S with
    | .int y :: .int x :: S => rN (pc + 1) L (.int (x >>> (y &&& 31)) :: S) h
    | _ => none) else none
  | .idiv => if len = 1 then (match S with
    | .int y :: .int x :: S => if ¬ y = 0 then rN (pc + 1) L (.int (x / y) :: S) h else none
    | _ => none) else none
  | .irem => if len = 1 then (match S with
    | .int y :: .int x :: S => if ¬ y = 0 then rN (pc + 1) L (.int (x - x / y * y) :: S) h else none
    | _ => none) else none
  | .i2c => if len = 1 then (match S with
    | .int x :: S => rN (pc + 1) L (.int (x.toUInt32 % 65536).toInt32 :: S) h
    | _ => none) else none
  | .iinc k n => if len = 3 then (match L[k]? with
    | some (.int x) => rN (pc + 3) (L.set k (.int (x + Int32.ofInt n))) S h
    | _ => none) else none
  | .dup => if len = 1 then (match S with
    | v :: S => if cat1 v then rN (pc + 1) L (v :: v :: S) h else none
    | _ => none) else none
  | .pop => if len = 1 then (match S with
    | v :: S => if cat1 v then rN (pc + 1) L S h else none
    | _ => none) else none
  | .dup2 => if len = 1 then (match S with
    | v :: w :: S => if cat1 v && cat1 w then rN (pc + 1) L (v :: w :: v :: w :: S) h else none
    | _ => none) else none
  | .goto off => if len = 3 then jmp pc off L S h else none
  | .ifCond c off => if len = 3 ∧ 0 ≤ (pc : Int) + off then (match S with
    | .int x :: S => rN (if cmpI c x 0 = true then ((pc : Int) + off).toNat else pc + 3) L S h
    | _ => none) else none
  | .if_icmp c off => if len = 3 ∧ 0 ≤ (pc : Int) + off then (match S with
    | .int y :: .int x :: S => rN (if cmpI c x y = true then ((pc : Int) + off).toNat else pc + 3) L S h
    | _ => none) else none
  | .ifnull off => if len = 3 then (match S with
    | .null :: S => jmp pc off L S h
    | .ref _ :: S => rN (pc + 3) L S h
    | _ => none) else none
  | .ifnonnull off => if len = 3 then (match S with
    | .null :: S => rN (pc + 3) L S h
    | .ref _ :: S => jmp pc off L S h
    | _ => none) else none
  | .tableswitch d lo hi offs => (match S with
    | .int x :: S => if x.toInt < lo ∨ hi < x.toInt then jmp pc d L S h else (match offs[(x.toInt - lo).toNat]? with
      | some off => jmp pc off L S h
      | none => none)
    | _ => none)
  | .lookupswitch d ps => (match S with
    | .int x :: S => if (ps.toList.zip (ps.toList.drop 1)).all (fun (a, next) => a.1 < next.1) = true then jmp pc (Op.lookupswitch.offset ps.toList d x.toInt) L S h else none
    | _ => none)
  | .getfield idx => if len = 3 then (match S with
    | .ref a :: S => (match fref (mC i) idx with
      | some (ci, k) => (match getF h[a]? ci k with
        | some v => rN (pc + 3) L (v :: S) h
        | none => none)
      | none => none)
    | _ => none) else none
  | .putfield idx => if len = 3 then (match S with
    | v :: .ref a :: S => (match fref (mC i) idx with
      | some (ci, k) => if (fT ci k).2.2.2 = false ∨ ((mN i).name = "<init>" ∧ ci = mC i) then (match putF h[a]? ci k v with
        | some c => rN (pc + 3) L S (h.set a c)
        | none => none) else none
      | none => none)
    | _ => none) else none
  | .getstatic idx => if len = 3 then (match sref (mC i) idx with
    | some k => if k < 2 then rN (pc + 3) L (.ref (sA k) :: S) h else none
    | none => none) else none
  | .iaload => if len = 1 then (match S with
    | .int j :: .ref a :: S => (match getI h[a]? a 0 j with
      | some x => rN (pc + 1) L (.int x :: S) h
      | none => none)
    | _ => none) else none
  | .caload => if len = 1 then (match S with
    | .int j :: .ref a :: S => (match getI h[a]? a 1 j with
      | some x => rN (pc + 1) L (.int x :: S) h
      | none => none)
    | _ => none) else none
  | .aaload => if len = 1 then (match S with
    | .int j :: .ref a :: S => (match getQ h[a]? j with
      | some v => rN (pc + 1) L (v :: S) h
      | none => none)
    | _ => none) else none
  | .iastore => if len = 1 then (match S with
    | .int x :: .int j :: .ref a :: S => (match putI h[a]? 0 j x with
      | some c => rN (pc + 1) L S (h.set a c)
      | none => none)
    | _ => none) else none
  | .castore => if len = 1 then (match S with
    | .int x :: .int j :: .ref a :: S => (match putI h[a]? 1 j (vp_nar .char x) with
      | some c => rN (pc + 1) L S (h.set a c)
      | none => none)
    | _ => none) else none
  | .aastore => if len = 1 then (match S with
    | .ref v :: .int j :: .ref a :: S => (match putQ h[a]? j h[v]? v with
      | some c => rN (pc + 1) L S (h.set a c)
      | none => none)
    | _ => none) else none
  | .new idx => if len = 3 then (match nref (mC i) idx with
    | some ci => rA (.inl (ci, (List.range (fN ci)).map (fun k => dfl (fty ci k)))) (pc + 3) S
    | none => none) else none
  | .newarray t => if len = 2 then (match S with
    | .int n :: S => if ¬ n < 0 ∧ n.toNatClampNeg ≤ 10000 then (match t with
      | .int => rA (hI n.toNatClampNeg (fun _ => 0)) (pc + 2) S
      | .char => rA (hH n.toNatClampNeg (fun _ => 0)) (pc + 2) S
      | _ => none) else none
    | _ => none) else none
  | .anewarray idx => if len = 3 then (match S with
    | .int n :: S => (match aref (mC i) idx with
      | some t => if ¬ n < 0 ∧ n.toNatClampNeg ≤ 10000 ∧ (t = 2 ∨ t = 3) then rA (hQ t n.toNatClampNeg (fun _ => none)) (pc + 3) S else none
      | none => none)
    | _ => none) else none
  | .invokevirtual idx => if len = 3 then invV i idx S h else none
  | .invokestatic idx => if len = 3 then invS i idx pc L S h else none
  | .invokespecial idx => if len = 3 then invI i idx pc L S h else none
  | .ireturn => if len = 1 then (match S with
    | [.int x] => (match mR i with
      | some ty => if okv ty (.int x) = true then rR (some (.int x)) else none
      | none => none)
    | _ => none) else none
  | .areturn => if len = 1 then (match S with
    | [v] => (match mR i, v with
      | some (.object _), .ref a => rR (some (.ref a))
      | some (.object _), .null => rR (some .null)
      | _, _ => none)
    | _ => none) else none
  | .return_ => if len = 1 then (match S, mR i with
    | [], none => rR none
    | _, _ => none) else none
  | _ => none
def pad (j : Nat) (as : List Value) : List Value := as ++ List.replicate (mL j - as.length) (.long 0)
abbrev eR : Type := Option (Option Value × List hC × Nat × Nat)
abbrev eT : Type := Nat → Nat → List Value → List Value → List hC → eR
/-- one step, and what follows by E -/
def stp (E : eT) : eT := fun i pc L S h => match decode (mB i) pc with
    | .ok (ins, len) => (match act i pc ins len L S h with
      | some (.inl (pc', L', S', h')) => E i pc' L' S' h'
      | some (.inr (.inl v)) => some (v, h, 0, 0)
      | some (.inr (.inr (.inl (c, pc', S')))) => if mZ i = true then (match E i pc' L (.ref h.length :: S') (h ++ [c]) with
        | some (v, h', a, b) => some (v, h', a + 1, b + csz c)
        | none => none) else none
      | some (.inr (.inr (.inr (j, as, rest)))) => (match E j 0 (pad j as) [] h with
        | some (v, h1, a1, b1) => (match E i (pc + 3) L (v.toList ++ rest) h1 with
          | some (v2, h2, a2, b2) => some (v2, h2, a1 + a2, b1 + b2)
          | none => none)
        | none => none)
      | none => none)
    | .error _ => none
/-- so many steps at most; the answer, the heap, and how many cells and slots were made -/
def exec : Nat → eT
  | 0 => fun _ _ _ _ _ => none
  | n + 1 => stp (exec n)
end
section
/-! the answer without the number of steps -/
theorem stp_le {E E' : eT} (hE : ∀ i pc L S h v, E i pc L S h = some v → E' i pc L S h = some v) {i pc : Nat} {L S : List Value} {h : List hC} {v : Option Value × List hC × Nat × Nat} (hv : stp E i pc L S h = some v) : stp E' i pc L S h = some v := by
  unfold stp at hv ⊢
  cases hd : decode (mB i) pc with
  | error e => rw [hd] at hv; cases hv
  | ok q =>
    obtain ⟨ins, len⟩ := q
    simp only [hd] at hv ⊢
    cases ha : act i pc ins len L S h with
    | none => simp only [ha] at hv; cases hv
    | some r =>
      simp only [ha] at hv ⊢
      rcases r with ⟨pc', L', S', h'⟩ | v' | ⟨c, pc', S'⟩ | ⟨j, as, rest⟩
      · exact hE _ _ _ _ _ _ hv
      · exact hv
      · simp only at hv ⊢
        by_cases hz : mZ i = true
        · rw [if_pos hz] at hv ⊢
          cases he : E i pc' L (.ref h.length :: S') (h ++ [c]) with
          | none => rw [he] at hv; cases hv
          | some w => rw [he] at hv; rw [hE _ _ _ _ _ _ he]; exact hv
        · rw [if_neg hz] at hv; cases hv
      · simp only at hv ⊢
        cases he : E j 0 (pad j as) [] h with
        | none => rw [he] at hv; cases hv
        | some w =>
          obtain ⟨v1, h1, a1, b1⟩ := w
          rw [he] at hv; rw [hE _ _ _ _ _ _ he]
          simp only at hv ⊢
          cases he2 : E i (pc + 3) L (v1.toList ++ rest) h1 with
          | none => rw [he2] at hv; cases hv
          | some w2 => rw [he2] at hv; rw [hE _ _ _ _ _ _ he2]; exact hv
theorem exec_s (n : Nat) : ∀ i pc L S h v, exec n i pc L S h = some v → exec (n + 1) i pc L S h = some v := by
  induction n with
  | zero => intro i pc L S h v hv; cases hv
  | succ n ih => intro i pc L S h v hv; exact stp_le ih hv
theorem exec_le {n m : Nat} (hnm : n ≤ m) : ∀ i pc L S h v, exec n i pc L S h = some v → exec m i pc L S h = some v := by
  induction hnm with
  | refl => intro i pc L S h v hv; exact hv
  | step _ ih => intro i pc L S h v hv; exact exec_s _ _ _ _ _ _ _ (ih _ _ _ _ _ _ hv)
theorem exec_one {n m i pc : Nat} {L S : List Value} {h : List hC} {v w : Option Value × List hC × Nat × Nat} (hv : exec n i pc L S h = some v) (hw : exec m i pc L S h = some w) : v = w := by
  rcases Nat.le_total n m with q | q
  · have := exec_le q _ _ _ _ _ _ hv
    rw [hw] at this
    exact (Option.some.inj this).symm
  · have := exec_le q _ _ _ _ _ _ hw
    rw [hv] at this
    exact Option.some.inj this
noncomputable def Xv : eT := fun i pc L S h => Classical.epsilon (fun o : eR => (∃ n v, exec n i pc L S h = some v ∧ o = some v) ∨ ((∀ n, exec n i pc L S h = none) ∧ o = none))
theorem Xv_spec (i pc : Nat) (L S : List Value) (h : List hC) : (∃ n v, exec n i pc L S h = some v ∧ Xv i pc L S h = some v) ∨ ((∀ n, exec n i pc L S h = none) ∧ Xv i pc L S h = none) := by
  refine Classical.epsilon_spec (p := fun o : eR => (∃ n v, exec n i pc L S h = some v ∧ o = some v) ∨ ((∀ n, exec n i pc L S h = none) ∧ o = none)) ?_
  by_cases hq : ∃ n v, exec n i pc L S h = some v
  · obtain ⟨n, v, hv⟩ := hq
    exact ⟨some v, Or.inl ⟨n, v, hv, rfl⟩⟩
  · refine ⟨none, Or.inr ⟨fun n => ?_, rfl⟩⟩
    cases hn : exec n i pc L S h with
    | none => rfl
    | some v => exact absurd ⟨n, v, hn⟩ hq
theorem Xv_of {n i pc : Nat} {L S : List Value} {h : List hC} {v : Option Value × List hC × Nat × Nat} (hv : exec n i pc L S h = some v) : Xv i pc L S h = some v := by
  rcases Xv_spec i pc L S h with ⟨m, w, hw, e⟩ | ⟨hn, -⟩
  · rw [e, exec_one hv hw]
  · rw [hn n] at hv; cases hv
theorem Xv_to {i pc : Nat} {L S : List Value} {h : List hC} {v : Option Value × List hC × Nat × Nat} (hv : Xv i pc L S h = some v) : ∃ n, exec n i pc L S h = some v := by
  rcases Xv_spec i pc L S h with ⟨m, w, hw, e⟩ | ⟨-, e⟩
  · rw [hv] at e; cases e; exact ⟨m, hw⟩
  · rw [hv] at e; cases e
theorem stp_lim {i pc : Nat} {L S : List Value} {h : List hC} {v : Option Value × List hC × Nat × Nat} (hv : stp Xv i pc L S h = some v) : ∃ n, stp (exec n) i pc L S h = some v := by
  unfold stp at hv ⊢
  cases hd : decode (mB i) pc with
  | error e => rw [hd] at hv; cases hv
  | ok q =>
    obtain ⟨ins, len⟩ := q
    simp only [hd] at hv ⊢
    cases ha : act i pc ins len L S h with
    | none => simp only [ha] at hv; cases hv
    | some r =>
      simp only [ha] at hv ⊢
      rcases r with ⟨pc', L', S', h'⟩ | v' | ⟨c, pc', S'⟩ | ⟨j, as, rest⟩
      · exact Xv_to hv
      · exact ⟨0, hv⟩
      · simp only at hv ⊢
        by_cases hz : mZ i = true
        · simp only [if_pos hz] at hv ⊢
          cases he : Xv i pc' L (.ref h.length :: S') (h ++ [c]) with
          | none => rw [he] at hv; cases hv
          | some w =>
            rw [he] at hv
            obtain ⟨n, hn⟩ := Xv_to he
            exact ⟨n, by rw [hn]; exact hv⟩
        · rw [if_neg hz] at hv; cases hv
      · simp only at hv ⊢
        cases he : Xv j 0 (pad j as) [] h with
        | none => rw [he] at hv; cases hv
        | some w =>
          obtain ⟨v1, h1, a1, b1⟩ := w
          rw [he] at hv
          simp only at hv
          obtain ⟨n, hn⟩ := Xv_to he
          cases he2 : Xv i (pc + 3) L (v1.toList ++ rest) h1 with
          | none => rw [he2] at hv; cases hv
          | some w2 =>
            rw [he2] at hv
            obtain ⟨m, hm⟩ := Xv_to he2
            refine ⟨max n m, ?_⟩
            rw [exec_le (Nat.le_max_left n m) _ _ _ _ _ _ hn]
            simp only
            rw [exec_le (Nat.le_max_right n m) _ _ _ _ _ _ hm]
            exact hv
theorem Xv_stp (i pc : Nat) (L S : List Value) (h : List hC) : Xv i pc L S h = stp Xv i pc L S h := by
  cases hv : stp Xv i pc L S h with
  | some v =>
    obtain ⟨n, hn⟩ := stp_lim hv
    exact Xv_of (n := n + 1) hn
  | none =>
    rcases Xv_spec i pc L S h with ⟨n, w, hw, -⟩ | ⟨-, e⟩
    · cases n with
      | zero => cases hw
      | succ n =>
        have := stp_le (E' := Xv) (fun _ _ _ _ _ _ q => Xv_of q) hw
        rw [hv] at this; cases this
    · exact e
/-- what the method i does from pc on: its answer and the heap behind it; none if it gets stuck, or has no end -/
noncomputable def X (i pc : Nat) (L S : List Value) (h : List hC) : Option (Option Value × List hC) := (Xv i pc L S h).map (fun v => (v.1, v.2.1))
theorem X_to {i pc : Nat} {L S : List Value} {h h' : List hC} {v : Option Value} (hX : X i pc L S h = some (v, h')) : ∃ n a b, exec n i pc L S h = some (v, h', a, b) := by
  unfold X at hX
  cases hq : Xv i pc L S h with
  | none => rw [hq] at hX; cases hX
  | some w =>
    obtain ⟨n, hn⟩ := Xv_to hq
    obtain ⟨v1, h1, a, b⟩ := w
    rw [hq] at hX
    cases hX
    exact ⟨n, a, b, hn⟩
theorem X_of {n i pc a b : Nat} {L S : List Value} {h h' : List hC} {v : Option Value} (hX : exec n i pc L S h = some (v, h', a, b)) : X i pc L S h = some (v, h') := by
  unfold X
  rw [Xv_of hX]
  rfl
theorem X_next {i pc len pc' : Nat} {ins : Instr} {L S L' S' : List Value} {h h' : List hC} (hd : decode (mB i) pc = .ok (ins, len)) (ha : act i pc ins len L S h = some (.inl (pc', L', S', h'))) : X i pc L S h = X i pc' L' S' h' := by
  unfold X
  rw [Xv_stp i pc L S h]
  unfold stp
  simp only [hd, ha]
theorem X_ret {i pc len : Nat} {ins : Instr} {L S : List Value} {h : List hC} {v : Option Value} (hd : decode (mB i) pc = .ok (ins, len)) (ha : act i pc ins len L S h = some (.inr (.inl v))) : X i pc L S h = some (v, h) := by
  unfold X
  rw [Xv_stp i pc L S h]
  unfold stp
  simp only [hd, ha]
  rfl
theorem X_call {i pc len j : Nat} {ins : Instr} {L S as rest : List Value} {h : List hC} (hd : decode (mB i) pc = .ok (ins, len)) (ha : act i pc ins len L S h = some (.inr (.inr (.inr (j, as, rest))))) : X i pc L S h = (match X j 0 (pad j as) [] h with
    | some (v, h1) => X i (pc + 3) L (v.toList ++ rest) h1
    | none => none) := by
  unfold X
  rw [Xv_stp i pc L S h]
  unfold stp
  simp only [hd, ha]
  cases he : Xv j 0 (pad j as) [] h with
  | none => rfl
  | some w =>
    obtain ⟨v1, h1, a1, b1⟩ := w
    simp only [Option.map_some]
    cases he2 : Xv i (pc + 3) L (v1.toList ++ rest) h1 with
    | none => rfl
    | some w2 => rfl
theorem X_stuck {i pc len : Nat} {ins : Instr} {L S : List Value} {h : List hC} (hd : decode (mB i) pc = .ok (ins, len)) (ha : act i pc ins len L S h = none) : X i pc L S h = none := by
  unfold X
  rw [Xv_stp i pc L S h]
  unfold stp
  simp only [hd, ha]
  rfl
/-- a step that calls -/
theorem act_call {i pc len j : Nat} {ins : Instr} {L S as rest : List Value} {h : List hC} (ha : act i pc ins len L S h = some (.inr (.inr (.inr (j, as, rest))))) :
    len = 3 ∧ room i j S = true ∧ as = (S.take (mA j)).reverse ∧ rest = S.drop (mA j) ∧
      ((∃ idx b as' fs, ins = .invokevirtual idx ∧ lref (mC i) idx = some (0, j) ∧ as = .ref b :: as' ∧ h[b]? = some (.inl (mC j, fs))) ∨
       (∃ idx k, ins = .invokestatic idx ∧ (k = 1 ∨ k = 4) ∧ lref (mC i) idx = some (k, j)) ∨
       (∃ idx k b as', ins = .invokespecial idx ∧ (k = 2 ∨ k = 3) ∧ lref (mC i) idx = some (k, j) ∧ as = .ref b :: as')) := by
  cases ins
  case invokevirtual idx =>
    simp only [act] at ha
    split at ha
    · rename_i hl
      refine ⟨hl, ?_⟩
      unfold invV at ha
      split at ha
      · rename_i j' hj
        split at ha
        · rename_i hr
          split at ha
          · rename_i b as' hs
            split at ha
            · rename_i ci fs hc
              split at ha
              · rename_i hci
                cases ha
                subst hci
                exact ⟨hr, hs.symm, rfl, Or.inl ⟨idx, b, as', fs, rfl, hj, rfl, hc⟩⟩
              · cases ha
            · cases ha
          · cases ha
        · cases ha
      · cases ha
    · cases ha
  case invokestatic idx =>
    simp only [act] at ha
    split at ha
    · rename_i hl
      refine ⟨hl, ?_⟩
      unfold invS at ha
      split at ha
      · rename_i j' hj
        split at ha
        · rename_i hr
          cases ha
          exact ⟨hr, rfl, rfl, Or.inr (Or.inl ⟨idx, 1, rfl, Or.inl rfl, hj⟩)⟩
        · cases ha
      · rename_i j' hj
        split at ha
        · rename_i hr
          cases ha
          exact ⟨hr, rfl, rfl, Or.inr (Or.inl ⟨idx, 4, rfl, Or.inr rfl, hj⟩)⟩
        · cases ha
      · repeat' split at ha
        all_goals (cases ha)
      · repeat' split at ha
        all_goals (cases ha)
      · repeat' split at ha
        all_goals (cases ha)
      · cases ha
    · cases ha
  case invokespecial idx =>
    simp only [act] at ha
    split at ha
    · rename_i hl
      refine ⟨hl, ?_⟩
      unfold invI at ha
      split at ha
      · rename_i j' hj
        split at ha
        · rename_i hr
          split at ha
          · rename_i b as' hs
            cases ha
            exact ⟨hr, hs.symm, rfl, Or.inr (Or.inr ⟨idx, 2, b, as', rfl, Or.inl rfl, hj, rfl⟩)⟩
          · cases ha
        · cases ha
      · rename_i j' hj
        split at ha
        · rename_i hr
          split at ha
          · rename_i b as' hs
            cases ha
            exact ⟨hr, hs.symm, rfl, Or.inr (Or.inr ⟨idx, 3, b, as', rfl, Or.inr rfl, hj, rfl⟩)⟩
          · cases ha
        · cases ha
      · repeat' split at ha
        all_goals (cases ha)
      · cases ha
    · cases ha
  all_goals (simp only [act, ldi, lda, sti, sta, jmp] at ha)
  all_goals (repeat' split at ha)
  all_goals (cases ha)
/-- a step that makes a cell -/
theorem act_alloc {i pc len pc' : Nat} {ins : Instr} {L S S' : List Value} {h : List hC} {c : hC} (ha : act i pc ins len L S h = some (.inr (.inr (.inl (c, pc', S'))))) :
    (∃ idx ci, ins = .new idx ∧ len = 3 ∧ nref (mC i) idx = some ci ∧ c = .inl (ci, (List.range (fN ci)).map (fun k => dfl (fty ci k))) ∧ pc' = pc + 3 ∧ S' = S) ∨
    (∃ ty n, ins = .newarray ty ∧ len = 2 ∧ S = .int n :: S' ∧ ¬ n < 0 ∧ n.toNatClampNeg ≤ 10000 ∧ ((ty = .int ∧ c = hI n.toNatClampNeg (fun _ => 0)) ∨ (ty = .char ∧ c = hH n.toNatClampNeg (fun _ => 0))) ∧ pc' = pc + 2) ∨
    (∃ idx n t, ins = .anewarray idx ∧ len = 3 ∧ S = .int n :: S' ∧ aref (mC i) idx = some t ∧ ¬ n < 0 ∧ n.toNatClampNeg ≤ 10000 ∧ (t = 2 ∨ t = 3) ∧ c = hQ t n.toNatClampNeg (fun _ => none) ∧ pc' = pc + 3) := by
  cases ins
  case new idx =>
    simp only [act] at ha
    split at ha
    · rename_i hl
      split at ha
      · rename_i ci hci
        cases ha
        exact Or.inl ⟨idx, ci, rfl, hl, hci, rfl, rfl, rfl⟩
      · cases ha
    · cases ha
  case newarray ty =>
    simp only [act] at ha
    split at ha
    · rename_i hl
      split at ha
      · rename_i n S0
        split at ha
        · rename_i hn
          split at ha
          · cases ha
            exact Or.inr (Or.inl ⟨.int, n, rfl, hl, rfl, hn.1, hn.2, Or.inl ⟨rfl, rfl⟩, rfl⟩)
          · cases ha
            exact Or.inr (Or.inl ⟨.char, n, rfl, hl, rfl, hn.1, hn.2, Or.inr ⟨rfl, rfl⟩, rfl⟩)
          · cases ha
        · cases ha
      · cases ha
    · cases ha
  case anewarray idx =>
    simp only [act] at ha
    split at ha
    · rename_i hl
      split at ha
      · rename_i n S0
        split at ha
        · rename_i t ht
          split at ha
          · rename_i hn
            cases ha
            exact Or.inr (Or.inr ⟨idx, n, t, rfl, hl, rfl, ht, hn.1, hn.2.1, hn.2.2, rfl, rfl⟩)
          · cases ha
        · cases ha
      · cases ha
    · cases ha
  all_goals (simp only [act, ldi, lda, sti, sta, jmp, invV, invS, invI] at ha)
  all_goals (repeat' split at ha)
  all_goals (cases ha)
/-- a step that ends -/
theorem act_ret {i pc len : Nat} {ins : Instr} {L S : List Value} {h : List hC} {v : Option Value} (ha : act i pc ins len L S h = some (.inr (.inl v))) :
    len = 1 ∧ ((∃ x ty, ins = .ireturn ∧ S = [.int x] ∧ mR i = some ty ∧ okv ty (.int x) = true ∧ v = some (.int x)) ∨
      (∃ w n, ins = .areturn ∧ S = [w] ∧ mR i = some (.object n) ∧ (w = .null ∨ ∃ a, w = .ref a) ∧ v = some w) ∨
      (ins = .return_ ∧ S = [] ∧ mR i = none ∧ v = none)) := by
  cases ins
  case ireturn =>
    simp only [act] at ha
    split at ha
    · rename_i hl
      split at ha
      · rename_i x
        split at ha
        · rename_i ty hty
          split at ha
          · rename_i hok
            cases ha
            exact ⟨hl, Or.inl ⟨x, ty, rfl, rfl, hty, hok, rfl⟩⟩
          · cases ha
        · cases ha
      · cases ha
    · cases ha
  case areturn =>
    simp only [act] at ha
    split at ha
    · rename_i hl
      split at ha
      · rename_i w
        split at ha
        · rename_i n a hn
          cases ha
          exact ⟨hl, Or.inr (Or.inl ⟨_, n, rfl, rfl, hn, Or.inr ⟨a, rfl⟩, rfl⟩)⟩
        · rename_i n hn
          cases ha
          exact ⟨hl, Or.inr (Or.inl ⟨_, n, rfl, rfl, hn, Or.inl rfl, rfl⟩)⟩
        · cases ha
      · cases ha
    · cases ha
  case return_ =>
    simp only [act] at ha
    split at ha
    · rename_i hl
      split at ha
      · rename_i hn
        cases ha
        exact ⟨hl, Or.inr (Or.inr ⟨rfl, rfl, hn, rfl⟩)⟩
      · cases ha
    · cases ha
  all_goals (simp only [act, ldi, lda, sti, sta, jmp, invV, invS, invI] at ha)
  all_goals (repeat' split at ha)
  all_goals (cases ha)
/-- a step that goes on keeps the number of cells -/
theorem act_len {i pc len pc' : Nat} {ins : Instr} {L S L' S' : List Value} {h h' : List hC} (ha : act i pc ins len L S h = some (.inl (pc', L', S', h'))) : h'.length = h.length := by
  cases ins
  all_goals (simp only [act, ldi, lda, sti, sta, jmp, invV, invS, invI] at ha)
  all_goals (repeat' split at ha)
  all_goals (first | (cases ha; done) | (cases ha; first | rfl | exact List.length_set))
theorem room_z {i j : Nat} {S : List Value} (h : room i j S = true) : mF j + 1 ≤ mF i ∧ 8 + (mL j + 11) + mW j ≤ mW i ∧ S.length ≤ mA j + 8 ∧ S.all cat1 = true ∧ (mZ i = false → mZ j = false) ∧ mA j ≤ mL j ∧ mA j ≤ S.length := by
  simp only [room, Bool.and_eq_true, decide_eq_true_eq, Bool.or_eq_true, Bool.not_eq_true'] at h
  obtain ⟨⟨⟨⟨⟨⟨h1, h2⟩, h3⟩, h4⟩, h5⟩, h6⟩, h7⟩ := h
  refine ⟨h1, h2, h3, h4, fun hz => ?_, h6, h7⟩
  rcases h5 with q | q
  · exact q
  · rw [hz] at q; cases q
/-- a method that makes no cell makes none -/
theorem exec_none : ∀ (n i pc : Nat) (L S : List Value) (h h' : List hC) (v : Option Value) (a b : Nat), mZ i = false → exec n i pc L S h = some (v, h', a, b) → a = 0 ∧ b = 0 := by
  intro n
  induction n with
  | zero => intro i pc L S h h' v a b _ hv; cases hv
  | succ n ih =>
    intro i pc L S h h' v a b hz hv
    change stp (exec n) i pc L S h = _ at hv
    unfold stp at hv
    cases hd : decode (mB i) pc with
    | error e => rw [hd] at hv; cases hv
    | ok q =>
      obtain ⟨ins, len⟩ := q
      simp only [hd] at hv
      cases ha : act i pc ins len L S h with
      | none => simp only [ha] at hv; cases hv
      | some r =>
        simp only [ha] at hv
        rcases r with ⟨pc', L', S', h1⟩ | v' | ⟨c, pc', S'⟩ | ⟨j, as, rest⟩
        · exact ih _ _ _ _ _ _ _ _ _ hz hv
        · cases hv; exact ⟨rfl, rfl⟩
        · rw [hz] at hv
          simp at hv
        · have hj : mZ j = false := (room_z (act_call ha).2.1).2.2.2.2.1 hz
          simp only at hv
          cases he : exec n j 0 (pad j as) [] h with
          | none => rw [he] at hv; cases hv
          | some w =>
            obtain ⟨v1, h1, a1, b1⟩ := w
            rw [he] at hv
            simp only at hv
            cases he2 : exec n i (pc + 3) L (v1.toList ++ rest) h1 with
            | none => rw [he2] at hv; cases hv
            | some w2 =>
              obtain ⟨v2, h2, a2, b2⟩ := w2
              rw [he2] at hv
              cases hv
              have q1 := ih _ _ _ _ _ _ _ _ _ hj he
              have q2 := ih _ _ _ _ _ _ _ _ _ hz he2
              omega
/-- the cells that are made stand behind those that were -/
theorem exec_len : ∀ (n i pc : Nat) (L S : List Value) (h h' : List hC) (v : Option Value) (a b : Nat), exec n i pc L S h = some (v, h', a, b) → h'.length = h.length + a := by
  intro n
  induction n with
  | zero => intro i pc L S h h' v a b hv; cases hv
  | succ n ih =>
    intro i pc L S h h' v a b hv
    change stp (exec n) i pc L S h = _ at hv
    unfold stp at hv
    cases hd : decode (mB i) pc with
    | error e => rw [hd] at hv; cases hv
    | ok q =>
      obtain ⟨ins, len⟩ := q
      simp only [hd] at hv
      cases ha : act i pc ins len L S h with
      | none => simp only [ha] at hv; cases hv
      | some r =>
        simp only [ha] at hv
        rcases r with ⟨pc', L', S', h1⟩ | v' | ⟨c, pc', S'⟩ | ⟨j, as, rest⟩
        · have := ih _ _ _ _ _ _ _ _ _ hv
          rw [act_len ha] at this
          exact this
        · cases hv; rfl
        · simp only at hv
          split at hv
          · cases he : exec n i pc' L (.ref h.length :: S') (h ++ [c]) with
            | none => rw [he] at hv; cases hv
            | some w =>
              obtain ⟨v1, h1, a1, b1⟩ := w
              rw [he] at hv
              cases hv
              have := ih _ _ _ _ _ _ _ _ _ he
              rw [List.length_append, List.length_singleton] at this
              omega
          · cases hv
        · simp only at hv
          cases he : exec n j 0 (pad j as) [] h with
          | none => rw [he] at hv; cases hv
          | some w =>
            obtain ⟨v1, h1, a1, b1⟩ := w
            rw [he] at hv
            simp only at hv
            cases he2 : exec n i (pc + 3) L (v1.toList ++ rest) h1 with
            | none => rw [he2] at hv; cases hv
            | some w2 =>
              obtain ⟨v2, h2, a2, b2⟩ := w2
              rw [he2] at hv
              cases hv
              have q1 := ih _ _ _ _ _ _ _ _ _ he
              have q2 := ih _ _ _ _ _ _ _ _ _ he2
              omega
end
section
/-! how the small machine's world lies in the machine's -/
def ad (b : Nat) (t : Nat → Nat) (k : Nat) : Nat := match sIx k with
  | some j => t j
  | none => b + k
theorem sB_lt : sB < sB1 := by decide +kernel
theorem sIx_lt {k : Nat} (h : k < sB) : sIx k = none := by
  have := sB_lt
  unfold sIx
  rw [if_neg (by omega), if_neg (by omega)]
theorem sIx_A {k : Nat} (h : k < 2) : sIx (sA k) = some k := by
  match k, h with
  | 0, _ => rfl
  | 1, _ => decide +kernel
def cv (r : Nat → Nat) (v : Value) : Value := match v with
  | .ref k => .ref (r k)
  | v => v
def ce (r : Nat → Nat) (ac : Nat → ClassId) (x : hC) : va_E := match x with
  | .inl (ci, fs) => .inr (ci, fs.map (cv r))
  | .inr (t, n, .inl f) => .inl (ac t, n, .inl f)
  | .inr (t, n, .inr g) => .inl (ac t, n, .inr (.inr (.inr (.inr (fun j => (g j).map r)))))
def wz (r : Nat → Nat) (ac : Nat → ClassId) (h : List hC) : va_W := h.mapIdx (fun k x => (r k, ce r ac x))
theorem wz_at {r : Nat → Nat} {ac : Nat → ClassId} {h : List hC} {k : Nat} {x : hC} (hx : h[k]? = some x) : (wz r ac h)[k]? = some (r k, ce r ac x) := by
  simp [wz, List.getElem?_mapIdx, hx]
theorem wz_of {r : Nat → Nat} {ac : Nat → ClassId} {h : List hC} {k : Nat} {q : Nat × va_E} (hq : (wz r ac h)[k]? = some q) : ∃ x, h[k]? = some x ∧ q = (r k, ce r ac x) := by
  simp only [wz, List.getElem?_mapIdx] at hq
  cases hx : h[k]? with
  | none => rw [hx] at hq; cases hq
  | some x => rw [hx] at hq; cases hq; exact ⟨x, rfl, rfl⟩
theorem wz_set (r : Nat → Nat) (ac : Nat → ClassId) (h : List hC) (k : Nat) (x : hC) : (wz r ac h).set k (r k, ce r ac x) = wz r ac (h.set k x) := by
  apply List.ext_getElem?
  intro j
  by_cases hj : k = j
  · subst hj
    by_cases hl : k < h.length
    · rw [List.getElem?_set_self (by simpa [wz] using hl), wz_at (List.getElem?_set_self hl)]
    · rw [List.getElem?_eq_none (by simpa [wz] using Nat.le_of_not_lt hl), List.getElem?_eq_none (by simpa [wz] using Nat.le_of_not_lt hl)]
  · rw [List.getElem?_set_ne hj]
    simp only [wz, List.getElem?_mapIdx]
    rw [List.getElem?_set_ne hj]
theorem wz_push (r : Nat → Nat) (ac : Nat → ClassId) (h : List hC) (x : hC) : wz r ac (h ++ [x]) = wz r ac h ++ [(r h.length, ce r ac x)] := by
  simp [wz, List.mapIdx_append]
theorem ad_lt {b : Nat} {t : Nat → Nat} {k : Nat} (h : k < sB) : ad b t k = b + k := by
  unfold ad; rw [sIx_lt h]
theorem wz_D {b : Nat} {t : Nat → Nat} {ac : Nat → ClassId} {h : List hC} (hl : h.length ≤ sB) : va_D (fun q => b ≤ q) (wz (ad b t) ac h) := by
  have key : ∀ k q, (wz (ad b t) ac h)[k]? = some q → q.1 = b + k := by
    intro k q hq
    obtain ⟨x, hx, rfl⟩ := wz_of hq
    exact ad_lt (Nat.lt_of_lt_of_le (List.getElem?_eq_some_iff.mp hx).1 hl)
  refine ⟨fun i j p q hp hq he => ?_, fun k q hq => ?_⟩
  · have := key i p hp
    have := key j q hq
    omega
  · show b ≤ q.1
    rw [key k q hq]; omega
abbrev tyl (ac : Nat → ClassId) : List (ClassId × FieldType) := [(ac 0, .int), (ac 1, .char), (ac 2, .object RX0), (ac 3, .object RX9)]
/-- what holds of the tables and of what nobody writes -/
def EV (b : Nat) (t : Nat → Nat) (ac : Nat → ClassId) (D : va_G) (U : State) : Prop :=
  va_K D vwCl (tyl ac) U ∧ (∀ q ∈ ntab, va_Nw (.methodLinkNest q.1 q.2.1 q.2.2.1 q.2.2.2) U) ∧
  (∀ k, k < 2 → va_Z RX0 (sNm k) "[I" (.ref (t k)) (fun q => b ≤ q) U U.heap ∧ va_T .int (t k) 4 (fun j => .int (sArr k j)) (fun q => b ≤ q) U U.heap) ∧ va_AO RX0 U ∧ va_AO RX9 U
theorem EV.to {b : Nat} {t : Nat → Nat} {ac : Nat → ClassId} {D : va_G} {s U : State} {H : Heap} {locs : List Loc} (h : EV b t ac D s) (hS : va_S (fun q => b ≤ q) s.heap H locs) (hW : s.WarmedH U.vm) (hU : U.heap = H) : EV b t ac D U := by
  obtain ⟨h1, h2, h3, h4, h5⟩ := h
  refine ⟨va_K.moved hW.alike h1, fun q hq => va_Nw.warmM hW (h2 q hq), fun k hk => ?_, h4.moved hW.alike, h5.moved hW.alike⟩
  rw [hU]
  exact ⟨((h3 k hk).1.moved hW.alike).kept hS.2.1, ((h3 k hk).2.moved hW.alike).kept hS.2.1⟩
theorem EV.call {b : Nat} {t : Nat → Nat} {ac : Nat → ClassId} {D : va_G} {U : State} {g : JFrame} {mk : MethodId} {a : Array Value} (h : EV b t ac D U) : EV b t ac D (U.calling g mk a) := by
  obtain ⟨h1, h2, h3, h4, h5⟩ := h
  exact ⟨va_K.moved (u := U) (U := U.calling g mk a) (Vm.Alike.refl U.vm) h1, fun q hq => va_Nw.same rfl (u := U) rfl (h2 q hq), fun k hk => ⟨(h3 k hk).1.moved (u := U) (U := U.calling g mk a) (Vm.Alike.refl U.vm), (h3 k hk).2.moved (u := U) (U := U.calling g mk a) (Vm.Alike.refl U.vm)⟩, h4.moved (u := U) (U := U.calling g mk a) (Vm.Alike.refl U.vm), h5.moved (u := U) (U := U.calling g mk a) (Vm.Alike.refl U.vm)⟩
/-- the world is this heap -/
def WH (b : Nat) (t : Nat → Nat) (ac : Nat → ClassId) (D : va_G) (h : List hC) (H : Heap) : Prop := va_P D vwCl (wz (ad b t) ac h) H
/-- the locals are these -/
def LR (r : Nat → Nat) (ls : Array Slot) (n : Nat) (L : List Value) : Prop := ls.size = n ∧ lv_wf ls ∧ L.length = n ∧ ∀ (k : Nat) (v : Value), L[k]? = some v → cat1 v = true → ls[k]? = some (Slot.val (cv r v))
theorem cat1_c {r : Nat → Nat} {v : Value} (h : cat1 v = true) : (cv r v).category = 1 := by
  cases v <;> first | rfl | cases h
theorem LR.has {r : Nat → Nat} {ls : Array Slot} {n : Nat} {L : List Value} (h : LR r ls n L) : lv_has ls n ((L.mapIdx (fun k v => (k, v))).filterMap (fun q => if cat1 q.2 = true then some (q.1, cv r q.2) else none)) := by
  refine ⟨h.1, h.2.1, fun q hq => ?_⟩
  obtain ⟨⟨k, v⟩, h1, h2⟩ := List.mem_filterMap.mp hq
  simp only at h2
  split at h2
  · rename_i hc
    cases h2
    obtain ⟨i, hi⟩ := List.getElem?_of_mem h1
    rw [List.getElem?_mapIdx] at hi
    cases hx : L[i]? with
    | none => rw [hx] at hi; cases hi
    | some x => rw [hx] at hi; cases hi; exact h.2.2.2 _ _ hx hc
  · cases h2
/-- one more place is known -/
theorem LR.has1 {r : Nat → Nat} {ls : Array Slot} {n i : Nat} {L : List Value} {v : Value} (h : LR r ls n L) (hv : L[i]? = some v) (hc : cat1 v = true) : lv_has ls n ((i, cv r v) :: (L.mapIdx (fun k v => (k, v))).filterMap (fun q => if cat1 q.2 = true then some (q.1, cv r q.2) else none)) := by
  refine ⟨h.1, h.2.1, fun q hq => ?_⟩
  rcases List.mem_cons.mp hq with rfl | hq
  · exact h.2.2.2 i v hv hc
  · exact h.has.2.2 q hq
theorem LR.put {r : Nat → Nat} {ls ls' : Array Slot} {n i : Nat} {L : List Value} {v : Value} {w : Value} {extra : List (Nat × Value)} (h : LR r ls n L) (hc : cat1 v = true) (hw : w = cv r v)
    (h' : lv_has ls' n ((i, w) :: (extra ++ ((L.mapIdx (fun k v => (k, v))).filterMap (fun q => if cat1 q.2 = true then some (q.1, cv r q.2) else none))).filter (fun q => !(q.1 == i) && !(q.1 + 1 == i && q.2.category == 2)))) : LR r ls' n (L.set i v) := by
  subst hw
  refine ⟨h'.1, h'.2.1, by rw [List.length_set]; exact h.2.2.1, fun k x hk hx => ?_⟩
  by_cases hki : i = k
  · subst hki
    have hl : i < L.length := by
      have := (List.getElem?_eq_some_iff.mp hk).1
      rwa [List.length_set] at this
    rw [List.getElem?_set_self hl] at hk
    cases hk
    exact h'.2.2 _ List.mem_cons_self
  · rw [List.getElem?_set_ne hki] at hk
    refine h'.2.2 (k, cv r x) (List.mem_cons_of_mem _ (List.mem_filter.mpr ⟨List.mem_append_right _ (List.mem_filterMap.mpr ⟨(k, x), ?_, ?_⟩), ?_⟩))
    · refine List.mem_of_getElem? (i := k) ?_
      rw [List.getElem?_mapIdx, hk]; rfl
    · simp only [hx, if_true]
    · have := cat1_c (r := r) hx
      simp [this, Ne.symm hki]
theorem ite_some {α : Type} {c : Prop} [Decidable c] {a : Option α} {r : α} (h : (if c then a else none) = some r) : c ∧ a = some r := by
  by_cases hc : c
  · rw [if_pos hc] at h; exact ⟨hc, h⟩
  · rw [if_neg hc] at h; cases h
def Ctx (b : Nat) (t : Nat → Nat) (ac : Nat → ClassId) (D : va_G) (p : Program) (s : State) (m : MethodId) (args : Array Value) (meth : Method) (c : Code) (R : Room) (i : Nat) : Prop :=
  p.tables.exec = Jvm.exec ∧ c.code = mB i ∧ meth.sig.returnType = mR i ∧ c.maxLocals = mL i ∧ s.vm.findClass (fR (mC i)) = some m.cls ∧ (∀ w ∈ gw, w.before args s = true) ∧ meth.locks = false ∧ ((mN i).name = "<init>" → meth.name = "<init>") ∧ EV b t ac D s ∧ mF i ≤ R.frames ∧ mW i ≤ R.locals ∧ b ≤ s.heap.size
theorem okx_in {i : Int32} {n : Nat} (h : okx i n = true) : vp_in i n := by
  simp only [okx, Bool.and_eq_true, decide_eq_true_eq] at h
  intro q
  rcases q with q | q
  · exact absurd (Int32.lt_iff_toInt_lt.mp q) (by have := Int32.le_iff_toInt_le.mp h.1; omega)
  · omega
theorem okv_n {r : Nat → Nat} {ty : FieldType} {v : Value} (h : okv ty v = true) : narrow ty (cv r v) = cv r v ∧ fits ty (cv r v) = true := by
  cases ty <;> cases v <;> first
    | exact ⟨rfl, rfl⟩
    | (cases h; done)
    | (simp only [okv, Bool.or_eq_true, decide_eq_true_eq] at h
       rcases h with rfl | rfl <;> exact ⟨rfl, rfl⟩)
theorem fty_ok {ci k : Nat} (h1 : ci < 12) (h : k < fN ci) : parseFieldDescriptor (fT ci k).2.2.1 = some (fty ci k) := by
  match ci, h1, h with
  | 0, _, h => exact tyX0_ok k h
  | 1, _, h => exact tyX1_ok k h
  | 2, _, h => exact tyX2_ok k h
  | 3, _, h => exact tyX3_ok k h
  | 4, _, h => exact tyX4_ok k h
  | 5, _, h => exact tyX5_ok k h
  | 6, _, h => exact tyX6_ok k h
  | 7, _, h => exact tyX7_ok k h
  | 8, _, h => exact tyX8_ok k h
  | 9, _, h => exact tyX9_ok k h
  | 10, _, h => exact tyX10_ok k h
  | 11, _, h => exact tyX11_ok k h
theorem fnm_ok {ci : Nat} (h1 : ci < 12) : ∀ a, a < fN ci → ∀ b, b < fN ci → a ≠ b → (fT ci a).2.1 ≠ (fT ci b).2.1 := by
  match ci, h1 with
  | 0, _ => exact nmX0
  | 1, _ => exact nmX1
  | 2, _ => exact nmX2
  | 3, _ => exact nmX3
  | 4, _ => exact nmX4
  | 5, _ => exact nmX5
  | 6, _ => exact nmX6
  | 7, _ => exact nmX7
  | 8, _ => exact nmX8
  | 9, _ => exact nmX9
  | 10, _ => exact nmX10
  | 11, _ => exact nmX11
theorem fdecl_ok : (List.range 12).all (fun ci => (List.range (fN ci)).all (fun k => decide ((fT ci k).1 = fR ci))) = true := by decide +kernel
theorem fdecl {ci k : Nat} (h1 : ci < 12) (h : k < fN ci) : (fT ci k).1 = fR ci := of_decide_eq_true (List.all_eq_true.mp (List.all_eq_true.mp fdecl_ok ci (List.mem_range.mpr h1)) k (List.mem_range.mpr h))
theorem cat_sum {r : Nat → Nat} : ∀ (S : List Value), S.all cat1 = true → ((S.map (cv r)).map fun v => v.category).sum = S.length
  | [], _ => rfl
  | v :: S, h => by
    simp only [List.all_cons, Bool.and_eq_true] at h
    have := cat_sum (r := r) S h.2
    simp only [List.map_cons, List.sum_cons, List.length_cons, cat1_c h.1] at this ⊢
    omega
theorem getF_ok {c : Option hC} {ci k : Nat} {v : Value} (h : getF c ci k = some v) : ∃ fs, c = some (.inl (ci, fs)) ∧ fs[k]? = some v ∧ cat1 v = true := by
  unfold getF at h
  split at h
  · rename_i d fs
    have h' := ite_some h; clear h; obtain ⟨rfl, h⟩ := h'
    cases hk : fs[k]? with
    | none => rw [hk] at h; cases h
    | some w =>
      rw [hk] at h
      have h' := ite_some h; clear h; obtain ⟨h1, h⟩ := h'
      cases h
      exact ⟨fs, rfl, hk, h1⟩
  · cases h
theorem putF_ok {c : Option hC} {ci k : Nat} {v : Value} {x : hC} (h : putF c ci k v = some x) : ∃ fs, c = some (.inl (ci, fs)) ∧ k < fs.length ∧ okv (fty ci k) v = true ∧ x = .inl (ci, fs.set k v) := by
  unfold putF at h
  split at h
  · rename_i d fs
    have h' := ite_some h; clear h; obtain ⟨⟨rfl, h1, h2⟩, h⟩ := h'
    cases h
    exact ⟨fs, rfl, h1, h2, rfl⟩
  · cases h
theorem getI_ok {c : Option hC} {a t : Nat} {i x : Int32} (h : getI c a t i = some x) : (∃ n f, c = some (.inr (t, n, .inl f)) ∧ okx i n = true ∧ x = f i.toNatClampNeg) ∨ (c = none ∧ t = 0 ∧ ∃ j, sIx a = some j ∧ okx i 4 = true ∧ x = sArr j i.toNatClampNeg) := by
  unfold getI at h
  split at h
  · rename_i u n f
    have h' := ite_some h; clear h; obtain ⟨⟨rfl, h1⟩, h⟩ := h'
    cases h
    exact Or.inl ⟨n, f, rfl, h1, rfl⟩
  · cases h
  · split at h
    · rename_i j hj
      have h' := ite_some h; clear h; obtain ⟨⟨h1, h3⟩, h⟩ := h'
      cases h
      exact Or.inr ⟨rfl, h1, j, hj, h3, rfl⟩
    · cases h
theorem putI_ok {c : Option hC} {t : Nat} {i x : Int32} {y : hC} (h : putI c t i x = some y) : ∃ n f, c = some (.inr (t, n, .inl f)) ∧ okx i n = true ∧ y = .inr (t, n, .inl (upd f i.toNatClampNeg x)) := by
  unfold putI at h
  split at h
  · rename_i u n f
    have h' := ite_some h; clear h; obtain ⟨⟨rfl, h1⟩, h⟩ := h'
    cases h
    exact ⟨n, f, rfl, h1, rfl⟩
  · cases h
theorem getQ_ok {c : Option hC} {i : Int32} {v : Value} (h : getQ c i = some v) : ∃ t n g, c = some (.inr (t, n, .inr g)) ∧ (t = 2 ∨ t = 3) ∧ okx i n = true ∧ v = va_rf (g i.toNatClampNeg) := by
  unfold getQ at h
  split at h
  · rename_i u n f
    have h' := ite_some h; clear h; obtain ⟨⟨h0, h1⟩, h⟩ := h'
    cases h
    exact ⟨u, n, f, rfl, h0, h1, rfl⟩
  · cases h
theorem putQ_ok {c d : Option hC} {i : Int32} {v : Nat} {y : hC} (h : putQ c i d v = some y) : ∃ t n g fs, c = some (.inr (t, n, .inr g)) ∧ d = some (.inl (qcl t, fs)) ∧ (t = 2 ∨ t = 3) ∧ okx i n = true ∧ y = .inr (t, n, .inr (va_up g i.toNatClampNeg (some v))) := by
  unfold putQ at h
  split at h
  · rename_i u n f ci fs
    have h' := ite_some h; clear h; obtain ⟨⟨h0, rfl, h1⟩, h⟩ := h'
    cases h
    exact ⟨u, n, f, fs, rfl, rfl, h0, h1, rfl⟩
  · cases h
theorem cpyI_ok {c d : Option hC} {sp dp n : Int32} {y : hC} (h : cpyI c d sp dp n = some y) : ∃ n0 f n1 g, c = some (.inr (0, n0, .inl f)) ∧ d = some (.inr (0, n1, .inl g)) ∧ (¬ sp < 0 ∧ ¬ dp < 0 ∧ ¬ n < 0 ∧ sp.toNatClampNeg + n.toNatClampNeg ≤ n0 ∧ dp.toNatClampNeg + n.toNatClampNeg ≤ n1) ∧ y = .inr (0, n1, .inl (va_cpy f g sp.toNatClampNeg dp.toNatClampNeg n.toNatClampNeg)) := by
  unfold cpyI at h
  split at h
  · rename_i n0 f n1 g
    have h' := ite_some h; clear h; obtain ⟨h0, h⟩ := h'
    cases h
    exact ⟨n0, f, n1, g, rfl, rfl, h0, rfl⟩
  · cases h
theorem cv_rf {b : Nat} {t : Nat → Nat} (o : Option Nat) : cv (ad b t) (va_rf o) = va_rf (o.map (ad b t)) := by
  cases o <;> rfl
theorem s_iload {p : Program} {l : Launch} {e : Env} {R : Room} {s : State} {m : MethodId} {args : Array Value} {below : List Frame} {meth : Method} {c : Code} {H : Heap} {locs : List Loc} {cells slots : Nat} {Q : State → Prop} {b : Nat} {t : Nat → Nat} {ac : Nat → ClassId} {D : va_G} {i pc len : Nat} {ls : Array Slot} {L S : List Value} {h : List hC} {pc' : Nat} {L' S' : List Value} {h' : List hC} {n : Nat} (C : Ctx b t ac D p s m args meth c R i) (hd : decode (mB i) pc = .ok (.iload n, len)) (ha : act i pc (.iload n) len L S h = some (.inl (pc', L', S', h'))) (hL : LR (ad b t) ls (mL i) L) (hW : WH b t ac D h H) (hS : va_S (fun q => b ≤ q) s.heap H locs) (hlen : h.length ≤ sB) (hcs : cells ≤ R.cells ∧ slots ≤ R.slots)
    (k : ∀ (ls' : Array Slot) (H' : Heap) (locs' : List Loc), LR (ad b t) ls' (mL i) L' → WH b t ac D h' H' → va_S (fun q => b ≤ q) s.heap H' locs' → W p l e R s m args below meth c H' locs' cells slots Q (F0 m pc' ls' (S'.map (cv (ad b t))))) : W p l e R s m args below meth c H locs cells slots Q (F0 m pc ls (S.map (cv (ad b t)))) := by
  obtain ⟨hx, hb, hr, hml, hown, hts, hlocks, hin, hE, hfr, hlo, hbs⟩ := C
  have ha' := ite_some ha; clear ha; obtain ⟨rfl, ha⟩ := ha'
  unfold ldi at ha
  split at ha
  · rename_i x hx1
    cases ha
    exact lv_iload hx hb hd (hL.2.2.2 _ _ hx1 rfl) (k _ _ _ hL hW hS)
  · cases ha
theorem s_iload_n {p : Program} {l : Launch} {e : Env} {R : Room} {s : State} {m : MethodId} {args : Array Value} {below : List Frame} {meth : Method} {c : Code} {H : Heap} {locs : List Loc} {cells slots : Nat} {Q : State → Prop} {b : Nat} {t : Nat → Nat} {ac : Nat → ClassId} {D : va_G} {i pc len : Nat} {ls : Array Slot} {L S : List Value} {h : List hC} {pc' : Nat} {L' S' : List Value} {h' : List hC} {n : Fin 4} (C : Ctx b t ac D p s m args meth c R i) (hd : decode (mB i) pc = .ok (.iload_n n, len)) (ha : act i pc (.iload_n n) len L S h = some (.inl (pc', L', S', h'))) (hL : LR (ad b t) ls (mL i) L) (hW : WH b t ac D h H) (hS : va_S (fun q => b ≤ q) s.heap H locs) (hlen : h.length ≤ sB) (hcs : cells ≤ R.cells ∧ slots ≤ R.slots)
    (k : ∀ (ls' : Array Slot) (H' : Heap) (locs' : List Loc), LR (ad b t) ls' (mL i) L' → WH b t ac D h' H' → va_S (fun q => b ≤ q) s.heap H' locs' → W p l e R s m args below meth c H' locs' cells slots Q (F0 m pc' ls' (S'.map (cv (ad b t))))) : W p l e R s m args below meth c H locs cells slots Q (F0 m pc ls (S.map (cv (ad b t)))) := by
  obtain ⟨hx, hb, hr, hml, hown, hts, hlocks, hin, hE, hfr, hlo, hbs⟩ := C
  have ha' := ite_some ha; clear ha; obtain ⟨rfl, ha⟩ := ha'
  unfold ldi at ha
  split at ha
  · rename_i x hx1
    cases ha
    exact lv_iload_n hx hb hd rfl (hL.2.2.2 _ _ hx1 rfl) (k _ _ _ hL hW hS)
  · cases ha
theorem s_aload {p : Program} {l : Launch} {e : Env} {R : Room} {s : State} {m : MethodId} {args : Array Value} {below : List Frame} {meth : Method} {c : Code} {H : Heap} {locs : List Loc} {cells slots : Nat} {Q : State → Prop} {b : Nat} {t : Nat → Nat} {ac : Nat → ClassId} {D : va_G} {i pc len : Nat} {ls : Array Slot} {L S : List Value} {h : List hC} {pc' : Nat} {L' S' : List Value} {h' : List hC} {n : Nat} (C : Ctx b t ac D p s m args meth c R i) (hd : decode (mB i) pc = .ok (.aload n, len)) (ha : act i pc (.aload n) len L S h = some (.inl (pc', L', S', h'))) (hL : LR (ad b t) ls (mL i) L) (hW : WH b t ac D h H) (hS : va_S (fun q => b ≤ q) s.heap H locs) (hlen : h.length ≤ sB) (hcs : cells ≤ R.cells ∧ slots ≤ R.slots)
    (k : ∀ (ls' : Array Slot) (H' : Heap) (locs' : List Loc), LR (ad b t) ls' (mL i) L' → WH b t ac D h' H' → va_S (fun q => b ≤ q) s.heap H' locs' → W p l e R s m args below meth c H' locs' cells slots Q (F0 m pc' ls' (S'.map (cv (ad b t))))) : W p l e R s m args below meth c H locs cells slots Q (F0 m pc ls (S.map (cv (ad b t)))) := by
  obtain ⟨hx, hb, hr, hml, hown, hts, hlocks, hin, hE, hfr, hlo, hbs⟩ := C
  have ha' := ite_some ha; clear ha; obtain ⟨rfl, ha⟩ := ha'
  unfold lda at ha
  split at ha
  · rename_i x hx1
    cases ha
    exact lv_aload hx hb hd (hL.2.2.2 _ _ hx1 rfl) (k _ _ _ hL hW hS)
  · rename_i hx1
    cases ha
    exact lv_aloadN hx hb hd (hL.2.2.2 _ _ hx1 rfl) (k _ _ _ hL hW hS)
  · cases ha
theorem s_aload_n {p : Program} {l : Launch} {e : Env} {R : Room} {s : State} {m : MethodId} {args : Array Value} {below : List Frame} {meth : Method} {c : Code} {H : Heap} {locs : List Loc} {cells slots : Nat} {Q : State → Prop} {b : Nat} {t : Nat → Nat} {ac : Nat → ClassId} {D : va_G} {i pc len : Nat} {ls : Array Slot} {L S : List Value} {h : List hC} {pc' : Nat} {L' S' : List Value} {h' : List hC} {n : Fin 4} (C : Ctx b t ac D p s m args meth c R i) (hd : decode (mB i) pc = .ok (.aload_n n, len)) (ha : act i pc (.aload_n n) len L S h = some (.inl (pc', L', S', h'))) (hL : LR (ad b t) ls (mL i) L) (hW : WH b t ac D h H) (hS : va_S (fun q => b ≤ q) s.heap H locs) (hlen : h.length ≤ sB) (hcs : cells ≤ R.cells ∧ slots ≤ R.slots)
    (k : ∀ (ls' : Array Slot) (H' : Heap) (locs' : List Loc), LR (ad b t) ls' (mL i) L' → WH b t ac D h' H' → va_S (fun q => b ≤ q) s.heap H' locs' → W p l e R s m args below meth c H' locs' cells slots Q (F0 m pc' ls' (S'.map (cv (ad b t))))) : W p l e R s m args below meth c H locs cells slots Q (F0 m pc ls (S.map (cv (ad b t)))) := by
  obtain ⟨hx, hb, hr, hml, hown, hts, hlocks, hin, hE, hfr, hlo, hbs⟩ := C
  have ha' := ite_some ha; clear ha; obtain ⟨rfl, ha⟩ := ha'
  unfold lda at ha
  split at ha
  · rename_i x hx1
    cases ha
    exact lv_aload_n hx hb hd rfl (hL.2.2.2 _ _ hx1 rfl) (k _ _ _ hL hW hS)
  · rename_i hx1
    cases ha
    exact lv_aload_nN hx hb hd rfl (hL.2.2.2 _ _ hx1 rfl) (k _ _ _ hL hW hS)
  · cases ha
theorem s_istore {p : Program} {l : Launch} {e : Env} {R : Room} {s : State} {m : MethodId} {args : Array Value} {below : List Frame} {meth : Method} {c : Code} {H : Heap} {locs : List Loc} {cells slots : Nat} {Q : State → Prop} {b : Nat} {t : Nat → Nat} {ac : Nat → ClassId} {D : va_G} {i pc len : Nat} {ls : Array Slot} {L S : List Value} {h : List hC} {pc' : Nat} {L' S' : List Value} {h' : List hC} {n : Nat} (C : Ctx b t ac D p s m args meth c R i) (hd : decode (mB i) pc = .ok (.istore n, len)) (ha : act i pc (.istore n) len L S h = some (.inl (pc', L', S', h'))) (hL : LR (ad b t) ls (mL i) L) (hW : WH b t ac D h H) (hS : va_S (fun q => b ≤ q) s.heap H locs) (hlen : h.length ≤ sB) (hcs : cells ≤ R.cells ∧ slots ≤ R.slots)
    (k : ∀ (ls' : Array Slot) (H' : Heap) (locs' : List Loc), LR (ad b t) ls' (mL i) L' → WH b t ac D h' H' → va_S (fun q => b ≤ q) s.heap H' locs' → W p l e R s m args below meth c H' locs' cells slots Q (F0 m pc' ls' (S'.map (cv (ad b t))))) : W p l e R s m args below meth c H locs cells slots Q (F0 m pc ls (S.map (cv (ad b t)))) := by
  obtain ⟨hx, hb, hr, hml, hown, hts, hlocks, hin, hE, hfr, hlo, hbs⟩ := C
  have ha' := ite_some ha; clear ha; obtain ⟨rfl, ha⟩ := ha'
  unfold sti at ha
  split at ha
  · rename_i x S0
    have ha' := ite_some ha; clear ha; obtain ⟨hn, ha⟩ := ha'
    cases ha
    exact lv_istore hx hb hd hL.has (by rw [← hL.2.2.1]; exact hn) rfl (fun ls' hl' => k ls' _ _ (LR.put (extra := []) (v := .int x) hL rfl rfl hl') hW hS)
  · cases ha
theorem s_istore_n {p : Program} {l : Launch} {e : Env} {R : Room} {s : State} {m : MethodId} {args : Array Value} {below : List Frame} {meth : Method} {c : Code} {H : Heap} {locs : List Loc} {cells slots : Nat} {Q : State → Prop} {b : Nat} {t : Nat → Nat} {ac : Nat → ClassId} {D : va_G} {i pc len : Nat} {ls : Array Slot} {L S : List Value} {h : List hC} {pc' : Nat} {L' S' : List Value} {h' : List hC} {n : Fin 4} (C : Ctx b t ac D p s m args meth c R i) (hd : decode (mB i) pc = .ok (.istore_n n, len)) (ha : act i pc (.istore_n n) len L S h = some (.inl (pc', L', S', h'))) (hL : LR (ad b t) ls (mL i) L) (hW : WH b t ac D h H) (hS : va_S (fun q => b ≤ q) s.heap H locs) (hlen : h.length ≤ sB) (hcs : cells ≤ R.cells ∧ slots ≤ R.slots)
    (k : ∀ (ls' : Array Slot) (H' : Heap) (locs' : List Loc), LR (ad b t) ls' (mL i) L' → WH b t ac D h' H' → va_S (fun q => b ≤ q) s.heap H' locs' → W p l e R s m args below meth c H' locs' cells slots Q (F0 m pc' ls' (S'.map (cv (ad b t))))) : W p l e R s m args below meth c H locs cells slots Q (F0 m pc ls (S.map (cv (ad b t)))) := by
  obtain ⟨hx, hb, hr, hml, hown, hts, hlocks, hin, hE, hfr, hlo, hbs⟩ := C
  have ha' := ite_some ha; clear ha; obtain ⟨rfl, ha⟩ := ha'
  unfold sti at ha
  split at ha
  · rename_i x S0
    have ha' := ite_some ha; clear ha; obtain ⟨hn, ha⟩ := ha'
    cases ha
    exact lv_istore_n hx hb hd rfl hL.has (by rw [← hL.2.2.1]; exact hn) rfl (fun ls' hl' => k ls' _ _ (LR.put (extra := []) (v := .int x) hL rfl rfl hl') hW hS)
  · cases ha
theorem s_astore {p : Program} {l : Launch} {e : Env} {R : Room} {s : State} {m : MethodId} {args : Array Value} {below : List Frame} {meth : Method} {c : Code} {H : Heap} {locs : List Loc} {cells slots : Nat} {Q : State → Prop} {b : Nat} {t : Nat → Nat} {ac : Nat → ClassId} {D : va_G} {i pc len : Nat} {ls : Array Slot} {L S : List Value} {h : List hC} {pc' : Nat} {L' S' : List Value} {h' : List hC} {n : Nat} (C : Ctx b t ac D p s m args meth c R i) (hd : decode (mB i) pc = .ok (.astore n, len)) (ha : act i pc (.astore n) len L S h = some (.inl (pc', L', S', h'))) (hL : LR (ad b t) ls (mL i) L) (hW : WH b t ac D h H) (hS : va_S (fun q => b ≤ q) s.heap H locs) (hlen : h.length ≤ sB) (hcs : cells ≤ R.cells ∧ slots ≤ R.slots)
    (k : ∀ (ls' : Array Slot) (H' : Heap) (locs' : List Loc), LR (ad b t) ls' (mL i) L' → WH b t ac D h' H' → va_S (fun q => b ≤ q) s.heap H' locs' → W p l e R s m args below meth c H' locs' cells slots Q (F0 m pc' ls' (S'.map (cv (ad b t))))) : W p l e R s m args below meth c H locs cells slots Q (F0 m pc ls (S.map (cv (ad b t)))) := by
  obtain ⟨hx, hb, hr, hml, hown, hts, hlocks, hin, hE, hfr, hlo, hbs⟩ := C
  have ha' := ite_some ha; clear ha; obtain ⟨rfl, ha⟩ := ha'
  unfold sta at ha
  split at ha
  · rename_i x S0
    have ha' := ite_some ha; clear ha; obtain ⟨hn, ha⟩ := ha'
    cases ha
    exact lv_astore hx hb hd hL.has (by rw [← hL.2.2.1]; exact hn) rfl (fun ls' hl' => k ls' _ _ (LR.put (extra := []) (v := .ref x) hL rfl rfl hl') hW hS)
  · rename_i S0
    have ha' := ite_some ha; clear ha; obtain ⟨hn, ha⟩ := ha'
    cases ha
    exact lv_astoreN hx hb hd hL.has (by rw [← hL.2.2.1]; exact hn) rfl (fun ls' hl' => k ls' _ _ (LR.put (extra := []) (v := .null) hL rfl rfl hl') hW hS)
  · cases ha
theorem s_astore_n {p : Program} {l : Launch} {e : Env} {R : Room} {s : State} {m : MethodId} {args : Array Value} {below : List Frame} {meth : Method} {c : Code} {H : Heap} {locs : List Loc} {cells slots : Nat} {Q : State → Prop} {b : Nat} {t : Nat → Nat} {ac : Nat → ClassId} {D : va_G} {i pc len : Nat} {ls : Array Slot} {L S : List Value} {h : List hC} {pc' : Nat} {L' S' : List Value} {h' : List hC} {n : Fin 4} (C : Ctx b t ac D p s m args meth c R i) (hd : decode (mB i) pc = .ok (.astore_n n, len)) (ha : act i pc (.astore_n n) len L S h = some (.inl (pc', L', S', h'))) (hL : LR (ad b t) ls (mL i) L) (hW : WH b t ac D h H) (hS : va_S (fun q => b ≤ q) s.heap H locs) (hlen : h.length ≤ sB) (hcs : cells ≤ R.cells ∧ slots ≤ R.slots)
    (k : ∀ (ls' : Array Slot) (H' : Heap) (locs' : List Loc), LR (ad b t) ls' (mL i) L' → WH b t ac D h' H' → va_S (fun q => b ≤ q) s.heap H' locs' → W p l e R s m args below meth c H' locs' cells slots Q (F0 m pc' ls' (S'.map (cv (ad b t))))) : W p l e R s m args below meth c H locs cells slots Q (F0 m pc ls (S.map (cv (ad b t)))) := by
  obtain ⟨hx, hb, hr, hml, hown, hts, hlocks, hin, hE, hfr, hlo, hbs⟩ := C
  have ha' := ite_some ha; clear ha; obtain ⟨rfl, ha⟩ := ha'
  unfold sta at ha
  split at ha
  · rename_i x S0
    have ha' := ite_some ha; clear ha; obtain ⟨hn, ha⟩ := ha'
    cases ha
    exact lv_astore_n hx hb hd rfl hL.has (by rw [← hL.2.2.1]; exact hn) rfl (fun ls' hl' => k ls' _ _ (LR.put (extra := []) (v := .ref x) hL rfl rfl hl') hW hS)
  · rename_i S0
    have ha' := ite_some ha; clear ha; obtain ⟨hn, ha⟩ := ha'
    cases ha
    exact lv_astore_nN hx hb hd rfl hL.has (by rw [← hL.2.2.1]; exact hn) rfl (fun ls' hl' => k ls' _ _ (LR.put (extra := []) (v := .null) hL rfl rfl hl') hW hS)
  · cases ha
theorem s_iconst {p : Program} {l : Launch} {e : Env} {R : Room} {s : State} {m : MethodId} {args : Array Value} {below : List Frame} {meth : Method} {c : Code} {H : Heap} {locs : List Loc} {cells slots : Nat} {Q : State → Prop} {b : Nat} {t : Nat → Nat} {ac : Nat → ClassId} {D : va_G} {i pc len : Nat} {ls : Array Slot} {L S : List Value} {h : List hC} {pc' : Nat} {L' S' : List Value} {h' : List hC} {n : Int} (C : Ctx b t ac D p s m args meth c R i) (hd : decode (mB i) pc = .ok (.iconst n, len)) (ha : act i pc (.iconst n) len L S h = some (.inl (pc', L', S', h'))) (hL : LR (ad b t) ls (mL i) L) (hW : WH b t ac D h H) (hS : va_S (fun q => b ≤ q) s.heap H locs) (hlen : h.length ≤ sB) (hcs : cells ≤ R.cells ∧ slots ≤ R.slots)
    (k : ∀ (ls' : Array Slot) (H' : Heap) (locs' : List Loc), LR (ad b t) ls' (mL i) L' → WH b t ac D h' H' → va_S (fun q => b ≤ q) s.heap H' locs' → W p l e R s m args below meth c H' locs' cells slots Q (F0 m pc' ls' (S'.map (cv (ad b t))))) : W p l e R s m args below meth c H locs cells slots Q (F0 m pc ls (S.map (cv (ad b t)))) := by
  obtain ⟨hx, hb, hr, hml, hown, hts, hlocks, hin, hE, hfr, hlo, hbs⟩ := C
  have ha' := ite_some ha; clear ha; obtain ⟨rfl, ha⟩ := ha'
  cases ha
  exact lv_iconst hx hb hd rfl (k _ _ _ hL hW hS)
theorem s_bipush {p : Program} {l : Launch} {e : Env} {R : Room} {s : State} {m : MethodId} {args : Array Value} {below : List Frame} {meth : Method} {c : Code} {H : Heap} {locs : List Loc} {cells slots : Nat} {Q : State → Prop} {b : Nat} {t : Nat → Nat} {ac : Nat → ClassId} {D : va_G} {i pc len : Nat} {ls : Array Slot} {L S : List Value} {h : List hC} {pc' : Nat} {L' S' : List Value} {h' : List hC} {n : Int} (C : Ctx b t ac D p s m args meth c R i) (hd : decode (mB i) pc = .ok (.bipush n, len)) (ha : act i pc (.bipush n) len L S h = some (.inl (pc', L', S', h'))) (hL : LR (ad b t) ls (mL i) L) (hW : WH b t ac D h H) (hS : va_S (fun q => b ≤ q) s.heap H locs) (hlen : h.length ≤ sB) (hcs : cells ≤ R.cells ∧ slots ≤ R.slots)
    (k : ∀ (ls' : Array Slot) (H' : Heap) (locs' : List Loc), LR (ad b t) ls' (mL i) L' → WH b t ac D h' H' → va_S (fun q => b ≤ q) s.heap H' locs' → W p l e R s m args below meth c H' locs' cells slots Q (F0 m pc' ls' (S'.map (cv (ad b t))))) : W p l e R s m args below meth c H locs cells slots Q (F0 m pc ls (S.map (cv (ad b t)))) := by
  obtain ⟨hx, hb, hr, hml, hown, hts, hlocks, hin, hE, hfr, hlo, hbs⟩ := C
  have ha' := ite_some ha; clear ha; obtain ⟨rfl, ha⟩ := ha'
  cases ha
  exact lv_bipush hx hb hd rfl (k _ _ _ hL hW hS)
theorem s_sipush {p : Program} {l : Launch} {e : Env} {R : Room} {s : State} {m : MethodId} {args : Array Value} {below : List Frame} {meth : Method} {c : Code} {H : Heap} {locs : List Loc} {cells slots : Nat} {Q : State → Prop} {b : Nat} {t : Nat → Nat} {ac : Nat → ClassId} {D : va_G} {i pc len : Nat} {ls : Array Slot} {L S : List Value} {h : List hC} {pc' : Nat} {L' S' : List Value} {h' : List hC} {n : Int} (C : Ctx b t ac D p s m args meth c R i) (hd : decode (mB i) pc = .ok (.sipush n, len)) (ha : act i pc (.sipush n) len L S h = some (.inl (pc', L', S', h'))) (hL : LR (ad b t) ls (mL i) L) (hW : WH b t ac D h H) (hS : va_S (fun q => b ≤ q) s.heap H locs) (hlen : h.length ≤ sB) (hcs : cells ≤ R.cells ∧ slots ≤ R.slots)
    (k : ∀ (ls' : Array Slot) (H' : Heap) (locs' : List Loc), LR (ad b t) ls' (mL i) L' → WH b t ac D h' H' → va_S (fun q => b ≤ q) s.heap H' locs' → W p l e R s m args below meth c H' locs' cells slots Q (F0 m pc' ls' (S'.map (cv (ad b t))))) : W p l e R s m args below meth c H locs cells slots Q (F0 m pc ls (S.map (cv (ad b t)))) := by
  obtain ⟨hx, hb, hr, hml, hown, hts, hlocks, hin, hE, hfr, hlo, hbs⟩ := C
  have ha' := ite_some ha; clear ha; obtain ⟨rfl, ha⟩ := ha'
  cases ha
  exact lv_sipush hx hb hd rfl (k _ _ _ hL hW hS)
theorem s_null {p : Program} {l : Launch} {e : Env} {R : Room} {s : State} {m : MethodId} {args : Array Value} {below : List Frame} {meth : Method} {c : Code} {H : Heap} {locs : List Loc} {cells slots : Nat} {Q : State → Prop} {b : Nat} {t : Nat → Nat} {ac : Nat → ClassId} {D : va_G} {i pc len : Nat} {ls : Array Slot} {L S : List Value} {h : List hC} {pc' : Nat} {L' S' : List Value} {h' : List hC}  (C : Ctx b t ac D p s m args meth c R i) (hd : decode (mB i) pc = .ok (.aconst_null, len)) (ha : act i pc (.aconst_null) len L S h = some (.inl (pc', L', S', h'))) (hL : LR (ad b t) ls (mL i) L) (hW : WH b t ac D h H) (hS : va_S (fun q => b ≤ q) s.heap H locs) (hlen : h.length ≤ sB) (hcs : cells ≤ R.cells ∧ slots ≤ R.slots)
    (k : ∀ (ls' : Array Slot) (H' : Heap) (locs' : List Loc), LR (ad b t) ls' (mL i) L' → WH b t ac D h' H' → va_S (fun q => b ≤ q) s.heap H' locs' → W p l e R s m args below meth c H' locs' cells slots Q (F0 m pc' ls' (S'.map (cv (ad b t))))) : W p l e R s m args below meth c H locs cells slots Q (F0 m pc ls (S.map (cv (ad b t)))) := by
  obtain ⟨hx, hb, hr, hml, hown, hts, hlocks, hin, hE, hfr, hlo, hbs⟩ := C
  have ha' := ite_some ha; clear ha; obtain ⟨rfl, ha⟩ := ha'
  cases ha
  exact lv_null hx hb hd (k _ _ _ hL hW hS)
theorem s_ldc {p : Program} {l : Launch} {e : Env} {R : Room} {s : State} {m : MethodId} {args : Array Value} {below : List Frame} {meth : Method} {c : Code} {H : Heap} {locs : List Loc} {cells slots : Nat} {Q : State → Prop} {b : Nat} {t : Nat → Nat} {ac : Nat → ClassId} {D : va_G} {i pc len : Nat} {ls : Array Slot} {L S : List Value} {h : List hC} {pc' : Nat} {L' S' : List Value} {h' : List hC} {n : Nat} (C : Ctx b t ac D p s m args meth c R i) (hd : decode (mB i) pc = .ok (.ldc n, len)) (ha : act i pc (.ldc n) len L S h = some (.inl (pc', L', S', h'))) (hL : LR (ad b t) ls (mL i) L) (hW : WH b t ac D h H) (hS : va_S (fun q => b ≤ q) s.heap H locs) (hlen : h.length ≤ sB) (hcs : cells ≤ R.cells ∧ slots ≤ R.slots)
    (k : ∀ (ls' : Array Slot) (H' : Heap) (locs' : List Loc), LR (ad b t) ls' (mL i) L' → WH b t ac D h' H' → va_S (fun q => b ≤ q) s.heap H' locs' → W p l e R s m args below meth c H' locs' cells slots Q (F0 m pc' ls' (S'.map (cv (ad b t))))) : W p l e R s m args below meth c H locs cells slots Q (F0 m pc ls (S.map (cv (ad b t)))) := by
  obtain ⟨hx, hb, hr, hml, hown, hts, hlocks, hin, hE, hfr, hlo, hbs⟩ := C
  have ha' := ite_some ha; clear ha; obtain ⟨rfl, ha⟩ := ha'
  split at ha
  · rename_i v hv
    cases ha
    exact lv_ldc hx hb hown (hts _ (kref_ok hv)) hd (k _ _ _ hL hW hS)
  · cases ha
theorem s_iadd {p : Program} {l : Launch} {e : Env} {R : Room} {s : State} {m : MethodId} {args : Array Value} {below : List Frame} {meth : Method} {c : Code} {H : Heap} {locs : List Loc} {cells slots : Nat} {Q : State → Prop} {b : Nat} {t : Nat → Nat} {ac : Nat → ClassId} {D : va_G} {i pc len : Nat} {ls : Array Slot} {L S : List Value} {h : List hC} {pc' : Nat} {L' S' : List Value} {h' : List hC}  (C : Ctx b t ac D p s m args meth c R i) (hd : decode (mB i) pc = .ok (.iadd, len)) (ha : act i pc (.iadd) len L S h = some (.inl (pc', L', S', h'))) (hL : LR (ad b t) ls (mL i) L) (hW : WH b t ac D h H) (hS : va_S (fun q => b ≤ q) s.heap H locs) (hlen : h.length ≤ sB) (hcs : cells ≤ R.cells ∧ slots ≤ R.slots)
    (k : ∀ (ls' : Array Slot) (H' : Heap) (locs' : List Loc), LR (ad b t) ls' (mL i) L' → WH b t ac D h' H' → va_S (fun q => b ≤ q) s.heap H' locs' → W p l e R s m args below meth c H' locs' cells slots Q (F0 m pc' ls' (S'.map (cv (ad b t))))) : W p l e R s m args below meth c H locs cells slots Q (F0 m pc ls (S.map (cv (ad b t)))) := by
  obtain ⟨hx, hb, hr, hml, hown, hts, hlocks, hin, hE, hfr, hlo, hbs⟩ := C
  have ha' := ite_some ha; clear ha; obtain ⟨rfl, ha⟩ := ha'
  split at ha
  · cases ha
    exact lv_iadd hx hb hd (k _ _ _ hL hW hS)
  · cases ha
theorem s_isub {p : Program} {l : Launch} {e : Env} {R : Room} {s : State} {m : MethodId} {args : Array Value} {below : List Frame} {meth : Method} {c : Code} {H : Heap} {locs : List Loc} {cells slots : Nat} {Q : State → Prop} {b : Nat} {t : Nat → Nat} {ac : Nat → ClassId} {D : va_G} {i pc len : Nat} {ls : Array Slot} {L S : List Value} {h : List hC} {pc' : Nat} {L' S' : List Value} {h' : List hC}  (C : Ctx b t ac D p s m args meth c R i) (hd : decode (mB i) pc = .ok (.isub, len)) (ha : act i pc (.isub) len L S h = some (.inl (pc', L', S', h'))) (hL : LR (ad b t) ls (mL i) L) (hW : WH b t ac D h H) (hS : va_S (fun q => b ≤ q) s.heap H locs) (hlen : h.length ≤ sB) (hcs : cells ≤ R.cells ∧ slots ≤ R.slots)
    (k : ∀ (ls' : Array Slot) (H' : Heap) (locs' : List Loc), LR (ad b t) ls' (mL i) L' → WH b t ac D h' H' → va_S (fun q => b ≤ q) s.heap H' locs' → W p l e R s m args below meth c H' locs' cells slots Q (F0 m pc' ls' (S'.map (cv (ad b t))))) : W p l e R s m args below meth c H locs cells slots Q (F0 m pc ls (S.map (cv (ad b t)))) := by
  obtain ⟨hx, hb, hr, hml, hown, hts, hlocks, hin, hE, hfr, hlo, hbs⟩ := C
  have ha' := ite_some ha; clear ha; obtain ⟨rfl, ha⟩ := ha'
  split at ha
  · cases ha
    exact lv_isub hx hb hd (k _ _ _ hL hW hS)
  · cases ha
theorem s_imul {p : Program} {l : Launch} {e : Env} {R : Room} {s : State} {m : MethodId} {args : Array Value} {below : List Frame} {meth : Method} {c : Code} {H : Heap} {locs : List Loc} {cells slots : Nat} {Q : State → Prop} {b : Nat} {t : Nat → Nat} {ac : Nat → ClassId} {D : va_G} {i pc len : Nat} {ls : Array Slot} {L S : List Value} {h : List hC} {pc' : Nat} {L' S' : List Value} {h' : List hC}  (C : Ctx b t ac D p s m args meth c R i) (hd : decode (mB i) pc = .ok (.imul, len)) (ha : act i pc (.imul) len L S h = some (.inl (pc', L', S', h'))) (hL : LR (ad b t) ls (mL i) L) (hW : WH b t ac D h H) (hS : va_S (fun q => b ≤ q) s.heap H locs) (hlen : h.length ≤ sB) (hcs : cells ≤ R.cells ∧ slots ≤ R.slots)
    (k : ∀ (ls' : Array Slot) (H' : Heap) (locs' : List Loc), LR (ad b t) ls' (mL i) L' → WH b t ac D h' H' → va_S (fun q => b ≤ q) s.heap H' locs' → W p l e R s m args below meth c H' locs' cells slots Q (F0 m pc' ls' (S'.map (cv (ad b t))))) : W p l e R s m args below meth c H locs cells slots Q (F0 m pc ls (S.map (cv (ad b t)))) := by
  obtain ⟨hx, hb, hr, hml, hown, hts, hlocks, hin, hE, hfr, hlo, hbs⟩ := C
  have ha' := ite_some ha; clear ha; obtain ⟨rfl, ha⟩ := ha'
  split at ha
  · cases ha
    exact lv_imul hx hb hd (k _ _ _ hL hW hS)
  · cases ha
theorem s_iand {p : Program} {l : Launch} {e : Env} {R : Room} {s : State} {m : MethodId} {args : Array Value} {below : List Frame} {meth : Method} {c : Code} {H : Heap} {locs : List Loc} {cells slots : Nat} {Q : State → Prop} {b : Nat} {t : Nat → Nat} {ac : Nat → ClassId} {D : va_G} {i pc len : Nat} {ls : Array Slot} {L S : List Value} {h : List hC} {pc' : Nat} {L' S' : List Value} {h' : List hC}  (C : Ctx b t ac D p s m args meth c R i) (hd : decode (mB i) pc = .ok (.iand, len)) (ha : act i pc (.iand) len L S h = some (.inl (pc', L', S', h'))) (hL : LR (ad b t) ls (mL i) L) (hW : WH b t ac D h H) (hS : va_S (fun q => b ≤ q) s.heap H locs) (hlen : h.length ≤ sB) (hcs : cells ≤ R.cells ∧ slots ≤ R.slots)
    (k : ∀ (ls' : Array Slot) (H' : Heap) (locs' : List Loc), LR (ad b t) ls' (mL i) L' → WH b t ac D h' H' → va_S (fun q => b ≤ q) s.heap H' locs' → W p l e R s m args below meth c H' locs' cells slots Q (F0 m pc' ls' (S'.map (cv (ad b t))))) : W p l e R s m args below meth c H locs cells slots Q (F0 m pc ls (S.map (cv (ad b t)))) := by
  obtain ⟨hx, hb, hr, hml, hown, hts, hlocks, hin, hE, hfr, hlo, hbs⟩ := C
  have ha' := ite_some ha; clear ha; obtain ⟨rfl, ha⟩ := ha'
  split at ha
  · cases ha
    exact lv_iand hx hb hd (k _ _ _ hL hW hS)
  · cases ha
theorem s_ior {p : Program} {l : Launch} {e : Env} {R : Room} {s : State} {m : MethodId} {args : Array Value} {below : List Frame} {meth : Method} {c : Code} {H : Heap} {locs : List Loc} {cells slots : Nat} {Q : State → Prop} {b : Nat} {t : Nat → Nat} {ac : Nat → ClassId} {D : va_G} {i pc len : Nat} {ls : Array Slot} {L S : List Value} {h : List hC} {pc' : Nat} {L' S' : List Value} {h' : List hC}  (C : Ctx b t ac D p s m args meth c R i) (hd : decode (mB i) pc = .ok (.ior, len)) (ha : act i pc (.ior) len L S h = some (.inl (pc', L', S', h'))) (hL : LR (ad b t) ls (mL i) L) (hW : WH b t ac D h H) (hS : va_S (fun q => b ≤ q) s.heap H locs) (hlen : h.length ≤ sB) (hcs : cells ≤ R.cells ∧ slots ≤ R.slots)
    (k : ∀ (ls' : Array Slot) (H' : Heap) (locs' : List Loc), LR (ad b t) ls' (mL i) L' → WH b t ac D h' H' → va_S (fun q => b ≤ q) s.heap H' locs' → W p l e R s m args below meth c H' locs' cells slots Q (F0 m pc' ls' (S'.map (cv (ad b t))))) : W p l e R s m args below meth c H locs cells slots Q (F0 m pc ls (S.map (cv (ad b t)))) := by
  obtain ⟨hx, hb, hr, hml, hown, hts, hlocks, hin, hE, hfr, hlo, hbs⟩ := C
  have ha' := ite_some ha; clear ha; obtain ⟨rfl, ha⟩ := ha'
  split at ha
  · cases ha
    exact lv_ior hx hb hd (k _ _ _ hL hW hS)
  · cases ha
theorem s_ishl {p : Program} {l : Launch} {e : Env} {R : Room} {s : State} {m : MethodId} {args : Array Value} {below : List Frame} {meth : Method} {c : Code} {H : Heap} {locs : List Loc} {cells slots : Nat} {Q : State → Prop} {b : Nat} {t : Nat → Nat} {ac : Nat → ClassId} {D : va_G} {i pc len : Nat} {ls : Array Slot} {L S : List Value} {h : List hC} {pc' : Nat} {L' S' : List Value} {h' : List hC}  (C : Ctx b t ac D p s m args meth c R i) (hd : decode (mB i) pc = .ok (.ishl, len)) (ha : act i pc (.ishl) len L S h = some (.inl (pc', L', S', h'))) (hL : LR (ad b t) ls (mL i) L) (hW : WH b t ac D h H) (hS : va_S (fun q => b ≤ q) s.heap H locs) (hlen : h.length ≤ sB) (hcs : cells ≤ R.cells ∧ slots ≤ R.slots)
    (k : ∀ (ls' : Array Slot) (H' : Heap) (locs' : List Loc), LR (ad b t) ls' (mL i) L' → WH b t ac D h' H' → va_S (fun q => b ≤ q) s.heap H' locs' → W p l e R s m args below meth c H' locs' cells slots Q (F0 m pc' ls' (S'.map (cv (ad b t))))) : W p l e R s m args below meth c H locs cells slots Q (F0 m pc ls (S.map (cv (ad b t)))) := by
  obtain ⟨hx, hb, hr, hml, hown, hts, hlocks, hin, hE, hfr, hlo, hbs⟩ := C
  have ha' := ite_some ha; clear ha; obtain ⟨rfl, ha⟩ := ha'
  split at ha
  · cases ha
    exact lv_ishl hx hb hd (k _ _ _ hL hW hS)
  · cases ha
theorem s_ishr {p : Program} {l : Launch} {e : Env} {R : Room} {s : State} {m : MethodId} {args : Array Value} {below : List Frame} {meth : Method} {c : Code} {H : Heap} {locs : List Loc} {cells slots : Nat} {Q : State → Prop} {b : Nat} {t : Nat → Nat} {ac : Nat → ClassId} {D : va_G} {i pc len : Nat} {ls : Array Slot} {L S : List Value} {h : List hC} {pc' : Nat} {L' S' : List Value} {h' : List hC}  (C : Ctx b t ac D p s m args meth c R i) (hd : decode (mB i) pc = .ok (.ishr, len)) (ha : act i pc (.ishr) len L S h = some (.inl (pc', L', S', h'))) (hL : LR (ad b t) ls (mL i) L) (hW : WH b t ac D h H) (hS : va_S (fun q => b ≤ q) s.heap H locs) (hlen : h.length ≤ sB) (hcs : cells ≤ R.cells ∧ slots ≤ R.slots)
    (k : ∀ (ls' : Array Slot) (H' : Heap) (locs' : List Loc), LR (ad b t) ls' (mL i) L' → WH b t ac D h' H' → va_S (fun q => b ≤ q) s.heap H' locs' → W p l e R s m args below meth c H' locs' cells slots Q (F0 m pc' ls' (S'.map (cv (ad b t))))) : W p l e R s m args below meth c H locs cells slots Q (F0 m pc ls (S.map (cv (ad b t)))) := by
  obtain ⟨hx, hb, hr, hml, hown, hts, hlocks, hin, hE, hfr, hlo, hbs⟩ := C
  have ha' := ite_some ha; clear ha; obtain ⟨rfl, ha⟩ := ha'
  split at ha
  · cases ha
    exact lv_ishr hx hb hd (k _ _ _ hL hW hS)
  · cases ha
theorem s_idiv {p : Program} {l : Launch} {e : Env} {R : Room} {s : State} {m : MethodId} {args : Array Value} {below : List Frame} {meth : Method} {c : Code} {H : Heap} {locs : List Loc} {cells slots : Nat} {Q : State → Prop} {b : Nat} {t : Nat → Nat} {ac : Nat → ClassId} {D : va_G} {i pc len : Nat} {ls : Array Slot} {L S : List Value} {h : List hC} {pc' : Nat} {L' S' : List Value} {h' : List hC}  (C : Ctx b t ac D p s m args meth c R i) (hd : decode (mB i) pc = .ok (.idiv, len)) (ha : act i pc (.idiv) len L S h = some (.inl (pc', L', S', h'))) (hL : LR (ad b t) ls (mL i) L) (hW : WH b t ac D h H) (hS : va_S (fun q => b ≤ q) s.heap H locs) (hlen : h.length ≤ sB) (hcs : cells ≤ R.cells ∧ slots ≤ R.slots)
    (k : ∀ (ls' : Array Slot) (H' : Heap) (locs' : List Loc), LR (ad b t) ls' (mL i) L' → WH b t ac D h' H' → va_S (fun q => b ≤ q) s.heap H' locs' → W p l e R s m args below meth c H' locs' cells slots Q (F0 m pc' ls' (S'.map (cv (ad b t))))) : W p l e R s m args below meth c H locs cells slots Q (F0 m pc ls (S.map (cv (ad b t)))) := by
  obtain ⟨hx, hb, hr, hml, hown, hts, hlocks, hin, hE, hfr, hlo, hbs⟩ := C
  have ha' := ite_some ha; clear ha; obtain ⟨rfl, ha⟩ := ha'
  split at ha
  · have ha' := ite_some ha; clear ha; obtain ⟨hne, ha⟩ := ha'
    cases ha
    exact lv_idiv hx hb hd hne (k _ _ _ hL hW hS)
  · cases ha
theorem s_irem {p : Program} {l : Launch} {e : Env} {R : Room} {s : State} {m : MethodId} {args : Array Value} {below : List Frame} {meth : Method} {c : Code} {H : Heap} {locs : List Loc} {cells slots : Nat} {Q : State → Prop} {b : Nat} {t : Nat → Nat} {ac : Nat → ClassId} {D : va_G} {i pc len : Nat} {ls : Array Slot} {L S : List Value} {h : List hC} {pc' : Nat} {L' S' : List Value} {h' : List hC}  (C : Ctx b t ac D p s m args meth c R i) (hd : decode (mB i) pc = .ok (.irem, len)) (ha : act i pc (.irem) len L S h = some (.inl (pc', L', S', h'))) (hL : LR (ad b t) ls (mL i) L) (hW : WH b t ac D h H) (hS : va_S (fun q => b ≤ q) s.heap H locs) (hlen : h.length ≤ sB) (hcs : cells ≤ R.cells ∧ slots ≤ R.slots)
    (k : ∀ (ls' : Array Slot) (H' : Heap) (locs' : List Loc), LR (ad b t) ls' (mL i) L' → WH b t ac D h' H' → va_S (fun q => b ≤ q) s.heap H' locs' → W p l e R s m args below meth c H' locs' cells slots Q (F0 m pc' ls' (S'.map (cv (ad b t))))) : W p l e R s m args below meth c H locs cells slots Q (F0 m pc ls (S.map (cv (ad b t)))) := by
  obtain ⟨hx, hb, hr, hml, hown, hts, hlocks, hin, hE, hfr, hlo, hbs⟩ := C
  have ha' := ite_some ha; clear ha; obtain ⟨rfl, ha⟩ := ha'
  split at ha
  · have ha' := ite_some ha; clear ha; obtain ⟨hne, ha⟩ := ha'
    cases ha
    exact lv_irem hx hb hd hne (k _ _ _ hL hW hS)
  · cases ha
theorem s_i2c {p : Program} {l : Launch} {e : Env} {R : Room} {s : State} {m : MethodId} {args : Array Value} {below : List Frame} {meth : Method} {c : Code} {H : Heap} {locs : List Loc} {cells slots : Nat} {Q : State → Prop} {b : Nat} {t : Nat → Nat} {ac : Nat → ClassId} {D : va_G} {i pc len : Nat} {ls : Array Slot} {L S : List Value} {h : List hC} {pc' : Nat} {L' S' : List Value} {h' : List hC}  (C : Ctx b t ac D p s m args meth c R i) (hd : decode (mB i) pc = .ok (.i2c, len)) (ha : act i pc (.i2c) len L S h = some (.inl (pc', L', S', h'))) (hL : LR (ad b t) ls (mL i) L) (hW : WH b t ac D h H) (hS : va_S (fun q => b ≤ q) s.heap H locs) (hlen : h.length ≤ sB) (hcs : cells ≤ R.cells ∧ slots ≤ R.slots)
    (k : ∀ (ls' : Array Slot) (H' : Heap) (locs' : List Loc), LR (ad b t) ls' (mL i) L' → WH b t ac D h' H' → va_S (fun q => b ≤ q) s.heap H' locs' → W p l e R s m args below meth c H' locs' cells slots Q (F0 m pc' ls' (S'.map (cv (ad b t))))) : W p l e R s m args below meth c H locs cells slots Q (F0 m pc ls (S.map (cv (ad b t)))) := by
  obtain ⟨hx, hb, hr, hml, hown, hts, hlocks, hin, hE, hfr, hlo, hbs⟩ := C
  have ha' := ite_some ha; clear ha; obtain ⟨rfl, ha⟩ := ha'
  split at ha
  · cases ha
    exact lv_i2c hx hb hd rfl (k _ _ _ hL hW hS)
  · cases ha
theorem s_iinc {p : Program} {l : Launch} {e : Env} {R : Room} {s : State} {m : MethodId} {args : Array Value} {below : List Frame} {meth : Method} {c : Code} {H : Heap} {locs : List Loc} {cells slots : Nat} {Q : State → Prop} {b : Nat} {t : Nat → Nat} {ac : Nat → ClassId} {D : va_G} {i pc len : Nat} {ls : Array Slot} {L S : List Value} {h : List hC} {pc' : Nat} {L' S' : List Value} {h' : List hC} {n : Nat} {d : Int} (C : Ctx b t ac D p s m args meth c R i) (hd : decode (mB i) pc = .ok (.iinc n d, len)) (ha : act i pc (.iinc n d) len L S h = some (.inl (pc', L', S', h'))) (hL : LR (ad b t) ls (mL i) L) (hW : WH b t ac D h H) (hS : va_S (fun q => b ≤ q) s.heap H locs) (hlen : h.length ≤ sB) (hcs : cells ≤ R.cells ∧ slots ≤ R.slots)
    (k : ∀ (ls' : Array Slot) (H' : Heap) (locs' : List Loc), LR (ad b t) ls' (mL i) L' → WH b t ac D h' H' → va_S (fun q => b ≤ q) s.heap H' locs' → W p l e R s m args below meth c H' locs' cells slots Q (F0 m pc' ls' (S'.map (cv (ad b t))))) : W p l e R s m args below meth c H locs cells slots Q (F0 m pc ls (S.map (cv (ad b t)))) := by
  obtain ⟨hx, hb, hr, hml, hown, hts, hlocks, hin, hE, hfr, hlo, hbs⟩ := C
  have ha' := ite_some ha; clear ha; obtain ⟨rfl, ha⟩ := ha'
  split at ha
  · rename_i x hx1
    cases ha
    exact lv_iinc (k := 0) hx hb hd (hL.has1 hx1 rfl) rfl rfl (by rw [← hL.2.2.1]; exact (List.getElem?_eq_some_iff.mp hx1).1) rfl (fun ls' hl' => k ls' _ _ (LR.put (extra := [(n, .int x)]) (v := .int (x + Int32.ofInt d)) hL rfl rfl hl') hW hS)
  · cases ha
theorem s_dup {p : Program} {l : Launch} {e : Env} {R : Room} {s : State} {m : MethodId} {args : Array Value} {below : List Frame} {meth : Method} {c : Code} {H : Heap} {locs : List Loc} {cells slots : Nat} {Q : State → Prop} {b : Nat} {t : Nat → Nat} {ac : Nat → ClassId} {D : va_G} {i pc len : Nat} {ls : Array Slot} {L S : List Value} {h : List hC} {pc' : Nat} {L' S' : List Value} {h' : List hC}  (C : Ctx b t ac D p s m args meth c R i) (hd : decode (mB i) pc = .ok (.dup, len)) (ha : act i pc (.dup) len L S h = some (.inl (pc', L', S', h'))) (hL : LR (ad b t) ls (mL i) L) (hW : WH b t ac D h H) (hS : va_S (fun q => b ≤ q) s.heap H locs) (hlen : h.length ≤ sB) (hcs : cells ≤ R.cells ∧ slots ≤ R.slots)
    (k : ∀ (ls' : Array Slot) (H' : Heap) (locs' : List Loc), LR (ad b t) ls' (mL i) L' → WH b t ac D h' H' → va_S (fun q => b ≤ q) s.heap H' locs' → W p l e R s m args below meth c H' locs' cells slots Q (F0 m pc' ls' (S'.map (cv (ad b t))))) : W p l e R s m args below meth c H locs cells slots Q (F0 m pc ls (S.map (cv (ad b t)))) := by
  obtain ⟨hx, hb, hr, hml, hown, hts, hlocks, hin, hE, hfr, hlo, hbs⟩ := C
  have ha' := ite_some ha; clear ha; obtain ⟨rfl, ha⟩ := ha'
  split at ha
  · have ha' := ite_some ha; clear ha; obtain ⟨hc, ha⟩ := ha'
    cases ha
    exact lv_dup hx hb hd (cat1_c hc) (k _ _ _ hL hW hS)
  · cases ha
theorem s_pop {p : Program} {l : Launch} {e : Env} {R : Room} {s : State} {m : MethodId} {args : Array Value} {below : List Frame} {meth : Method} {c : Code} {H : Heap} {locs : List Loc} {cells slots : Nat} {Q : State → Prop} {b : Nat} {t : Nat → Nat} {ac : Nat → ClassId} {D : va_G} {i pc len : Nat} {ls : Array Slot} {L S : List Value} {h : List hC} {pc' : Nat} {L' S' : List Value} {h' : List hC}  (C : Ctx b t ac D p s m args meth c R i) (hd : decode (mB i) pc = .ok (.pop, len)) (ha : act i pc (.pop) len L S h = some (.inl (pc', L', S', h'))) (hL : LR (ad b t) ls (mL i) L) (hW : WH b t ac D h H) (hS : va_S (fun q => b ≤ q) s.heap H locs) (hlen : h.length ≤ sB) (hcs : cells ≤ R.cells ∧ slots ≤ R.slots)
    (k : ∀ (ls' : Array Slot) (H' : Heap) (locs' : List Loc), LR (ad b t) ls' (mL i) L' → WH b t ac D h' H' → va_S (fun q => b ≤ q) s.heap H' locs' → W p l e R s m args below meth c H' locs' cells slots Q (F0 m pc' ls' (S'.map (cv (ad b t))))) : W p l e R s m args below meth c H locs cells slots Q (F0 m pc ls (S.map (cv (ad b t)))) := by
  obtain ⟨hx, hb, hr, hml, hown, hts, hlocks, hin, hE, hfr, hlo, hbs⟩ := C
  have ha' := ite_some ha; clear ha; obtain ⟨rfl, ha⟩ := ha'
  split at ha
  · have ha' := ite_some ha; clear ha; obtain ⟨hc, ha⟩ := ha'
    cases ha
    exact lv_pop hx hb hd (cat1_c hc) (k _ _ _ hL hW hS)
  · cases ha
theorem s_dup2 {p : Program} {l : Launch} {e : Env} {R : Room} {s : State} {m : MethodId} {args : Array Value} {below : List Frame} {meth : Method} {c : Code} {H : Heap} {locs : List Loc} {cells slots : Nat} {Q : State → Prop} {b : Nat} {t : Nat → Nat} {ac : Nat → ClassId} {D : va_G} {i pc len : Nat} {ls : Array Slot} {L S : List Value} {h : List hC} {pc' : Nat} {L' S' : List Value} {h' : List hC}  (C : Ctx b t ac D p s m args meth c R i) (hd : decode (mB i) pc = .ok (.dup2, len)) (ha : act i pc (.dup2) len L S h = some (.inl (pc', L', S', h'))) (hL : LR (ad b t) ls (mL i) L) (hW : WH b t ac D h H) (hS : va_S (fun q => b ≤ q) s.heap H locs) (hlen : h.length ≤ sB) (hcs : cells ≤ R.cells ∧ slots ≤ R.slots)
    (k : ∀ (ls' : Array Slot) (H' : Heap) (locs' : List Loc), LR (ad b t) ls' (mL i) L' → WH b t ac D h' H' → va_S (fun q => b ≤ q) s.heap H' locs' → W p l e R s m args below meth c H' locs' cells slots Q (F0 m pc' ls' (S'.map (cv (ad b t))))) : W p l e R s m args below meth c H locs cells slots Q (F0 m pc ls (S.map (cv (ad b t)))) := by
  obtain ⟨hx, hb, hr, hml, hown, hts, hlocks, hin, hE, hfr, hlo, hbs⟩ := C
  have ha' := ite_some ha; clear ha; obtain ⟨rfl, ha⟩ := ha'
  split at ha
  · have ha' := ite_some ha; clear ha; obtain ⟨hc, ha⟩ := ha'
    rw [Bool.and_eq_true] at hc
    cases ha
    exact lv_dup2_11 hx hb hd (cat1_c hc.1) (cat1_c hc.2) (k _ _ _ hL hW hS)
  · cases ha
theorem s_goto {p : Program} {l : Launch} {e : Env} {R : Room} {s : State} {m : MethodId} {args : Array Value} {below : List Frame} {meth : Method} {c : Code} {H : Heap} {locs : List Loc} {cells slots : Nat} {Q : State → Prop} {b : Nat} {t : Nat → Nat} {ac : Nat → ClassId} {D : va_G} {i pc len : Nat} {ls : Array Slot} {L S : List Value} {h : List hC} {pc' : Nat} {L' S' : List Value} {h' : List hC} {off : Int} (C : Ctx b t ac D p s m args meth c R i) (hd : decode (mB i) pc = .ok (.goto off, len)) (ha : act i pc (.goto off) len L S h = some (.inl (pc', L', S', h'))) (hL : LR (ad b t) ls (mL i) L) (hW : WH b t ac D h H) (hS : va_S (fun q => b ≤ q) s.heap H locs) (hlen : h.length ≤ sB) (hcs : cells ≤ R.cells ∧ slots ≤ R.slots)
    (k : ∀ (ls' : Array Slot) (H' : Heap) (locs' : List Loc), LR (ad b t) ls' (mL i) L' → WH b t ac D h' H' → va_S (fun q => b ≤ q) s.heap H' locs' → W p l e R s m args below meth c H' locs' cells slots Q (F0 m pc' ls' (S'.map (cv (ad b t))))) : W p l e R s m args below meth c H locs cells slots Q (F0 m pc ls (S.map (cv (ad b t)))) := by
  obtain ⟨hx, hb, hr, hml, hown, hts, hlocks, hin, hE, hfr, hlo, hbs⟩ := C
  have ha' := ite_some ha; clear ha; obtain ⟨rfl, ha⟩ := ha'
  unfold jmp at ha
  have ha' := ite_some ha; clear ha; obtain ⟨h0, ha⟩ := ha'
  cases ha
  exact lv_goto hx hb hd (Int.toNat_of_nonneg h0).symm (k _ _ _ hL hW hS)
theorem s_if_eq {p : Program} {l : Launch} {e : Env} {R : Room} {s : State} {m : MethodId} {args : Array Value} {below : List Frame} {meth : Method} {c : Code} {H : Heap} {locs : List Loc} {cells slots : Nat} {Q : State → Prop} {b : Nat} {t : Nat → Nat} {ac : Nat → ClassId} {D : va_G} {i pc len : Nat} {ls : Array Slot} {L S : List Value} {h : List hC} {pc' : Nat} {L' S' : List Value} {h' : List hC} {off : Int} (C : Ctx b t ac D p s m args meth c R i) (hd : decode (mB i) pc = .ok (.ifCond .eq off, len)) (ha : act i pc (.ifCond .eq off) len L S h = some (.inl (pc', L', S', h'))) (hL : LR (ad b t) ls (mL i) L) (hW : WH b t ac D h H) (hS : va_S (fun q => b ≤ q) s.heap H locs) (hlen : h.length ≤ sB) (hcs : cells ≤ R.cells ∧ slots ≤ R.slots)
    (k : ∀ (ls' : Array Slot) (H' : Heap) (locs' : List Loc), LR (ad b t) ls' (mL i) L' → WH b t ac D h' H' → va_S (fun q => b ≤ q) s.heap H' locs' → W p l e R s m args below meth c H' locs' cells slots Q (F0 m pc' ls' (S'.map (cv (ad b t))))) : W p l e R s m args below meth c H locs cells slots Q (F0 m pc ls (S.map (cv (ad b t)))) := by
  obtain ⟨hx, hb, hr, hml, hown, hts, hlocks, hin, hE, hfr, hlo, hbs⟩ := C
  have ha' := ite_some ha; clear ha; obtain ⟨⟨rfl, h0⟩, ha⟩ := ha'
  split at ha
  · cases ha
    refine lv_if_eq hx hb hd (Int.toNat_of_nonneg h0).symm (fun hq => ?_) (fun hq => ?_)
    · have k2 := k _ _ _ hL hW hS
      rw [if_pos (by simpa only [cmpI, decide_eq_true_eq] using hq)] at k2
      exact k2
    · have k2 := k _ _ _ hL hW hS
      rw [if_neg (by simpa only [cmpI, decide_eq_true_eq, Classical.not_not] using hq)] at k2
      exact k2
  · cases ha
theorem s_icmp_eq {p : Program} {l : Launch} {e : Env} {R : Room} {s : State} {m : MethodId} {args : Array Value} {below : List Frame} {meth : Method} {c : Code} {H : Heap} {locs : List Loc} {cells slots : Nat} {Q : State → Prop} {b : Nat} {t : Nat → Nat} {ac : Nat → ClassId} {D : va_G} {i pc len : Nat} {ls : Array Slot} {L S : List Value} {h : List hC} {pc' : Nat} {L' S' : List Value} {h' : List hC} {off : Int} (C : Ctx b t ac D p s m args meth c R i) (hd : decode (mB i) pc = .ok (.if_icmp .eq off, len)) (ha : act i pc (.if_icmp .eq off) len L S h = some (.inl (pc', L', S', h'))) (hL : LR (ad b t) ls (mL i) L) (hW : WH b t ac D h H) (hS : va_S (fun q => b ≤ q) s.heap H locs) (hlen : h.length ≤ sB) (hcs : cells ≤ R.cells ∧ slots ≤ R.slots)
    (k : ∀ (ls' : Array Slot) (H' : Heap) (locs' : List Loc), LR (ad b t) ls' (mL i) L' → WH b t ac D h' H' → va_S (fun q => b ≤ q) s.heap H' locs' → W p l e R s m args below meth c H' locs' cells slots Q (F0 m pc' ls' (S'.map (cv (ad b t))))) : W p l e R s m args below meth c H locs cells slots Q (F0 m pc ls (S.map (cv (ad b t)))) := by
  obtain ⟨hx, hb, hr, hml, hown, hts, hlocks, hin, hE, hfr, hlo, hbs⟩ := C
  have ha' := ite_some ha; clear ha; obtain ⟨⟨rfl, h0⟩, ha⟩ := ha'
  split at ha
  · cases ha
    refine lv_icmp_eq hx hb hd (Int.toNat_of_nonneg h0).symm (fun hq => ?_) (fun hq => ?_)
    · have k2 := k _ _ _ hL hW hS
      rw [if_pos (by simpa only [cmpI, decide_eq_true_eq] using hq)] at k2
      exact k2
    · have k2 := k _ _ _ hL hW hS
      rw [if_neg (by simpa only [cmpI, decide_eq_true_eq, Classical.not_not] using hq)] at k2
      exact k2
  · cases ha
theorem s_if_ne {p : Program} {l : Launch} {e : Env} {R : Room} {s : State} {m : MethodId} {args : Array Value} {below : List Frame} {meth : Method} {c : Code} {H : Heap} {locs : List Loc} {cells slots : Nat} {Q : State → Prop} {b : Nat} {t : Nat → Nat} {ac : Nat → ClassId} {D : va_G} {i pc len : Nat} {ls : Array Slot} {L S : List Value} {h : List hC} {pc' : Nat} {L' S' : List Value} {h' : List hC} {off : Int} (C : Ctx b t ac D p s m args meth c R i) (hd : decode (mB i) pc = .ok (.ifCond .ne off, len)) (ha : act i pc (.ifCond .ne off) len L S h = some (.inl (pc', L', S', h'))) (hL : LR (ad b t) ls (mL i) L) (hW : WH b t ac D h H) (hS : va_S (fun q => b ≤ q) s.heap H locs) (hlen : h.length ≤ sB) (hcs : cells ≤ R.cells ∧ slots ≤ R.slots)
    (k : ∀ (ls' : Array Slot) (H' : Heap) (locs' : List Loc), LR (ad b t) ls' (mL i) L' → WH b t ac D h' H' → va_S (fun q => b ≤ q) s.heap H' locs' → W p l e R s m args below meth c H' locs' cells slots Q (F0 m pc' ls' (S'.map (cv (ad b t))))) : W p l e R s m args below meth c H locs cells slots Q (F0 m pc ls (S.map (cv (ad b t)))) := by
  obtain ⟨hx, hb, hr, hml, hown, hts, hlocks, hin, hE, hfr, hlo, hbs⟩ := C
  have ha' := ite_some ha; clear ha; obtain ⟨⟨rfl, h0⟩, ha⟩ := ha'
  split at ha
  · cases ha
    refine lv_if_ne hx hb hd (Int.toNat_of_nonneg h0).symm (fun hq => ?_) (fun hq => ?_)
    · have k2 := k _ _ _ hL hW hS
      rw [if_pos (by simpa only [cmpI, decide_eq_true_eq] using hq)] at k2
      exact k2
    · have k2 := k _ _ _ hL hW hS
      rw [if_neg (by simpa only [cmpI, decide_eq_true_eq, Classical.not_not] using hq)] at k2
      exact k2
  · cases ha
theorem s_icmp_ne {p : Program} {l : Launch} {e : Env} {R : Room} {s : State} {m : MethodId} {args : Array Value} {below : List Frame} {meth : Method} {c : Code} {H : Heap} {locs : List Loc} {cells slots : Nat} {Q : State → Prop} {b : Nat} {t : Nat → Nat} {ac : Nat → ClassId} {D : va_G} {i pc len : Nat} {ls : Array Slot} {L S : List Value} {h : List hC} {pc' : Nat} {L' S' : List Value} {h' : List hC} {off : Int} (C : Ctx b t ac D p s m args meth c R i) (hd : decode (mB i) pc = .ok (.if_icmp .ne off, len)) (ha : act i pc (.if_icmp .ne off) len L S h = some (.inl (pc', L', S', h'))) (hL : LR (ad b t) ls (mL i) L) (hW : WH b t ac D h H) (hS : va_S (fun q => b ≤ q) s.heap H locs) (hlen : h.length ≤ sB) (hcs : cells ≤ R.cells ∧ slots ≤ R.slots)
    (k : ∀ (ls' : Array Slot) (H' : Heap) (locs' : List Loc), LR (ad b t) ls' (mL i) L' → WH b t ac D h' H' → va_S (fun q => b ≤ q) s.heap H' locs' → W p l e R s m args below meth c H' locs' cells slots Q (F0 m pc' ls' (S'.map (cv (ad b t))))) : W p l e R s m args below meth c H locs cells slots Q (F0 m pc ls (S.map (cv (ad b t)))) := by
  obtain ⟨hx, hb, hr, hml, hown, hts, hlocks, hin, hE, hfr, hlo, hbs⟩ := C
  have ha' := ite_some ha; clear ha; obtain ⟨⟨rfl, h0⟩, ha⟩ := ha'
  split at ha
  · cases ha
    refine lv_icmp_ne hx hb hd (Int.toNat_of_nonneg h0).symm (fun hq => ?_) (fun hq => ?_)
    · have k2 := k _ _ _ hL hW hS
      rw [if_pos (by simpa only [cmpI, decide_eq_true_eq] using hq)] at k2
      exact k2
    · have k2 := k _ _ _ hL hW hS
      rw [if_neg (by simpa only [cmpI, decide_eq_true_eq, Classical.not_not] using hq)] at k2
      exact k2
  · cases ha
theorem s_if_lt {p : Program} {l : Launch} {e : Env} {R : Room} {s : State} {m : MethodId} {args : Array Value} {below : List Frame} {meth : Method} {c : Code} {H : Heap} {locs : List Loc} {cells slots : Nat} {Q : State → Prop} {b : Nat} {t : Nat → Nat} {ac : Nat → ClassId} {D : va_G} {i pc len : Nat} {ls : Array Slot} {L S : List Value} {h : List hC} {pc' : Nat} {L' S' : List Value} {h' : List hC} {off : Int} (C : Ctx b t ac D p s m args meth c R i) (hd : decode (mB i) pc = .ok (.ifCond .lt off, len)) (ha : act i pc (.ifCond .lt off) len L S h = some (.inl (pc', L', S', h'))) (hL : LR (ad b t) ls (mL i) L) (hW : WH b t ac D h H) (hS : va_S (fun q => b ≤ q) s.heap H locs) (hlen : h.length ≤ sB) (hcs : cells ≤ R.cells ∧ slots ≤ R.slots)
    (k : ∀ (ls' : Array Slot) (H' : Heap) (locs' : List Loc), LR (ad b t) ls' (mL i) L' → WH b t ac D h' H' → va_S (fun q => b ≤ q) s.heap H' locs' → W p l e R s m args below meth c H' locs' cells slots Q (F0 m pc' ls' (S'.map (cv (ad b t))))) : W p l e R s m args below meth c H locs cells slots Q (F0 m pc ls (S.map (cv (ad b t)))) := by
  obtain ⟨hx, hb, hr, hml, hown, hts, hlocks, hin, hE, hfr, hlo, hbs⟩ := C
  have ha' := ite_some ha; clear ha; obtain ⟨⟨rfl, h0⟩, ha⟩ := ha'
  split at ha
  · cases ha
    refine lv_if_lt hx hb hd (Int.toNat_of_nonneg h0).symm (fun hq => ?_) (fun hq => ?_)
    · have k2 := k _ _ _ hL hW hS
      rw [if_pos (by simpa only [cmpI, decide_eq_true_eq] using hq)] at k2
      exact k2
    · have k2 := k _ _ _ hL hW hS
      rw [if_neg (by simpa only [cmpI, decide_eq_true_eq, Classical.not_not] using hq)] at k2
      exact k2
  · cases ha
theorem s_icmp_lt {p : Program} {l : Launch} {e : Env} {R : Room} {s : State} {m : MethodId} {args : Array Value} {below : List Frame} {meth : Method} {c : Code} {H : Heap} {locs : List Loc} {cells slots : Nat} {Q : State → Prop} {b : Nat} {t : Nat → Nat} {ac : Nat → ClassId} {D : va_G} {i pc len : Nat} {ls : Array Slot} {L S : List Value} {h : List hC} {pc' : Nat} {L' S' : List Value} {h' : List hC} {off : Int} (C : Ctx b t ac D p s m args meth c R i) (hd : decode (mB i) pc = .ok (.if_icmp .lt off, len)) (ha : act i pc (.if_icmp .lt off) len L S h = some (.inl (pc', L', S', h'))) (hL : LR (ad b t) ls (mL i) L) (hW : WH b t ac D h H) (hS : va_S (fun q => b ≤ q) s.heap H locs) (hlen : h.length ≤ sB) (hcs : cells ≤ R.cells ∧ slots ≤ R.slots)
    (k : ∀ (ls' : Array Slot) (H' : Heap) (locs' : List Loc), LR (ad b t) ls' (mL i) L' → WH b t ac D h' H' → va_S (fun q => b ≤ q) s.heap H' locs' → W p l e R s m args below meth c H' locs' cells slots Q (F0 m pc' ls' (S'.map (cv (ad b t))))) : W p l e R s m args below meth c H locs cells slots Q (F0 m pc ls (S.map (cv (ad b t)))) := by
  obtain ⟨hx, hb, hr, hml, hown, hts, hlocks, hin, hE, hfr, hlo, hbs⟩ := C
  have ha' := ite_some ha; clear ha; obtain ⟨⟨rfl, h0⟩, ha⟩ := ha'
  split at ha
  · cases ha
    refine lv_icmp_lt hx hb hd (Int.toNat_of_nonneg h0).symm (fun hq => ?_) (fun hq => ?_)
    · have k2 := k _ _ _ hL hW hS
      rw [if_pos (by simpa only [cmpI, decide_eq_true_eq] using hq)] at k2
      exact k2
    · have k2 := k _ _ _ hL hW hS
      rw [if_neg (by simpa only [cmpI, decide_eq_true_eq, Classical.not_not] using hq)] at k2
      exact k2
  · cases ha
theorem s_if_ge {p : Program} {l : Launch} {e : Env} {R : Room} {s : State} {m : MethodId} {args : Array Value} {below : List Frame} {meth : Method} {c : Code} {H : Heap} {locs : List Loc} {cells slots : Nat} {Q : State → Prop} {b : Nat} {t : Nat → Nat} {ac : Nat → ClassId} {D : va_G} {i pc len : Nat} {ls : Array Slot} {L S : List Value} {h : List hC} {pc' : Nat} {L' S' : List Value} {h' : List hC} {off : Int} (C : Ctx b t ac D p s m args meth c R i) (hd : decode (mB i) pc = .ok (.ifCond .ge off, len)) (ha : act i pc (.ifCond .ge off) len L S h = some (.inl (pc', L', S', h'))) (hL : LR (ad b t) ls (mL i) L) (hW : WH b t ac D h H) (hS : va_S (fun q => b ≤ q) s.heap H locs) (hlen : h.length ≤ sB) (hcs : cells ≤ R.cells ∧ slots ≤ R.slots)
    (k : ∀ (ls' : Array Slot) (H' : Heap) (locs' : List Loc), LR (ad b t) ls' (mL i) L' → WH b t ac D h' H' → va_S (fun q => b ≤ q) s.heap H' locs' → W p l e R s m args below meth c H' locs' cells slots Q (F0 m pc' ls' (S'.map (cv (ad b t))))) : W p l e R s m args below meth c H locs cells slots Q (F0 m pc ls (S.map (cv (ad b t)))) := by
  obtain ⟨hx, hb, hr, hml, hown, hts, hlocks, hin, hE, hfr, hlo, hbs⟩ := C
  have ha' := ite_some ha; clear ha; obtain ⟨⟨rfl, h0⟩, ha⟩ := ha'
  split at ha
  · cases ha
    refine lv_if_ge hx hb hd (Int.toNat_of_nonneg h0).symm (fun hq => ?_) (fun hq => ?_)
    · have k2 := k _ _ _ hL hW hS
      rw [if_pos (by simpa only [cmpI, decide_eq_true_eq] using hq)] at k2
      exact k2
    · have k2 := k _ _ _ hL hW hS
      rw [if_neg (by simpa only [cmpI, decide_eq_true_eq, Classical.not_not] using hq)] at k2
      exact k2
  · cases ha
theorem s_icmp_ge {p : Program} {l : Launch} {e : Env} {R : Room} {s : State} {m : MethodId} {args : Array Value} {below : List Frame} {meth : Method} {c : Code} {H : Heap} {locs : List Loc} {cells slots : Nat} {Q : State → Prop} {b : Nat} {t : Nat → Nat} {ac : Nat → ClassId} {D : va_G} {i pc len : Nat} {ls : Array Slot} {L S : List Value} {h : List hC} {pc' : Nat} {L' S' : List Value} {h' : List hC} {off : Int} (C : Ctx b t ac D p s m args meth c R i) (hd : decode (mB i) pc = .ok (.if_icmp .ge off, len)) (ha : act i pc (.if_icmp .ge off) len L S h = some (.inl (pc', L', S', h'))) (hL : LR (ad b t) ls (mL i) L) (hW : WH b t ac D h H) (hS : va_S (fun q => b ≤ q) s.heap H locs) (hlen : h.length ≤ sB) (hcs : cells ≤ R.cells ∧ slots ≤ R.slots)
    (k : ∀ (ls' : Array Slot) (H' : Heap) (locs' : List Loc), LR (ad b t) ls' (mL i) L' → WH b t ac D h' H' → va_S (fun q => b ≤ q) s.heap H' locs' → W p l e R s m args below meth c H' locs' cells slots Q (F0 m pc' ls' (S'.map (cv (ad b t))))) : W p l e R s m args below meth c H locs cells slots Q (F0 m pc ls (S.map (cv (ad b t)))) := by
  obtain ⟨hx, hb, hr, hml, hown, hts, hlocks, hin, hE, hfr, hlo, hbs⟩ := C
  have ha' := ite_some ha; clear ha; obtain ⟨⟨rfl, h0⟩, ha⟩ := ha'
  split at ha
  · cases ha
    refine lv_icmp_ge hx hb hd (Int.toNat_of_nonneg h0).symm (fun hq => ?_) (fun hq => ?_)
    · have k2 := k _ _ _ hL hW hS
      rw [if_pos (by simpa only [cmpI, decide_eq_true_eq] using hq)] at k2
      exact k2
    · have k2 := k _ _ _ hL hW hS
      rw [if_neg (by simpa only [cmpI, decide_eq_true_eq, Classical.not_not] using hq)] at k2
      exact k2
  · cases ha
theorem s_if_gt {p : Program} {l : Launch} {e : Env} {R : Room} {s : State} {m : MethodId} {args : Array Value} {below : List Frame} {meth : Method} {c : Code} {H : Heap} {locs : List Loc} {cells slots : Nat} {Q : State → Prop} {b : Nat} {t : Nat → Nat} {ac : Nat → ClassId} {D : va_G} {i pc len : Nat} {ls : Array Slot} {L S : List Value} {h : List hC} {pc' : Nat} {L' S' : List Value} {h' : List hC} {off : Int} (C : Ctx b t ac D p s m args meth c R i) (hd : decode (mB i) pc = .ok (.ifCond .gt off, len)) (ha : act i pc (.ifCond .gt off) len L S h = some (.inl (pc', L', S', h'))) (hL : LR (ad b t) ls (mL i) L) (hW : WH b t ac D h H) (hS : va_S (fun q => b ≤ q) s.heap H locs) (hlen : h.length ≤ sB) (hcs : cells ≤ R.cells ∧ slots ≤ R.slots)
    (k : ∀ (ls' : Array Slot) (H' : Heap) (locs' : List Loc), LR (ad b t) ls' (mL i) L' → WH b t ac D h' H' → va_S (fun q => b ≤ q) s.heap H' locs' → W p l e R s m args below meth c H' locs' cells slots Q (F0 m pc' ls' (S'.map (cv (ad b t))))) : W p l e R s m args below meth c H locs cells slots Q (F0 m pc ls (S.map (cv (ad b t)))) := by
  obtain ⟨hx, hb, hr, hml, hown, hts, hlocks, hin, hE, hfr, hlo, hbs⟩ := C
  have ha' := ite_some ha; clear ha; obtain ⟨⟨rfl, h0⟩, ha⟩ := ha'
  split at ha
  · cases ha
    refine lv_if_gt hx hb hd (Int.toNat_of_nonneg h0).symm (fun hq => ?_) (fun hq => ?_)
    · have k2 := k _ _ _ hL hW hS
      rw [if_pos (by simpa only [cmpI, decide_eq_true_eq] using hq)] at k2
      exact k2
    · have k2 := k _ _ _ hL hW hS
      rw [if_neg (by simpa only [cmpI, decide_eq_true_eq, Classical.not_not] using hq)] at k2
      exact k2
  · cases ha
theorem s_icmp_gt {p : Program} {l : Launch} {e : Env} {R : Room} {s : State} {m : MethodId} {args : Array Value} {below : List Frame} {meth : Method} {c : Code} {H : Heap} {locs : List Loc} {cells slots : Nat} {Q : State → Prop} {b : Nat} {t : Nat → Nat} {ac : Nat → ClassId} {D : va_G} {i pc len : Nat} {ls : Array Slot} {L S : List Value} {h : List hC} {pc' : Nat} {L' S' : List Value} {h' : List hC} {off : Int} (C : Ctx b t ac D p s m args meth c R i) (hd : decode (mB i) pc = .ok (.if_icmp .gt off, len)) (ha : act i pc (.if_icmp .gt off) len L S h = some (.inl (pc', L', S', h'))) (hL : LR (ad b t) ls (mL i) L) (hW : WH b t ac D h H) (hS : va_S (fun q => b ≤ q) s.heap H locs) (hlen : h.length ≤ sB) (hcs : cells ≤ R.cells ∧ slots ≤ R.slots)
    (k : ∀ (ls' : Array Slot) (H' : Heap) (locs' : List Loc), LR (ad b t) ls' (mL i) L' → WH b t ac D h' H' → va_S (fun q => b ≤ q) s.heap H' locs' → W p l e R s m args below meth c H' locs' cells slots Q (F0 m pc' ls' (S'.map (cv (ad b t))))) : W p l e R s m args below meth c H locs cells slots Q (F0 m pc ls (S.map (cv (ad b t)))) := by
  obtain ⟨hx, hb, hr, hml, hown, hts, hlocks, hin, hE, hfr, hlo, hbs⟩ := C
  have ha' := ite_some ha; clear ha; obtain ⟨⟨rfl, h0⟩, ha⟩ := ha'
  split at ha
  · cases ha
    refine lv_icmp_gt hx hb hd (Int.toNat_of_nonneg h0).symm (fun hq => ?_) (fun hq => ?_)
    · have k2 := k _ _ _ hL hW hS
      rw [if_pos (by simpa only [cmpI, decide_eq_true_eq] using hq)] at k2
      exact k2
    · have k2 := k _ _ _ hL hW hS
      rw [if_neg (by simpa only [cmpI, decide_eq_true_eq, Classical.not_not] using hq)] at k2
      exact k2
  · cases ha
theorem s_if_le {p : Program} {l : Launch} {e : Env} {R : Room} {s : State} {m : MethodId} {args : Array Value} {below : List Frame} {meth : Method} {c : Code} {H : Heap} {locs : List Loc} {cells slots : Nat} {Q : State → Prop} {b : Nat} {t : Nat → Nat} {ac : Nat → ClassId} {D : va_G} {i pc len : Nat} {ls : Array Slot} {L S : List Value} {h : List hC} {pc' : Nat} {L' S' : List Value} {h' : List hC} {off : Int} (C : Ctx b t ac D p s m args meth c R i) (hd : decode (mB i) pc = .ok (.ifCond .le off, len)) (ha : act i pc (.ifCond .le off) len L S h = some (.inl (pc', L', S', h'))) (hL : LR (ad b t) ls (mL i) L) (hW : WH b t ac D h H) (hS : va_S (fun q => b ≤ q) s.heap H locs) (hlen : h.length ≤ sB) (hcs : cells ≤ R.cells ∧ slots ≤ R.slots)
    (k : ∀ (ls' : Array Slot) (H' : Heap) (locs' : List Loc), LR (ad b t) ls' (mL i) L' → WH b t ac D h' H' → va_S (fun q => b ≤ q) s.heap H' locs' → W p l e R s m args below meth c H' locs' cells slots Q (F0 m pc' ls' (S'.map (cv (ad b t))))) : W p l e R s m args below meth c H locs cells slots Q (F0 m pc ls (S.map (cv (ad b t)))) := by
  obtain ⟨hx, hb, hr, hml, hown, hts, hlocks, hin, hE, hfr, hlo, hbs⟩ := C
  have ha' := ite_some ha; clear ha; obtain ⟨⟨rfl, h0⟩, ha⟩ := ha'
  split at ha
  · cases ha
    refine lv_if_le hx hb hd (Int.toNat_of_nonneg h0).symm (fun hq => ?_) (fun hq => ?_)
    · have k2 := k _ _ _ hL hW hS
      rw [if_pos (by simpa only [cmpI, decide_eq_true_eq] using hq)] at k2
      exact k2
    · have k2 := k _ _ _ hL hW hS
      rw [if_neg (by simpa only [cmpI, decide_eq_true_eq, Classical.not_not] using hq)] at k2
      exact k2
  · cases ha
theorem s_icmp_le {p : Program} {l : Launch} {e : Env} {R : Room} {s : State} {m : MethodId} {args : Array Value} {below : List Frame} {meth : Method} {c : Code} {H : Heap} {locs : List Loc} {cells slots : Nat} {Q : State → Prop} {b : Nat} {t : Nat → Nat} {ac : Nat → ClassId} {D : va_G} {i pc len : Nat} {ls : Array Slot} {L S : List Value} {h : List hC} {pc' : Nat} {L' S' : List Value} {h' : List hC} {off : Int} (C : Ctx b t ac D p s m args meth c R i) (hd : decode (mB i) pc = .ok (.if_icmp .le off, len)) (ha : act i pc (.if_icmp .le off) len L S h = some (.inl (pc', L', S', h'))) (hL : LR (ad b t) ls (mL i) L) (hW : WH b t ac D h H) (hS : va_S (fun q => b ≤ q) s.heap H locs) (hlen : h.length ≤ sB) (hcs : cells ≤ R.cells ∧ slots ≤ R.slots)
    (k : ∀ (ls' : Array Slot) (H' : Heap) (locs' : List Loc), LR (ad b t) ls' (mL i) L' → WH b t ac D h' H' → va_S (fun q => b ≤ q) s.heap H' locs' → W p l e R s m args below meth c H' locs' cells slots Q (F0 m pc' ls' (S'.map (cv (ad b t))))) : W p l e R s m args below meth c H locs cells slots Q (F0 m pc ls (S.map (cv (ad b t)))) := by
  obtain ⟨hx, hb, hr, hml, hown, hts, hlocks, hin, hE, hfr, hlo, hbs⟩ := C
  have ha' := ite_some ha; clear ha; obtain ⟨⟨rfl, h0⟩, ha⟩ := ha'
  split at ha
  · cases ha
    refine lv_icmp_le hx hb hd (Int.toNat_of_nonneg h0).symm (fun hq => ?_) (fun hq => ?_)
    · have k2 := k _ _ _ hL hW hS
      rw [if_pos (by simpa only [cmpI, decide_eq_true_eq] using hq)] at k2
      exact k2
    · have k2 := k _ _ _ hL hW hS
      rw [if_neg (by simpa only [cmpI, decide_eq_true_eq, Classical.not_not] using hq)] at k2
      exact k2
  · cases ha
theorem s_ifnull {p : Program} {l : Launch} {e : Env} {R : Room} {s : State} {m : MethodId} {args : Array Value} {below : List Frame} {meth : Method} {c : Code} {H : Heap} {locs : List Loc} {cells slots : Nat} {Q : State → Prop} {b : Nat} {t : Nat → Nat} {ac : Nat → ClassId} {D : va_G} {i pc len : Nat} {ls : Array Slot} {L S : List Value} {h : List hC} {pc' : Nat} {L' S' : List Value} {h' : List hC} {off : Int} (C : Ctx b t ac D p s m args meth c R i) (hd : decode (mB i) pc = .ok (.ifnull off, len)) (ha : act i pc (.ifnull off) len L S h = some (.inl (pc', L', S', h'))) (hL : LR (ad b t) ls (mL i) L) (hW : WH b t ac D h H) (hS : va_S (fun q => b ≤ q) s.heap H locs) (hlen : h.length ≤ sB) (hcs : cells ≤ R.cells ∧ slots ≤ R.slots)
    (k : ∀ (ls' : Array Slot) (H' : Heap) (locs' : List Loc), LR (ad b t) ls' (mL i) L' → WH b t ac D h' H' → va_S (fun q => b ≤ q) s.heap H' locs' → W p l e R s m args below meth c H' locs' cells slots Q (F0 m pc' ls' (S'.map (cv (ad b t))))) : W p l e R s m args below meth c H locs cells slots Q (F0 m pc ls (S.map (cv (ad b t)))) := by
  obtain ⟨hx, hb, hr, hml, hown, hts, hlocks, hin, hE, hfr, hlo, hbs⟩ := C
  have ha' := ite_some ha; clear ha; obtain ⟨rfl, ha⟩ := ha'
  split at ha
  · unfold jmp at ha
    have ha' := ite_some ha; clear ha; obtain ⟨h0, ha⟩ := ha'
    cases ha
    exact lv_ifnullN hx hb hd (Int.toNat_of_nonneg h0).symm (k _ _ _ hL hW hS)
  · cases ha
    exact lv_ifnull hx hb hd (k _ _ _ hL hW hS)
  · cases ha
theorem s_ifnonnull {p : Program} {l : Launch} {e : Env} {R : Room} {s : State} {m : MethodId} {args : Array Value} {below : List Frame} {meth : Method} {c : Code} {H : Heap} {locs : List Loc} {cells slots : Nat} {Q : State → Prop} {b : Nat} {t : Nat → Nat} {ac : Nat → ClassId} {D : va_G} {i pc len : Nat} {ls : Array Slot} {L S : List Value} {h : List hC} {pc' : Nat} {L' S' : List Value} {h' : List hC} {off : Int} (C : Ctx b t ac D p s m args meth c R i) (hd : decode (mB i) pc = .ok (.ifnonnull off, len)) (ha : act i pc (.ifnonnull off) len L S h = some (.inl (pc', L', S', h'))) (hL : LR (ad b t) ls (mL i) L) (hW : WH b t ac D h H) (hS : va_S (fun q => b ≤ q) s.heap H locs) (hlen : h.length ≤ sB) (hcs : cells ≤ R.cells ∧ slots ≤ R.slots)
    (k : ∀ (ls' : Array Slot) (H' : Heap) (locs' : List Loc), LR (ad b t) ls' (mL i) L' → WH b t ac D h' H' → va_S (fun q => b ≤ q) s.heap H' locs' → W p l e R s m args below meth c H' locs' cells slots Q (F0 m pc' ls' (S'.map (cv (ad b t))))) : W p l e R s m args below meth c H locs cells slots Q (F0 m pc ls (S.map (cv (ad b t)))) := by
  obtain ⟨hx, hb, hr, hml, hown, hts, hlocks, hin, hE, hfr, hlo, hbs⟩ := C
  have ha' := ite_some ha; clear ha; obtain ⟨rfl, ha⟩ := ha'
  split at ha
  · cases ha
    exact lv_ifnonnullN hx hb hd (k _ _ _ hL hW hS)
  · unfold jmp at ha
    have ha' := ite_some ha; clear ha; obtain ⟨h0, ha⟩ := ha'
    cases ha
    exact lv_ifnonnull hx hb hd (Int.toNat_of_nonneg h0).symm (k _ _ _ hL hW hS)
  · cases ha
theorem s_table {p : Program} {l : Launch} {e : Env} {R : Room} {s : State} {m : MethodId} {args : Array Value} {below : List Frame} {meth : Method} {c : Code} {H : Heap} {locs : List Loc} {cells slots : Nat} {Q : State → Prop} {b : Nat} {t : Nat → Nat} {ac : Nat → ClassId} {D : va_G} {i pc len : Nat} {ls : Array Slot} {L S : List Value} {h : List hC} {pc' : Nat} {L' S' : List Value} {h' : List hC} {d lo hi : Int} {offs : Array Int} (C : Ctx b t ac D p s m args meth c R i) (hd : decode (mB i) pc = .ok (.tableswitch d lo hi offs, len)) (ha : act i pc (.tableswitch d lo hi offs) len L S h = some (.inl (pc', L', S', h'))) (hL : LR (ad b t) ls (mL i) L) (hW : WH b t ac D h H) (hS : va_S (fun q => b ≤ q) s.heap H locs) (hlen : h.length ≤ sB) (hcs : cells ≤ R.cells ∧ slots ≤ R.slots)
    (k : ∀ (ls' : Array Slot) (H' : Heap) (locs' : List Loc), LR (ad b t) ls' (mL i) L' → WH b t ac D h' H' → va_S (fun q => b ≤ q) s.heap H' locs' → W p l e R s m args below meth c H' locs' cells slots Q (F0 m pc' ls' (S'.map (cv (ad b t))))) : W p l e R s m args below meth c H locs cells slots Q (F0 m pc ls (S.map (cv (ad b t)))) := by
  obtain ⟨hx, hb, hr, hml, hown, hts, hlocks, hin, hE, hfr, hlo, hbs⟩ := C
  simp only [act] at ha
  split at ha
  · split at ha
    · rename_i hq
      unfold jmp at ha
      have ha' := ite_some ha; clear ha; obtain ⟨h0, ha⟩ := ha'
      cases ha
      exact lv_tableOut hx hb hd hq (Int.toNat_of_nonneg h0).symm (k _ _ _ hL hW hS)
    · rename_i hq
      split at ha
      · rename_i off hoff
        unfold jmp at ha
        have ha' := ite_some ha; clear ha; obtain ⟨h0, ha⟩ := ha'
        cases ha
        exact lv_tableIn hx hb hd (fun q => hq (Or.inl q)) (fun q => hq (Or.inr q)) hoff (Int.toNat_of_nonneg h0).symm (k _ _ _ hL hW hS)
      · cases ha
  · cases ha
theorem s_lookup {p : Program} {l : Launch} {e : Env} {R : Room} {s : State} {m : MethodId} {args : Array Value} {below : List Frame} {meth : Method} {c : Code} {H : Heap} {locs : List Loc} {cells slots : Nat} {Q : State → Prop} {b : Nat} {t : Nat → Nat} {ac : Nat → ClassId} {D : va_G} {i pc len : Nat} {ls : Array Slot} {L S : List Value} {h : List hC} {pc' : Nat} {L' S' : List Value} {h' : List hC} {d : Int} {ps : Array (Int × Int)} (C : Ctx b t ac D p s m args meth c R i) (hd : decode (mB i) pc = .ok (.lookupswitch d ps, len)) (ha : act i pc (.lookupswitch d ps) len L S h = some (.inl (pc', L', S', h'))) (hL : LR (ad b t) ls (mL i) L) (hW : WH b t ac D h H) (hS : va_S (fun q => b ≤ q) s.heap H locs) (hlen : h.length ≤ sB) (hcs : cells ≤ R.cells ∧ slots ≤ R.slots)
    (k : ∀ (ls' : Array Slot) (H' : Heap) (locs' : List Loc), LR (ad b t) ls' (mL i) L' → WH b t ac D h' H' → va_S (fun q => b ≤ q) s.heap H' locs' → W p l e R s m args below meth c H' locs' cells slots Q (F0 m pc' ls' (S'.map (cv (ad b t))))) : W p l e R s m args below meth c H locs cells slots Q (F0 m pc ls (S.map (cv (ad b t)))) := by
  obtain ⟨hx, hb, hr, hml, hown, hts, hlocks, hin, hE, hfr, hlo, hbs⟩ := C
  simp only [act] at ha
  split at ha
  · have ha' := ite_some ha; clear ha; obtain ⟨hp, ha⟩ := ha'
    unfold jmp at ha
    have ha' := ite_some ha; clear ha; obtain ⟨h0, ha⟩ := ha'
    cases ha
    exact lv_lookup hx hb hd hp rfl (Int.toNat_of_nonneg h0).symm (k _ _ _ hL hW hS)
  · cases ha
theorem s_getfield {p : Program} {l : Launch} {e : Env} {R : Room} {s : State} {m : MethodId} {args : Array Value} {below : List Frame} {meth : Method} {c : Code} {H : Heap} {locs : List Loc} {cells slots : Nat} {Q : State → Prop} {b : Nat} {t : Nat → Nat} {ac : Nat → ClassId} {D : va_G} {i pc len : Nat} {ls : Array Slot} {L S : List Value} {h : List hC} {pc' : Nat} {L' S' : List Value} {h' : List hC} {idx : Nat} (C : Ctx b t ac D p s m args meth c R i) (hd : decode (mB i) pc = .ok (.getfield idx, len)) (ha : act i pc (.getfield idx) len L S h = some (.inl (pc', L', S', h'))) (hL : LR (ad b t) ls (mL i) L) (hW : WH b t ac D h H) (hS : va_S (fun q => b ≤ q) s.heap H locs) (hlen : h.length ≤ sB) (hcs : cells ≤ R.cells ∧ slots ≤ R.slots)
    (k : ∀ (ls' : Array Slot) (H' : Heap) (locs' : List Loc), LR (ad b t) ls' (mL i) L' → WH b t ac D h' H' → va_S (fun q => b ≤ q) s.heap H' locs' → W p l e R s m args below meth c H' locs' cells slots Q (F0 m pc' ls' (S'.map (cv (ad b t))))) : W p l e R s m args below meth c H locs cells slots Q (F0 m pc ls (S.map (cv (ad b t)))) := by
  obtain ⟨hx, hb, hr, hml, hown, hts, hlocks, hin, hE, hfr, hlo, hbs⟩ := C
  have ha' := ite_some ha; clear ha; obtain ⟨rfl, ha⟩ := ha'
  split at ha
  · rename_i a S0
    split at ha
    · rename_i ci kf hf
      obtain ⟨h12, hkN, hlink⟩ := fref_ok hf
      split at ha
      · rename_i v hv
        cases ha
        obtain ⟨fs, hc, hk, -⟩ := getF_ok hv
        exact va_get (D := D) (ci := ci) (v := cv (ad b t) v) hx hb hts (cls_at h12).2.2 hown hE.1 hW a (wz_at hc) (vw_at h12) kf hkN (hts _ hlink) (fun _ q => q) (by rw [List.getElem?_map, hk]; rfl) hd (k _ _ _ hL hW hS)
      · cases ha
    · cases ha
  · cases ha
theorem s_putfield {p : Program} {l : Launch} {e : Env} {R : Room} {s : State} {m : MethodId} {args : Array Value} {below : List Frame} {meth : Method} {c : Code} {H : Heap} {locs : List Loc} {cells slots : Nat} {Q : State → Prop} {b : Nat} {t : Nat → Nat} {ac : Nat → ClassId} {D : va_G} {i pc len : Nat} {ls : Array Slot} {L S : List Value} {h : List hC} {pc' : Nat} {L' S' : List Value} {h' : List hC} {idx : Nat} (C : Ctx b t ac D p s m args meth c R i) (hd : decode (mB i) pc = .ok (.putfield idx, len)) (ha : act i pc (.putfield idx) len L S h = some (.inl (pc', L', S', h'))) (hL : LR (ad b t) ls (mL i) L) (hW : WH b t ac D h H) (hS : va_S (fun q => b ≤ q) s.heap H locs) (hlen : h.length ≤ sB) (hcs : cells ≤ R.cells ∧ slots ≤ R.slots)
    (k : ∀ (ls' : Array Slot) (H' : Heap) (locs' : List Loc), LR (ad b t) ls' (mL i) L' → WH b t ac D h' H' → va_S (fun q => b ≤ q) s.heap H' locs' → W p l e R s m args below meth c H' locs' cells slots Q (F0 m pc' ls' (S'.map (cv (ad b t))))) : W p l e R s m args below meth c H locs cells slots Q (F0 m pc ls (S.map (cv (ad b t)))) := by
  obtain ⟨hx, hb, hr, hml, hown, hts, hlocks, hin, hE, hfr, hlo, hbs⟩ := C
  have ha' := ite_some ha; clear ha; obtain ⟨rfl, ha⟩ := ha'
  split at ha
  · rename_i v a S0
    split at ha
    · rename_i ci kf hf
      obtain ⟨h12, hkN, hlink⟩ := fref_ok hf
      have ha' := ite_some ha; clear ha; obtain ⟨hfin, ha⟩ := ha'
      split at ha
      · rename_i y hy
        cases ha
        obtain ⟨fs, hc, hk, hok, rfl⟩ := putF_ok hy
        have hset : (wz (ad b t) ac h).set a (ad b t a, .inr (ci, (fs.map (cv (ad b t))).set kf (cv (ad b t) v))) = wz (ad b t) ac (h.set a (.inl (ci, fs.set kf v))) := by
          rw [← wz_set]
          simp only [ce, List.map_set]
        by_cases hf2 : (fT ci kf).2.2.2 = false
        · exact va_put (D := D) (ci := ci) (v := cv (ad b t) v) hx hb hts (cls_at h12).2.2 (fty ci) (fun k hk => fty_ok h12 hk) (fnm_ok h12) hown hE.1 hW (wz_D hlen) hS a (wz_at hc) (vw_at h12) kf hkN (hts _ hlink) (fun _ q => q) hf2 (fty_ok h12 hkN) (okv_n hok).1 (okv_n hok).2 (by rw [List.length_map]; exact hk) hd (fun H1 locs1 hP1 _ hS1 => by rw [hset] at hP1; exact k _ _ _ hL hP1 hS1)
        · rcases hfin with q | ⟨hin', hci⟩
          · exact absurd q hf2
          · exact va_putF (D := D) (ci := ci) (v := cv (ad b t) v) hx hb hts (cls_at h12).2.2 (fty ci) (fun k hk => fty_ok h12 hk) (fnm_ok h12) hown hE.1 hW (wz_D hlen) hS a (wz_at hc) (vw_at h12) kf hkN (hts _ hlink) (fun _ q => q) (by simpa using hf2) (hin hin') (by rw [fdecl h12 hkN, hci]) (fty_ok h12 hkN) (okv_n hok).1 (okv_n hok).2 (by rw [List.length_map]; exact hk) hd (fun H1 locs1 hP1 _ hS1 => by rw [hset] at hP1; exact k _ _ _ hL hP1 hS1)
      · cases ha
    · cases ha
  · cases ha
theorem s_getstatic {p : Program} {l : Launch} {e : Env} {R : Room} {s : State} {m : MethodId} {args : Array Value} {below : List Frame} {meth : Method} {c : Code} {H : Heap} {locs : List Loc} {cells slots : Nat} {Q : State → Prop} {b : Nat} {t : Nat → Nat} {ac : Nat → ClassId} {D : va_G} {i pc len : Nat} {ls : Array Slot} {L S : List Value} {h : List hC} {pc' : Nat} {L' S' : List Value} {h' : List hC} {idx : Nat} (C : Ctx b t ac D p s m args meth c R i) (hd : decode (mB i) pc = .ok (.getstatic idx, len)) (ha : act i pc (.getstatic idx) len L S h = some (.inl (pc', L', S', h'))) (hL : LR (ad b t) ls (mL i) L) (hW : WH b t ac D h H) (hS : va_S (fun q => b ≤ q) s.heap H locs) (hlen : h.length ≤ sB) (hcs : cells ≤ R.cells ∧ slots ≤ R.slots)
    (k : ∀ (ls' : Array Slot) (H' : Heap) (locs' : List Loc), LR (ad b t) ls' (mL i) L' → WH b t ac D h' H' → va_S (fun q => b ≤ q) s.heap H' locs' → W p l e R s m args below meth c H' locs' cells slots Q (F0 m pc' ls' (S'.map (cv (ad b t))))) : W p l e R s m args below meth c H locs cells slots Q (F0 m pc ls (S.map (cv (ad b t)))) := by
  obtain ⟨hx, hb, hr, hml, hown, hts, hlocks, hin, hE, hfr, hlo, hbs⟩ := C
  have ha' := ite_some ha; clear ha; obtain ⟨rfl, ha⟩ := ha'
  split at ha
  · rename_i kf hf
    obtain ⟨h2, hlink⟩ := sref_ok hf
    have ha' := ite_some ha; clear ha; obtain ⟨hk2, ha⟩ := ha'
    cases ha
    have e : cv (ad b t) (.ref (sA kf)) = .ref (t kf) := by
      show Value.ref (ad b t (sA kf)) = _
      unfold ad
      rw [sIx_A hk2]
    have k2 := k _ _ _ hL hW hS
    rw [List.map_cons, e] at k2
    exact va_gets hx hb (hE.2.2.1 kf hk2).1 hS hown (hts _ hlink) (fun _ q => q) hd k2
  · cases ha
theorem s_iaload {p : Program} {l : Launch} {e : Env} {R : Room} {s : State} {m : MethodId} {args : Array Value} {below : List Frame} {meth : Method} {c : Code} {H : Heap} {locs : List Loc} {cells slots : Nat} {Q : State → Prop} {b : Nat} {t : Nat → Nat} {ac : Nat → ClassId} {D : va_G} {i pc len : Nat} {ls : Array Slot} {L S : List Value} {h : List hC} {pc' : Nat} {L' S' : List Value} {h' : List hC}  (C : Ctx b t ac D p s m args meth c R i) (hd : decode (mB i) pc = .ok (.iaload, len)) (ha : act i pc (.iaload) len L S h = some (.inl (pc', L', S', h'))) (hL : LR (ad b t) ls (mL i) L) (hW : WH b t ac D h H) (hS : va_S (fun q => b ≤ q) s.heap H locs) (hlen : h.length ≤ sB) (hcs : cells ≤ R.cells ∧ slots ≤ R.slots)
    (k : ∀ (ls' : Array Slot) (H' : Heap) (locs' : List Loc), LR (ad b t) ls' (mL i) L' → WH b t ac D h' H' → va_S (fun q => b ≤ q) s.heap H' locs' → W p l e R s m args below meth c H' locs' cells slots Q (F0 m pc' ls' (S'.map (cv (ad b t))))) : W p l e R s m args below meth c H locs cells slots Q (F0 m pc ls (S.map (cv (ad b t)))) := by
  obtain ⟨hx, hb, hr, hml, hown, hts, hlocks, hin, hE, hfr, hlo, hbs⟩ := C
  have ha' := ite_some ha; clear ha; obtain ⟨rfl, ha⟩ := ha'
  split at ha
  · rename_i j a S0
    split at ha
    · rename_i x hv
      cases ha
      rcases getI_ok hv with ⟨n, f, hc, hin', rfl⟩ | ⟨hn, -, z, hz, hin', rfl⟩
      · exact va_iald hx hb hE.1 hW a 0 (wz_at hc) rfl (okx_in hin') hd (k _ _ _ hL hW hS)
      · have h2 : z < 2 := by
          unfold sIx at hz
          split at hz
          · cases hz; decide
          · split at hz
            · cases hz; decide
            · cases hz
        have he1 : ad b t a = t z := by
          unfold ad
          rw [hz]
        show W p l e R s m args below meth c H locs cells slots Q (F0 m pc ls (.int j :: .ref (ad b t a) :: S0.map (cv (ad b t))))
        rw [he1]
        exact va_ti hx hb (hE.2.2.1 _ h2).2 hS (okx_in hin') rfl hd (k _ _ _ hL hW hS)
    · cases ha
  · cases ha
theorem s_caload {p : Program} {l : Launch} {e : Env} {R : Room} {s : State} {m : MethodId} {args : Array Value} {below : List Frame} {meth : Method} {c : Code} {H : Heap} {locs : List Loc} {cells slots : Nat} {Q : State → Prop} {b : Nat} {t : Nat → Nat} {ac : Nat → ClassId} {D : va_G} {i pc len : Nat} {ls : Array Slot} {L S : List Value} {h : List hC} {pc' : Nat} {L' S' : List Value} {h' : List hC}  (C : Ctx b t ac D p s m args meth c R i) (hd : decode (mB i) pc = .ok (.caload, len)) (ha : act i pc (.caload) len L S h = some (.inl (pc', L', S', h'))) (hL : LR (ad b t) ls (mL i) L) (hW : WH b t ac D h H) (hS : va_S (fun q => b ≤ q) s.heap H locs) (hlen : h.length ≤ sB) (hcs : cells ≤ R.cells ∧ slots ≤ R.slots)
    (k : ∀ (ls' : Array Slot) (H' : Heap) (locs' : List Loc), LR (ad b t) ls' (mL i) L' → WH b t ac D h' H' → va_S (fun q => b ≤ q) s.heap H' locs' → W p l e R s m args below meth c H' locs' cells slots Q (F0 m pc' ls' (S'.map (cv (ad b t))))) : W p l e R s m args below meth c H locs cells slots Q (F0 m pc ls (S.map (cv (ad b t)))) := by
  obtain ⟨hx, hb, hr, hml, hown, hts, hlocks, hin, hE, hfr, hlo, hbs⟩ := C
  have ha' := ite_some ha; clear ha; obtain ⟨rfl, ha⟩ := ha'
  split at ha
  · rename_i j a S0
    split at ha
    · rename_i x hv
      cases ha
      rcases getI_ok hv with ⟨n, f, hc, hin', rfl⟩ | ⟨hn, h0, -⟩
      · exact va_cald hx hb hE.1 hW a 1 (wz_at hc) rfl (okx_in hin') hd (k _ _ _ hL hW hS)
      · cases h0
    · cases ha
  · cases ha
theorem s_aaload {p : Program} {l : Launch} {e : Env} {R : Room} {s : State} {m : MethodId} {args : Array Value} {below : List Frame} {meth : Method} {c : Code} {H : Heap} {locs : List Loc} {cells slots : Nat} {Q : State → Prop} {b : Nat} {t : Nat → Nat} {ac : Nat → ClassId} {D : va_G} {i pc len : Nat} {ls : Array Slot} {L S : List Value} {h : List hC} {pc' : Nat} {L' S' : List Value} {h' : List hC}  (C : Ctx b t ac D p s m args meth c R i) (hd : decode (mB i) pc = .ok (.aaload, len)) (ha : act i pc (.aaload) len L S h = some (.inl (pc', L', S', h'))) (hL : LR (ad b t) ls (mL i) L) (hW : WH b t ac D h H) (hS : va_S (fun q => b ≤ q) s.heap H locs) (hlen : h.length ≤ sB) (hcs : cells ≤ R.cells ∧ slots ≤ R.slots)
    (k : ∀ (ls' : Array Slot) (H' : Heap) (locs' : List Loc), LR (ad b t) ls' (mL i) L' → WH b t ac D h' H' → va_S (fun q => b ≤ q) s.heap H' locs' → W p l e R s m args below meth c H' locs' cells slots Q (F0 m pc' ls' (S'.map (cv (ad b t))))) : W p l e R s m args below meth c H locs cells slots Q (F0 m pc ls (S.map (cv (ad b t)))) := by
  obtain ⟨hx, hb, hr, hml, hown, hts, hlocks, hin, hE, hfr, hlo, hbs⟩ := C
  have ha' := ite_some ha; clear ha; obtain ⟨rfl, ha⟩ := ha'
  split at ha
  · rename_i j a S0
    split at ha
    · rename_i v hv
      cases ha
      obtain ⟨u, n, g, hc, hu, hin', rfl⟩ := getQ_ok hv
      have k2 := k _ _ _ hL hW hS
      rw [List.map_cons, cv_rf] at k2
      rcases hu with rfl | rfl
      · exact va_aldq (C := RX0) hx hb hE.1 hW a 2 (wz_at hc) rfl (okx_in hin') hd k2
      · exact va_aldq (C := RX9) hx hb hE.1 hW a 3 (wz_at hc) rfl (okx_in hin') hd k2
    · cases ha
  · cases ha
theorem s_iastore {p : Program} {l : Launch} {e : Env} {R : Room} {s : State} {m : MethodId} {args : Array Value} {below : List Frame} {meth : Method} {c : Code} {H : Heap} {locs : List Loc} {cells slots : Nat} {Q : State → Prop} {b : Nat} {t : Nat → Nat} {ac : Nat → ClassId} {D : va_G} {i pc len : Nat} {ls : Array Slot} {L S : List Value} {h : List hC} {pc' : Nat} {L' S' : List Value} {h' : List hC}  (C : Ctx b t ac D p s m args meth c R i) (hd : decode (mB i) pc = .ok (.iastore, len)) (ha : act i pc (.iastore) len L S h = some (.inl (pc', L', S', h'))) (hL : LR (ad b t) ls (mL i) L) (hW : WH b t ac D h H) (hS : va_S (fun q => b ≤ q) s.heap H locs) (hlen : h.length ≤ sB) (hcs : cells ≤ R.cells ∧ slots ≤ R.slots)
    (k : ∀ (ls' : Array Slot) (H' : Heap) (locs' : List Loc), LR (ad b t) ls' (mL i) L' → WH b t ac D h' H' → va_S (fun q => b ≤ q) s.heap H' locs' → W p l e R s m args below meth c H' locs' cells slots Q (F0 m pc' ls' (S'.map (cv (ad b t))))) : W p l e R s m args below meth c H locs cells slots Q (F0 m pc ls (S.map (cv (ad b t)))) := by
  obtain ⟨hx, hb, hr, hml, hown, hts, hlocks, hin, hE, hfr, hlo, hbs⟩ := C
  have ha' := ite_some ha; clear ha; obtain ⟨rfl, ha⟩ := ha'
  split at ha
  · rename_i x j a S0
    split at ha
    · rename_i y hy
      cases ha
      obtain ⟨n, f, hc, hin', rfl⟩ := putI_ok hy
      exact va_iast hx hb hE.1 hW (wz_D hlen) hS a 0 (wz_at hc) rfl (okx_in hin') hd (fun H1 locs1 hP1 _ hS1 => k _ _ _ hL (by
        have e := wz_set (ad b t) ac h a (.inr (0, n, .inl (upd f j.toNatClampNeg x)))
        unfold WH
        rw [← e]
        exact hP1) hS1)
    · cases ha
  · cases ha
theorem s_castore {p : Program} {l : Launch} {e : Env} {R : Room} {s : State} {m : MethodId} {args : Array Value} {below : List Frame} {meth : Method} {c : Code} {H : Heap} {locs : List Loc} {cells slots : Nat} {Q : State → Prop} {b : Nat} {t : Nat → Nat} {ac : Nat → ClassId} {D : va_G} {i pc len : Nat} {ls : Array Slot} {L S : List Value} {h : List hC} {pc' : Nat} {L' S' : List Value} {h' : List hC}  (C : Ctx b t ac D p s m args meth c R i) (hd : decode (mB i) pc = .ok (.castore, len)) (ha : act i pc (.castore) len L S h = some (.inl (pc', L', S', h'))) (hL : LR (ad b t) ls (mL i) L) (hW : WH b t ac D h H) (hS : va_S (fun q => b ≤ q) s.heap H locs) (hlen : h.length ≤ sB) (hcs : cells ≤ R.cells ∧ slots ≤ R.slots)
    (k : ∀ (ls' : Array Slot) (H' : Heap) (locs' : List Loc), LR (ad b t) ls' (mL i) L' → WH b t ac D h' H' → va_S (fun q => b ≤ q) s.heap H' locs' → W p l e R s m args below meth c H' locs' cells slots Q (F0 m pc' ls' (S'.map (cv (ad b t))))) : W p l e R s m args below meth c H locs cells slots Q (F0 m pc ls (S.map (cv (ad b t)))) := by
  obtain ⟨hx, hb, hr, hml, hown, hts, hlocks, hin, hE, hfr, hlo, hbs⟩ := C
  have ha' := ite_some ha; clear ha; obtain ⟨rfl, ha⟩ := ha'
  split at ha
  · rename_i x j a S0
    split at ha
    · rename_i y hy
      cases ha
      obtain ⟨n, f, hc, hin', rfl⟩ := putI_ok hy
      exact va_cast hx hb hE.1 hW (wz_D hlen) hS a 1 (wz_at hc) rfl (okx_in hin') hd (fun H1 locs1 hP1 _ hS1 => k _ _ _ hL (by
        have e := wz_set (ad b t) ac h a (.inr (1, n, .inl (upd f j.toNatClampNeg (vp_nar .char x))))
        unfold WH
        rw [← e]
        exact hP1) hS1)
    · cases ha
  · cases ha
theorem s_aastore {p : Program} {l : Launch} {e : Env} {R : Room} {s : State} {m : MethodId} {args : Array Value} {below : List Frame} {meth : Method} {c : Code} {H : Heap} {locs : List Loc} {cells slots : Nat} {Q : State → Prop} {b : Nat} {t : Nat → Nat} {ac : Nat → ClassId} {D : va_G} {i pc len : Nat} {ls : Array Slot} {L S : List Value} {h : List hC} {pc' : Nat} {L' S' : List Value} {h' : List hC}  (C : Ctx b t ac D p s m args meth c R i) (hd : decode (mB i) pc = .ok (.aastore, len)) (ha : act i pc (.aastore) len L S h = some (.inl (pc', L', S', h'))) (hL : LR (ad b t) ls (mL i) L) (hW : WH b t ac D h H) (hS : va_S (fun q => b ≤ q) s.heap H locs) (hlen : h.length ≤ sB) (hcs : cells ≤ R.cells ∧ slots ≤ R.slots)
    (k : ∀ (ls' : Array Slot) (H' : Heap) (locs' : List Loc), LR (ad b t) ls' (mL i) L' → WH b t ac D h' H' → va_S (fun q => b ≤ q) s.heap H' locs' → W p l e R s m args below meth c H' locs' cells slots Q (F0 m pc' ls' (S'.map (cv (ad b t))))) : W p l e R s m args below meth c H locs cells slots Q (F0 m pc ls (S.map (cv (ad b t)))) := by
  obtain ⟨hx, hb, hr, hml, hown, hts, hlocks, hin, hE, hfr, hlo, hbs⟩ := C
  have ha' := ite_some ha; clear ha; obtain ⟨rfl, ha⟩ := ha'
  split at ha
  · rename_i v j a S0
    split at ha
    · rename_i y hy
      cases ha
      obtain ⟨u, n, g, fs, hc, hv, hu, hin', rfl⟩ := putQ_ok hy
      have e0 := wz_set (ad b t) ac h a (.inr (u, n, .inr (va_up g j.toNatClampNeg (some v))))
      have e1 : ce (ad b t) ac (.inr (u, n, .inr (va_up g j.toNatClampNeg (some v)))) = .inl (ac u, n, .inr (.inr (.inr (.inr (va_up (fun j => (g j).map (ad b t)) j.toNatClampNeg (some (ad b t v))))))) := by
        have hf : (fun z => (va_up g j.toNatClampNeg (some v) z).map (ad b t)) = va_up (fun j => (g j).map (ad b t)) j.toNatClampNeg (some (ad b t v)) := by
          funext z
          unfold va_up
          by_cases hz : z = j.toNatClampNeg
          · rw [if_pos hz, if_pos hz]; rfl
          · rw [if_neg hz, if_neg hz]
        simp only [ce]
        rw [hf]
      rw [e1] at e0
      have k2 : ∀ (H1 : Heap) (locs1 : List Loc), va_P D vwCl ((wz (ad b t) ac h).set a (ad b t a, .inl (ac u, n, .inr (.inr (.inr (.inr (va_up (fun j => (g j).map (ad b t)) j.toNatClampNeg (some (ad b t v))))))))) H1 → va_S (fun q => b ≤ q) s.heap H1 locs1 → W p l e R s m args below meth c H1 locs1 cells slots Q (F0 m (pc + 1) ls (S'.map (cv (ad b t)))) := by
        intro H1 locs1 hP1 hS1
        rw [e0] at hP1
        exact k _ _ _ hL hP1 hS1
      rcases hu with rfl | rfl
      · exact va_astq hx hb hE.1 hW (wz_D hlen) hS a 2 v 0 (r := (RX0, TX0, 8)) (wz_at hc) rfl (wz_at hv) rfl (okx_in hin') hd (fun H1 locs1 hP1 _ hS1 => k2 H1 locs1 hP1 hS1)
      · exact va_astq hx hb hE.1 hW (wz_D hlen) hS a 3 v 9 (r := (RX9, TX9, 12)) (wz_at hc) rfl (wz_at hv) rfl (okx_in hin') hd (fun H1 locs1 hP1 _ hS1 => k2 H1 locs1 hP1 hS1)
    · cases ha
  · cases ha
end
section
/-! the machine does what the small machine does: calls, new cells, ends, and the whole -/
theorem lref_ok {oc i k j : Nat} (h : lref oc i = some (k, j)) :
    (k = 0 → j < mtab.length ∧ (mP j).1 = 0 ∧ Cond.methodLink (fR oc) i (mN j) ∈ gw) ∧ (k = 1 → j < mtab.length ∧ (mP j).1 = 2 ∧ Cond.methodLink (fR oc) i (mN j) ∈ gw) ∧
    (k = 2 → j < mtab.length ∧ (mP j).1 = 1 ∧ Cond.methodLink (fR oc) i (mN j) ∈ gw) ∧ (k = 3 → j < mtab.length ∧ (mP j).1 = 1 ∧ (fR oc, i, mN j, RX10) ∈ ntab) ∧ (k = 4 → j < mtab.length ∧ (mP j).1 = 2 ∧ (fR oc, i, mN j, RX10) ∈ ntab) ∧
    (k = 5 → Cond.methodLink (fR oc) i Lib.objectInit ∈ gw) ∧ (k = 6 → Cond.methodLink (fR oc) i Lib.Math.max.name ∈ gw) ∧ (k = 7 → Cond.methodLink (fR oc) i Lib.Math.min.name ∈ gw) ∧ (k = 8 → Cond.methodLink (fR oc) i arraycopyName ∈ gw) := by
  unfold lref at h
  cases he : ltab.find? (fun e => e.1 == oc && e.2.1 == i) with
  | none => rw [he] at h; cases h
  | some e =>
    rw [he] at h
    have h1 := List.find?_some he
    have h2 := List.all_eq_true.mp ltab_ok e (List.mem_of_find?_eq_some he)
    obtain ⟨a, b, c, d, q⟩ := e
    cases h
    simp only [Bool.and_eq_true, beq_iff_eq] at h1
    obtain ⟨rfl, rfl⟩ := h1
    refine ⟨?_, ?_, ?_, ?_, ?_, ?_, ?_, ?_, ?_⟩
    all_goals
      intro hk
      subst hk
      simp only [Bool.and_eq_true, decide_eq_true_eq] at h2
    · exact ⟨h2.1.1, h2.1.2, lw_at h2.2 rfl⟩
    · exact ⟨h2.1.1, h2.1.2, lw_at h2.2 rfl⟩
    · exact ⟨h2.1.1, h2.1.2, lw_at h2.2 rfl⟩
    · exact ⟨h2.1.1, h2.1.2, List.mem_of_getElem? h2.2⟩
    · exact ⟨h2.1.1, h2.1.2, List.mem_of_getElem? h2.2⟩
    · exact lw_at h2 rfl
    · exact lw_at h2 rfl
    · exact lw_at h2 rfl
    · exact lw_at h2 rfl
theorem jdk_at : Cond.instanceMethod Lib.objectInit ∈ gw ∧ Cond.code Lib.objectInit ⟨#[0xb1]⟩ 1 none ∈ gw ∧ Cond.initialized "java/lang/Math" ∈ gw ∧ Cond.initialized "java/lang/System" ∈ gw ∧ Cond.static Lib.Math.min.name ∈ gw ∧ Cond.code Lib.Math.min.name Lib.Math.min.code 2 (some .int) ∈ gw ∧ Cond.static arraycopyName ∈ gw ∧ Cond.native arraycopyName ∈ gw ∧ Cond.static Lib.Math.max.name ∈ gw ∧ Cond.code Lib.Math.max.name Lib.Math.max.code 2 (some .int) ∈ gw ∧ Cond.arrayClass .int ∈ gw ∧ Cond.arrayClass .char ∈ gw := by
  have h := jdk_ok
  simp only [Bool.and_eq_true, decide_eq_true_eq] at h
  obtain ⟨⟨⟨⟨⟨⟨⟨⟨⟨⟨⟨h1, h2⟩, h3⟩, h4⟩, h5⟩, h6⟩, h7⟩, h8⟩, h9⟩, h10⟩, h11⟩, h12⟩ := h
  exact ⟨lw_at h1 rfl, lw_at h2 rfl, lw_at h3 rfl, lw_at h4 rfl, lw_at h5 rfl, lw_at h6 rfl, lw_at h7 rfl, lw_at h8 rfl, lw_at h9 rfl, lw_at h10 rfl, lw_at h11 rfl, lw_at h12 rfl⟩
theorem mlen : mtab.length = 209 := by decide +kernel
theorem mcode_at {j : Nat} (hj : j < mtab.length) : Cond.code (mN j) (mB j) (mL j) (mR j) ∈ gw := by
  rw [mlen] at hj
  have h := congrArg (fun z => z[j]?) codes_ok
  simp only [List.getElem?_map, List.getElem?_range hj, Option.map_some] at h
  exact lw_at (Option.some.inj h) rfl
theorem mrow_at {j : Nat} (hj : j < mtab.length) : Cond.initialized (mN j).cls ∈ gw ∧ (mN j).cls = fR (mC j) ∧ mC j < 12 ∧ plainName (mN j).cls = true ∧ (mN j).cls ≠ "java/lang/invoke/MethodHandle" ∧ (mN j).cls ≠ "java/lang/invoke/VarHandle" ∧
    ((mP j).1 = 0 → Cond.instanceMethod (mN j) ∈ gw ∧ Cond.selects (mN j).cls (mN j) (mN j) ∈ gw ∧ (parseMethodDescriptor (mN j).desc).map (fun d => d.parameters.length + 1) = some (mA j)) ∧
    ((mP j).1 = 1 → Cond.instanceMethod (mN j) ∈ gw ∧ (mN j).name = "<init>" ∧ mR j = none ∧ (parseMethodDescriptor (mN j).desc).map (fun d => d.parameters.length + 1) = some (mA j)) ∧
    ((mP j).1 = 2 → Cond.static (mN j) ∈ gw ∧ (parseMethodDescriptor (mN j).desc).map (fun d => d.parameters.length) = some (mA j)) := by
  have h := List.all_eq_true.mp mtab_ok j (List.mem_range.mpr hj)
  simp only [Bool.and_eq_true, decide_eq_true_eq] at h
  obtain ⟨⟨⟨⟨⟨⟨h1, h2⟩, h3⟩, h4⟩, h5⟩, h6⟩, h7⟩ := h
  refine ⟨lw_at h1 rfl, h2, h3, h4, h5, h6, fun q => ?_, fun q => ?_, fun q => ?_⟩
  · rw [q] at h7
    simp only [Bool.and_eq_true, decide_eq_true_eq] at h7
    exact ⟨lw_at h7.1.1 rfl, lw_at h7.1.2 rfl, h7.2⟩
  · rw [q] at h7
    simp only [Bool.and_eq_true, decide_eq_true_eq] at h7
    exact ⟨lw_at h7.1.1.1 rfl, h7.1.1.2, h7.1.2, h7.2⟩
  · rw [q] at h7
    simp only [Bool.and_eq_true, decide_eq_true_eq] at h7
    exact ⟨lw_at h7.1 rfl, h7.2⟩
theorem gw_all {ws : List Cond} (h : ∀ w ∈ ws, w ∈ gw) : GoodIn gw ws := fun w hw => ⟨h w hw, good_of_word (gw_good w (h w hw))⟩
abbrev wsm (j : Nat) : List Cond := .code (mN j) (mB j) (mL j) (mR j) :: gw
theorem wsm_in {j : Nat} (hj : j < mtab.length) : ∀ w ∈ wsm j, w ∈ gw := fun w hw => (List.mem_cons.mp hw).elim (fun e => e ▸ mcode_at hj) id
theorem desc_n {j n : Nat} (h : (parseMethodDescriptor (mN j).desc).map (fun d => d.parameters.length + 1) = some (n + 1)) : (parseMethodDescriptor (mN j).desc).map (fun d => d.parameters.length) = some n := by
  cases hp : parseMethodDescriptor (mN j).desc with
  | none => rw [hp] at h; cases h
  | some d => rw [hp] at h; simp only [Option.map_some, Option.some.injEq] at h ⊢; omega
section SND
variable {p : Program} {l : Launch} {e : Env} {R : Room} {s : State} {m : MethodId} {args : Array Value} {below : List Frame} {meth : Method} {c : Code} {H : Heap} {locs : List Loc} {cells slots : Nat} {Q : State → Prop} {b : Nat} {t : Nat → Nat} {ac : Nat → ClassId} {D : va_G} {i pc len : Nat} {ls : Array Slot} {L S : List Value} {h : List hC}
theorem s_invS {pc' idx : Nat} {L' S' : List Value} {h' : List hC} (C : Ctx b t ac D p s m args meth c R i) (hd : decode (mB i) pc = .ok (.invokestatic idx, len)) (ha : act i pc (.invokestatic idx) len L S h = some (.inl (pc', L', S', h'))) (hL : LR (ad b t) ls (mL i) L) (hW : WH b t ac D h H) (hS : va_S (fun q => b ≤ q) s.heap H locs) (hlen : h.length ≤ sB) (hcs : cells ≤ R.cells ∧ slots ≤ R.slots)
    (k : ∀ (ls' : Array Slot) (H' : Heap) (locs' : List Loc), LR (ad b t) ls' (mL i) L' → WH b t ac D h' H' → va_S (fun q => b ≤ q) s.heap H' locs' → W p l e R s m args below meth c H' locs' cells slots Q (F0 m pc' ls' (S'.map (cv (ad b t))))) : W p l e R s m args below meth c H locs cells slots Q (F0 m pc ls (S.map (cv (ad b t)))) := by
  obtain ⟨hx, hb, hr, hml, hown, hts, hlocks, hin, hE, hfr, hlo, hbs⟩ := C
  have jd := jdk_at
  have ha' := ite_some ha; clear ha; obtain ⟨rfl, ha⟩ := ha'
  unfold invS at ha
  split at ha
  · split at ha
    · cases ha
    · cases ha
  · split at ha
    · cases ha
    · cases ha
  · rename_i hl
    split at ha
    · split at ha
      · rename_i hc
        simp only [Bool.and_eq_true, decide_eq_true_eq] at hc
        cases ha
        have hk := k _ _ _ hL hW hS
        exact va_mmax hx hb (by rw [hml, hL.1]) hown (hts _ ((lref_ok hl).2.2.2.2.2.2.1 rfl)) (hts _ jd.2.2.2.2.2.2.2.2.1) (hts _ jd.2.2.1) (hts _ jd.2.2.2.2.2.2.2.2.2.1) (by omega) (by rw [cat_sum _ hc.2]; omega) hcs.1 hcs.2 hd hk
      · cases ha
    · cases ha
  · rename_i hl
    split at ha
    · split at ha
      · rename_i hc
        simp only [Bool.and_eq_true, decide_eq_true_eq] at hc
        cases ha
        have hk := k _ _ _ hL hW hS
        exact va_mmin hx hb (by rw [hml, hL.1]) hown (hts _ ((lref_ok hl).2.2.2.2.2.2.2.1 rfl)) (hts _ jd.2.2.2.2.1) (hts _ jd.2.2.1) (hts _ jd.2.2.2.2.2.1) (by omega) (by rw [cat_sum _ hc.2]; omega) hcs.1 hcs.2 hd hk
      · cases ha
    · cases ha
  · rename_i hl
    split at ha
    · rename_i n dp a1 sp a0 S0
      split at ha
      · rename_i hc
        simp only [Bool.and_eq_true, decide_eq_true_eq] at hc
        split at ha
        · rename_i y hy
          cases ha
          obtain ⟨n0, f, n1, g, h0, h1, ⟨g1, g2, g3, g4, g5⟩, rfl⟩ := cpyI_ok hy
          have rn := room_nat
          refine va_copyi hx hb (by rw [hml, hL.1]) hown (hts _ ((lref_ok hl).2.2.2.2.2.2.2.2 rfl)) (hts _ jd.2.2.2.2.2.2.2.1) (hts _ jd.2.2.2.2.2.2.1) (hts _ jd.2.2.2.1) hE.1 hW (wz_D hlen) hS a0 a1 0 0 (wz_at h0) (wz_at h1) rfl rfl rfl g1 g2 g3 g4 g5 (fun _ _ => rfl) (by omega) (by rw [cat_sum _ hc.2]; omega) hd (fun H1 locs1 hP1 _ hS1 => k _ _ _ hL (by
            have he1 := wz_set (ad b t) ac h a1 (.inr (0, n1, .inl (va_cpy f g sp.toNatClampNeg dp.toNatClampNeg n.toNatClampNeg)))
            unfold WH
            rw [← he1]
            exact hP1) hS1)
        · cases ha
      · cases ha
    · cases ha
  · cases ha
theorem s_invI {pc' idx : Nat} {L' S' : List Value} {h' : List hC} (C : Ctx b t ac D p s m args meth c R i) (hd : decode (mB i) pc = .ok (.invokespecial idx, len)) (ha : act i pc (.invokespecial idx) len L S h = some (.inl (pc', L', S', h'))) (hL : LR (ad b t) ls (mL i) L) (hW : WH b t ac D h H) (hS : va_S (fun q => b ≤ q) s.heap H locs) (hlen : h.length ≤ sB) (hcs : cells ≤ R.cells ∧ slots ≤ R.slots)
    (k : ∀ (ls' : Array Slot) (H' : Heap) (locs' : List Loc), LR (ad b t) ls' (mL i) L' → WH b t ac D h' H' → va_S (fun q => b ≤ q) s.heap H' locs' → W p l e R s m args below meth c H' locs' cells slots Q (F0 m pc' ls' (S'.map (cv (ad b t))))) : W p l e R s m args below meth c H locs cells slots Q (F0 m pc ls (S.map (cv (ad b t)))) := by
  obtain ⟨hx, hb, hr, hml, hown, hts, hlocks, hin, hE, hfr, hlo, hbs⟩ := C
  have jd := jdk_at
  have ha' := ite_some ha; clear ha; obtain ⟨rfl, ha⟩ := ha'
  unfold invI at ha
  split at ha
  · repeat' split at ha
    all_goals (cases ha)
  · repeat' split at ha
    all_goals (cases ha)
  · rename_i hl
    split at ha
    · split at ha
      · rename_i hc
        simp only [Bool.and_eq_true, decide_eq_true_eq] at hc
        cases ha
        have hk := k _ _ _ hL hW hS
        refine W.objInit hx hb hown (hts _ ((lref_ok hl).2.2.2.2.2.1 rfl)) (hts _ jd.1) (hts _ jd.2.1) rfl (by rw [hml]; exact hL.1) rfl hd (by omega) (by
          show 2 * 0 + _ + 12 ≤ _
          rw [cat_sum _ hc.2]; omega) ?_
        exact W.eq rfl hk
      · cases ha
    · cases ha
  · cases ha
theorem s_next {ins : Instr} {pc' : Nat} {L' S' : List Value} {h' : List hC} (C : Ctx b t ac D p s m args meth c R i) (hd : decode (mB i) pc = .ok (ins, len)) (ha : act i pc ins len L S h = some (.inl (pc', L', S', h'))) (hL : LR (ad b t) ls (mL i) L) (hW : WH b t ac D h H) (hS : va_S (fun q => b ≤ q) s.heap H locs) (hlen : h.length ≤ sB) (hcs : cells ≤ R.cells ∧ slots ≤ R.slots)
    (k : ∀ (ls' : Array Slot) (H' : Heap) (locs' : List Loc), LR (ad b t) ls' (mL i) L' → WH b t ac D h' H' → va_S (fun q => b ≤ q) s.heap H' locs' → W p l e R s m args below meth c H' locs' cells slots Q (F0 m pc' ls' (S'.map (cv (ad b t))))) : W p l e R s m args below meth c H locs cells slots Q (F0 m pc ls (S.map (cv (ad b t)))) := by
  cases ins
  case aload => exact s_aload C hd ha hL hW hS hlen hcs k
  case aload_n => exact s_aload_n C hd ha hL hW hS hlen hcs k
  case iload => exact s_iload C hd ha hL hW hS hlen hcs k
  case iload_n => exact s_iload_n C hd ha hL hW hS hlen hcs k
  case astore => exact s_astore C hd ha hL hW hS hlen hcs k
  case astore_n => exact s_astore_n C hd ha hL hW hS hlen hcs k
  case istore => exact s_istore C hd ha hL hW hS hlen hcs k
  case istore_n => exact s_istore_n C hd ha hL hW hS hlen hcs k
  case iconst => exact s_iconst C hd ha hL hW hS hlen hcs k
  case bipush => exact s_bipush C hd ha hL hW hS hlen hcs k
  case sipush => exact s_sipush C hd ha hL hW hS hlen hcs k
  case aconst_null => exact s_null C hd ha hL hW hS hlen hcs k
  case ldc => exact s_ldc C hd ha hL hW hS hlen hcs k
  case iadd => exact s_iadd C hd ha hL hW hS hlen hcs k
  case isub => exact s_isub C hd ha hL hW hS hlen hcs k
  case imul => exact s_imul C hd ha hL hW hS hlen hcs k
  case iand => exact s_iand C hd ha hL hW hS hlen hcs k
  case ior => exact s_ior C hd ha hL hW hS hlen hcs k
  case ishl => exact s_ishl C hd ha hL hW hS hlen hcs k
  case ishr => exact s_ishr C hd ha hL hW hS hlen hcs k
  case idiv => exact s_idiv C hd ha hL hW hS hlen hcs k
  case irem => exact s_irem C hd ha hL hW hS hlen hcs k
  case i2c => exact s_i2c C hd ha hL hW hS hlen hcs k
  case iinc => exact s_iinc C hd ha hL hW hS hlen hcs k
  case dup => exact s_dup C hd ha hL hW hS hlen hcs k
  case pop => exact s_pop C hd ha hL hW hS hlen hcs k
  case dup2 => exact s_dup2 C hd ha hL hW hS hlen hcs k
  case goto => exact s_goto C hd ha hL hW hS hlen hcs k
  case ifCond cnd off =>
    cases cnd
    · exact s_if_eq C hd ha hL hW hS hlen hcs k
    · exact s_if_ne C hd ha hL hW hS hlen hcs k
    · exact s_if_lt C hd ha hL hW hS hlen hcs k
    · exact s_if_ge C hd ha hL hW hS hlen hcs k
    · exact s_if_gt C hd ha hL hW hS hlen hcs k
    · exact s_if_le C hd ha hL hW hS hlen hcs k
  case if_icmp cnd off =>
    cases cnd
    · exact s_icmp_eq C hd ha hL hW hS hlen hcs k
    · exact s_icmp_ne C hd ha hL hW hS hlen hcs k
    · exact s_icmp_lt C hd ha hL hW hS hlen hcs k
    · exact s_icmp_ge C hd ha hL hW hS hlen hcs k
    · exact s_icmp_gt C hd ha hL hW hS hlen hcs k
    · exact s_icmp_le C hd ha hL hW hS hlen hcs k
  case ifnull => exact s_ifnull C hd ha hL hW hS hlen hcs k
  case ifnonnull => exact s_ifnonnull C hd ha hL hW hS hlen hcs k
  case tableswitch => exact s_table C hd ha hL hW hS hlen hcs k
  case lookupswitch => exact s_lookup C hd ha hL hW hS hlen hcs k
  case getfield => exact s_getfield C hd ha hL hW hS hlen hcs k
  case putfield => exact s_putfield C hd ha hL hW hS hlen hcs k
  case getstatic => exact s_getstatic C hd ha hL hW hS hlen hcs k
  case iaload => exact s_iaload C hd ha hL hW hS hlen hcs k
  case caload => exact s_caload C hd ha hL hW hS hlen hcs k
  case aaload => exact s_aaload C hd ha hL hW hS hlen hcs k
  case iastore => exact s_iastore C hd ha hL hW hS hlen hcs k
  case castore => exact s_castore C hd ha hL hW hS hlen hcs k
  case aastore => exact s_aastore C hd ha hL hW hS hlen hcs k
  case invokestatic => exact s_invS C hd ha hL hW hS hlen hcs k
  case invokespecial => exact s_invI C hd ha hL hW hS hlen hcs k
  all_goals (simp only [act, invV] at ha)
  all_goals (repeat' split at ha)
  all_goals (cases ha)
theorem dfl_ok : (List.range 12).all (fun ci => (List.range (fN ci)).all (fun k => decide (defaultValue (fty ci k) = dfl (fty ci k)))) = true := by decide +kernel
theorem dfl_cv {r : Nat → Nat} (ty : FieldType) : cv r (dfl ty) = dfl ty := by cases ty <;> rfl
/-- a new cell -/
theorem s_alloc {ins : Instr} {pc' : Nat} {S' : List Value} {x : hC} (C : Ctx b t ac D p s m args meth c R i) (hd : decode (mB i) pc = .ok (ins, len)) (ha : act i pc ins len L S h = some (.inr (.inr (.inl (x, pc', S'))))) (hW : WH b t ac D h H) (hS : va_S (fun q => b ≤ q) s.heap H locs) (hlen : h.length < sB) (hsz : s.heap.size + cells ≤ b + h.length) (hcs : cells + 1 ≤ R.cells ∧ slots + csz x ≤ R.slots)
    (k : ∀ (H' : Heap) (locs' : List Loc), WH b t ac D (h ++ [x]) H' → va_S (fun q => b ≤ q) s.heap H' locs' → W p l e R s m args below meth c H' locs' (cells + 1) (slots + csz x) Q (F0 m pc' ls ((.ref h.length :: S').map (cv (ad b t))))) : W p l e R s m args below meth c H locs cells slots Q (F0 m pc ls (S.map (cv (ad b t)))) := by
  obtain ⟨hx, hb, hr, hml, hown, hts, hlocks, hin, hE, hfr, hlo, hbs⟩ := C
  have hA : ∀ q : Nat, s.heap.size ≤ q → b ≤ q := fun q hq => Nat.le_trans hbs hq
  have jd := jdk_at
  -- the new cell's address is the next one
  have key : ∀ (q : Nat) (H1 : Heap) (g : JFrame), va_P D vwCl (wz (ad b t) ac h ++ [(q, ce (ad b t) ac x)]) H1 → va_D (fun q => b ≤ q) (wz (ad b t) ac h ++ [(q, ce (ad b t) ac x)]) → va_S (fun q => b ≤ q) s.heap H1 locs →
      W p l e R s m args below meth c H1 locs (cells + 1) (slots + csz x) Q (F0 m pc' ls (.ref q :: S'.map (cv (ad b t)))) := by
    intro q H1 g hP1 hD1 hS1 T hT X
    have hlw : (wz (ad b t) ac h).length = h.length := by simp [wz]
    have hlast : (wz (ad b t) ac h ++ [(q, ce (ad b t) ac x)])[h.length]? = some (q, ce (ad b t) ac x) := by
      rw [List.getElem?_append_right (by omega), hlw, Nat.sub_self]; rfl
    have h1 : q < H1.size := (hP1 _ _ hlast).lt
    have h2 : H1.size ≤ s.heap.size + (cells + 1) := by rw [← hT]; exact X.heapSize
    have h3 : b ≤ q := hD1.2 _ _ hlast
    have h4 : ¬ q < b + h.length := by
      intro hq
      have hk : q - b < h.length := by omega
      have hat := wz_at (r := ad b t) (ac := ac) (h := h) (k := q - b) (x := h[q - b]) (List.getElem?_eq_getElem hk)
      have hat2 : (wz (ad b t) ac h ++ [(q, ce (ad b t) ac x)])[q - b]? = some (ad b t (q - b), ce (ad b t) ac h[q - b]) := by
        rw [List.getElem?_append_left (by omega)]; exact hat
      have := hD1.1 _ _ _ _ hat2 hlast (by
        show ad b t (q - b) = q
        rw [ad_lt (by omega)]; omega)
      omega
    have hq : q = ad b t h.length := by rw [ad_lt hlen]; omega
    subst hq
    rw [← wz_push] at hP1
    exact k H1 locs hP1 hS1 T hT X
  rcases act_alloc ha with ⟨idx, ci, rfl, rfl, hci, rfl, rfl, rfl⟩ | ⟨ty, n, rfl, rfl, rfl, hn, hn2, hty, rfl⟩ | ⟨idx, n, tt, rfl, rfl, rfl, hat, hn, hn2, htt, rfl, rfl⟩
  · obtain ⟨h12, hlink⟩ := nref_ok hci
    have hN : csz (.inl (ci, (List.range (fN ci)).map (fun k => dfl (fty ci k)))) = fN ci := by simp [csz]
    rw [hN] at hcs key
    refine va_new (ci := ci) (fs := ((List.range (fN ci)).map (fun k => dfl (fty ci k))).map (cv (ad b t))) hx hb hts (cls_at h12).2.2 (fty ci) (fun k hk => fty_ok h12 hk) hown (hts _ hlink) (hts _ (cls_at h12).1) (hts _ (cls_at h12).2.1) hE.1 hW (wz_D (Nat.le_of_lt hlen)) hS hA (vw_at h12) (fun j hj => ?_) hcs.1 hcs.2 hd (fun q H1 hP1 hD1 hS1 => key q H1 (F0 m 0 ls []) hP1 hD1 hS1)
    have := of_decide_eq_true (List.all_eq_true.mp (List.all_eq_true.mp dfl_ok ci (List.mem_range.mpr h12)) j (List.mem_range.mpr hj))
    rw [this]
    simp [vp_V, hj, dfl_cv]
  · rcases hty with ⟨rfl, rfl⟩ | ⟨rfl, rfl⟩
    · refine va_newa (atype := .int) (a0 := (n.toNatClampNeg, .inl (fun _ => 0))) hx hb (hts _ jd.2.2.2.2.2.2.2.2.2.2.1) rfl hE.1 hW (wz_D (Nat.le_of_lt hlen)) hS hA (fun cA => rfl) hn rfl (by show n.toNatClampNeg * 4 ≤ _; omega) hcs.1 hcs.2 hd (fun q cA H1 hK1 hP1 hD1 hS1 => ?_)
      have e1 : cA = ac 0 := by
        have z1 : s.vm.findClass ("[" ++ FieldType.int.toString) = some cA := (hK1.2 4 (cA, .int) rfl).2
        have z2 : s.vm.findClass ("[" ++ FieldType.int.toString) = some (ac 0) := (hE.1.2 0 (ac 0, .int) rfl).2
        exact Option.some.inj (z1.symm.trans z2)
      subst e1
      exact key q H1 (F0 m 0 ls []) hP1 hD1 hS1
    · refine va_newa (atype := .char) (a0 := (n.toNatClampNeg, .inl (fun _ => 0))) hx hb (hts _ jd.2.2.2.2.2.2.2.2.2.2.2) rfl hE.1 hW (wz_D (Nat.le_of_lt hlen)) hS hA (fun cA => rfl) hn rfl (by show n.toNatClampNeg * 2 ≤ _; omega) hcs.1 hcs.2 hd (fun q cA H1 hK1 hP1 hD1 hS1 => ?_)
      have e1 : cA = ac 1 := by
        have z1 : s.vm.findClass ("[" ++ FieldType.char.toString) = some cA := (hK1.2 4 (cA, .char) rfl).2
        have z2 : s.vm.findClass ("[" ++ FieldType.char.toString) = some (ac 1) := (hE.1.2 1 (ac 1, .char) rfl).2
        exact Option.some.inj (z1.symm.trans z2)
      subst e1
      exact key q H1 (F0 m 0 ls []) hP1 hD1 hS1
  · have e0 : ∀ cA : ClassId, (∃ (kA : Class) (comp : ClassId), s.vm.classes[cA]? = some kA ∧ kA.kind = .array comp (.object (fR (qcl tt))) ∧ s.vm.findClass (fR (qcl tt)) = some comp ∧ s.vm.findClass ("[" ++ (FieldType.object (fR (qcl tt))).toString) = some cA) → cA = ac tt := by
      intro cA ⟨_, _, _, _, _, z1⟩
      rcases htt with rfl | rfl
      · obtain ⟨_, _, _, _, _, z2⟩ := (hE.1.2 2 (ac 2, .object RX0) rfl).2
        exact Option.some.inj (z1.symm.trans z2)
      · obtain ⟨_, _, _, _, _, z2⟩ := (hE.1.2 3 (ac 3, .object RX9) rfl).2
        exact Option.some.inj (z1.symm.trans z2)
    have hover : va_AO (fR (qcl tt)) s := by
      rcases htt with rfl | rfl
      · exact hE.2.2.2.1
      · exact hE.2.2.2.2
    refine va_newq hx hb hown (hts _ (aref_ok hat)) hover hE.1 hW (wz_D (Nat.le_of_lt hlen)) hS hA hn rfl (by omega) hcs.1 hcs.2 hd (fun q cA H1 hK1 hP1 hD1 hS1 => ?_)
    have e1 := e0 cA (hK1.2 4 (cA, .object (fR (qcl tt))) rfl).2
    subst e1
    exact key q H1 (F0 m 0 ls []) hP1 hD1 hS1
end SND
end
section
/-! the whole: whatever the small machine answers, the machine answers -/
abbrev rmm (j a b : Nat) : Room := { frames := mF j, cells := a, slots := b, locals := mW j }
def Qm (b : Nat) (t : Nat → Nat) (ac : Nat → ClassId) (D : va_G) (v : Option Value) (h' : List hC) : Array Value → State → Outcome → State → Prop := fun _ st oc u => oc = .returned (v.map (cv (ad b t))) ∧ WH b t ac D h' u.heap ∧ va_F (fun q => b ≤ q) st u
def Pm (b : Nat) (t : Nat → Nat) (ac : Nat → ClassId) (D : va_G) (as : List Value) (h : List hC) : Array Value → State → Prop := va_Pc (as.map (cv (ad b t))) (fun U => WH b t ac D h U.heap ∧ EV b t ac D U ∧ b ≤ U.heap.size ∧ U.heap.size ≤ b + h.length)
theorem Pm_blind {b : Nat} {t : Nat → Nat} {ac : Nat → ClassId} {D : va_G} {as : List Value} {h : List hC} : FrameBlind (Pm b t ac D as h) := by
  intro a U g mk hp
  obtain ⟨h1, h2, h3, h4, h5⟩ := hp
  exact ⟨h1, h2, h3.call, h4, h5⟩
def Snd (l : Launch) (n : Nat) : Prop := ∀ (i pc : Nat) (L S : List Value) (h : List hC) (v : Option Value) (h' : List hC) (a bb : Nat), exec n i pc L S h = some (v, h', a, bb) →
  ∀ {p : Program} {e : Env} {R : Room} {s : State} {m : MethodId} {args : Array Value} {below : List Frame} {meth : Method} {c : Code} {b : Nat} {t : Nat → Nat} {ac : Nat → ClassId} {D : va_G} (_ : Ctx b t ac D p s m args meth c R i) (H : Heap) (locs : List Loc) (cells slots : Nat) (ls : Array Slot) (mc ms : Nat), LR (ad b t) ls (mL i) L → WH b t ac D h H → va_S (fun q => b ≤ q) s.heap H locs → h.length + a ≤ sB → s.heap.size + cells ≤ b + h.length → cells + a ≤ mc → slots + bb ≤ ms → mc ≤ R.cells → ms ≤ R.slots →
    W p l e R s m args below meth c H locs cells slots (MQ below (Qm b t ac D v h') args s mc ms (fun q => b ≤ q)) (F0 m pc ls (S.map (cv (ad b t))))
theorem lv_args1 : ∀ (vs : List Value) (i : Nat), (∀ v ∈ vs, v.category = 1) → ∀ (k : Nat) (v : Value), vs[k]? = some v → (i + k, v) ∈ lv_args i vs
  | [], _, _, k, v, h => by simp at h
  | w :: vs, i, hc, k, v, h => by
    have hw : ¬ w.category = 2 := by rw [hc w List.mem_cons_self]; decide
    simp only [lv_args, hw, if_false]
    cases k with
    | zero => rw [List.getElem?_cons_zero] at h; cases h; exact List.mem_cons_self
    | succ k =>
      rw [List.getElem?_cons_succ] at h
      have := lv_args1 vs (i + 1) (fun v hv => hc v (List.mem_cons_of_mem _ hv)) k v h
      rw [show i + (k + 1) = i + 1 + k by omega]
      exact List.mem_cons_of_mem _ this
theorem lg_len1 : ∀ (vs : List Value), (∀ v ∈ vs, v.category = 1) → (lg_sl vs).length = vs.length
  | [], _ => rfl
  | w :: vs, hc => by
    have hw : ¬ w.category = 2 := by rw [hc w List.mem_cons_self]; decide
    have := lg_len1 vs (fun v hv => hc v (List.mem_cons_of_mem _ hv))
    have e : lg_sl (w :: vs) = [Slot.val w] ++ lg_sl vs := by simp [lg_sl, hw]
    rw [e, List.length_append, this, List.length_singleton, List.length_cons]
    omega
theorem pad_LR {r : Nat → Nat} {j : Nat} {as : List Value} (hc : as.all cat1 = true) (hl : as.length ≤ mL j) :
    LR r ((lg_sl (as.map (cv r)) ++ List.replicate (mL j - (lg_sl (as.map (cv r))).length) Slot.unset).toArray) (mL j) (pad j as) := by
  have h1 : ∀ v ∈ as.map (cv r), v.category = 1 := by
    intro v hv
    obtain ⟨w, hw, rfl⟩ := List.mem_map.mp hv
    exact cat1_c (List.all_eq_true.mp hc w hw)
  have h2 := lg_len1 _ h1
  have h3 := lv_entry (as.map (cv r)) (n := mL j) (by rw [h2, List.length_map]; exact hl)
  refine ⟨h3.1, h3.2.1, by simp [pad]; omega, fun k v hk hv => ?_⟩
  unfold pad at hk
  by_cases hk2 : k < as.length
  · rw [List.getElem?_append_left hk2] at hk
    have := h3.2.2 (k, cv r v) (by
      have := lv_args1 _ 0 h1 k (cv r v) (by rw [List.getElem?_map, hk]; rfl)
      rwa [Nat.zero_add] at this)
    exact this
  · rw [List.getElem?_append_right (by omega)] at hk
    have := List.eq_of_mem_replicate (List.mem_of_getElem? hk)
    subst this
    cases hv
/-- a contract out of a run of the small machine -/
theorem met_of {l : Launch} {n : Nat} (hS : Snd l n) {b : Nat} {t : Nat → Nat} {ac : Nat → ClassId} {D : va_G} {j : Nat} {as : List Value} {h h' : List hC} {v : Option Value} {a bb : Nat} (hj : j < mtab.length) (hx : exec n j 0 (pad j as) [] h = some (v, h', a, bb)) (hc : as.all cat1 = true) (hl : as.length ≤ mL j) (hlen : h.length + a ≤ sB) :
    Met l (mN j) (wsm j) (rmm j a bb) (Pm b t ac D as h) (Qm b t ac D v h') a bb (fun q => b ≤ q) := by
  have hr := mrow_at hj
  refine Met.ofW (cc := mB j) (maxL := mL j) (ret := mR j) hr.2.2.2.1 rfl ?_
  intro p e s m args below meth c s₁ B hml hv
  obtain ⟨rfl, hW, hE, hb0, hsz⟩ := hv
  have hts := atoms_spec (ws := wsm j) B.pre
  have hown : s.vm.findClass (mN j).cls = some m.cls := findClass_of_methodNamed B.named
  rw [hr.2.1] at hown
  rw [lg_entry_eq]
  exact hS j 0 (pad j as) [] h v h' a bb hx (R := rmm j a bb) ⟨B.exec, B.bytes, B.returns, hml, hown, fun w hw => hts w (List.mem_cons_of_mem _ hw), B.notSynchronized, fun hn => by rw [← hn]; exact (name_of_methodNamed B.named B.method).1, hE, Nat.le_refl _, Nat.le_refl _, hb0⟩ s.heap [] 0 0 _ a bb (pad_LR hc hl) hW va_S.rf hlen hsz (by omega) (by omega) (Nat.le_refl _) (Nat.le_refl _)
section SND2
variable {p : Program} {l : Launch} {e : Env} {R : Room} {s : State} {m : MethodId} {args : Array Value} {below : List Frame} {meth : Method} {c : Code} {H : Heap} {locs : List Loc} {cells slots : Nat} {Q : State → Prop} {b : Nat} {t : Nat → Nat} {ac : Nat → ClassId} {D : va_G} {i pc len : Nat} {ls : Array Slot} {L S : List Value} {h : List hC}
theorem W_call {st0 rest : List Value} {a : Array Value} {mc ms : Nat} {v : Option Value} {h1 : List hC} (hr : va_Run p l e R s m args below meth c H locs cells slots mc ms (F0 m pc ls st0) rest (Qm b t ac D v h1 a) (fun q => b ≤ q)) (hS : va_S (fun q => b ≤ q) s.heap H locs)
    (kk : ∀ (H1 : Heap) (locs1 : List Loc), WH b t ac D h1 H1 → va_S (fun q => b ≤ q) s.heap H1 locs1 → W p l e R s m args below meth c H1 locs1 (cells + mc) (slots + ms) Q (F0 m (pc + 3) ls ((v.map (cv (ad b t))).toList ++ rest))) : W p l e R s m args below meth c H locs cells slots Q (F0 m pc ls st0) := by
  intro T hT X
  obtain ⟨w, st₀, u, T', L', h0, X', hL, e1, e2, ⟨hv, hw, hF⟩, st⟩ := hr T hT X
  have hv := Outcome.returned.inj hv
  subst hv
  rw [va_F, h0] at hF
  obtain ⟨u2, a1, b1⟩ := kk T'.heap (locs ++ L') (by rw [e1]; exact hw) ⟨Nat.le_trans hS.1 (by rw [e1]; exact hF.1), fun q g1 g2 => by rw [e1, hF.2 q (Nat.lt_of_lt_of_le g1 hS.1) g2]; exact hS.2.1 q g1 g2, fun q hq => (List.mem_append.mp hq).elim (hS.2.2 q) (hL q)⟩ T' rfl X'
  exact ⟨u2, st u2 a1, b1⟩
theorem s_call {n : Nat} (hSn : Snd l n) {ins : Instr} {j : Nat} {as rest : List Value} {v : Option Value} {h1 : List hC} {a1 b1 : Nat} (C : Ctx b t ac D p s m args meth c R i) (hd : decode (mB i) pc = .ok (ins, len)) (ha : act i pc ins len L S h = some (.inr (.inr (.inr (j, as, rest))))) (he : exec n j 0 (pad j as) [] h = some (v, h1, a1, b1)) (hL : LR (ad b t) ls (mL i) L) (hW : WH b t ac D h H) (hS : va_S (fun q => b ≤ q) s.heap H locs) (hlen : h.length + a1 ≤ sB) (hsz : s.heap.size + cells ≤ b + h.length) (hcs : cells + a1 ≤ R.cells ∧ slots + b1 ≤ R.slots)
    (k : ∀ (H' : Heap) (locs' : List Loc), WH b t ac D h1 H' → va_S (fun q => b ≤ q) s.heap H' locs' → W p l e R s m args below meth c H' locs' (cells + a1) (slots + b1) Q (F0 m (pc + 3) ls ((v.toList ++ rest).map (cv (ad b t))))) : W p l e R s m args below meth c H locs cells slots Q (F0 m pc ls (S.map (cv (ad b t)))) := by
  obtain ⟨hx, hb, hr, hml, hown, hts, hlocks, hin, hE, hfr, hlo, hbs⟩ := C
  obtain ⟨rfl, hroom, has, hrest, hkind⟩ := act_call ha
  obtain ⟨r1, r2, r3, r4, -, r6, r7⟩ := room_z hroom
  have hSS : S = as.reverse ++ rest := by rw [has, hrest, List.reverse_reverse, List.take_append_drop]
  have hall : as.all cat1 = true ∧ rest.all cat1 = true := by
    rw [hSS, List.all_append, Bool.and_eq_true, List.all_reverse] at r4
    exact r4
  have hasl : as.length = mA j := by rw [has, List.length_reverse, List.length_take]; omega
  have hrl : rest.length ≤ 8 := by rw [hrest, List.length_drop]; omega
  -- the call can only run when the heap is no larger than told: so it is read off at the machine's own state
  intro T hT X
  have hTs : H.size ≤ b + h.length := by
    have := X.heapSize
    rw [hT] at this
    omega
  have hb2 : b ≤ H.size := Nat.le_trans hbs hS.1
  have hPm : ∀ U : State, U.heap = H → s.WarmedH U.vm → Pm b t ac D as h ((as.map (cv (ad b t))).toArray) U := fun U hU hWm => ⟨rfl, by rw [hU]; exact hW, hE.to hS hWm hU, by rw [hU]; exact hb2, by rw [hU]; exact hTs⟩
  have hmon : 2 * (F0 m pc ls (S.map (cv (ad b t)))).monitorRoom + ((rest.map (cv (ad b t))).map fun v => v.category).sum ≤ 8 := lv_room (by rw [cat_sum _ hall.2]; exact hrl)
  have hvl : ((v.toList ++ rest).map (cv (ad b t))) = (v.map (cv (ad b t))).toList ++ rest.map (cv (ad b t)) := by
    cases v <;> simp
  have kk : ∀ (H' : Heap) (locs' : List Loc), WH b t ac D h1 H' → va_S (fun q => b ≤ q) s.heap H' locs' → W p l e R s m args below meth c H' locs' (cells + a1) (slots + b1) Q (F0 m (pc + 3) ls ((v.map (cv (ad b t))).toList ++ rest.map (cv (ad b t)))) := by
    intro H' locs' g1 g2
    rw [← hvl]
    exact k H' locs' g1 g2
  have hfix : CallFix p m c (mB i) (mL i) s args gw (fR (mC i)) := ⟨hx, hb, hml, hown, hts⟩
  rcases hkind with ⟨idx, b0, as', fs, rfl, hl, hb0, hcell⟩ | ⟨idx, kd, rfl, hkd, hl⟩ | ⟨idx, kd, b0, as', rfl, hkd, hl, hb0⟩
  · obtain ⟨hj, hP0, hlink⟩ := (lref_ok hl).1 rfl
    have hM := met_of hSn (b := b) (t := t) (ac := ac) (D := D) hj he hall.1 (by omega) hlen
    obtain ⟨w1, w2, w3, w4, w5, w6, w7, -, -⟩ := mrow_at hj
    obtain ⟨q1, q2, q3⟩ := w7 hP0
    subst hb0
    have hn : (parseMethodDescriptor (mN j).desc).map (fun d => d.parameters.length) = some as'.length := desc_n (by rw [q3, ← hasl]; rfl)
    refine W_call (va_runV (C := (mN j).cls) (As := as'.map (cv (ad b t))) (rest := rest.map (cv (ad b t))) (b := ad b t b0) hfix hM (cwV as'.length hts (gw_all (fun w hw => ?_)) rfl rfl rfl ⟨rfl, w5, w6, hn⟩ ⟨by show mF j + 1 ≤ R.frames; omega, by show 8 + (mL j + 11) + mW j ≤ R.locals; omega⟩) ⟨Pm_blind, ?_, fun U hU hWm => hPm U hU hWm⟩ rfl (by rw [List.length_map]) hL.1 ?_ hmon hd hcs) hS kk T hT X
    · rcases List.mem_append.mp hw with hw | hw
      · simp only [List.mem_cons, List.not_mem_nil, or_false] at hw
        rcases hw with rfl | rfl | rfl | rfl
        · exact hlink
        · exact q1
        · exact q2
        · exact w1
      · exact wsm_in hj w hw
    · rw [w2]
      exact va_recv hE.1 hW (vw_at w3) (wz_at hcell)
    · rw [hSS]
      simp [cv]
  · have hjs : j < mtab.length ∧ (mP j).1 = 2 := by
      rcases hkd with rfl | rfl
      · exact ⟨((lref_ok hl).2.1 rfl).1, ((lref_ok hl).2.1 rfl).2.1⟩
      · exact ⟨((lref_ok hl).2.2.2.2.1 rfl).1, ((lref_ok hl).2.2.2.2.1 rfl).2.1⟩
    obtain ⟨hj, hP0⟩ := hjs
    have hM := met_of hSn (b := b) (t := t) (ac := ac) (D := D) hj he hall.1 (by omega) hlen
    obtain ⟨w1, w2, w3, w4, w5, w6, -, -, w7⟩ := mrow_at hj
    obtain ⟨q1, q3⟩ := w7 hP0
    have hn : (parseMethodDescriptor (mN j).desc).map (fun d => d.parameters.length) = some as.length := by rw [q3, hasl]
    rcases hkd with rfl | rfl
    · have hlink := ((lref_ok hl).2.1 rfl).2.2
      refine W_call (va_runS (As := as.map (cv (ad b t))) (rest := rest.map (cv (ad b t))) hfix hM (va_cwS as.length hts (gw_all (fun w hw => ?_)) rfl rfl rfl ⟨w5, w6, hn⟩ ⟨by show mF j + 1 ≤ R.frames; omega, by show 8 + (mL j + 11) + mW j ≤ R.locals; omega⟩) ⟨Pm_blind, fun U hU hWm => hPm U hU hWm⟩ rfl (by rw [List.length_map]) hL.1 ?_ hmon hd hcs) hS kk T hT X
      · rcases List.mem_append.mp hw with hw | hw
        · simp only [List.mem_cons, List.not_mem_nil, or_false] at hw
          rcases hw with rfl | rfl | rfl
          · exact hlink
          · exact q1
          · exact w1
        · exact wsm_in hj w hw
      · rw [hSS]
        simp
    · have hnest := hE.2.1 _ ((lref_ok hl).2.2.2.2.1 rfl).2.2
      refine W_call (va_runSN (As := as.map (cv (ad b t))) (rest := rest.map (cv (ad b t))) hfix hM ⟨va_cnB as.length hts (gw_all (fun w hw => wsm_in hj w hw)) rfl rfl rfl hnest (hts _ w1) ⟨w5, w6, hn⟩ ⟨by show mF j + 1 ≤ R.frames; omega, by show 8 + (mL j + 11) + mW j ≤ R.locals; omega⟩, hts _ q1, trivial⟩ ⟨Pm_blind, fun U hU hWm => hPm U hU hWm⟩ rfl (by rw [List.length_map]) hL.1 ?_ hmon hd hcs) hS kk T hT X
      rw [hSS]
      simp
  · have hjs : j < mtab.length ∧ (mP j).1 = 1 := by
      rcases hkd with rfl | rfl
      · exact ⟨((lref_ok hl).2.2.1 rfl).1, ((lref_ok hl).2.2.1 rfl).2.1⟩
      · exact ⟨((lref_ok hl).2.2.2.1 rfl).1, ((lref_ok hl).2.2.2.1 rfl).2.1⟩
    obtain ⟨hj, hP0⟩ := hjs
    have hM := met_of hSn (b := b) (t := t) (ac := ac) (D := D) hj he hall.1 (by omega) hlen
    obtain ⟨w1, w2, w3, w4, w5, w6, -, w7, -⟩ := mrow_at hj
    obtain ⟨q1, q2, q4, q3⟩ := w7 hP0
    subst hb0
    have hn : (parseMethodDescriptor (mN j).desc).map (fun d => d.parameters.length) = some as'.length := desc_n (by rw [q3, ← hasl]; rfl)
    have hwr : wsm j = Cond.code (mN j) (mB j) (mL j) none :: gw := by unfold wsm; rw [q4]
    rcases hkd with rfl | rfl
    · have hlink := ((lref_ok hl).2.2.1 rfl).2.2
      refine W_call (va_runI (As := as'.map (cv (ad b t))) (rest := rest.map (cv (ad b t))) (b := ad b t b0) hfix hM (cwI as'.length hts (gw_all (fun w hw => wsm_in hj w hw)) hwr rfl rfl (hts _ w1) (hts _ hlink) (hts _ q1) q2 ⟨w5, w6, hn⟩ ⟨by show mF j + 1 ≤ R.frames; omega, by show 8 + (mL j + 11) + mW j ≤ R.locals; omega⟩) ⟨Pm_blind, fun U hU hWm => hPm U hU hWm⟩ rfl (by rw [List.length_map]) hL.1 ?_ hmon hd hcs) hS kk T hT X
      rw [hSS]
      simp [cv]
    · have hnest := hE.2.1 _ ((lref_ok hl).2.2.2.1 rfl).2.2
      refine W_call (va_runIN (As := as'.map (cv (ad b t))) (rest := rest.map (cv (ad b t))) (b := ad b t b0) hfix hM ⟨va_cnB as'.length hts (gw_all (fun w hw => wsm_in hj w hw)) hwr rfl rfl hnest (hts _ w1) ⟨w5, w6, hn⟩ ⟨by show mF j + 1 ≤ R.frames; omega, by show 8 + (mL j + 11) + mW j ≤ R.locals; omega⟩, q2, hts _ q1⟩ ⟨Pm_blind, fun U hU hWm => hPm U hU hWm⟩ rfl (by rw [List.length_map]) hL.1 ?_ hmon hd hcs) hS kk T hT X
      rw [hSS]
      simp [cv]
theorem s_ret {ins : Instr} {v : Option Value} {mc ms : Nat} (C : Ctx b t ac D p s m args meth c R i) (hd : decode (mB i) pc = .ok (ins, len)) (ha : act i pc ins len L S h = some (.inr (.inl v))) (hW : WH b t ac D h H) (hS : va_S (fun q => b ≤ q) s.heap H locs) (hc : cells ≤ mc) (hs : slots ≤ ms) :
    W p l e R s m args below meth c H locs cells slots (MQ below (Qm b t ac D v h) args s mc ms (fun q => b ≤ q)) (F0 m pc ls (S.map (cv (ad b t)))) := by
  obtain ⟨hx, hb, hr, hml, hown, hts, hlocks, hin, hE, hfr, hlo, hbs⟩ := C
  refine W.widen (k := mc) (n := ms) hc hs ?_
  obtain ⟨rfl, hk⟩ := act_ret ha
  rcases hk with ⟨x, ty, rfl, rfl, hty, hok, rfl⟩ | ⟨w, n, rfl, rfl, hty, hw, rfl⟩ | ⟨rfl, rfl, hty, rfl⟩
  · exact W.zret (ty := ty) hx hb (by rw [hr, hty]) (okv_n (r := ad b t) hok).1 (fun u hu _ => ⟨rfl, by rw [hu]; exact hW, hS.F hu⟩) (fun q hq => hS.2.2 q hq) hd hlocks
  · exact W.aret (v := cv (ad b t) w) (rt := .object n) hx hb (by rw [hr, hty]) (Or.inl ⟨n, rfl⟩) (by
      rcases hw with rfl | ⟨z, rfl⟩
      · exact Or.inl rfl
      · exact Or.inr ⟨_, rfl⟩) (fun u hu _ => ⟨rfl, by rw [hu]; exact hW, hS.F hu⟩) (fun q hq => hS.2.2 q hq) hd hlocks
  · exact W.vret hx hb (by rw [hr, hty]) (fun u hu _ => ⟨rfl, by rw [hu]; exact hW, hS.F hu⟩) (fun q hq => hS.2.2 q hq) hd hlocks
end SND2
theorem snd (l : Launch) : ∀ n : Nat, Snd l n := by
  intro n
  induction n with
  | zero => intro i pc L S h v h' a bb hv; cases hv
  | succ n ih =>
    intro i pc L S h v h' a bb hv p e R s m args below meth c b t ac D C H locs cells slots ls mc ms hL hW hS hlen hsz hc hs hmc hms
    change stp (exec n) i pc L S h = _ at hv
    unfold stp at hv
    cases hd : decode (mB i) pc with
    | error e => rw [hd] at hv; cases hv
    | ok q =>
      obtain ⟨ins, len⟩ := q
      simp only [hd] at hv
      cases ha : act i pc ins len L S h with
      | none => simp only [ha] at hv; cases hv
      | some r =>
        simp only [ha] at hv
        rcases r with ⟨pc', L', S', h1⟩ | v' | ⟨x, pc', S'⟩ | ⟨j, as, rest⟩
        · have hl1 := act_len ha
          exact s_next C hd ha hL hW hS (by omega) ⟨by omega, by omega⟩ (fun ls' H' locs' g1 g2 g3 => ih _ _ _ _ _ _ _ _ _ hv C H' locs' cells slots ls' mc ms g1 g2 g3 (by omega) (by omega) hc hs hmc hms)
        · cases hv
          exact s_ret C hd ha hW hS (by omega) (by omega)
        · simp only at hv
          split at hv
          · cases he : exec n i pc' L (.ref h.length :: S') (h ++ [x]) with
            | none => rw [he] at hv; cases hv
            | some w =>
              obtain ⟨v1, h1, a1, b1⟩ := w
              rw [he] at hv
              cases hv
              refine s_alloc C hd ha hW hS (by omega) hsz ⟨by omega, by omega⟩ (fun H' locs' g1 g2 => ih _ _ _ _ _ _ _ _ _ he C H' locs' (cells + 1) (slots + csz x) ls mc ms hL g1 g2 ?_ ?_ (by omega) (by omega) hmc hms)
              · rw [List.length_append, List.length_singleton]; omega
              · rw [List.length_append, List.length_singleton]; omega
          · cases hv
        · simp only at hv
          cases he : exec n j 0 (pad j as) [] h with
          | none => rw [he] at hv; cases hv
          | some w =>
            obtain ⟨v1, h1, a1, b1⟩ := w
            rw [he] at hv
            simp only at hv
            cases he2 : exec n i (pc + 3) L (v1.toList ++ rest) h1 with
            | none => rw [he2] at hv; cases hv
            | some w2 =>
              obtain ⟨v2, h2, a2, b2⟩ := w2
              rw [he2] at hv
              cases hv
              have hl1 := exec_len _ _ _ _ _ _ _ _ _ _ he
              exact s_call ih C hd ha he hL hW hS (by omega) hsz ⟨by omega, by omega⟩ (fun H' locs' g1 g2 => ih _ _ _ _ _ _ _ _ _ he2 C H' locs' (cells + a1) (slots + b1) ls mc ms hL g1 g2 (by omega) (by omega) (by omega) (by omega) hmc hms)
/-- THE CONTRACT of a method that makes no cell, out of its answer X -/
theorem met_X (l : Launch) {b : Nat} {t : Nat → Nat} {ac : Nat → ClassId} {D : va_G} {j : Nat} {as : List Value} {h h' : List hC} {v : Option Value} (hj : j < mtab.length) (hz : mZ j = false) (hx : X j 0 (pad j as) [] h = some (v, h')) (hc : as.all cat1 = true) (hl : as.length ≤ mL j) (hlen : h.length ≤ sB) :
    Met l (mN j) (wsm j) (rmm j 0 0) (Pm b t ac D as h) (Qm b t ac D v h') 0 0 (fun q => b ≤ q) := by
  obtain ⟨n, a, bb, hn⟩ := X_to hx
  obtain ⟨rfl, rfl⟩ := exec_none _ _ _ _ _ _ _ _ _ _ hz hn
  exact met_of (snd l n) hj hn hc hl (by omega)
end
section
/-! X, an instruction at a time -/
section XE
variable {i pc idx ci k a b j : Nat} {L S : List Value} {h : List hC}
theorem X_iload {n : Nat} {x : Int32} (hd : decode (mB i) pc = .ok (.iload n, 2)) (hl : L[n]? = some (.int x)) : X i pc L S h = X i (pc + 2) L (.int x :: S) h := X_next hd (by simp only [act, ldi, hl]; rfl)
theorem X_iload_n {n : Fin 4} {x : Int32} (hd : decode (mB i) pc = .ok (.iload_n n, 1)) (hl : L[(n : Nat)]? = some (.int x)) : X i pc L S h = X i (pc + 1) L (.int x :: S) h := X_next hd (by simp only [act, ldi, hl]; rfl)
theorem X_aload {n x : Nat} (hd : decode (mB i) pc = .ok (.aload n, 2)) (hl : L[n]? = some (.ref x)) : X i pc L S h = X i (pc + 2) L (.ref x :: S) h := X_next hd (by simp only [act, lda, hl]; rfl)
theorem X_aload_n {n : Fin 4} {x : Nat} (hd : decode (mB i) pc = .ok (.aload_n n, 1)) (hl : L[(n : Nat)]? = some (.ref x)) : X i pc L S h = X i (pc + 1) L (.ref x :: S) h := X_next hd (by simp only [act, lda, hl]; rfl)
theorem X_aloadN {n : Nat} (hd : decode (mB i) pc = .ok (.aload n, 2)) (hl : L[n]? = some .null) : X i pc L S h = X i (pc + 2) L (.null :: S) h := X_next hd (by simp only [act, lda, hl]; rfl)
theorem X_aload_nN {n : Fin 4} (hd : decode (mB i) pc = .ok (.aload_n n, 1)) (hl : L[(n : Nat)]? = some .null) : X i pc L S h = X i (pc + 1) L (.null :: S) h := X_next hd (by simp only [act, lda, hl]; rfl)
theorem X_istore {n : Nat} {x : Int32} (hd : decode (mB i) pc = .ok (.istore n, 2)) (hl : n < L.length) : X i pc L (.int x :: S) h = X i (pc + 2) (L.set n (.int x)) S h := X_next hd (by simp only [act, sti, if_pos hl]; rfl)
theorem X_istore_n {n : Fin 4} {x : Int32} (hd : decode (mB i) pc = .ok (.istore_n n, 1)) (hl : (n : Nat) < L.length) : X i pc L (.int x :: S) h = X i (pc + 1) (L.set n (.int x)) S h := X_next hd (by simp only [act, sti, if_pos hl]; rfl)
theorem X_astore {n x : Nat} (hd : decode (mB i) pc = .ok (.astore n, 2)) (hl : n < L.length) : X i pc L (.ref x :: S) h = X i (pc + 2) (L.set n (.ref x)) S h := X_next hd (by simp only [act, sta, if_pos hl]; rfl)
theorem X_astore_n {n : Fin 4} {x : Nat} (hd : decode (mB i) pc = .ok (.astore_n n, 1)) (hl : (n : Nat) < L.length) : X i pc L (.ref x :: S) h = X i (pc + 1) (L.set n (.ref x)) S h := X_next hd (by simp only [act, sta, if_pos hl]; rfl)
theorem X_astoreN {n : Nat} (hd : decode (mB i) pc = .ok (.astore n, 2)) (hl : n < L.length) : X i pc L (.null :: S) h = X i (pc + 2) (L.set n .null) S h := X_next hd (by simp only [act, sta, if_pos hl]; rfl)
theorem X_astore_nN {n : Fin 4} (hd : decode (mB i) pc = .ok (.astore_n n, 1)) (hl : (n : Nat) < L.length) : X i pc L (.null :: S) h = X i (pc + 1) (L.set n .null) S h := X_next hd (by simp only [act, sta, if_pos hl]; rfl)
theorem X_iconst {n : Int} {v : Int32} (hd : decode (mB i) pc = .ok (.iconst n, 1)) (hv : Int32.ofInt n = v) : X i pc L S h = X i (pc + 1) L (.int v :: S) h := X_next hd (by subst hv; rfl)
theorem X_bipush {n : Int} {v : Int32} (hd : decode (mB i) pc = .ok (.bipush n, 2)) (hv : (Int8.ofInt n).toInt32 = v) : X i pc L S h = X i (pc + 2) L (.int v :: S) h := X_next hd (by subst hv; rfl)
theorem X_sipush {n : Int} {v : Int32} (hd : decode (mB i) pc = .ok (.sipush n, 3)) (hv : (Int16.ofInt n).toInt32 = v) : X i pc L S h = X i (pc + 3) L (.int v :: S) h := X_next hd (by subst hv; rfl)
theorem X_null (hd : decode (mB i) pc = .ok (.aconst_null, 1)) : X i pc L S h = X i (pc + 1) L (.null :: S) h := X_next hd rfl
theorem X_ldc {v : Int32} (hd : decode (mB i) pc = .ok (.ldc idx, 2)) (hv : kref (mC i) idx = some v) : X i pc L S h = X i (pc + 2) L (.int v :: S) h := X_next hd (by simp only [act, hv]; rfl)
theorem X_iadd {x y : Int32} (hd : decode (mB i) pc = .ok (.iadd, 1)) : X i pc L (.int y :: .int x :: S) h = X i (pc + 1) L (.int (x + y) :: S) h := X_next hd rfl
theorem X_isub {x y : Int32} (hd : decode (mB i) pc = .ok (.isub, 1)) : X i pc L (.int y :: .int x :: S) h = X i (pc + 1) L (.int (x - y) :: S) h := X_next hd rfl
theorem X_imul {x y : Int32} (hd : decode (mB i) pc = .ok (.imul, 1)) : X i pc L (.int y :: .int x :: S) h = X i (pc + 1) L (.int (x * y) :: S) h := X_next hd rfl
theorem X_iand {x y : Int32} (hd : decode (mB i) pc = .ok (.iand, 1)) : X i pc L (.int y :: .int x :: S) h = X i (pc + 1) L (.int (x &&& y) :: S) h := X_next hd rfl
theorem X_ior {x y : Int32} (hd : decode (mB i) pc = .ok (.ior, 1)) : X i pc L (.int y :: .int x :: S) h = X i (pc + 1) L (.int (x ||| y) :: S) h := X_next hd rfl
theorem X_ishl {x y : Int32} (hd : decode (mB i) pc = .ok (.ishl, 1)) : X i pc L (.int y :: .int x :: S) h = X i (pc + 1) L (.int (x <<< (y &&& 31)) :: S) h := X_next hd rfl
theorem X_ishr {x y : Int32} (hd : decode (mB i) pc = .ok (.ishr, 1)) : X i pc L (.int y :: .int x :: S) h = X i (pc + 1) L (.int (x >>> (y &&& 31)) :: S) h := X_next hd rfl
theorem X_idiv {x y : Int32} (hd : decode (mB i) pc = .ok (.idiv, 1)) : X i pc L (.int y :: .int x :: S) h = if y = 0 then none else X i (pc + 1) L (.int (x / y) :: S) h := by
  by_cases hy : y = 0
  · rw [if_pos hy]; exact X_stuck hd (by simp [act, hy])
  · rw [if_neg hy]; exact X_next hd (by simp [act, hy])
theorem X_irem {x y : Int32} (hd : decode (mB i) pc = .ok (.irem, 1)) : X i pc L (.int y :: .int x :: S) h = if y = 0 then none else X i (pc + 1) L (.int (x - x / y * y) :: S) h := by
  by_cases hy : y = 0
  · rw [if_pos hy]; exact X_stuck hd (by simp [act, hy])
  · rw [if_neg hy]; exact X_next hd (by simp [act, hy])
theorem X_i2c {x : Int32} (hd : decode (mB i) pc = .ok (.i2c, 1)) : X i pc L (.int x :: S) h = X i (pc + 1) L (.int (x.toUInt32 % 65536).toInt32 :: S) h := X_next hd rfl
theorem X_iinc {n : Nat} {d : Int} {x v : Int32} (hd : decode (mB i) pc = .ok (.iinc n d, 3)) (hl : L[n]? = some (.int x)) (hv : Int32.ofInt d = v) : X i pc L S h = X i (pc + 3) (L.set n (.int (x + v))) S h := X_next hd (by subst hv; simp only [act, hl]; rfl)
theorem X_dup {v : Value} (hd : decode (mB i) pc = .ok (.dup, 1)) (hv : cat1 v = true) : X i pc L (v :: S) h = X i (pc + 1) L (v :: v :: S) h := X_next hd (by simp [act, hv])
theorem X_pop {v : Value} (hd : decode (mB i) pc = .ok (.pop, 1)) (hv : cat1 v = true) : X i pc L (v :: S) h = X i (pc + 1) L S h := X_next hd (by simp [act, hv])
theorem X_dup2 {v w : Value} (hd : decode (mB i) pc = .ok (.dup2, 1)) (hv : cat1 v = true) (hw : cat1 w = true) : X i pc L (v :: w :: S) h = X i (pc + 1) L (v :: w :: v :: w :: S) h := X_next hd (by simp [act, hv, hw])
theorem X_goto {off : Int} {t : Nat} (hd : decode (mB i) pc = .ok (.goto off, 3)) (ht : (pc : Int) + off = (t : Int)) : X i pc L S h = X i t L S h := X_next hd (by simp [act, jmp, ht])
theorem X_if {c : ClassFile.Cond} {off : Int} {t : Nat} {x : Int32} (hd : decode (mB i) pc = .ok (.ifCond c off, 3)) (ht : (pc : Int) + off = (t : Int)) : X i pc L (.int x :: S) h = if cmpI c x 0 = true then X i t L S h else X i (pc + 3) L S h := by
  have e : act i pc (.ifCond c off) 3 L (.int x :: S) h = some (.inl (if cmpI c x 0 = true then t else pc + 3, L, S, h)) := by simp [act, ht]
  rw [X_next hd e]
  split <;> rfl
theorem X_icmp {c : ClassFile.Cond} {off : Int} {t : Nat} {x y : Int32} (hd : decode (mB i) pc = .ok (.if_icmp c off, 3)) (ht : (pc : Int) + off = (t : Int)) : X i pc L (.int y :: .int x :: S) h = if cmpI c x y = true then X i t L S h else X i (pc + 3) L S h := by
  have e : act i pc (.if_icmp c off) 3 L (.int y :: .int x :: S) h = some (.inl (if cmpI c x y = true then t else pc + 3, L, S, h)) := by simp [act, ht]
  rw [X_next hd e]
  split <;> rfl
theorem X_if_eq {off : Int} {t : Nat} {x : Int32} (hd : decode (mB i) pc = .ok (.ifCond .eq off, 3)) (ht : (pc : Int) + off = (t : Int)) : X i pc L (.int x :: S) h = if x = 0 then X i t L S h else X i (pc + 3) L S h := by rw [X_if hd ht]; simp only [cmpI, decide_eq_true_eq]
theorem X_if_ne {off : Int} {t : Nat} {x : Int32} (hd : decode (mB i) pc = .ok (.ifCond .ne off, 3)) (ht : (pc : Int) + off = (t : Int)) : X i pc L (.int x :: S) h = if x = 0 then X i (pc + 3) L S h else X i t L S h := by
  rw [X_if hd ht]
  by_cases hx : x = 0
  · simp [cmpI, hx]
  · simp [cmpI, hx]
theorem X_if_lt {off : Int} {t : Nat} {x : Int32} (hd : decode (mB i) pc = .ok (.ifCond .lt off, 3)) (ht : (pc : Int) + off = (t : Int)) : X i pc L (.int x :: S) h = if x < 0 then X i t L S h else X i (pc + 3) L S h := by rw [X_if hd ht]; simp only [cmpI, decide_eq_true_eq]
theorem X_if_ge {off : Int} {t : Nat} {x : Int32} (hd : decode (mB i) pc = .ok (.ifCond .ge off, 3)) (ht : (pc : Int) + off = (t : Int)) : X i pc L (.int x :: S) h = if x < 0 then X i (pc + 3) L S h else X i t L S h := by
  rw [X_if hd ht]
  by_cases hx : x < 0
  · rw [if_pos hx, if_neg (by simp only [cmpI, decide_eq_true_eq]; exact Int32.not_le.mpr hx)]
  · rw [if_neg hx, if_pos (by simp only [cmpI, decide_eq_true_eq]; exact Int32.not_lt.mp hx)]
theorem X_if_gt {off : Int} {t : Nat} {x : Int32} (hd : decode (mB i) pc = .ok (.ifCond .gt off, 3)) (ht : (pc : Int) + off = (t : Int)) : X i pc L (.int x :: S) h = if 0 < x then X i t L S h else X i (pc + 3) L S h := by rw [X_if hd ht]; simp only [cmpI, decide_eq_true_eq]
theorem X_if_le {off : Int} {t : Nat} {x : Int32} (hd : decode (mB i) pc = .ok (.ifCond .le off, 3)) (ht : (pc : Int) + off = (t : Int)) : X i pc L (.int x :: S) h = if 0 < x then X i (pc + 3) L S h else X i t L S h := by
  rw [X_if hd ht]
  by_cases hx : 0 < x
  · rw [if_pos hx, if_neg (by simp only [cmpI, decide_eq_true_eq]; exact Int32.not_le.mpr hx)]
  · rw [if_neg hx, if_pos (by simp only [cmpI, decide_eq_true_eq]; exact Int32.not_lt.mp hx)]
theorem X_icmp_eq {off : Int} {t : Nat} {x y : Int32} (hd : decode (mB i) pc = .ok (.if_icmp .eq off, 3)) (ht : (pc : Int) + off = (t : Int)) : X i pc L (.int y :: .int x :: S) h = if x = y then X i t L S h else X i (pc + 3) L S h := by rw [X_icmp hd ht]; simp only [cmpI, decide_eq_true_eq]
theorem X_icmp_ne {off : Int} {t : Nat} {x y : Int32} (hd : decode (mB i) pc = .ok (.if_icmp .ne off, 3)) (ht : (pc : Int) + off = (t : Int)) : X i pc L (.int y :: .int x :: S) h = if x = y then X i (pc + 3) L S h else X i t L S h := by
  rw [X_icmp hd ht]
  by_cases hx : x = y
  · simp [cmpI, hx]
  · simp [cmpI, hx]
theorem X_icmp_lt {off : Int} {t : Nat} {x y : Int32} (hd : decode (mB i) pc = .ok (.if_icmp .lt off, 3)) (ht : (pc : Int) + off = (t : Int)) : X i pc L (.int y :: .int x :: S) h = if x < y then X i t L S h else X i (pc + 3) L S h := by rw [X_icmp hd ht]; simp only [cmpI, decide_eq_true_eq]
theorem X_icmp_ge {off : Int} {t : Nat} {x y : Int32} (hd : decode (mB i) pc = .ok (.if_icmp .ge off, 3)) (ht : (pc : Int) + off = (t : Int)) : X i pc L (.int y :: .int x :: S) h = if x < y then X i (pc + 3) L S h else X i t L S h := by
  rw [X_icmp hd ht]
  by_cases hx : x < y
  · rw [if_pos hx, if_neg (by simp only [cmpI, decide_eq_true_eq]; exact Int32.not_le.mpr hx)]
  · rw [if_neg hx, if_pos (by simp only [cmpI, decide_eq_true_eq]; exact Int32.not_lt.mp hx)]
theorem X_icmp_gt {off : Int} {t : Nat} {x y : Int32} (hd : decode (mB i) pc = .ok (.if_icmp .gt off, 3)) (ht : (pc : Int) + off = (t : Int)) : X i pc L (.int y :: .int x :: S) h = if y < x then X i t L S h else X i (pc + 3) L S h := by rw [X_icmp hd ht]; simp only [cmpI, decide_eq_true_eq]
theorem X_icmp_le {off : Int} {t : Nat} {x y : Int32} (hd : decode (mB i) pc = .ok (.if_icmp .le off, 3)) (ht : (pc : Int) + off = (t : Int)) : X i pc L (.int y :: .int x :: S) h = if y < x then X i (pc + 3) L S h else X i t L S h := by
  rw [X_icmp hd ht]
  by_cases hx : y < x
  · rw [if_pos hx, if_neg (by simp only [cmpI, decide_eq_true_eq]; exact Int32.not_le.mpr hx)]
  · rw [if_neg hx, if_pos (by simp only [cmpI, decide_eq_true_eq]; exact Int32.not_lt.mp hx)]
theorem X_ifnull {off : Int} {t x : Nat} (hd : decode (mB i) pc = .ok (.ifnull off, 3)) : X i pc L (.ref x :: S) h = X i (pc + 3) L S h := X_next hd (by simp [act])
theorem X_ifnullN {off : Int} {t : Nat} (hd : decode (mB i) pc = .ok (.ifnull off, 3)) (ht : (pc : Int) + off = (t : Int)) : X i pc L (.null :: S) h = X i t L S h := X_next hd (by simp [act, jmp, ht])
theorem X_ifnonnull {off : Int} {t x : Nat} (hd : decode (mB i) pc = .ok (.ifnonnull off, 3)) (ht : (pc : Int) + off = (t : Int)) : X i pc L (.ref x :: S) h = X i t L S h := X_next hd (by simp [act, jmp, ht])
theorem X_ifnonnullN {off : Int} (hd : decode (mB i) pc = .ok (.ifnonnull off, 3)) : X i pc L (.null :: S) h = X i (pc + 3) L S h := X_next hd (by simp [act])
theorem X_getfield (hd : decode (mB i) pc = .ok (.getfield idx, 3)) (hf : fref (mC i) idx = some (ci, k)) : X i pc L (.ref a :: S) h = (getF h[a]? ci k).bind (fun v => X i (pc + 3) L (v :: S) h) := by
  cases hg : getF h[a]? ci k with
  | none => exact X_stuck hd (by simp [act, hf, hg])
  | some v => exact X_next hd (by simp [act, hf, hg])
theorem X_putfield {v : Value} (hd : decode (mB i) pc = .ok (.putfield idx, 3)) (hf : fref (mC i) idx = some (ci, k)) (hn : (fT ci k).2.2.2 = false) : X i pc L (v :: .ref a :: S) h = (putF h[a]? ci k v).bind (fun c => X i (pc + 3) L S (h.set a c)) := by
  cases hg : putF h[a]? ci k v with
  | none => exact X_stuck hd (by simp [act, hf, hg])
  | some v => exact X_next hd (by simp [act, hf, hg, hn])
theorem X_getstatic (hd : decode (mB i) pc = .ok (.getstatic idx, 3)) (hf : sref (mC i) idx = some k) (hk : k < 2) : X i pc L S h = X i (pc + 3) L (.ref (sA k) :: S) h := X_next hd (by simp [act, hf, hk])
theorem X_iaload {x : Int32} (hd : decode (mB i) pc = .ok (.iaload, 1)) : X i pc L (.int x :: .ref a :: S) h = (getI h[a]? a 0 x).bind (fun v => X i (pc + 1) L (.int v :: S) h) := by
  cases hg : getI h[a]? a 0 x with
  | none => exact X_stuck hd (by simp [act, hg])
  | some v => exact X_next hd (by simp [act, hg])
theorem X_caload {x : Int32} (hd : decode (mB i) pc = .ok (.caload, 1)) : X i pc L (.int x :: .ref a :: S) h = (getI h[a]? a 1 x).bind (fun v => X i (pc + 1) L (.int v :: S) h) := by
  cases hg : getI h[a]? a 1 x with
  | none => exact X_stuck hd (by simp [act, hg])
  | some v => exact X_next hd (by simp [act, hg])
theorem X_aaload {x : Int32} (hd : decode (mB i) pc = .ok (.aaload, 1)) : X i pc L (.int x :: .ref a :: S) h = (getQ h[a]? x).bind (fun v => X i (pc + 1) L (v :: S) h) := by
  cases hg : getQ h[a]? x with
  | none => exact X_stuck hd (by simp [act, hg])
  | some v => exact X_next hd (by simp [act, hg])
theorem X_iastore {x y : Int32} (hd : decode (mB i) pc = .ok (.iastore, 1)) : X i pc L (.int y :: .int x :: .ref a :: S) h = (putI h[a]? 0 x y).bind (fun c => X i (pc + 1) L S (h.set a c)) := by
  cases hg : putI h[a]? 0 x y with
  | none => exact X_stuck hd (by simp [act, hg])
  | some v => exact X_next hd (by simp [act, hg])
theorem X_castore {x y : Int32} (hd : decode (mB i) pc = .ok (.castore, 1)) : X i pc L (.int y :: .int x :: .ref a :: S) h = (putI h[a]? 1 x (vp_nar .char y)).bind (fun c => X i (pc + 1) L S (h.set a c)) := by
  cases hg : putI h[a]? 1 x (vp_nar .char y) with
  | none => exact X_stuck hd (by simp [act, hg])
  | some v => exact X_next hd (by simp [act, hg])
theorem X_aastore {x : Int32} (hd : decode (mB i) pc = .ok (.aastore, 1)) : X i pc L (.ref b :: .int x :: .ref a :: S) h = (putQ h[a]? x h[b]? b).bind (fun c => X i (pc + 1) L S (h.set a c)) := by
  cases hg : putQ h[a]? x h[b]? b with
  | none => exact X_stuck hd (by simp [act, hg])
  | some v => exact X_next hd (by simp [act, hg])
theorem X_ireturn {x : Int32} {ty : FieldType} (hd : decode (mB i) pc = .ok (.ireturn, 1)) (hr : mR i = some ty) : X i pc L [.int x] h = if okv ty (.int x) = true then some (some (.int x), h) else none := by
  by_cases ho : okv ty (.int x) = true
  · rw [if_pos ho]; exact X_ret hd (by simp [act, hr, ho])
  · rw [if_neg ho]; exact X_stuck hd (by simp [act, hr, ho])
theorem X_iret {x : Int32} (hd : decode (mB i) pc = .ok (.ireturn, 1)) (hr : mR i = some .int) : X i pc L [.int x] h = some (some (.int x), h) := X_ret hd (by simp [act, hr, okv])
theorem X_zret {x : Int32} (hd : decode (mB i) pc = .ok (.ireturn, 1)) (hr : mR i = some .boolean) : X i pc L [.int x] h = if x = 0 ∨ x = 1 then some (some (.int x), h) else none := by
  rw [X_ireturn hd hr]; simp only [okv, Bool.or_eq_true, decide_eq_true_eq]
theorem X_aret {n : String} (hd : decode (mB i) pc = .ok (.areturn, 1)) (hr : mR i = some (.object n)) : X i pc L [.ref a] h = some (some (.ref a), h) := X_ret hd (by simp [act, hr])
theorem X_aretN {n : String} (hd : decode (mB i) pc = .ok (.areturn, 1)) (hr : mR i = some (.object n)) : X i pc L [.null] h = some (some .null, h) := X_ret hd (by simp [act, hr])
theorem X_vret (hd : decode (mB i) pc = .ok (.return_, 1)) (hr : mR i = none) : X i pc L [] h = some (none, h) := X_ret hd (by simp [act, hr])
/-- what follows a call -/
def aft (o : Option (Option Value × List hC)) (F : List Value → List hC → Option (Option Value × List hC)) : Option (Option Value × List hC) := match o with
  | some (v, h) => F v.toList h
  | none => none
theorem aft_some (v : Value) (h : List hC) (F : List Value → List hC → Option (Option Value × List hC)) : aft (some (some v, h)) F = F [v] h := rfl
theorem aft_void (h : List hC) (F : List Value → List hC → Option (Option Value × List hC)) : aft (some (none, h)) F = F [] h := rfl
/-- is the receiver of this class -/
def isO (c : Option hC) (ci : Nat) : Bool := match c with
  | some (.inl (d, _)) => decide (d = ci)
  | _ => false
theorem isO_some (ci : Nat) (fs : List Value) : isO (some (.inl (ci, fs))) ci = true := by simp [isO]
theorem X_invV {as : List Value} (hd : decode (mB i) pc = .ok (.invokevirtual idx, 3)) (hl : lref (mC i) idx = some (0, j)) (hr : room i j (as.reverse ++ .ref a :: S) = true) (hn : as.length + 1 = mA j) (ho : isO h[a]? (mC j) = true) :
    X i pc L (as.reverse ++ .ref a :: S) h = aft (X j 0 (pad j (.ref a :: as)) [] h) (fun v h1 => X i (pc + 3) L (v ++ S) h1) := by
  have h1 : ((as.reverse ++ .ref a :: S).take (mA j)).reverse = .ref a :: as := by
    rw [← hn, show as.reverse ++ .ref a :: S = (as.reverse ++ [.ref a]) ++ S by simp, List.take_left' (by simp)]
    simp
  have h2 : (as.reverse ++ .ref a :: S).drop (mA j) = S := by
    rw [← hn, show as.reverse ++ .ref a :: S = (as.reverse ++ [.ref a]) ++ S by simp, List.drop_left' (by simp)]
  have h3 : ∃ fs, h[a]? = some (.inl (mC j, fs)) := by
    unfold isO at ho
    split at ho
    · rename_i d fs hq
      simp only [decide_eq_true_eq] at ho
      exact ⟨fs, by rw [hq, ho]⟩
    · cases ho
  obtain ⟨fs, h3⟩ := h3
  have ha : act i pc (.invokevirtual idx) 3 L (as.reverse ++ .ref a :: S) h = some (.inr (.inr (.inr (j, .ref a :: as, S)))) := by
    simp only [act, invV, hl, hr, if_true, h1, h2, h3]
  rw [X_call hd ha]
  unfold aft
  rfl
theorem X_invS {as : List Value} {kd : Nat} (hd : decode (mB i) pc = .ok (.invokestatic idx, 3)) (hl : lref (mC i) idx = some (kd, j)) (hk : kd = 1 ∨ kd = 4) (hr : room i j (as.reverse ++ S) = true) (hn : as.length = mA j) :
    X i pc L (as.reverse ++ S) h = aft (X j 0 (pad j as) [] h) (fun v h1 => X i (pc + 3) L (v ++ S) h1) := by
  have h1 : ((as.reverse ++ S).take (mA j)).reverse = as := by
    rw [← hn, List.take_left' (by simp)]
    simp
  have h2 : (as.reverse ++ S).drop (mA j) = S := by
    rw [← hn, List.drop_left' (by simp)]
  have ha : act i pc (.invokestatic idx) 3 L (as.reverse ++ S) h = some (.inr (.inr (.inr (j, as, S)))) := by
    rcases hk with rfl | rfl <;> simp only [act, invS, hl, hr, if_true, h1, h2]
  rw [X_call hd ha]
  unfold aft
  rfl
theorem X_max {x y : Int32} (hd : decode (mB i) pc = .ok (.invokestatic idx, 3)) (hl : lref (mC i) idx = some (6, j)) (hr : (decide (1 ≤ mF i) && decide (21 ≤ mW i) && decide (S.length ≤ 8) && S.all cat1) = true) : X i pc L (.int y :: .int x :: S) h = X i (pc + 3) L (.int (if x < y then y else x) :: S) h := X_next hd (by simp only [act, invS, hl, hr, if_true])
theorem X_min {x y : Int32} (hd : decode (mB i) pc = .ok (.invokestatic idx, 3)) (hl : lref (mC i) idx = some (7, j)) (hr : (decide (1 ≤ mF i) && decide (21 ≤ mW i) && decide (S.length ≤ 8) && S.all cat1) = true) : X i pc L (.int y :: .int x :: S) h = X i (pc + 3) L (.int (if y < x then y else x) :: S) h := X_next hd (by simp only [act, invS, hl, hr, if_true])
theorem X_copy {n dp sp : Int32} (hd : decode (mB i) pc = .ok (.invokestatic idx, 3)) (hl : lref (mC i) idx = some (8, j)) (hr : (decide (1 ≤ mF i) && decide (100 ≤ mW i) && decide (S.length ≤ 8) && S.all cat1) = true) : X i pc L (.int n :: .int dp :: .ref b :: .int sp :: .ref a :: S) h = (cpyI h[a]? h[b]? sp dp n).bind (fun c => X i (pc + 3) L S (h.set b c)) := by
  cases hg : cpyI h[a]? h[b]? sp dp n with
  | none => exact X_stuck hd (by simp only [act, invS, hl, hr, if_true, hg])
  | some v => exact X_next hd (by simp only [act, invS, hl, hr, if_true, hg])
theorem X_table {d lo hi : Int} {offs : Array Int} {len t : Nat} {x : Int32} (hd : decode (mB i) pc = .ok (.tableswitch d lo hi offs, len)) {off : Int} (ho : (if x.toInt < lo ∨ hi < x.toInt then some d else offs[(x.toInt - lo).toNat]?) = some off) (ht : (pc : Int) + off = (t : Int)) : X i pc L (.int x :: S) h = X i t L S h := by
  refine X_next hd ?_
  by_cases hc : x.toInt < lo ∨ hi < x.toInt
  · rw [if_pos hc] at ho
    cases ho
    simp [act, hc, jmp, ht]
  · rw [if_neg hc] at ho
    simp [act, hc, ho, jmp, ht]
theorem X_lookup {d : Int} {ps : Array (Int × Int)} {len t : Nat} {x : Int32} (hd : decode (mB i) pc = .ok (.lookupswitch d ps, len)) (hp : (ps.toList.zip (ps.toList.drop 1)).all (fun (a, next) => a.1 < next.1) = true) {off : Int} (ho : Op.lookupswitch.offset ps.toList d x.toInt = off) (ht : (pc : Int) + off = (t : Int)) : X i pc L (.int x :: S) h = X i t L S h := by
  refine X_next hd ?_
  simp only [act]
  rw [if_pos hp, ho]
  simp [jmp, ht]
end XE
theorem room_of {i j m : Nat} {S : List Value} (h1 : (decide (mF j + 1 ≤ mF i) && decide (8 + (mL j + 11) + mW j ≤ mW i) && (!mZ j || mZ i) && decide (mA j ≤ mL j)) = true) (hm : mA j = m) (h2 : (Nat.ble S.length (m + 8) && S.all cat1 && Nat.ble m S.length) = true) : room i j S = true := by
  subst hm
  simp only [Bool.and_eq_true, decide_eq_true_eq, Nat.ble_eq] at h1 h2
  simp only [room, Bool.and_eq_true, decide_eq_true_eq]
  exact ⟨⟨⟨⟨⟨⟨h1.1.1.1, h1.1.1.2⟩, h2.1.1⟩, h2.1.2⟩, h1.1.2⟩, h1.2⟩, h2.2⟩
theorem pad_of {j m : Nat} {as : List Value} (hm : mL j = m) : pad j as = as ++ List.replicate (m - as.length) (.long 0) := by
  subst hm; rfl
section XE2
variable {i pc idx a j : Nat} {L S : List Value} {h : List hC}
theorem X_invV' {as P st : List Value} {n ci m : Nat} (hd : decode (mB i) pc = .ok (.invokevirtual idx, 3)) (hl : lref (mC i) idx = some (0, j)) (h1 : (decide (mF j + 1 ≤ mF i) && decide (8 + (mL j + 11) + mW j ≤ mW i) && (!mZ j || mZ i) && decide (mA j ≤ mL j)) = true) (hm : (mA j, mL j, mC j) = (n, m, ci)) (h2 : (Nat.ble st.length (n + 8) && st.all cat1 && Nat.ble n st.length) = true) (hst : st = as.reverse ++ .ref a :: S) (hn : as.length + 1 = n) (hP : P = .ref a :: as ++ List.replicate (m - (as.length + 1)) (.long 0)) :
    X i pc L st h = if isO h[a]? ci = true then aft (X j 0 P [] h) (fun v h1 => X i (pc + 3) L (v ++ S) h1) else none := by
  have e1 := congrArg Prod.fst hm
  have e2 := congrArg (fun q => q.2.1) hm
  have e3 := congrArg (fun q => q.2.2) hm
  simp only at e1 e2 e3
  have hr := room_of h1 e1 h2
  subst hst
  by_cases ho : isO h[a]? ci = true
  · rw [if_pos ho, X_invV hd hl hr (by rw [e1]; exact hn) (by rw [e3]; exact ho), pad_of e2, hP]
    rfl
  · rw [if_neg ho]
    refine X_stuck hd ?_
    have g1 : ((as.reverse ++ .ref a :: S).take (mA j)).reverse = .ref a :: as := by
      rw [e1, ← hn, show as.reverse ++ .ref a :: S = (as.reverse ++ [.ref a]) ++ S by simp, List.take_left' (by simp)]
      simp
    simp only [act, invV, hl, hr, if_true, g1]
    split
    · rename_i c fs hq
      rw [if_neg]
      intro hc
      apply ho
      rw [hq, hc, e3]
      exact isO_some _ _
    · rfl
theorem X_invS' {as P st : List Value} {n m kd : Nat} (hd : decode (mB i) pc = .ok (.invokestatic idx, 3)) (hl : lref (mC i) idx = some (kd, j)) (hk : kd = 1 ∨ kd = 4) (h1 : (decide (mF j + 1 ≤ mF i) && decide (8 + (mL j + 11) + mW j ≤ mW i) && (!mZ j || mZ i) && decide (mA j ≤ mL j)) = true) (hm : (mA j, mL j) = (n, m)) (h2 : (Nat.ble st.length (n + 8) && st.all cat1 && Nat.ble n st.length) = true) (hst : st = as.reverse ++ S) (hn : as.length = n) (hP : P = as ++ List.replicate (m - as.length) (.long 0)) :
    X i pc L st h = aft (X j 0 P [] h) (fun v h1 => X i (pc + 3) L (v ++ S) h1) := by
  have e1 := congrArg Prod.fst hm
  have e2 := congrArg Prod.snd hm
  simp only at e1 e2
  have hr := room_of h1 e1 h2
  subst hst
  rw [X_invS hd hl hk hr (by rw [e1]; exact hn), pad_of e2, hP]
end XE2
end
section
/-! X of the methods of X4, an instruction a row (by program) -/
theorem x39_0 {S : List Value} {h : List hC} {v1 : Value} {a : Nat} : X 39 0 [.ref a, v1] S h = X 39 1 [.ref a, v1] (.ref a :: S) h := X_aload_n (show decode (mB 39) 0 = .ok (.aload_n 0, 1) by decide +kernel) rfl
theorem x39_0N {S : List Value} {h : List hC} {v1 : Value} : X 39 0 [.null, v1] S h = X 39 1 [.null, v1] (.null :: S) h := X_aload_nN (show decode (mB 39) 0 = .ok (.aload_n 0, 1) by decide +kernel) rfl
theorem x39_1 {S : List Value} {h : List hC} {v0 : Value} {a : Nat} : X 39 1 [v0, .ref a] S h = X 39 2 [v0, .ref a] (.ref a :: S) h := X_aload_n (show decode (mB 39) 1 = .ok (.aload_n 1, 1) by decide +kernel) rfl
theorem x39_1N {S : List Value} {h : List hC} {v0 : Value} : X 39 1 [v0, .null] S h = X 39 2 [v0, .null] (.null :: S) h := X_aload_nN (show decode (mB 39) 1 = .ok (.aload_n 1, 1) by decide +kernel) rfl
theorem x39_2 {L S : List Value} {h : List hC} {a : Nat} : X 39 2 L (.ref a :: S) h = (getF h[a]? 4 3).bind (fun v => X 39 5 L (v :: S) h) := X_getfield (show decode (mB 39) 2 = .ok (.getfield 21, 3) by decide +kernel) (show fref (mC 39) 21 = some (4, 3) by decide +kernel)
theorem x39_5 {L S : List Value} {h : List hC} {a : Nat} {v : Value} : X 39 5 L (v :: .ref a :: S) h = (putF h[a]? 4 3 v).bind (fun c => X 39 8 L S (h.set a c)) := X_putfield (show decode (mB 39) 5 = .ok (.putfield 21, 3) by decide +kernel) (show fref (mC 39) 21 = some (4, 3) by decide +kernel) rfl
theorem x39_8 {S : List Value} {h : List hC} {v0 : Value} {a : Nat} : X 39 8 [v0, .ref a] S h = X 39 9 [v0, .ref a] (.ref a :: S) h := X_aload_n (show decode (mB 39) 8 = .ok (.aload_n 1, 1) by decide +kernel) rfl
theorem x39_8N {S : List Value} {h : List hC} {v0 : Value} : X 39 8 [v0, .null] S h = X 39 9 [v0, .null] (.null :: S) h := X_aload_nN (show decode (mB 39) 8 = .ok (.aload_n 1, 1) by decide +kernel) rfl
theorem x39_9 {L S : List Value} {h : List hC} {a : Nat} : X 39 9 L (.ref a :: S) h = (getF h[a]? 4 0).bind (fun v => X 39 12 L (v :: S) h) := X_getfield (show decode (mB 39) 9 = .ok (.getfield 9, 3) by decide +kernel) (show fref (mC 39) 9 = some (4, 0) by decide +kernel)
theorem x39_12 {L S : List Value} {h : List hC} : X 39 12 L S h = X 39 13 L (.int 0 :: S) h := X_iconst (show decode (mB 39) 12 = .ok (.iconst 0, 1) by decide +kernel) (by decide)
theorem x39_13 {S : List Value} {h : List hC} {v1 : Value} {a : Nat} : X 39 13 [.ref a, v1] S h = X 39 14 [.ref a, v1] (.ref a :: S) h := X_aload_n (show decode (mB 39) 13 = .ok (.aload_n 0, 1) by decide +kernel) rfl
theorem x39_13N {S : List Value} {h : List hC} {v1 : Value} : X 39 13 [.null, v1] S h = X 39 14 [.null, v1] (.null :: S) h := X_aload_nN (show decode (mB 39) 13 = .ok (.aload_n 0, 1) by decide +kernel) rfl
theorem x39_14 {L S : List Value} {h : List hC} {a : Nat} : X 39 14 L (.ref a :: S) h = (getF h[a]? 4 0).bind (fun v => X 39 17 L (v :: S) h) := X_getfield (show decode (mB 39) 14 = .ok (.getfield 9, 3) by decide +kernel) (show fref (mC 39) 9 = some (4, 0) by decide +kernel)
theorem x39_17 {L S : List Value} {h : List hC} : X 39 17 L S h = X 39 18 L (.int 0 :: S) h := X_iconst (show decode (mB 39) 17 = .ok (.iconst 0, 1) by decide +kernel) (by decide)
theorem x39_18 {S : List Value} {h : List hC} {v1 : Value} {a : Nat} : X 39 18 [.ref a, v1] S h = X 39 19 [.ref a, v1] (.ref a :: S) h := X_aload_n (show decode (mB 39) 18 = .ok (.aload_n 0, 1) by decide +kernel) rfl
theorem x39_18N {S : List Value} {h : List hC} {v1 : Value} : X 39 18 [.null, v1] S h = X 39 19 [.null, v1] (.null :: S) h := X_aload_nN (show decode (mB 39) 18 = .ok (.aload_n 0, 1) by decide +kernel) rfl
theorem x39_19 {L S : List Value} {h : List hC} {a : Nat} : X 39 19 L (.ref a :: S) h = (getF h[a]? 4 3).bind (fun v => X 39 22 L (v :: S) h) := X_getfield (show decode (mB 39) 19 = .ok (.getfield 21, 3) by decide +kernel) (show fref (mC 39) 21 = some (4, 3) by decide +kernel)
theorem x39_22 {L : List Value} {h : List hC} {x0 : Int32} {x1 : Int32} {a2 : Nat} {x3 : Int32} {a4 : Nat} : X 39 22 L [.int x0, .int x1, .ref a2, .int x3, .ref a4] h = (cpyI h[a4]? h[a2]? x3 x1 x0).bind (fun c => X 39 25 L [] (h.set a2 c)) := X_copy (j := 0) (show decode (mB 39) 22 = .ok (.invokestatic 25, 3) by decide +kernel) (show lref (mC 39) 25 = some (8, 0) by decide +kernel) (by decide +kernel)
theorem x39_25 {S : List Value} {h : List hC} {v0 : Value} {a : Nat} : X 39 25 [v0, .ref a] S h = X 39 26 [v0, .ref a] (.ref a :: S) h := X_aload_n (show decode (mB 39) 25 = .ok (.aload_n 1, 1) by decide +kernel) rfl
theorem x39_25N {S : List Value} {h : List hC} {v0 : Value} : X 39 25 [v0, .null] S h = X 39 26 [v0, .null] (.null :: S) h := X_aload_nN (show decode (mB 39) 25 = .ok (.aload_n 1, 1) by decide +kernel) rfl
theorem x39_26 {L S : List Value} {h : List hC} {a : Nat} : X 39 26 L (.ref a :: S) h = (getF h[a]? 4 1).bind (fun v => X 39 29 L (v :: S) h) := X_getfield (show decode (mB 39) 26 = .ok (.getfield 15, 3) by decide +kernel) (show fref (mC 39) 15 = some (4, 1) by decide +kernel)
theorem x39_29 {L S : List Value} {h : List hC} : X 39 29 L S h = X 39 30 L (.int 0 :: S) h := X_iconst (show decode (mB 39) 29 = .ok (.iconst 0, 1) by decide +kernel) (by decide)
theorem x39_30 {S : List Value} {h : List hC} {v1 : Value} {a : Nat} : X 39 30 [.ref a, v1] S h = X 39 31 [.ref a, v1] (.ref a :: S) h := X_aload_n (show decode (mB 39) 30 = .ok (.aload_n 0, 1) by decide +kernel) rfl
theorem x39_30N {S : List Value} {h : List hC} {v1 : Value} : X 39 30 [.null, v1] S h = X 39 31 [.null, v1] (.null :: S) h := X_aload_nN (show decode (mB 39) 30 = .ok (.aload_n 0, 1) by decide +kernel) rfl
theorem x39_31 {L S : List Value} {h : List hC} {a : Nat} : X 39 31 L (.ref a :: S) h = (getF h[a]? 4 1).bind (fun v => X 39 34 L (v :: S) h) := X_getfield (show decode (mB 39) 31 = .ok (.getfield 15, 3) by decide +kernel) (show fref (mC 39) 15 = some (4, 1) by decide +kernel)
theorem x39_34 {L S : List Value} {h : List hC} : X 39 34 L S h = X 39 35 L (.int 0 :: S) h := X_iconst (show decode (mB 39) 34 = .ok (.iconst 0, 1) by decide +kernel) (by decide)
theorem x39_35 {S : List Value} {h : List hC} {v1 : Value} {a : Nat} : X 39 35 [.ref a, v1] S h = X 39 36 [.ref a, v1] (.ref a :: S) h := X_aload_n (show decode (mB 39) 35 = .ok (.aload_n 0, 1) by decide +kernel) rfl
theorem x39_35N {S : List Value} {h : List hC} {v1 : Value} : X 39 35 [.null, v1] S h = X 39 36 [.null, v1] (.null :: S) h := X_aload_nN (show decode (mB 39) 35 = .ok (.aload_n 0, 1) by decide +kernel) rfl
theorem x39_36 {L S : List Value} {h : List hC} {a : Nat} : X 39 36 L (.ref a :: S) h = (getF h[a]? 4 3).bind (fun v => X 39 39 L (v :: S) h) := X_getfield (show decode (mB 39) 36 = .ok (.getfield 21, 3) by decide +kernel) (show fref (mC 39) 21 = some (4, 3) by decide +kernel)
theorem x39_39 {L : List Value} {h : List hC} {x0 : Int32} {x1 : Int32} {a2 : Nat} {x3 : Int32} {a4 : Nat} : X 39 39 L [.int x0, .int x1, .ref a2, .int x3, .ref a4] h = (cpyI h[a4]? h[a2]? x3 x1 x0).bind (fun c => X 39 42 L [] (h.set a2 c)) := X_copy (j := 0) (show decode (mB 39) 39 = .ok (.invokestatic 25, 3) by decide +kernel) (show lref (mC 39) 25 = some (8, 0) by decide +kernel) (by decide +kernel)
theorem x39_42 {S : List Value} {h : List hC} {v0 : Value} {a : Nat} : X 39 42 [v0, .ref a] S h = X 39 43 [v0, .ref a] (.ref a :: S) h := X_aload_n (show decode (mB 39) 42 = .ok (.aload_n 1, 1) by decide +kernel) rfl
theorem x39_42N {S : List Value} {h : List hC} {v0 : Value} : X 39 42 [v0, .null] S h = X 39 43 [v0, .null] (.null :: S) h := X_aload_nN (show decode (mB 39) 42 = .ok (.aload_n 1, 1) by decide +kernel) rfl
theorem x39_43 {L S : List Value} {h : List hC} {a : Nat} : X 39 43 L (.ref a :: S) h = (getF h[a]? 4 2).bind (fun v => X 39 46 L (v :: S) h) := X_getfield (show decode (mB 39) 43 = .ok (.getfield 18, 3) by decide +kernel) (show fref (mC 39) 18 = some (4, 2) by decide +kernel)
theorem x39_46 {L S : List Value} {h : List hC} : X 39 46 L S h = X 39 47 L (.int 0 :: S) h := X_iconst (show decode (mB 39) 46 = .ok (.iconst 0, 1) by decide +kernel) (by decide)
theorem x39_47 {S : List Value} {h : List hC} {v1 : Value} {a : Nat} : X 39 47 [.ref a, v1] S h = X 39 48 [.ref a, v1] (.ref a :: S) h := X_aload_n (show decode (mB 39) 47 = .ok (.aload_n 0, 1) by decide +kernel) rfl
theorem x39_47N {S : List Value} {h : List hC} {v1 : Value} : X 39 47 [.null, v1] S h = X 39 48 [.null, v1] (.null :: S) h := X_aload_nN (show decode (mB 39) 47 = .ok (.aload_n 0, 1) by decide +kernel) rfl
theorem x39_48 {L S : List Value} {h : List hC} {a : Nat} : X 39 48 L (.ref a :: S) h = (getF h[a]? 4 2).bind (fun v => X 39 51 L (v :: S) h) := X_getfield (show decode (mB 39) 48 = .ok (.getfield 18, 3) by decide +kernel) (show fref (mC 39) 18 = some (4, 2) by decide +kernel)
theorem x39_51 {L S : List Value} {h : List hC} : X 39 51 L S h = X 39 52 L (.int 0 :: S) h := X_iconst (show decode (mB 39) 51 = .ok (.iconst 0, 1) by decide +kernel) (by decide)
theorem x39_52 {S : List Value} {h : List hC} {v1 : Value} {a : Nat} : X 39 52 [.ref a, v1] S h = X 39 53 [.ref a, v1] (.ref a :: S) h := X_aload_n (show decode (mB 39) 52 = .ok (.aload_n 0, 1) by decide +kernel) rfl
theorem x39_52N {S : List Value} {h : List hC} {v1 : Value} : X 39 52 [.null, v1] S h = X 39 53 [.null, v1] (.null :: S) h := X_aload_nN (show decode (mB 39) 52 = .ok (.aload_n 0, 1) by decide +kernel) rfl
theorem x39_53 {L S : List Value} {h : List hC} {a : Nat} : X 39 53 L (.ref a :: S) h = (getF h[a]? 4 3).bind (fun v => X 39 56 L (v :: S) h) := X_getfield (show decode (mB 39) 53 = .ok (.getfield 21, 3) by decide +kernel) (show fref (mC 39) 21 = some (4, 3) by decide +kernel)
theorem x39_56 {L : List Value} {h : List hC} {x0 : Int32} {x1 : Int32} {a2 : Nat} {x3 : Int32} {a4 : Nat} : X 39 56 L [.int x0, .int x1, .ref a2, .int x3, .ref a4] h = (cpyI h[a4]? h[a2]? x3 x1 x0).bind (fun c => X 39 59 L [] (h.set a2 c)) := X_copy (j := 0) (show decode (mB 39) 56 = .ok (.invokestatic 25, 3) by decide +kernel) (show lref (mC 39) 25 = some (8, 0) by decide +kernel) (by decide +kernel)
theorem x39_59 {L : List Value} {h : List hC} : X 39 59 L [] h = some (none, h) := X_vret (show decode (mB 39) 59 = .ok (.return_, 1) by decide +kernel) (by decide +kernel)
theorem x40_0 {S : List Value} {h : List hC} {v0 v1 v2 : Value} {x : Int32} : X 40 0 [v0, v1, v2, .int x] S h = X 40 1 [v0, v1, v2, .int x] (.int x :: S) h := X_iload_n (show decode (mB 40) 0 = .ok (.iload_n 3, 1) by decide +kernel) rfl
theorem x40_1 {L S : List Value} {h : List hC} {x : Int32} : X 40 1 L (.int x :: S) h = if 0 < x then X 40 4 L S h else X 40 13 L S h := X_if_le (show decode (mB 40) 1 = .ok (.ifCond .le 12, 3) by decide +kernel) (by decide)
theorem x40_4 {S : List Value} {h : List hC} {v1 v2 v3 : Value} {a : Nat} : X 40 4 [.ref a, v1, v2, v3] S h = X 40 5 [.ref a, v1, v2, v3] (.ref a :: S) h := X_aload_n (show decode (mB 40) 4 = .ok (.aload_n 0, 1) by decide +kernel) rfl
theorem x40_4N {S : List Value} {h : List hC} {v1 v2 v3 : Value} : X 40 4 [.null, v1, v2, v3] S h = X 40 5 [.null, v1, v2, v3] (.null :: S) h := X_aload_nN (show decode (mB 40) 4 = .ok (.aload_n 0, 1) by decide +kernel) rfl
theorem x40_5 {L S : List Value} {h : List hC} {a : Nat} : X 40 5 L (.ref a :: S) h = (getF h[a]? 4 3).bind (fun v => X 40 8 L (v :: S) h) := X_getfield (show decode (mB 40) 5 = .ok (.getfield 21, 3) by decide +kernel) (show fref (mC 40) 21 = some (4, 3) by decide +kernel)
theorem x40_8 {L S : List Value} {h : List hC} : X 40 8 L S h = X 40 10 L (.int 99 :: S) h := X_bipush (show decode (mB 40) 8 = .ok (.bipush 99, 2) by decide +kernel) (by decide)
theorem x40_10 {L S : List Value} {h : List hC} {x y : Int32} : X 40 10 L (.int y :: .int x :: S) h = if x < y then X 40 14 L S h else X 40 13 L S h := X_icmp_lt (show decode (mB 40) 10 = .ok (.if_icmp .lt 4, 3) by decide +kernel) (by decide)
theorem x40_13 {L : List Value} {h : List hC} : X 40 13 L [] h = some (none, h) := X_vret (show decode (mB 40) 13 = .ok (.return_, 1) by decide +kernel) (by decide +kernel)
theorem x40_14 {S : List Value} {h : List hC} {v1 v2 v3 : Value} {a : Nat} : X 40 14 [.ref a, v1, v2, v3] S h = X 40 15 [.ref a, v1, v2, v3] (.ref a :: S) h := X_aload_n (show decode (mB 40) 14 = .ok (.aload_n 0, 1) by decide +kernel) rfl
theorem x40_14N {S : List Value} {h : List hC} {v1 v2 v3 : Value} : X 40 14 [.null, v1, v2, v3] S h = X 40 15 [.null, v1, v2, v3] (.null :: S) h := X_aload_nN (show decode (mB 40) 14 = .ok (.aload_n 0, 1) by decide +kernel) rfl
theorem x40_15 {L S : List Value} {h : List hC} {a : Nat} : X 40 15 L (.ref a :: S) h = (getF h[a]? 4 0).bind (fun v => X 40 18 L (v :: S) h) := X_getfield (show decode (mB 40) 15 = .ok (.getfield 9, 3) by decide +kernel) (show fref (mC 40) 9 = some (4, 0) by decide +kernel)
theorem x40_18 {S : List Value} {h : List hC} {v1 v2 v3 : Value} {a : Nat} : X 40 18 [.ref a, v1, v2, v3] S h = X 40 19 [.ref a, v1, v2, v3] (.ref a :: S) h := X_aload_n (show decode (mB 40) 18 = .ok (.aload_n 0, 1) by decide +kernel) rfl
theorem x40_18N {S : List Value} {h : List hC} {v1 v2 v3 : Value} : X 40 18 [.null, v1, v2, v3] S h = X 40 19 [.null, v1, v2, v3] (.null :: S) h := X_aload_nN (show decode (mB 40) 18 = .ok (.aload_n 0, 1) by decide +kernel) rfl
theorem x40_19 {L S : List Value} {h : List hC} {a : Nat} : X 40 19 L (.ref a :: S) h = (getF h[a]? 4 3).bind (fun v => X 40 22 L (v :: S) h) := X_getfield (show decode (mB 40) 19 = .ok (.getfield 21, 3) by decide +kernel) (show fref (mC 40) 21 = some (4, 3) by decide +kernel)
theorem x40_22 {S : List Value} {h : List hC} {v0 v2 v3 : Value} {x : Int32} : X 40 22 [v0, .int x, v2, v3] S h = X 40 23 [v0, .int x, v2, v3] (.int x :: S) h := X_iload_n (show decode (mB 40) 22 = .ok (.iload_n 1, 1) by decide +kernel) rfl
theorem x40_23 {L S : List Value} {h : List hC} {a : Nat} {x y : Int32} : X 40 23 L (.int y :: .int x :: .ref a :: S) h = (putI h[a]? 0 x y).bind (fun c => X 40 24 L S (h.set a c)) := X_iastore (show decode (mB 40) 23 = .ok (.iastore, 1) by decide +kernel)
theorem x40_24 {S : List Value} {h : List hC} {v1 v2 v3 : Value} {a : Nat} : X 40 24 [.ref a, v1, v2, v3] S h = X 40 25 [.ref a, v1, v2, v3] (.ref a :: S) h := X_aload_n (show decode (mB 40) 24 = .ok (.aload_n 0, 1) by decide +kernel) rfl
theorem x40_24N {S : List Value} {h : List hC} {v1 v2 v3 : Value} : X 40 24 [.null, v1, v2, v3] S h = X 40 25 [.null, v1, v2, v3] (.null :: S) h := X_aload_nN (show decode (mB 40) 24 = .ok (.aload_n 0, 1) by decide +kernel) rfl
theorem x40_25 {L S : List Value} {h : List hC} {a : Nat} : X 40 25 L (.ref a :: S) h = (getF h[a]? 4 1).bind (fun v => X 40 28 L (v :: S) h) := X_getfield (show decode (mB 40) 25 = .ok (.getfield 15, 3) by decide +kernel) (show fref (mC 40) 15 = some (4, 1) by decide +kernel)
theorem x40_28 {S : List Value} {h : List hC} {v1 v2 v3 : Value} {a : Nat} : X 40 28 [.ref a, v1, v2, v3] S h = X 40 29 [.ref a, v1, v2, v3] (.ref a :: S) h := X_aload_n (show decode (mB 40) 28 = .ok (.aload_n 0, 1) by decide +kernel) rfl
theorem x40_28N {S : List Value} {h : List hC} {v1 v2 v3 : Value} : X 40 28 [.null, v1, v2, v3] S h = X 40 29 [.null, v1, v2, v3] (.null :: S) h := X_aload_nN (show decode (mB 40) 28 = .ok (.aload_n 0, 1) by decide +kernel) rfl
theorem x40_29 {L S : List Value} {h : List hC} {a : Nat} : X 40 29 L (.ref a :: S) h = (getF h[a]? 4 3).bind (fun v => X 40 32 L (v :: S) h) := X_getfield (show decode (mB 40) 29 = .ok (.getfield 21, 3) by decide +kernel) (show fref (mC 40) 21 = some (4, 3) by decide +kernel)
theorem x40_32 {S : List Value} {h : List hC} {v0 v1 v3 : Value} {x : Int32} : X 40 32 [v0, v1, .int x, v3] S h = X 40 33 [v0, v1, .int x, v3] (.int x :: S) h := X_iload_n (show decode (mB 40) 32 = .ok (.iload_n 2, 1) by decide +kernel) rfl
theorem x40_33 {L S : List Value} {h : List hC} {a : Nat} {x y : Int32} : X 40 33 L (.int y :: .int x :: .ref a :: S) h = (putI h[a]? 0 x y).bind (fun c => X 40 34 L S (h.set a c)) := X_iastore (show decode (mB 40) 33 = .ok (.iastore, 1) by decide +kernel)
theorem x40_34 {S : List Value} {h : List hC} {v1 v2 v3 : Value} {a : Nat} : X 40 34 [.ref a, v1, v2, v3] S h = X 40 35 [.ref a, v1, v2, v3] (.ref a :: S) h := X_aload_n (show decode (mB 40) 34 = .ok (.aload_n 0, 1) by decide +kernel) rfl
theorem x40_34N {S : List Value} {h : List hC} {v1 v2 v3 : Value} : X 40 34 [.null, v1, v2, v3] S h = X 40 35 [.null, v1, v2, v3] (.null :: S) h := X_aload_nN (show decode (mB 40) 34 = .ok (.aload_n 0, 1) by decide +kernel) rfl
theorem x40_35 {L S : List Value} {h : List hC} {a : Nat} : X 40 35 L (.ref a :: S) h = (getF h[a]? 4 2).bind (fun v => X 40 38 L (v :: S) h) := X_getfield (show decode (mB 40) 35 = .ok (.getfield 18, 3) by decide +kernel) (show fref (mC 40) 18 = some (4, 2) by decide +kernel)
theorem x40_38 {S : List Value} {h : List hC} {v1 v2 v3 : Value} {a : Nat} : X 40 38 [.ref a, v1, v2, v3] S h = X 40 39 [.ref a, v1, v2, v3] (.ref a :: S) h := X_aload_n (show decode (mB 40) 38 = .ok (.aload_n 0, 1) by decide +kernel) rfl
theorem x40_38N {S : List Value} {h : List hC} {v1 v2 v3 : Value} : X 40 38 [.null, v1, v2, v3] S h = X 40 39 [.null, v1, v2, v3] (.null :: S) h := X_aload_nN (show decode (mB 40) 38 = .ok (.aload_n 0, 1) by decide +kernel) rfl
theorem x40_39 {L S : List Value} {h : List hC} {a : Nat} : X 40 39 L (.ref a :: S) h = (getF h[a]? 4 3).bind (fun v => X 40 42 L (v :: S) h) := X_getfield (show decode (mB 40) 39 = .ok (.getfield 21, 3) by decide +kernel) (show fref (mC 40) 21 = some (4, 3) by decide +kernel)
theorem x40_42 {S : List Value} {h : List hC} {v0 v1 v2 : Value} {x : Int32} : X 40 42 [v0, v1, v2, .int x] S h = X 40 43 [v0, v1, v2, .int x] (.int x :: S) h := X_iload_n (show decode (mB 40) 42 = .ok (.iload_n 3, 1) by decide +kernel) rfl
theorem x40_43 {L S : List Value} {h : List hC} {a : Nat} {x y : Int32} : X 40 43 L (.int y :: .int x :: .ref a :: S) h = (putI h[a]? 0 x y).bind (fun c => X 40 44 L S (h.set a c)) := X_iastore (show decode (mB 40) 43 = .ok (.iastore, 1) by decide +kernel)
theorem x40_44 {S : List Value} {h : List hC} {v1 v2 v3 : Value} {a : Nat} : X 40 44 [.ref a, v1, v2, v3] S h = X 40 45 [.ref a, v1, v2, v3] (.ref a :: S) h := X_aload_n (show decode (mB 40) 44 = .ok (.aload_n 0, 1) by decide +kernel) rfl
theorem x40_44N {S : List Value} {h : List hC} {v1 v2 v3 : Value} : X 40 44 [.null, v1, v2, v3] S h = X 40 45 [.null, v1, v2, v3] (.null :: S) h := X_aload_nN (show decode (mB 40) 44 = .ok (.aload_n 0, 1) by decide +kernel) rfl
theorem x40_45 {L S : List Value} {h : List hC} {a : Nat} : X 40 45 L ((.ref a) :: S) h = X 40 46 L ((.ref a) :: (.ref a) :: S) h := X_dup (show decode (mB 40) 45 = .ok (.dup, 1) by decide +kernel) rfl
theorem x40_46 {L S : List Value} {h : List hC} {a : Nat} : X 40 46 L (.ref a :: S) h = (getF h[a]? 4 3).bind (fun v => X 40 49 L (v :: S) h) := X_getfield (show decode (mB 40) 46 = .ok (.getfield 21, 3) by decide +kernel) (show fref (mC 40) 21 = some (4, 3) by decide +kernel)
theorem x40_49 {L S : List Value} {h : List hC} : X 40 49 L S h = X 40 50 L (.int 1 :: S) h := X_iconst (show decode (mB 40) 49 = .ok (.iconst 1, 1) by decide +kernel) (by decide)
theorem x40_50 {L S : List Value} {h : List hC} {x y : Int32} : X 40 50 L (.int y :: .int x :: S) h = X 40 51 L (.int (x + y) :: S) h := X_iadd (show decode (mB 40) 50 = .ok (.iadd, 1) by decide +kernel)
theorem x40_51 {L S : List Value} {h : List hC} {a : Nat} {v : Value} : X 40 51 L (v :: .ref a :: S) h = (putF h[a]? 4 3 v).bind (fun c => X 40 54 L S (h.set a c)) := X_putfield (show decode (mB 40) 51 = .ok (.putfield 21, 3) by decide +kernel) (show fref (mC 40) 21 = some (4, 3) by decide +kernel) rfl
theorem x40_54 {L : List Value} {h : List hC} : X 40 54 L [] h = some (none, h) := X_vret (show decode (mB 40) 54 = .ok (.return_, 1) by decide +kernel) (by decide +kernel)
theorem x41_0 {L S : List Value} {h : List hC} : X 41 0 L S h = X 41 1 L (.int 0 :: S) h := X_iconst (show decode (mB 41) 0 = .ok (.iconst 0, 1) by decide +kernel) (by decide)
theorem x41_1 {S : List Value} {h : List hC} {v0 v1 v2 v3 : Value} {x : Int32} : X 41 1 [v0, v1, v2, v3] (.int x :: S) h = X 41 2 [v0, v1, .int x, v3] S h := X_istore_n (show decode (mB 41) 1 = .ok (.istore_n 2, 1) by decide +kernel) (Nat.le_of_ble_eq_true rfl)
theorem x41_2 {L S : List Value} {h : List hC} : X 41 2 L S h = X 41 3 L (.int 0 :: S) h := X_iconst (show decode (mB 41) 2 = .ok (.iconst 0, 1) by decide +kernel) (by decide)
theorem x41_3 {S : List Value} {h : List hC} {v0 v1 v2 v3 : Value} {x : Int32} : X 41 3 [v0, v1, v2, v3] (.int x :: S) h = X 41 4 [v0, v1, v2, .int x] S h := X_istore_n (show decode (mB 41) 3 = .ok (.istore_n 3, 1) by decide +kernel) (Nat.le_of_ble_eq_true rfl)
theorem x41_4 {S : List Value} {h : List hC} {v0 v1 v2 : Value} {x : Int32} : X 41 4 [v0, v1, v2, .int x] S h = X 41 5 [v0, v1, v2, .int x] (.int x :: S) h := X_iload_n (show decode (mB 41) 4 = .ok (.iload_n 3, 1) by decide +kernel) rfl
theorem x41_5 {S : List Value} {h : List hC} {v1 v2 v3 : Value} {a : Nat} : X 41 5 [.ref a, v1, v2, v3] S h = X 41 6 [.ref a, v1, v2, v3] (.ref a :: S) h := X_aload_n (show decode (mB 41) 5 = .ok (.aload_n 0, 1) by decide +kernel) rfl
theorem x41_5N {S : List Value} {h : List hC} {v1 v2 v3 : Value} : X 41 5 [.null, v1, v2, v3] S h = X 41 6 [.null, v1, v2, v3] (.null :: S) h := X_aload_nN (show decode (mB 41) 5 = .ok (.aload_n 0, 1) by decide +kernel) rfl
theorem x41_6 {L S : List Value} {h : List hC} {a : Nat} : X 41 6 L (.ref a :: S) h = (getF h[a]? 4 3).bind (fun v => X 41 9 L (v :: S) h) := X_getfield (show decode (mB 41) 6 = .ok (.getfield 21, 3) by decide +kernel) (show fref (mC 41) 21 = some (4, 3) by decide +kernel)
theorem x41_9 {L S : List Value} {h : List hC} {x y : Int32} : X 41 9 L (.int y :: .int x :: S) h = if x < y then X 41 12 L S h else X 41 37 L S h := X_icmp_ge (show decode (mB 41) 9 = .ok (.if_icmp .ge 28, 3) by decide +kernel) (by decide)
theorem x41_12 {S : List Value} {h : List hC} {v1 v2 v3 : Value} {a : Nat} : X 41 12 [.ref a, v1, v2, v3] S h = X 41 13 [.ref a, v1, v2, v3] (.ref a :: S) h := X_aload_n (show decode (mB 41) 12 = .ok (.aload_n 0, 1) by decide +kernel) rfl
theorem x41_12N {S : List Value} {h : List hC} {v1 v2 v3 : Value} : X 41 12 [.null, v1, v2, v3] S h = X 41 13 [.null, v1, v2, v3] (.null :: S) h := X_aload_nN (show decode (mB 41) 12 = .ok (.aload_n 0, 1) by decide +kernel) rfl
theorem x41_13 {L S : List Value} {h : List hC} {a : Nat} : X 41 13 L (.ref a :: S) h = (getF h[a]? 4 0).bind (fun v => X 41 16 L (v :: S) h) := X_getfield (show decode (mB 41) 13 = .ok (.getfield 9, 3) by decide +kernel) (show fref (mC 41) 9 = some (4, 0) by decide +kernel)
theorem x41_16 {S : List Value} {h : List hC} {v0 v1 v2 : Value} {x : Int32} : X 41 16 [v0, v1, v2, .int x] S h = X 41 17 [v0, v1, v2, .int x] (.int x :: S) h := X_iload_n (show decode (mB 41) 16 = .ok (.iload_n 3, 1) by decide +kernel) rfl
theorem x41_17 {L S : List Value} {h : List hC} {a : Nat} {x : Int32} : X 41 17 L (.int x :: .ref a :: S) h = (getI h[a]? a 0 x).bind (fun v => X 41 18 L (.int v :: S) h) := X_iaload (show decode (mB 41) 17 = .ok (.iaload, 1) by decide +kernel)
theorem x41_18 {S : List Value} {h : List hC} {v0 v2 v3 : Value} {x : Int32} : X 41 18 [v0, .int x, v2, v3] S h = X 41 19 [v0, .int x, v2, v3] (.int x :: S) h := X_iload_n (show decode (mB 41) 18 = .ok (.iload_n 1, 1) by decide +kernel) rfl
theorem x41_19 {L S : List Value} {h : List hC} {x y : Int32} : X 41 19 L (.int y :: .int x :: S) h = if x = y then X 41 22 L S h else X 41 31 L S h := X_icmp_ne (show decode (mB 41) 19 = .ok (.if_icmp .ne 12, 3) by decide +kernel) (by decide)
theorem x41_22 {S : List Value} {h : List hC} {v0 v1 v3 : Value} {x : Int32} : X 41 22 [v0, v1, .int x, v3] S h = X 41 23 [v0, v1, .int x, v3] (.int x :: S) h := X_iload_n (show decode (mB 41) 22 = .ok (.iload_n 2, 1) by decide +kernel) rfl
theorem x41_23 {S : List Value} {h : List hC} {v1 v2 v3 : Value} {a : Nat} : X 41 23 [.ref a, v1, v2, v3] S h = X 41 24 [.ref a, v1, v2, v3] (.ref a :: S) h := X_aload_n (show decode (mB 41) 23 = .ok (.aload_n 0, 1) by decide +kernel) rfl
theorem x41_23N {S : List Value} {h : List hC} {v1 v2 v3 : Value} : X 41 23 [.null, v1, v2, v3] S h = X 41 24 [.null, v1, v2, v3] (.null :: S) h := X_aload_nN (show decode (mB 41) 23 = .ok (.aload_n 0, 1) by decide +kernel) rfl
theorem x41_24 {L S : List Value} {h : List hC} {a : Nat} : X 41 24 L (.ref a :: S) h = (getF h[a]? 4 2).bind (fun v => X 41 27 L (v :: S) h) := X_getfield (show decode (mB 41) 24 = .ok (.getfield 18, 3) by decide +kernel) (show fref (mC 41) 18 = some (4, 2) by decide +kernel)
theorem x41_27 {S : List Value} {h : List hC} {v0 v1 v2 : Value} {x : Int32} : X 41 27 [v0, v1, v2, .int x] S h = X 41 28 [v0, v1, v2, .int x] (.int x :: S) h := X_iload_n (show decode (mB 41) 27 = .ok (.iload_n 3, 1) by decide +kernel) rfl
theorem x41_28 {L S : List Value} {h : List hC} {a : Nat} {x : Int32} : X 41 28 L (.int x :: .ref a :: S) h = (getI h[a]? a 0 x).bind (fun v => X 41 29 L (.int v :: S) h) := X_iaload (show decode (mB 41) 28 = .ok (.iaload, 1) by decide +kernel)
theorem x41_29 {L S : List Value} {h : List hC} {x y : Int32} : X 41 29 L (.int y :: .int x :: S) h = X 41 30 L (.int (x + y) :: S) h := X_iadd (show decode (mB 41) 29 = .ok (.iadd, 1) by decide +kernel)
theorem x41_30 {S : List Value} {h : List hC} {v0 v1 v2 v3 : Value} {x : Int32} : X 41 30 [v0, v1, v2, v3] (.int x :: S) h = X 41 31 [v0, v1, .int x, v3] S h := X_istore_n (show decode (mB 41) 30 = .ok (.istore_n 2, 1) by decide +kernel) (Nat.le_of_ble_eq_true rfl)
theorem x41_31 {S : List Value} {h : List hC} {v0 v1 v2 : Value} {x : Int32} : X 41 31 [v0, v1, v2, .int x] S h = X 41 34 [v0, v1, v2, .int (x + 1)] S h := X_iinc (show decode (mB 41) 31 = .ok (.iinc 3 1, 3) by decide +kernel) rfl (by decide)
theorem x41_34 {L S : List Value} {h : List hC} : X 41 34 L S h = X 41 4 L S h := X_goto (show decode (mB 41) 34 = .ok (.goto (-30), 3) by decide +kernel) (by decide)
theorem x41_37 {S : List Value} {h : List hC} {v0 v1 v3 : Value} {x : Int32} : X 41 37 [v0, v1, .int x, v3] S h = X 41 38 [v0, v1, .int x, v3] (.int x :: S) h := X_iload_n (show decode (mB 41) 37 = .ok (.iload_n 2, 1) by decide +kernel) rfl
theorem x41_38 {L : List Value} {h : List hC} {x : Int32} : X 41 38 L [.int x] h = some (some (.int x), h) := X_iret (show decode (mB 41) 38 = .ok (.ireturn, 1) by decide +kernel) (by decide +kernel)
theorem x42_0 {L S : List Value} {h : List hC} : X 42 0 L S h = X 42 1 L (.int 0 :: S) h := X_iconst (show decode (mB 42) 0 = .ok (.iconst 0, 1) by decide +kernel) (by decide)
theorem x42_1 {S : List Value} {h : List hC} {v0 v1 v2 : Value} {x : Int32} : X 42 1 [v0, v1, v2] (.int x :: S) h = X 42 2 [v0, .int x, v2] S h := X_istore_n (show decode (mB 42) 1 = .ok (.istore_n 1, 1) by decide +kernel) (Nat.le_of_ble_eq_true rfl)
theorem x42_2 {L S : List Value} {h : List hC} : X 42 2 L S h = X 42 3 L (.int 0 :: S) h := X_iconst (show decode (mB 42) 2 = .ok (.iconst 0, 1) by decide +kernel) (by decide)
theorem x42_3 {S : List Value} {h : List hC} {v0 v1 v2 : Value} {x : Int32} : X 42 3 [v0, v1, v2] (.int x :: S) h = X 42 4 [v0, v1, .int x] S h := X_istore_n (show decode (mB 42) 3 = .ok (.istore_n 2, 1) by decide +kernel) (Nat.le_of_ble_eq_true rfl)
theorem x42_4 {S : List Value} {h : List hC} {v0 v1 : Value} {x : Int32} : X 42 4 [v0, v1, .int x] S h = X 42 5 [v0, v1, .int x] (.int x :: S) h := X_iload_n (show decode (mB 42) 4 = .ok (.iload_n 2, 1) by decide +kernel) rfl
theorem x42_5 {S : List Value} {h : List hC} {v1 v2 : Value} {a : Nat} : X 42 5 [.ref a, v1, v2] S h = X 42 6 [.ref a, v1, v2] (.ref a :: S) h := X_aload_n (show decode (mB 42) 5 = .ok (.aload_n 0, 1) by decide +kernel) rfl
theorem x42_5N {S : List Value} {h : List hC} {v1 v2 : Value} : X 42 5 [.null, v1, v2] S h = X 42 6 [.null, v1, v2] (.null :: S) h := X_aload_nN (show decode (mB 42) 5 = .ok (.aload_n 0, 1) by decide +kernel) rfl
theorem x42_6 {L S : List Value} {h : List hC} {a : Nat} : X 42 6 L (.ref a :: S) h = (getF h[a]? 4 3).bind (fun v => X 42 9 L (v :: S) h) := X_getfield (show decode (mB 42) 6 = .ok (.getfield 21, 3) by decide +kernel) (show fref (mC 42) 21 = some (4, 3) by decide +kernel)
theorem x42_9 {L S : List Value} {h : List hC} {x y : Int32} : X 42 9 L (.int y :: .int x :: S) h = if x < y then X 42 12 L S h else X 42 27 L S h := X_icmp_ge (show decode (mB 42) 9 = .ok (.if_icmp .ge 18, 3) by decide +kernel) (by decide)
theorem x42_12 {S : List Value} {h : List hC} {v0 v2 : Value} {x : Int32} : X 42 12 [v0, .int x, v2] S h = X 42 13 [v0, .int x, v2] (.int x :: S) h := X_iload_n (show decode (mB 42) 12 = .ok (.iload_n 1, 1) by decide +kernel) rfl
theorem x42_13 {S : List Value} {h : List hC} {v1 v2 : Value} {a : Nat} : X 42 13 [.ref a, v1, v2] S h = X 42 14 [.ref a, v1, v2] (.ref a :: S) h := X_aload_n (show decode (mB 42) 13 = .ok (.aload_n 0, 1) by decide +kernel) rfl
theorem x42_13N {S : List Value} {h : List hC} {v1 v2 : Value} : X 42 13 [.null, v1, v2] S h = X 42 14 [.null, v1, v2] (.null :: S) h := X_aload_nN (show decode (mB 42) 13 = .ok (.aload_n 0, 1) by decide +kernel) rfl
theorem x42_14 {L S : List Value} {h : List hC} {a : Nat} : X 42 14 L (.ref a :: S) h = (getF h[a]? 4 2).bind (fun v => X 42 17 L (v :: S) h) := X_getfield (show decode (mB 42) 14 = .ok (.getfield 18, 3) by decide +kernel) (show fref (mC 42) 18 = some (4, 2) by decide +kernel)
theorem x42_17 {S : List Value} {h : List hC} {v0 v1 : Value} {x : Int32} : X 42 17 [v0, v1, .int x] S h = X 42 18 [v0, v1, .int x] (.int x :: S) h := X_iload_n (show decode (mB 42) 17 = .ok (.iload_n 2, 1) by decide +kernel) rfl
theorem x42_18 {L S : List Value} {h : List hC} {a : Nat} {x : Int32} : X 42 18 L (.int x :: .ref a :: S) h = (getI h[a]? a 0 x).bind (fun v => X 42 19 L (.int v :: S) h) := X_iaload (show decode (mB 42) 18 = .ok (.iaload, 1) by decide +kernel)
theorem x42_19 {L S : List Value} {h : List hC} {x y : Int32} : X 42 19 L (.int y :: .int x :: S) h = X 42 20 L (.int (x + y) :: S) h := X_iadd (show decode (mB 42) 19 = .ok (.iadd, 1) by decide +kernel)
theorem x42_20 {S : List Value} {h : List hC} {v0 v1 v2 : Value} {x : Int32} : X 42 20 [v0, v1, v2] (.int x :: S) h = X 42 21 [v0, .int x, v2] S h := X_istore_n (show decode (mB 42) 20 = .ok (.istore_n 1, 1) by decide +kernel) (Nat.le_of_ble_eq_true rfl)
theorem x42_21 {S : List Value} {h : List hC} {v0 v1 : Value} {x : Int32} : X 42 21 [v0, v1, .int x] S h = X 42 24 [v0, v1, .int (x + 1)] S h := X_iinc (show decode (mB 42) 21 = .ok (.iinc 2 1, 3) by decide +kernel) rfl (by decide)
theorem x42_24 {L S : List Value} {h : List hC} : X 42 24 L S h = X 42 4 L S h := X_goto (show decode (mB 42) 24 = .ok (.goto (-20), 3) by decide +kernel) (by decide)
theorem x42_27 {S : List Value} {h : List hC} {v0 v2 : Value} {x : Int32} : X 42 27 [v0, .int x, v2] S h = X 42 28 [v0, .int x, v2] (.int x :: S) h := X_iload_n (show decode (mB 42) 27 = .ok (.iload_n 1, 1) by decide +kernel) rfl
theorem x42_28 {L : List Value} {h : List hC} {x : Int32} : X 42 28 L [.int x] h = some (some (.int x), h) := X_iret (show decode (mB 42) 28 = .ok (.ireturn, 1) by decide +kernel) (by decide +kernel)
theorem x43_0 {L S : List Value} {h : List hC} : X 43 0 L S h = X 43 1 L (.int 0 :: S) h := X_iconst (show decode (mB 43) 0 = .ok (.iconst 0, 1) by decide +kernel) (by decide)
theorem x43_1 {S : List Value} {h : List hC} {v0 v1 v2 : Value} {x : Int32} : X 43 1 [v0, v1, v2] (.int x :: S) h = X 43 2 [v0, v1, .int x] S h := X_istore_n (show decode (mB 43) 1 = .ok (.istore_n 2, 1) by decide +kernel) (Nat.le_of_ble_eq_true rfl)
theorem x43_2 {S : List Value} {h : List hC} {v0 v1 : Value} {x : Int32} : X 43 2 [v0, v1, .int x] S h = X 43 3 [v0, v1, .int x] (.int x :: S) h := X_iload_n (show decode (mB 43) 2 = .ok (.iload_n 2, 1) by decide +kernel) rfl
theorem x43_3 {S : List Value} {h : List hC} {v1 v2 : Value} {a : Nat} : X 43 3 [.ref a, v1, v2] S h = X 43 4 [.ref a, v1, v2] (.ref a :: S) h := X_aload_n (show decode (mB 43) 3 = .ok (.aload_n 0, 1) by decide +kernel) rfl
theorem x43_3N {S : List Value} {h : List hC} {v1 v2 : Value} : X 43 3 [.null, v1, v2] S h = X 43 4 [.null, v1, v2] (.null :: S) h := X_aload_nN (show decode (mB 43) 3 = .ok (.aload_n 0, 1) by decide +kernel) rfl
theorem x43_4 {L S : List Value} {h : List hC} {a : Nat} : X 43 4 L (.ref a :: S) h = (getF h[a]? 4 3).bind (fun v => X 43 7 L (v :: S) h) := X_getfield (show decode (mB 43) 4 = .ok (.getfield 21, 3) by decide +kernel) (show fref (mC 43) 21 = some (4, 3) by decide +kernel)
theorem x43_7 {L S : List Value} {h : List hC} {x y : Int32} : X 43 7 L (.int y :: .int x :: S) h = if x < y then X 43 10 L S h else X 43 33 L S h := X_icmp_ge (show decode (mB 43) 7 = .ok (.if_icmp .ge 26, 3) by decide +kernel) (by decide)
theorem x43_10 {S : List Value} {h : List hC} {v1 v2 : Value} {a : Nat} : X 43 10 [.ref a, v1, v2] S h = X 43 11 [.ref a, v1, v2] (.ref a :: S) h := X_aload_n (show decode (mB 43) 10 = .ok (.aload_n 0, 1) by decide +kernel) rfl
theorem x43_10N {S : List Value} {h : List hC} {v1 v2 : Value} : X 43 10 [.null, v1, v2] S h = X 43 11 [.null, v1, v2] (.null :: S) h := X_aload_nN (show decode (mB 43) 10 = .ok (.aload_n 0, 1) by decide +kernel) rfl
theorem x43_11 {L S : List Value} {h : List hC} {a : Nat} : X 43 11 L (.ref a :: S) h = (getF h[a]? 4 0).bind (fun v => X 43 14 L (v :: S) h) := X_getfield (show decode (mB 43) 11 = .ok (.getfield 9, 3) by decide +kernel) (show fref (mC 43) 9 = some (4, 0) by decide +kernel)
theorem x43_14 {S : List Value} {h : List hC} {v0 v1 : Value} {x : Int32} : X 43 14 [v0, v1, .int x] S h = X 43 15 [v0, v1, .int x] (.int x :: S) h := X_iload_n (show decode (mB 43) 14 = .ok (.iload_n 2, 1) by decide +kernel) rfl
theorem x43_15 {L S : List Value} {h : List hC} {a : Nat} {x : Int32} : X 43 15 L (.int x :: .ref a :: S) h = (getI h[a]? a 0 x).bind (fun v => X 43 16 L (.int v :: S) h) := X_iaload (show decode (mB 43) 15 = .ok (.iaload, 1) by decide +kernel)
theorem x43_16 {S : List Value} {h : List hC} {v0 v2 : Value} {x : Int32} : X 43 16 [v0, .int x, v2] S h = X 43 17 [v0, .int x, v2] (.int x :: S) h := X_iload_n (show decode (mB 43) 16 = .ok (.iload_n 1, 1) by decide +kernel) rfl
theorem x43_17 {L S : List Value} {h : List hC} {x y : Int32} : X 43 17 L (.int y :: .int x :: S) h = if x = y then X 43 20 L S h else X 43 27 L S h := X_icmp_ne (show decode (mB 43) 17 = .ok (.if_icmp .ne 10, 3) by decide +kernel) (by decide)
theorem x43_20 {S : List Value} {h : List hC} {v1 v2 : Value} {a : Nat} : X 43 20 [.ref a, v1, v2] S h = X 43 21 [.ref a, v1, v2] (.ref a :: S) h := X_aload_n (show decode (mB 43) 20 = .ok (.aload_n 0, 1) by decide +kernel) rfl
theorem x43_20N {S : List Value} {h : List hC} {v1 v2 : Value} : X 43 20 [.null, v1, v2] S h = X 43 21 [.null, v1, v2] (.null :: S) h := X_aload_nN (show decode (mB 43) 20 = .ok (.aload_n 0, 1) by decide +kernel) rfl
theorem x43_21 {L S : List Value} {h : List hC} {a : Nat} : X 43 21 L (.ref a :: S) h = (getF h[a]? 4 1).bind (fun v => X 43 24 L (v :: S) h) := X_getfield (show decode (mB 43) 21 = .ok (.getfield 15, 3) by decide +kernel) (show fref (mC 43) 15 = some (4, 1) by decide +kernel)
theorem x43_24 {S : List Value} {h : List hC} {v0 v1 : Value} {x : Int32} : X 43 24 [v0, v1, .int x] S h = X 43 25 [v0, v1, .int x] (.int x :: S) h := X_iload_n (show decode (mB 43) 24 = .ok (.iload_n 2, 1) by decide +kernel) rfl
theorem x43_25 {L S : List Value} {h : List hC} {a : Nat} {x : Int32} : X 43 25 L (.int x :: .ref a :: S) h = (getI h[a]? a 0 x).bind (fun v => X 43 26 L (.int v :: S) h) := X_iaload (show decode (mB 43) 25 = .ok (.iaload, 1) by decide +kernel)
theorem x43_26 {L : List Value} {h : List hC} {x : Int32} : X 43 26 L [.int x] h = some (some (.int x), h) := X_iret (show decode (mB 43) 26 = .ok (.ireturn, 1) by decide +kernel) (by decide +kernel)
theorem x43_27 {S : List Value} {h : List hC} {v0 v1 : Value} {x : Int32} : X 43 27 [v0, v1, .int x] S h = X 43 30 [v0, v1, .int (x + 1)] S h := X_iinc (show decode (mB 43) 27 = .ok (.iinc 2 1, 3) by decide +kernel) rfl (by decide)
theorem x43_30 {L S : List Value} {h : List hC} : X 43 30 L S h = X 43 2 L S h := X_goto (show decode (mB 43) 30 = .ok (.goto (-28), 3) by decide +kernel) (by decide)
theorem x43_33 {L S : List Value} {h : List hC} : X 43 33 L S h = X 43 35 L (.int (-5) :: S) h := X_bipush (show decode (mB 43) 33 = .ok (.bipush (-5), 2) by decide +kernel) (by decide)
theorem x43_35 {L : List Value} {h : List hC} {x : Int32} : X 43 35 L [.int x] h = some (some (.int x), h) := X_iret (show decode (mB 43) 35 = .ok (.ireturn, 1) by decide +kernel) (by decide +kernel)
theorem x44_0 {S : List Value} {h : List hC} {v0 v1 v3 v4 v5 : Value} {x : Int32} : X 44 0 [v0, v1, .int x, v3, v4, v5] S h = X 44 1 [v0, v1, .int x, v3, v4, v5] (.int x :: S) h := X_iload_n (show decode (mB 44) 0 = .ok (.iload_n 2, 1) by decide +kernel) rfl
theorem x44_1 {S : List Value} {h : List hC} {v0 v1 v2 v3 v4 v5 : Value} {x : Int32} : X 44 1 [v0, v1, v2, v3, v4, v5] (.int x :: S) h = X 44 2 [v0, v1, v2, .int x, v4, v5] S h := X_istore_n (show decode (mB 44) 1 = .ok (.istore_n 3, 1) by decide +kernel) (Nat.le_of_ble_eq_true rfl)
theorem x44_2 {L S : List Value} {h : List hC} : X 44 2 L S h = X 44 3 L (.int 0 :: S) h := X_iconst (show decode (mB 44) 2 = .ok (.iconst 0, 1) by decide +kernel) (by decide)
theorem x44_3 {S : List Value} {h : List hC} {v0 v1 v2 v3 v4 v5 : Value} {x : Int32} : X 44 3 [v0, v1, v2, v3, v4, v5] (.int x :: S) h = X 44 5 [v0, v1, v2, v3, .int x, v5] S h := X_istore (show decode (mB 44) 3 = .ok (.istore 4, 2) by decide +kernel) (Nat.le_of_ble_eq_true rfl)
theorem x44_5 {S : List Value} {h : List hC} {v0 v1 v2 v3 v5 : Value} {x : Int32} : X 44 5 [v0, v1, v2, v3, .int x, v5] S h = X 44 7 [v0, v1, v2, v3, .int x, v5] (.int x :: S) h := X_iload (show decode (mB 44) 5 = .ok (.iload 4, 2) by decide +kernel) rfl
theorem x44_7 {S : List Value} {h : List hC} {v1 v2 v3 v4 v5 : Value} {a : Nat} : X 44 7 [.ref a, v1, v2, v3, v4, v5] S h = X 44 8 [.ref a, v1, v2, v3, v4, v5] (.ref a :: S) h := X_aload_n (show decode (mB 44) 7 = .ok (.aload_n 0, 1) by decide +kernel) rfl
theorem x44_7N {S : List Value} {h : List hC} {v1 v2 v3 v4 v5 : Value} : X 44 7 [.null, v1, v2, v3, v4, v5] S h = X 44 8 [.null, v1, v2, v3, v4, v5] (.null :: S) h := X_aload_nN (show decode (mB 44) 7 = .ok (.aload_n 0, 1) by decide +kernel) rfl
theorem x44_8 {L S : List Value} {h : List hC} {a : Nat} : X 44 8 L (.ref a :: S) h = (getF h[a]? 4 3).bind (fun v => X 44 11 L (v :: S) h) := X_getfield (show decode (mB 44) 8 = .ok (.getfield 21, 3) by decide +kernel) (show fref (mC 44) 21 = some (4, 3) by decide +kernel)
theorem x44_11 {L S : List Value} {h : List hC} {x y : Int32} : X 44 11 L (.int y :: .int x :: S) h = if x < y then X 44 14 L S h else X 44 61 L S h := X_icmp_ge (show decode (mB 44) 11 = .ok (.if_icmp .ge 50, 3) by decide +kernel) (by decide)
theorem x44_14 {S : List Value} {h : List hC} {v1 v2 v3 v4 v5 : Value} {a : Nat} : X 44 14 [.ref a, v1, v2, v3, v4, v5] S h = X 44 15 [.ref a, v1, v2, v3, v4, v5] (.ref a :: S) h := X_aload_n (show decode (mB 44) 14 = .ok (.aload_n 0, 1) by decide +kernel) rfl
theorem x44_14N {S : List Value} {h : List hC} {v1 v2 v3 v4 v5 : Value} : X 44 14 [.null, v1, v2, v3, v4, v5] S h = X 44 15 [.null, v1, v2, v3, v4, v5] (.null :: S) h := X_aload_nN (show decode (mB 44) 14 = .ok (.aload_n 0, 1) by decide +kernel) rfl
theorem x44_15 {L S : List Value} {h : List hC} {a : Nat} : X 44 15 L (.ref a :: S) h = (getF h[a]? 4 0).bind (fun v => X 44 18 L (v :: S) h) := X_getfield (show decode (mB 44) 15 = .ok (.getfield 9, 3) by decide +kernel) (show fref (mC 44) 9 = some (4, 0) by decide +kernel)
theorem x44_18 {S : List Value} {h : List hC} {v0 v1 v2 v3 v5 : Value} {x : Int32} : X 44 18 [v0, v1, v2, v3, .int x, v5] S h = X 44 20 [v0, v1, v2, v3, .int x, v5] (.int x :: S) h := X_iload (show decode (mB 44) 18 = .ok (.iload 4, 2) by decide +kernel) rfl
theorem x44_20 {L S : List Value} {h : List hC} {a : Nat} {x : Int32} : X 44 20 L (.int x :: .ref a :: S) h = (getI h[a]? a 0 x).bind (fun v => X 44 21 L (.int v :: S) h) := X_iaload (show decode (mB 44) 20 = .ok (.iaload, 1) by decide +kernel)
theorem x44_21 {S : List Value} {h : List hC} {v0 v2 v3 v4 v5 : Value} {x : Int32} : X 44 21 [v0, .int x, v2, v3, v4, v5] S h = X 44 22 [v0, .int x, v2, v3, v4, v5] (.int x :: S) h := X_iload_n (show decode (mB 44) 21 = .ok (.iload_n 1, 1) by decide +kernel) rfl
theorem x44_22 {L S : List Value} {h : List hC} {x y : Int32} : X 44 22 L (.int y :: .int x :: S) h = if x = y then X 44 25 L S h else X 44 55 L S h := X_icmp_ne (show decode (mB 44) 22 = .ok (.if_icmp .ne 33, 3) by decide +kernel) (by decide)
theorem x44_25 {S : List Value} {h : List hC} {v0 v1 v2 v4 v5 : Value} {x : Int32} : X 44 25 [v0, v1, v2, .int x, v4, v5] S h = X 44 26 [v0, v1, v2, .int x, v4, v5] (.int x :: S) h := X_iload_n (show decode (mB 44) 25 = .ok (.iload_n 3, 1) by decide +kernel) rfl
theorem x44_26 {S : List Value} {h : List hC} {v1 v2 v3 v4 v5 : Value} {a : Nat} : X 44 26 [.ref a, v1, v2, v3, v4, v5] S h = X 44 27 [.ref a, v1, v2, v3, v4, v5] (.ref a :: S) h := X_aload_n (show decode (mB 44) 26 = .ok (.aload_n 0, 1) by decide +kernel) rfl
theorem x44_26N {S : List Value} {h : List hC} {v1 v2 v3 v4 v5 : Value} : X 44 26 [.null, v1, v2, v3, v4, v5] S h = X 44 27 [.null, v1, v2, v3, v4, v5] (.null :: S) h := X_aload_nN (show decode (mB 44) 26 = .ok (.aload_n 0, 1) by decide +kernel) rfl
theorem x44_27 {L S : List Value} {h : List hC} {a : Nat} : X 44 27 L (.ref a :: S) h = (getF h[a]? 4 2).bind (fun v => X 44 30 L (v :: S) h) := X_getfield (show decode (mB 44) 27 = .ok (.getfield 18, 3) by decide +kernel) (show fref (mC 44) 18 = some (4, 2) by decide +kernel)
theorem x44_30 {S : List Value} {h : List hC} {v0 v1 v2 v3 v5 : Value} {x : Int32} : X 44 30 [v0, v1, v2, v3, .int x, v5] S h = X 44 32 [v0, v1, v2, v3, .int x, v5] (.int x :: S) h := X_iload (show decode (mB 44) 30 = .ok (.iload 4, 2) by decide +kernel) rfl
theorem x44_32 {L S : List Value} {h : List hC} {a : Nat} {x : Int32} : X 44 32 L (.int x :: .ref a :: S) h = (getI h[a]? a 0 x).bind (fun v => X 44 33 L (.int v :: S) h) := X_iaload (show decode (mB 44) 32 = .ok (.iaload, 1) by decide +kernel)
theorem x44_33 {L : List Value} {h : List hC} {x0 : Int32} {x1 : Int32} : X 44 33 L [.int x0, .int x1] h = X 44 36 L [.int (if x0 < x1 then x0 else x1)] h := X_min (j := 0) (show decode (mB 44) 33 = .ok (.invokestatic 31, 3) by decide +kernel) (show lref (mC 44) 31 = some (7, 0) by decide +kernel) (by decide +kernel)
theorem x44_36 {S : List Value} {h : List hC} {v0 v1 v2 v3 v4 v5 : Value} {x : Int32} : X 44 36 [v0, v1, v2, v3, v4, v5] (.int x :: S) h = X 44 38 [v0, v1, v2, v3, v4, .int x] S h := X_istore (show decode (mB 44) 36 = .ok (.istore 5, 2) by decide +kernel) (Nat.le_of_ble_eq_true rfl)
theorem x44_38 {S : List Value} {h : List hC} {v1 v2 v3 v4 v5 : Value} {a : Nat} : X 44 38 [.ref a, v1, v2, v3, v4, v5] S h = X 44 39 [.ref a, v1, v2, v3, v4, v5] (.ref a :: S) h := X_aload_n (show decode (mB 44) 38 = .ok (.aload_n 0, 1) by decide +kernel) rfl
theorem x44_38N {S : List Value} {h : List hC} {v1 v2 v3 v4 v5 : Value} : X 44 38 [.null, v1, v2, v3, v4, v5] S h = X 44 39 [.null, v1, v2, v3, v4, v5] (.null :: S) h := X_aload_nN (show decode (mB 44) 38 = .ok (.aload_n 0, 1) by decide +kernel) rfl
theorem x44_39 {L S : List Value} {h : List hC} {a : Nat} : X 44 39 L (.ref a :: S) h = (getF h[a]? 4 2).bind (fun v => X 44 42 L (v :: S) h) := X_getfield (show decode (mB 44) 39 = .ok (.getfield 18, 3) by decide +kernel) (show fref (mC 44) 18 = some (4, 2) by decide +kernel)
theorem x44_42 {S : List Value} {h : List hC} {v0 v1 v2 v3 v5 : Value} {x : Int32} : X 44 42 [v0, v1, v2, v3, .int x, v5] S h = X 44 44 [v0, v1, v2, v3, .int x, v5] (.int x :: S) h := X_iload (show decode (mB 44) 42 = .ok (.iload 4, 2) by decide +kernel) rfl
theorem x44_44 {L S : List Value} {h : List hC} {x0 : Int32} {a1 : Nat} : X 44 44 L (.int x0 :: .ref a1 :: S) h = X 44 45 L (.int x0 :: .ref a1 :: .int x0 :: .ref a1 :: S) h := X_dup2 (show decode (mB 44) 44 = .ok (.dup2, 1) by decide +kernel) rfl rfl
theorem x44_45 {L S : List Value} {h : List hC} {a : Nat} {x : Int32} : X 44 45 L (.int x :: .ref a :: S) h = (getI h[a]? a 0 x).bind (fun v => X 44 46 L (.int v :: S) h) := X_iaload (show decode (mB 44) 45 = .ok (.iaload, 1) by decide +kernel)
theorem x44_46 {S : List Value} {h : List hC} {v0 v1 v2 v3 v4 : Value} {x : Int32} : X 44 46 [v0, v1, v2, v3, v4, .int x] S h = X 44 48 [v0, v1, v2, v3, v4, .int x] (.int x :: S) h := X_iload (show decode (mB 44) 46 = .ok (.iload 5, 2) by decide +kernel) rfl
theorem x44_48 {L S : List Value} {h : List hC} {x y : Int32} : X 44 48 L (.int y :: .int x :: S) h = X 44 49 L (.int (x - y) :: S) h := X_isub (show decode (mB 44) 48 = .ok (.isub, 1) by decide +kernel)
theorem x44_49 {L S : List Value} {h : List hC} {a : Nat} {x y : Int32} : X 44 49 L (.int y :: .int x :: .ref a :: S) h = (putI h[a]? 0 x y).bind (fun c => X 44 50 L S (h.set a c)) := X_iastore (show decode (mB 44) 49 = .ok (.iastore, 1) by decide +kernel)
theorem x44_50 {S : List Value} {h : List hC} {v0 v1 v2 v4 v5 : Value} {x : Int32} : X 44 50 [v0, v1, v2, .int x, v4, v5] S h = X 44 51 [v0, v1, v2, .int x, v4, v5] (.int x :: S) h := X_iload_n (show decode (mB 44) 50 = .ok (.iload_n 3, 1) by decide +kernel) rfl
theorem x44_51 {S : List Value} {h : List hC} {v0 v1 v2 v3 v4 : Value} {x : Int32} : X 44 51 [v0, v1, v2, v3, v4, .int x] S h = X 44 53 [v0, v1, v2, v3, v4, .int x] (.int x :: S) h := X_iload (show decode (mB 44) 51 = .ok (.iload 5, 2) by decide +kernel) rfl
theorem x44_53 {L S : List Value} {h : List hC} {x y : Int32} : X 44 53 L (.int y :: .int x :: S) h = X 44 54 L (.int (x - y) :: S) h := X_isub (show decode (mB 44) 53 = .ok (.isub, 1) by decide +kernel)
theorem x44_54 {S : List Value} {h : List hC} {v0 v1 v2 v3 v4 v5 : Value} {x : Int32} : X 44 54 [v0, v1, v2, v3, v4, v5] (.int x :: S) h = X 44 55 [v0, v1, v2, .int x, v4, v5] S h := X_istore_n (show decode (mB 44) 54 = .ok (.istore_n 3, 1) by decide +kernel) (Nat.le_of_ble_eq_true rfl)
theorem x44_55 {S : List Value} {h : List hC} {v0 v1 v2 v3 v5 : Value} {x : Int32} : X 44 55 [v0, v1, v2, v3, .int x, v5] S h = X 44 58 [v0, v1, v2, v3, .int (x + 1), v5] S h := X_iinc (show decode (mB 44) 55 = .ok (.iinc 4 1, 3) by decide +kernel) rfl (by decide)
theorem x44_58 {L S : List Value} {h : List hC} : X 44 58 L S h = X 44 5 L S h := X_goto (show decode (mB 44) 58 = .ok (.goto (-53), 3) by decide +kernel) (by decide)
theorem x44_61 {S : List Value} {h : List hC} {v1 v2 v3 v4 v5 : Value} {a : Nat} : X 44 61 [.ref a, v1, v2, v3, v4, v5] S h = X 44 62 [.ref a, v1, v2, v3, v4, v5] (.ref a :: S) h := X_aload_n (show decode (mB 44) 61 = .ok (.aload_n 0, 1) by decide +kernel) rfl
theorem x44_61N {S : List Value} {h : List hC} {v1 v2 v3 v4 v5 : Value} : X 44 61 [.null, v1, v2, v3, v4, v5] S h = X 44 62 [.null, v1, v2, v3, v4, v5] (.null :: S) h := X_aload_nN (show decode (mB 44) 61 = .ok (.aload_n 0, 1) by decide +kernel) rfl
theorem x44_62 {L : List Value} {h : List hC} {a0 : Nat} : X 44 62 L [.ref a0] h = if isO h[a0]? 4 = true then aft (X 47 0 [.ref a0, .long 0, .long 0] [] h) (fun v h1 => X 44 65 L (v ++ []) h1) else none := X_invV' (as := []) (S := []) (show decode (mB 44) 62 = .ok (.invokevirtual 37, 3) by decide +kernel) (show lref (mC 44) 37 = some (0, 47) by decide +kernel) (by decide +kernel) (show (mA 47, mL 47, mC 47) = (1, 3, 4) by decide +kernel) rfl rfl rfl rfl
theorem x44_65 {L : List Value} {h : List hC} : X 44 65 L [] h = some (none, h) := X_vret (show decode (mB 44) 65 = .ok (.return_, 1) by decide +kernel) (by decide +kernel)
theorem x45_0 {S : List Value} {h : List hC} {v1 : Value} {a : Nat} : X 45 0 [.ref a, v1] S h = X 45 1 [.ref a, v1] (.ref a :: S) h := X_aload_n (show decode (mB 45) 0 = .ok (.aload_n 0, 1) by decide +kernel) rfl
theorem x45_0N {S : List Value} {h : List hC} {v1 : Value} : X 45 0 [.null, v1] S h = X 45 1 [.null, v1] (.null :: S) h := X_aload_nN (show decode (mB 45) 0 = .ok (.aload_n 0, 1) by decide +kernel) rfl
theorem x45_1 {L S : List Value} {h : List hC} {a : Nat} : X 45 1 L (.ref a :: S) h = (getF h[a]? 4 3).bind (fun v => X 45 4 L (v :: S) h) := X_getfield (show decode (mB 45) 1 = .ok (.getfield 21, 3) by decide +kernel) (show fref (mC 45) 21 = some (4, 3) by decide +kernel)
theorem x45_4 {L S : List Value} {h : List hC} {x : Int32} : X 45 4 L (.int x :: S) h = if 0 < x then X 45 7 L S h else X 45 21 L S h := X_if_le (show decode (mB 45) 4 = .ok (.ifCond .le 17, 3) by decide +kernel) (by decide)
theorem x45_7 {S : List Value} {h : List hC} {v1 : Value} {a : Nat} : X 45 7 [.ref a, v1] S h = X 45 8 [.ref a, v1] (.ref a :: S) h := X_aload_n (show decode (mB 45) 7 = .ok (.aload_n 0, 1) by decide +kernel) rfl
theorem x45_7N {S : List Value} {h : List hC} {v1 : Value} : X 45 7 [.null, v1] S h = X 45 8 [.null, v1] (.null :: S) h := X_aload_nN (show decode (mB 45) 7 = .ok (.aload_n 0, 1) by decide +kernel) rfl
theorem x45_8 {L S : List Value} {h : List hC} {a : Nat} : X 45 8 L (.ref a :: S) h = (getF h[a]? 4 1).bind (fun v => X 45 11 L (v :: S) h) := X_getfield (show decode (mB 45) 8 = .ok (.getfield 15, 3) by decide +kernel) (show fref (mC 45) 15 = some (4, 1) by decide +kernel)
theorem x45_11 {L S : List Value} {h : List hC} : X 45 11 L S h = X 45 12 L (.int 0 :: S) h := X_iconst (show decode (mB 45) 11 = .ok (.iconst 0, 1) by decide +kernel) (by decide)
theorem x45_12 {L S : List Value} {h : List hC} {a : Nat} {x : Int32} : X 45 12 L (.int x :: .ref a :: S) h = (getI h[a]? a 0 x).bind (fun v => X 45 13 L (.int v :: S) h) := X_iaload (show decode (mB 45) 12 = .ok (.iaload, 1) by decide +kernel)
theorem x45_13 {S : List Value} {h : List hC} {v0 : Value} {x : Int32} : X 45 13 [v0, .int x] S h = X 45 14 [v0, .int x] (.int x :: S) h := X_iload_n (show decode (mB 45) 13 = .ok (.iload_n 1, 1) by decide +kernel) rfl
theorem x45_14 {L S : List Value} {h : List hC} {x y : Int32} : X 45 14 L (.int y :: .int x :: S) h = if x < y then X 45 17 L S h else X 45 21 L S h := X_icmp_ge (show decode (mB 45) 14 = .ok (.if_icmp .ge 7, 3) by decide +kernel) (by decide)
theorem x45_17 {L S : List Value} {h : List hC} : X 45 17 L S h = X 45 18 L (.int 1 :: S) h := X_iconst (show decode (mB 45) 17 = .ok (.iconst 1, 1) by decide +kernel) (by decide)
theorem x45_18 {L S : List Value} {h : List hC} : X 45 18 L S h = X 45 22 L S h := X_goto (show decode (mB 45) 18 = .ok (.goto 4, 3) by decide +kernel) (by decide)
theorem x45_21 {L S : List Value} {h : List hC} : X 45 21 L S h = X 45 22 L (.int 0 :: S) h := X_iconst (show decode (mB 45) 21 = .ok (.iconst 0, 1) by decide +kernel) (by decide)
theorem x45_22 {L : List Value} {h : List hC} {x : Int32} : X 45 22 L [.int x] h = if x = 0 ∨ x = 1 then some (some (.int x), h) else none := X_zret (show decode (mB 45) 22 = .ok (.ireturn, 1) by decide +kernel) (by decide +kernel)
theorem x46_0 {L S : List Value} {h : List hC} : X 46 0 L S h = X 46 1 L (.int 0 :: S) h := X_iconst (show decode (mB 46) 0 = .ok (.iconst 0, 1) by decide +kernel) (by decide)
theorem x46_1 {S : List Value} {h : List hC} {v0 v1 v2 v3 v4 : Value} {x : Int32} : X 46 1 [v0, v1, v2, v3, v4] (.int x :: S) h = X 46 2 [v0, v1, v2, .int x, v4] S h := X_istore_n (show decode (mB 46) 1 = .ok (.istore_n 3, 1) by decide +kernel) (Nat.le_of_ble_eq_true rfl)
theorem x46_2 {L S : List Value} {h : List hC} : X 46 2 L S h = X 46 3 L (.int 0 :: S) h := X_iconst (show decode (mB 46) 2 = .ok (.iconst 0, 1) by decide +kernel) (by decide)
theorem x46_3 {S : List Value} {h : List hC} {v0 v1 v2 v3 v4 : Value} {x : Int32} : X 46 3 [v0, v1, v2, v3, v4] (.int x :: S) h = X 46 5 [v0, v1, v2, v3, .int x] S h := X_istore (show decode (mB 46) 3 = .ok (.istore 4, 2) by decide +kernel) (Nat.le_of_ble_eq_true rfl)
theorem x46_5 {S : List Value} {h : List hC} {v0 v1 v2 v3 : Value} {x : Int32} : X 46 5 [v0, v1, v2, v3, .int x] S h = X 46 7 [v0, v1, v2, v3, .int x] (.int x :: S) h := X_iload (show decode (mB 46) 5 = .ok (.iload 4, 2) by decide +kernel) rfl
theorem x46_7 {S : List Value} {h : List hC} {v1 v2 v3 v4 : Value} {a : Nat} : X 46 7 [.ref a, v1, v2, v3, v4] S h = X 46 8 [.ref a, v1, v2, v3, v4] (.ref a :: S) h := X_aload_n (show decode (mB 46) 7 = .ok (.aload_n 0, 1) by decide +kernel) rfl
theorem x46_7N {S : List Value} {h : List hC} {v1 v2 v3 v4 : Value} : X 46 7 [.null, v1, v2, v3, v4] S h = X 46 8 [.null, v1, v2, v3, v4] (.null :: S) h := X_aload_nN (show decode (mB 46) 7 = .ok (.aload_n 0, 1) by decide +kernel) rfl
theorem x46_8 {L S : List Value} {h : List hC} {a : Nat} : X 46 8 L (.ref a :: S) h = (getF h[a]? 4 3).bind (fun v => X 46 11 L (v :: S) h) := X_getfield (show decode (mB 46) 8 = .ok (.getfield 21, 3) by decide +kernel) (show fref (mC 46) 21 = some (4, 3) by decide +kernel)
theorem x46_11 {L S : List Value} {h : List hC} {x y : Int32} : X 46 11 L (.int y :: .int x :: S) h = if x < y then X 46 14 L S h else X 46 60 L S h := X_icmp_ge (show decode (mB 46) 11 = .ok (.if_icmp .ge 49, 3) by decide +kernel) (by decide)
theorem x46_14 {S : List Value} {h : List hC} {v1 v2 v3 v4 : Value} {a : Nat} : X 46 14 [.ref a, v1, v2, v3, v4] S h = X 46 15 [.ref a, v1, v2, v3, v4] (.ref a :: S) h := X_aload_n (show decode (mB 46) 14 = .ok (.aload_n 0, 1) by decide +kernel) rfl
theorem x46_14N {S : List Value} {h : List hC} {v1 v2 v3 v4 : Value} : X 46 14 [.null, v1, v2, v3, v4] S h = X 46 15 [.null, v1, v2, v3, v4] (.null :: S) h := X_aload_nN (show decode (mB 46) 14 = .ok (.aload_n 0, 1) by decide +kernel) rfl
theorem x46_15 {L S : List Value} {h : List hC} {a : Nat} : X 46 15 L (.ref a :: S) h = (getF h[a]? 4 0).bind (fun v => X 46 18 L (v :: S) h) := X_getfield (show decode (mB 46) 15 = .ok (.getfield 9, 3) by decide +kernel) (show fref (mC 46) 9 = some (4, 0) by decide +kernel)
theorem x46_18 {S : List Value} {h : List hC} {v0 v1 v2 v3 : Value} {x : Int32} : X 46 18 [v0, v1, v2, v3, .int x] S h = X 46 20 [v0, v1, v2, v3, .int x] (.int x :: S) h := X_iload (show decode (mB 46) 18 = .ok (.iload 4, 2) by decide +kernel) rfl
theorem x46_20 {L S : List Value} {h : List hC} {a : Nat} {x : Int32} : X 46 20 L (.int x :: .ref a :: S) h = (getI h[a]? a 0 x).bind (fun v => X 46 21 L (.int v :: S) h) := X_iaload (show decode (mB 46) 20 = .ok (.iaload, 1) by decide +kernel)
theorem x46_21 {S : List Value} {h : List hC} {v0 v1 v3 v4 : Value} {x : Int32} : X 46 21 [v0, v1, .int x, v3, v4] S h = X 46 22 [v0, v1, .int x, v3, v4] (.int x :: S) h := X_iload_n (show decode (mB 46) 21 = .ok (.iload_n 2, 1) by decide +kernel) rfl
theorem x46_22 {L S : List Value} {h : List hC} {x y : Int32} : X 46 22 L (.int y :: .int x :: S) h = if x = y then X 46 25 L S h else X 46 54 L S h := X_icmp_ne (show decode (mB 46) 22 = .ok (.if_icmp .ne 32, 3) by decide +kernel) (by decide)
theorem x46_25 {S : List Value} {h : List hC} {v1 v2 v3 v4 : Value} {a : Nat} : X 46 25 [.ref a, v1, v2, v3, v4] S h = X 46 26 [.ref a, v1, v2, v3, v4] (.ref a :: S) h := X_aload_n (show decode (mB 46) 25 = .ok (.aload_n 0, 1) by decide +kernel) rfl
theorem x46_25N {S : List Value} {h : List hC} {v1 v2 v3 v4 : Value} : X 46 25 [.null, v1, v2, v3, v4] S h = X 46 26 [.null, v1, v2, v3, v4] (.null :: S) h := X_aload_nN (show decode (mB 46) 25 = .ok (.aload_n 0, 1) by decide +kernel) rfl
theorem x46_26 {L S : List Value} {h : List hC} {a : Nat} : X 46 26 L (.ref a :: S) h = (getF h[a]? 4 1).bind (fun v => X 46 29 L (v :: S) h) := X_getfield (show decode (mB 46) 26 = .ok (.getfield 15, 3) by decide +kernel) (show fref (mC 46) 15 = some (4, 1) by decide +kernel)
theorem x46_29 {S : List Value} {h : List hC} {v0 v1 v2 v3 : Value} {x : Int32} : X 46 29 [v0, v1, v2, v3, .int x] S h = X 46 31 [v0, v1, v2, v3, .int x] (.int x :: S) h := X_iload (show decode (mB 46) 29 = .ok (.iload 4, 2) by decide +kernel) rfl
theorem x46_31 {L S : List Value} {h : List hC} {a : Nat} {x : Int32} : X 46 31 L (.int x :: .ref a :: S) h = (getI h[a]? a 0 x).bind (fun v => X 46 32 L (.int v :: S) h) := X_iaload (show decode (mB 46) 31 = .ok (.iaload, 1) by decide +kernel)
theorem x46_32 {S : List Value} {h : List hC} {v0 v2 v3 v4 : Value} {x : Int32} : X 46 32 [v0, .int x, v2, v3, v4] S h = X 46 33 [v0, .int x, v2, v3, v4] (.int x :: S) h := X_iload_n (show decode (mB 46) 32 = .ok (.iload_n 1, 1) by decide +kernel) rfl
theorem x46_33 {L S : List Value} {h : List hC} {x y : Int32} : X 46 33 L (.int y :: .int x :: S) h = if x < y then X 46 36 L S h else X 46 54 L S h := X_icmp_ge (show decode (mB 46) 33 = .ok (.if_icmp .ge 21, 3) by decide +kernel) (by decide)
theorem x46_36 {S : List Value} {h : List hC} {v0 v1 v2 v4 : Value} {x : Int32} : X 46 36 [v0, v1, v2, .int x, v4] S h = X 46 37 [v0, v1, v2, .int x, v4] (.int x :: S) h := X_iload_n (show decode (mB 46) 36 = .ok (.iload_n 3, 1) by decide +kernel) rfl
theorem x46_37 {S : List Value} {h : List hC} {v1 v2 v3 v4 : Value} {a : Nat} : X 46 37 [.ref a, v1, v2, v3, v4] S h = X 46 38 [.ref a, v1, v2, v3, v4] (.ref a :: S) h := X_aload_n (show decode (mB 46) 37 = .ok (.aload_n 0, 1) by decide +kernel) rfl
theorem x46_37N {S : List Value} {h : List hC} {v1 v2 v3 v4 : Value} : X 46 37 [.null, v1, v2, v3, v4] S h = X 46 38 [.null, v1, v2, v3, v4] (.null :: S) h := X_aload_nN (show decode (mB 46) 37 = .ok (.aload_n 0, 1) by decide +kernel) rfl
theorem x46_38 {L S : List Value} {h : List hC} {a : Nat} : X 46 38 L (.ref a :: S) h = (getF h[a]? 4 2).bind (fun v => X 46 41 L (v :: S) h) := X_getfield (show decode (mB 46) 38 = .ok (.getfield 18, 3) by decide +kernel) (show fref (mC 46) 18 = some (4, 2) by decide +kernel)
theorem x46_41 {S : List Value} {h : List hC} {v0 v1 v2 v3 : Value} {x : Int32} : X 46 41 [v0, v1, v2, v3, .int x] S h = X 46 43 [v0, v1, v2, v3, .int x] (.int x :: S) h := X_iload (show decode (mB 46) 41 = .ok (.iload 4, 2) by decide +kernel) rfl
theorem x46_43 {L S : List Value} {h : List hC} {a : Nat} {x : Int32} : X 46 43 L (.int x :: .ref a :: S) h = (getI h[a]? a 0 x).bind (fun v => X 46 44 L (.int v :: S) h) := X_iaload (show decode (mB 46) 43 = .ok (.iaload, 1) by decide +kernel)
theorem x46_44 {L S : List Value} {h : List hC} {x y : Int32} : X 46 44 L (.int y :: .int x :: S) h = X 46 45 L (.int (x + y) :: S) h := X_iadd (show decode (mB 46) 44 = .ok (.iadd, 1) by decide +kernel)
theorem x46_45 {S : List Value} {h : List hC} {v0 v1 v2 v3 v4 : Value} {x : Int32} : X 46 45 [v0, v1, v2, v3, v4] (.int x :: S) h = X 46 46 [v0, v1, v2, .int x, v4] S h := X_istore_n (show decode (mB 46) 45 = .ok (.istore_n 3, 1) by decide +kernel) (Nat.le_of_ble_eq_true rfl)
theorem x46_46 {S : List Value} {h : List hC} {v1 v2 v3 v4 : Value} {a : Nat} : X 46 46 [.ref a, v1, v2, v3, v4] S h = X 46 47 [.ref a, v1, v2, v3, v4] (.ref a :: S) h := X_aload_n (show decode (mB 46) 46 = .ok (.aload_n 0, 1) by decide +kernel) rfl
theorem x46_46N {S : List Value} {h : List hC} {v1 v2 v3 v4 : Value} : X 46 46 [.null, v1, v2, v3, v4] S h = X 46 47 [.null, v1, v2, v3, v4] (.null :: S) h := X_aload_nN (show decode (mB 46) 46 = .ok (.aload_n 0, 1) by decide +kernel) rfl
theorem x46_47 {L S : List Value} {h : List hC} {a : Nat} : X 46 47 L (.ref a :: S) h = (getF h[a]? 4 2).bind (fun v => X 46 50 L (v :: S) h) := X_getfield (show decode (mB 46) 47 = .ok (.getfield 18, 3) by decide +kernel) (show fref (mC 46) 18 = some (4, 2) by decide +kernel)
theorem x46_50 {S : List Value} {h : List hC} {v0 v1 v2 v3 : Value} {x : Int32} : X 46 50 [v0, v1, v2, v3, .int x] S h = X 46 52 [v0, v1, v2, v3, .int x] (.int x :: S) h := X_iload (show decode (mB 46) 50 = .ok (.iload 4, 2) by decide +kernel) rfl
theorem x46_52 {L S : List Value} {h : List hC} : X 46 52 L S h = X 46 53 L (.int 0 :: S) h := X_iconst (show decode (mB 46) 52 = .ok (.iconst 0, 1) by decide +kernel) (by decide)
theorem x46_53 {L S : List Value} {h : List hC} {a : Nat} {x y : Int32} : X 46 53 L (.int y :: .int x :: .ref a :: S) h = (putI h[a]? 0 x y).bind (fun c => X 46 54 L S (h.set a c)) := X_iastore (show decode (mB 46) 53 = .ok (.iastore, 1) by decide +kernel)
theorem x46_54 {S : List Value} {h : List hC} {v0 v1 v2 v3 : Value} {x : Int32} : X 46 54 [v0, v1, v2, v3, .int x] S h = X 46 57 [v0, v1, v2, v3, .int (x + 1)] S h := X_iinc (show decode (mB 46) 54 = .ok (.iinc 4 1, 3) by decide +kernel) rfl (by decide)
theorem x46_57 {L S : List Value} {h : List hC} : X 46 57 L S h = X 46 5 L S h := X_goto (show decode (mB 46) 57 = .ok (.goto (-52), 3) by decide +kernel) (by decide)
theorem x46_60 {S : List Value} {h : List hC} {v1 v2 v3 v4 : Value} {a : Nat} : X 46 60 [.ref a, v1, v2, v3, v4] S h = X 46 61 [.ref a, v1, v2, v3, v4] (.ref a :: S) h := X_aload_n (show decode (mB 46) 60 = .ok (.aload_n 0, 1) by decide +kernel) rfl
theorem x46_60N {S : List Value} {h : List hC} {v1 v2 v3 v4 : Value} : X 46 60 [.null, v1, v2, v3, v4] S h = X 46 61 [.null, v1, v2, v3, v4] (.null :: S) h := X_aload_nN (show decode (mB 46) 60 = .ok (.aload_n 0, 1) by decide +kernel) rfl
theorem x46_61 {L : List Value} {h : List hC} {a0 : Nat} : X 46 61 L [.ref a0] h = if isO h[a0]? 4 = true then aft (X 47 0 [.ref a0, .long 0, .long 0] [] h) (fun v h1 => X 46 64 L (v ++ []) h1) else none := X_invV' (as := []) (S := []) (show decode (mB 46) 61 = .ok (.invokevirtual 37, 3) by decide +kernel) (show lref (mC 46) 37 = some (0, 47) by decide +kernel) (by decide +kernel) (show (mA 47, mL 47, mC 47) = (1, 3, 4) by decide +kernel) rfl rfl rfl rfl
theorem x46_64 {S : List Value} {h : List hC} {v0 v1 v2 v4 : Value} {x : Int32} : X 46 64 [v0, v1, v2, .int x, v4] S h = X 46 65 [v0, v1, v2, .int x, v4] (.int x :: S) h := X_iload_n (show decode (mB 46) 64 = .ok (.iload_n 3, 1) by decide +kernel) rfl
theorem x46_65 {L : List Value} {h : List hC} {x : Int32} : X 46 65 L [.int x] h = some (some (.int x), h) := X_iret (show decode (mB 46) 65 = .ok (.ireturn, 1) by decide +kernel) (by decide +kernel)
theorem x47_0 {L S : List Value} {h : List hC} : X 47 0 L S h = X 47 1 L (.int 0 :: S) h := X_iconst (show decode (mB 47) 0 = .ok (.iconst 0, 1) by decide +kernel) (by decide)
theorem x47_1 {S : List Value} {h : List hC} {v0 v1 v2 : Value} {x : Int32} : X 47 1 [v0, v1, v2] (.int x :: S) h = X 47 2 [v0, .int x, v2] S h := X_istore_n (show decode (mB 47) 1 = .ok (.istore_n 1, 1) by decide +kernel) (Nat.le_of_ble_eq_true rfl)
theorem x47_2 {L S : List Value} {h : List hC} : X 47 2 L S h = X 47 3 L (.int 0 :: S) h := X_iconst (show decode (mB 47) 2 = .ok (.iconst 0, 1) by decide +kernel) (by decide)
theorem x47_3 {S : List Value} {h : List hC} {v0 v1 v2 : Value} {x : Int32} : X 47 3 [v0, v1, v2] (.int x :: S) h = X 47 4 [v0, v1, .int x] S h := X_istore_n (show decode (mB 47) 3 = .ok (.istore_n 2, 1) by decide +kernel) (Nat.le_of_ble_eq_true rfl)
theorem x47_4 {S : List Value} {h : List hC} {v0 v1 : Value} {x : Int32} : X 47 4 [v0, v1, .int x] S h = X 47 5 [v0, v1, .int x] (.int x :: S) h := X_iload_n (show decode (mB 47) 4 = .ok (.iload_n 2, 1) by decide +kernel) rfl
theorem x47_5 {S : List Value} {h : List hC} {v1 v2 : Value} {a : Nat} : X 47 5 [.ref a, v1, v2] S h = X 47 6 [.ref a, v1, v2] (.ref a :: S) h := X_aload_n (show decode (mB 47) 5 = .ok (.aload_n 0, 1) by decide +kernel) rfl
theorem x47_5N {S : List Value} {h : List hC} {v1 v2 : Value} : X 47 5 [.null, v1, v2] S h = X 47 6 [.null, v1, v2] (.null :: S) h := X_aload_nN (show decode (mB 47) 5 = .ok (.aload_n 0, 1) by decide +kernel) rfl
theorem x47_6 {L S : List Value} {h : List hC} {a : Nat} : X 47 6 L (.ref a :: S) h = (getF h[a]? 4 3).bind (fun v => X 47 9 L (v :: S) h) := X_getfield (show decode (mB 47) 6 = .ok (.getfield 21, 3) by decide +kernel) (show fref (mC 47) 21 = some (4, 3) by decide +kernel)
theorem x47_9 {L S : List Value} {h : List hC} {x y : Int32} : X 47 9 L (.int y :: .int x :: S) h = if x < y then X 47 12 L S h else X 47 66 L S h := X_icmp_ge (show decode (mB 47) 9 = .ok (.if_icmp .ge 57, 3) by decide +kernel) (by decide)
theorem x47_12 {S : List Value} {h : List hC} {v1 v2 : Value} {a : Nat} : X 47 12 [.ref a, v1, v2] S h = X 47 13 [.ref a, v1, v2] (.ref a :: S) h := X_aload_n (show decode (mB 47) 12 = .ok (.aload_n 0, 1) by decide +kernel) rfl
theorem x47_12N {S : List Value} {h : List hC} {v1 v2 : Value} : X 47 12 [.null, v1, v2] S h = X 47 13 [.null, v1, v2] (.null :: S) h := X_aload_nN (show decode (mB 47) 12 = .ok (.aload_n 0, 1) by decide +kernel) rfl
theorem x47_13 {L S : List Value} {h : List hC} {a : Nat} : X 47 13 L (.ref a :: S) h = (getF h[a]? 4 2).bind (fun v => X 47 16 L (v :: S) h) := X_getfield (show decode (mB 47) 13 = .ok (.getfield 18, 3) by decide +kernel) (show fref (mC 47) 18 = some (4, 2) by decide +kernel)
theorem x47_16 {S : List Value} {h : List hC} {v0 v1 : Value} {x : Int32} : X 47 16 [v0, v1, .int x] S h = X 47 17 [v0, v1, .int x] (.int x :: S) h := X_iload_n (show decode (mB 47) 16 = .ok (.iload_n 2, 1) by decide +kernel) rfl
theorem x47_17 {L S : List Value} {h : List hC} {a : Nat} {x : Int32} : X 47 17 L (.int x :: .ref a :: S) h = (getI h[a]? a 0 x).bind (fun v => X 47 18 L (.int v :: S) h) := X_iaload (show decode (mB 47) 17 = .ok (.iaload, 1) by decide +kernel)
theorem x47_18 {L S : List Value} {h : List hC} {x : Int32} : X 47 18 L (.int x :: S) h = if 0 < x then X 47 21 L S h else X 47 60 L S h := X_if_le (show decode (mB 47) 18 = .ok (.ifCond .le 42, 3) by decide +kernel) (by decide)
theorem x47_21 {S : List Value} {h : List hC} {v1 v2 : Value} {a : Nat} : X 47 21 [.ref a, v1, v2] S h = X 47 22 [.ref a, v1, v2] (.ref a :: S) h := X_aload_n (show decode (mB 47) 21 = .ok (.aload_n 0, 1) by decide +kernel) rfl
theorem x47_21N {S : List Value} {h : List hC} {v1 v2 : Value} : X 47 21 [.null, v1, v2] S h = X 47 22 [.null, v1, v2] (.null :: S) h := X_aload_nN (show decode (mB 47) 21 = .ok (.aload_n 0, 1) by decide +kernel) rfl
theorem x47_22 {L S : List Value} {h : List hC} {a : Nat} : X 47 22 L (.ref a :: S) h = (getF h[a]? 4 0).bind (fun v => X 47 25 L (v :: S) h) := X_getfield (show decode (mB 47) 22 = .ok (.getfield 9, 3) by decide +kernel) (show fref (mC 47) 9 = some (4, 0) by decide +kernel)
theorem x47_25 {S : List Value} {h : List hC} {v0 v2 : Value} {x : Int32} : X 47 25 [v0, .int x, v2] S h = X 47 26 [v0, .int x, v2] (.int x :: S) h := X_iload_n (show decode (mB 47) 25 = .ok (.iload_n 1, 1) by decide +kernel) rfl
theorem x47_26 {S : List Value} {h : List hC} {v1 v2 : Value} {a : Nat} : X 47 26 [.ref a, v1, v2] S h = X 47 27 [.ref a, v1, v2] (.ref a :: S) h := X_aload_n (show decode (mB 47) 26 = .ok (.aload_n 0, 1) by decide +kernel) rfl
theorem x47_26N {S : List Value} {h : List hC} {v1 v2 : Value} : X 47 26 [.null, v1, v2] S h = X 47 27 [.null, v1, v2] (.null :: S) h := X_aload_nN (show decode (mB 47) 26 = .ok (.aload_n 0, 1) by decide +kernel) rfl
theorem x47_27 {L S : List Value} {h : List hC} {a : Nat} : X 47 27 L (.ref a :: S) h = (getF h[a]? 4 0).bind (fun v => X 47 30 L (v :: S) h) := X_getfield (show decode (mB 47) 27 = .ok (.getfield 9, 3) by decide +kernel) (show fref (mC 47) 9 = some (4, 0) by decide +kernel)
theorem x47_30 {S : List Value} {h : List hC} {v0 v1 : Value} {x : Int32} : X 47 30 [v0, v1, .int x] S h = X 47 31 [v0, v1, .int x] (.int x :: S) h := X_iload_n (show decode (mB 47) 30 = .ok (.iload_n 2, 1) by decide +kernel) rfl
theorem x47_31 {L S : List Value} {h : List hC} {a : Nat} {x : Int32} : X 47 31 L (.int x :: .ref a :: S) h = (getI h[a]? a 0 x).bind (fun v => X 47 32 L (.int v :: S) h) := X_iaload (show decode (mB 47) 31 = .ok (.iaload, 1) by decide +kernel)
theorem x47_32 {L S : List Value} {h : List hC} {a : Nat} {x y : Int32} : X 47 32 L (.int y :: .int x :: .ref a :: S) h = (putI h[a]? 0 x y).bind (fun c => X 47 33 L S (h.set a c)) := X_iastore (show decode (mB 47) 32 = .ok (.iastore, 1) by decide +kernel)
theorem x47_33 {S : List Value} {h : List hC} {v1 v2 : Value} {a : Nat} : X 47 33 [.ref a, v1, v2] S h = X 47 34 [.ref a, v1, v2] (.ref a :: S) h := X_aload_n (show decode (mB 47) 33 = .ok (.aload_n 0, 1) by decide +kernel) rfl
theorem x47_33N {S : List Value} {h : List hC} {v1 v2 : Value} : X 47 33 [.null, v1, v2] S h = X 47 34 [.null, v1, v2] (.null :: S) h := X_aload_nN (show decode (mB 47) 33 = .ok (.aload_n 0, 1) by decide +kernel) rfl
theorem x47_34 {L S : List Value} {h : List hC} {a : Nat} : X 47 34 L (.ref a :: S) h = (getF h[a]? 4 1).bind (fun v => X 47 37 L (v :: S) h) := X_getfield (show decode (mB 47) 34 = .ok (.getfield 15, 3) by decide +kernel) (show fref (mC 47) 15 = some (4, 1) by decide +kernel)
theorem x47_37 {S : List Value} {h : List hC} {v0 v2 : Value} {x : Int32} : X 47 37 [v0, .int x, v2] S h = X 47 38 [v0, .int x, v2] (.int x :: S) h := X_iload_n (show decode (mB 47) 37 = .ok (.iload_n 1, 1) by decide +kernel) rfl
theorem x47_38 {S : List Value} {h : List hC} {v1 v2 : Value} {a : Nat} : X 47 38 [.ref a, v1, v2] S h = X 47 39 [.ref a, v1, v2] (.ref a :: S) h := X_aload_n (show decode (mB 47) 38 = .ok (.aload_n 0, 1) by decide +kernel) rfl
theorem x47_38N {S : List Value} {h : List hC} {v1 v2 : Value} : X 47 38 [.null, v1, v2] S h = X 47 39 [.null, v1, v2] (.null :: S) h := X_aload_nN (show decode (mB 47) 38 = .ok (.aload_n 0, 1) by decide +kernel) rfl
theorem x47_39 {L S : List Value} {h : List hC} {a : Nat} : X 47 39 L (.ref a :: S) h = (getF h[a]? 4 1).bind (fun v => X 47 42 L (v :: S) h) := X_getfield (show decode (mB 47) 39 = .ok (.getfield 15, 3) by decide +kernel) (show fref (mC 47) 15 = some (4, 1) by decide +kernel)
theorem x47_42 {S : List Value} {h : List hC} {v0 v1 : Value} {x : Int32} : X 47 42 [v0, v1, .int x] S h = X 47 43 [v0, v1, .int x] (.int x :: S) h := X_iload_n (show decode (mB 47) 42 = .ok (.iload_n 2, 1) by decide +kernel) rfl
theorem x47_43 {L S : List Value} {h : List hC} {a : Nat} {x : Int32} : X 47 43 L (.int x :: .ref a :: S) h = (getI h[a]? a 0 x).bind (fun v => X 47 44 L (.int v :: S) h) := X_iaload (show decode (mB 47) 43 = .ok (.iaload, 1) by decide +kernel)
theorem x47_44 {L S : List Value} {h : List hC} {a : Nat} {x y : Int32} : X 47 44 L (.int y :: .int x :: .ref a :: S) h = (putI h[a]? 0 x y).bind (fun c => X 47 45 L S (h.set a c)) := X_iastore (show decode (mB 47) 44 = .ok (.iastore, 1) by decide +kernel)
theorem x47_45 {S : List Value} {h : List hC} {v1 v2 : Value} {a : Nat} : X 47 45 [.ref a, v1, v2] S h = X 47 46 [.ref a, v1, v2] (.ref a :: S) h := X_aload_n (show decode (mB 47) 45 = .ok (.aload_n 0, 1) by decide +kernel) rfl
theorem x47_45N {S : List Value} {h : List hC} {v1 v2 : Value} : X 47 45 [.null, v1, v2] S h = X 47 46 [.null, v1, v2] (.null :: S) h := X_aload_nN (show decode (mB 47) 45 = .ok (.aload_n 0, 1) by decide +kernel) rfl
theorem x47_46 {L S : List Value} {h : List hC} {a : Nat} : X 47 46 L (.ref a :: S) h = (getF h[a]? 4 2).bind (fun v => X 47 49 L (v :: S) h) := X_getfield (show decode (mB 47) 46 = .ok (.getfield 18, 3) by decide +kernel) (show fref (mC 47) 18 = some (4, 2) by decide +kernel)
theorem x47_49 {S : List Value} {h : List hC} {v0 v2 : Value} {x : Int32} : X 47 49 [v0, .int x, v2] S h = X 47 50 [v0, .int x, v2] (.int x :: S) h := X_iload_n (show decode (mB 47) 49 = .ok (.iload_n 1, 1) by decide +kernel) rfl
theorem x47_50 {S : List Value} {h : List hC} {v1 v2 : Value} {a : Nat} : X 47 50 [.ref a, v1, v2] S h = X 47 51 [.ref a, v1, v2] (.ref a :: S) h := X_aload_n (show decode (mB 47) 50 = .ok (.aload_n 0, 1) by decide +kernel) rfl
theorem x47_50N {S : List Value} {h : List hC} {v1 v2 : Value} : X 47 50 [.null, v1, v2] S h = X 47 51 [.null, v1, v2] (.null :: S) h := X_aload_nN (show decode (mB 47) 50 = .ok (.aload_n 0, 1) by decide +kernel) rfl
theorem x47_51 {L S : List Value} {h : List hC} {a : Nat} : X 47 51 L (.ref a :: S) h = (getF h[a]? 4 2).bind (fun v => X 47 54 L (v :: S) h) := X_getfield (show decode (mB 47) 51 = .ok (.getfield 18, 3) by decide +kernel) (show fref (mC 47) 18 = some (4, 2) by decide +kernel)
theorem x47_54 {S : List Value} {h : List hC} {v0 v1 : Value} {x : Int32} : X 47 54 [v0, v1, .int x] S h = X 47 55 [v0, v1, .int x] (.int x :: S) h := X_iload_n (show decode (mB 47) 54 = .ok (.iload_n 2, 1) by decide +kernel) rfl
theorem x47_55 {L S : List Value} {h : List hC} {a : Nat} {x : Int32} : X 47 55 L (.int x :: .ref a :: S) h = (getI h[a]? a 0 x).bind (fun v => X 47 56 L (.int v :: S) h) := X_iaload (show decode (mB 47) 55 = .ok (.iaload, 1) by decide +kernel)
theorem x47_56 {L S : List Value} {h : List hC} {a : Nat} {x y : Int32} : X 47 56 L (.int y :: .int x :: .ref a :: S) h = (putI h[a]? 0 x y).bind (fun c => X 47 57 L S (h.set a c)) := X_iastore (show decode (mB 47) 56 = .ok (.iastore, 1) by decide +kernel)
theorem x47_57 {S : List Value} {h : List hC} {v0 v2 : Value} {x : Int32} : X 47 57 [v0, .int x, v2] S h = X 47 60 [v0, .int (x + 1), v2] S h := X_iinc (show decode (mB 47) 57 = .ok (.iinc 1 1, 3) by decide +kernel) rfl (by decide)
theorem x47_60 {S : List Value} {h : List hC} {v0 v1 : Value} {x : Int32} : X 47 60 [v0, v1, .int x] S h = X 47 63 [v0, v1, .int (x + 1)] S h := X_iinc (show decode (mB 47) 60 = .ok (.iinc 2 1, 3) by decide +kernel) rfl (by decide)
theorem x47_63 {L S : List Value} {h : List hC} : X 47 63 L S h = X 47 4 L S h := X_goto (show decode (mB 47) 63 = .ok (.goto (-59), 3) by decide +kernel) (by decide)
theorem x47_66 {S : List Value} {h : List hC} {v1 v2 : Value} {a : Nat} : X 47 66 [.ref a, v1, v2] S h = X 47 67 [.ref a, v1, v2] (.ref a :: S) h := X_aload_n (show decode (mB 47) 66 = .ok (.aload_n 0, 1) by decide +kernel) rfl
theorem x47_66N {S : List Value} {h : List hC} {v1 v2 : Value} : X 47 66 [.null, v1, v2] S h = X 47 67 [.null, v1, v2] (.null :: S) h := X_aload_nN (show decode (mB 47) 66 = .ok (.aload_n 0, 1) by decide +kernel) rfl
theorem x47_67 {S : List Value} {h : List hC} {v0 v2 : Value} {x : Int32} : X 47 67 [v0, .int x, v2] S h = X 47 68 [v0, .int x, v2] (.int x :: S) h := X_iload_n (show decode (mB 47) 67 = .ok (.iload_n 1, 1) by decide +kernel) rfl
theorem x47_68 {L S : List Value} {h : List hC} {a : Nat} {v : Value} : X 47 68 L (v :: .ref a :: S) h = (putF h[a]? 4 3 v).bind (fun c => X 47 71 L S (h.set a c)) := X_putfield (show decode (mB 47) 68 = .ok (.putfield 21, 3) by decide +kernel) (show fref (mC 47) 21 = some (4, 3) by decide +kernel) rfl
theorem x47_71 {L : List Value} {h : List hC} : X 47 71 L [] h = some (none, h) := X_vret (show decode (mB 47) 71 = .ok (.return_, 1) by decide +kernel) (by decide +kernel)
end
