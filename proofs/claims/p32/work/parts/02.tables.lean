section
/-! the methods by number: name, code, locals, answer, class, arguments (with this), frames, locals' words, makes cells -/
def mtab : List Nat := List.replicate 127 0
def mrow (i : Nat) : MethodName × ByteArray × Nat × Option FieldType × Nat × Nat × Nat × Nat × Bool := (bif Nat.ble i 63 then (bif Nat.ble i 31 then (bif Nat.ble i 15 then (bif Nat.ble i 7 then (bif Nat.ble i 3 then (bif Nat.ble i 1 then (bif Nat.ble i 0 then (yX0_init, cX0_init, 1, none, 0, 1, 1, 21, true) else (yX0_copyFrom, cX0_copyFrom, 2, none, 0, 2, 1, 100, false)) else (bif Nat.ble i 2 then (yX0_fill, cX0_fill, 3, none, 0, 2, 0, 0, false) else (yX0_asDigits, cX0_asDigits, 3, (some .int), 0, 1, 0, 0, false))) else (bif Nat.ble i 5 then (bif Nat.ble i 4 then (yX0_takesStarch, cX0_takesStarch, 1, (some .boolean), 0, 1, 0, 0, false) else (yX0_takesHanger, cX0_takesHanger, 1, (some .boolean), 0, 1, 0, 0, false)) else (bif Nat.ble i 6 then (yX0_degree, cX0_degree, 2, (some .int), 0, 2, 1, 20, false) else (yX0_minutes, cX0_minutes, 2, (some .int), 0, 2, 0, 0, false)))) else (bif Nat.ble i 11 then (bif Nat.ble i 9 then (bif Nat.ble i 8 then (yX0_open, cX0_open, 2, (some .int), 0, 2, 0, 0, false) else (yX0_openMinutes, cX0_openMinutes, 3, (some .int), 0, 1, 1, 21, false)) else (bif Nat.ble i 10 then (yX0_lowestIronable, cX0_lowestIronable, 3, (some .int), 0, 2, 1, 21, false) else (yX0_misses, cX0_misses, 3, (some .boolean), 0, 3, 2, 41, false))) else (bif Nat.ble i 13 then (bif Nat.ble i 12 then (yX0_isReady, cX0_isReady, 2, (some .boolean), 0, 1, 0, 0, false) else (yX0_price, cX0_price, 3, (some .int), 0, 1, 1, 21, false)) else (bif Nat.ble i 14 then (yX0_needingHangers, cX0_needingHangers, 3, (some .int), 0, 1, 0, 0, false) else (yX1_init, cX1_init, 1, none, 1, 1, 1, 21, true))))) else (bif Nat.ble i 23 then (bif Nat.ble i 19 then (bif Nat.ble i 17 then (bif Nat.ble i 16 then (yX0_init, cX0_init, 1, none, 0, 1, 1, 21, true) else (yX0_init, cX0_init, 1, none, 0, 1, 1, 21, true)) else (bif Nat.ble i 18 then (yX0_init, cX0_init, 1, none, 0, 1, 1, 21, true) else (yX0_init, cX0_init, 1, none, 0, 1, 1, 21, true))) else (bif Nat.ble i 21 then (bif Nat.ble i 20 then (yX0_init, cX0_init, 1, none, 0, 1, 1, 21, true) else (yX0_init, cX0_init, 1, none, 0, 1, 1, 21, true)) else (bif Nat.ble i 22 then (yX0_init, cX0_init, 1, none, 0, 1, 1, 21, true) else (yX0_init, cX0_init, 1, none, 0, 1, 1, 21, true)))) else (bif Nat.ble i 27 then (bif Nat.ble i 25 then (bif Nat.ble i 24 then (yX0_init, cX0_init, 1, none, 0, 1, 1, 21, true) else (yX0_init, cX0_init, 1, none, 0, 1, 1, 21, true)) else (bif Nat.ble i 26 then (yX0_init, cX0_init, 1, none, 0, 1, 1, 21, true) else (yX0_init, cX0_init, 1, none, 0, 1, 1, 21, true))) else (bif Nat.ble i 29 then (bif Nat.ble i 28 then (yX0_init, cX0_init, 1, none, 0, 1, 1, 21, true) else (yX2_init, cX2_init, 1, none, 2, 1, 1, 21, false)) else (bif Nat.ble i 30 then (yX2_copyFrom, cX2_copyFrom, 2, none, 2, 2, 0, 0, false) else (yX3_init, cX3_init, 1, none, 3, 1, 1, 21, true)))))) else (bif Nat.ble i 47 then (bif Nat.ble i 39 then (bif Nat.ble i 35 then (bif Nat.ble i 33 then (bif Nat.ble i 32 then (yX3_copyFrom, cX3_copyFrom, 2, none, 3, 2, 1, 100, false) else (yX3_has, cX3_has, 2, (some .boolean), 3, 2, 0, 0, false)) else (bif Nat.ble i 34 then (yX3_enter, cX3_enter, 3, (some .int), 3, 2, 0, 0, false) else (yX3_owedByAll, cX3_owedByAll, 1, (some .int), 3, 1, 1, 23, false))) else (bif Nat.ble i 37 then (bif Nat.ble i 36 then (yX3_hangersPaidByAll, cX3_hangersPaidByAll, 1, (some .int), 3, 1, 1, 23, false) else (yX3_sumOf, cX3_sumOf, 4, (some .int), 3, 2, 0, 0, false)) else (bif Nat.ble i 38 then (yX4_init, cX4_init, 1, none, 4, 1, 1, 21, true) else (yX4_copyFrom, cX4_copyFrom, 2, none, 4, 2, 1, 100, false)))) else (bif Nat.ble i 43 then (bif Nat.ble i 41 then (bif Nat.ble i 40 then (yX4_send, cX4_send, 4, none, 4, 4, 0, 0, false) else (yX4_outTo, cX4_outTo, 4, (some .int), 4, 2, 0, 0, false)) else (bif Nat.ble i 42 then (yX4_outToAll, cX4_outToAll, 3, (some .int), 4, 1, 0, 0, false) else (yX4_firstDay, cX4_firstDay, 3, (some .int), 4, 2, 0, 0, false))) else (bif Nat.ble i 45 then (bif Nat.ble i 44 then (yX4_takeBack, cX4_takeBack, 6, none, 4, 3, 1, 22, false) else (yX4_anyFromBefore, cX4_anyFromBefore, 2, (some .boolean), 4, 2, 0, 0, false)) else (bif Nat.ble i 46 then (yX4_takeFromBefore, cX4_takeFromBefore, 5, (some .int), 4, 3, 1, 22, false) else (yX4_dropEmptyBatches, cX4_dropEmptyBatches, 3, none, 4, 1, 0, 0, false))))) else (bif Nat.ble i 55 then (bif Nat.ble i 51 then (bif Nat.ble i 49 then (bif Nat.ble i 48 then (yX5_init, cX5_init, 2, none, 5, 1, 4, 82, true) else (yX5_push, cX5_push, 2, none, 5, 2, 4, 164, false)) else (bif Nat.ble i 50 then (yX5_popInto, cX5_popInto, 2, none, 5, 2, 4, 164, false) else (yX6_init, cX6_init, 1, none, 6, 1, 1, 21, true))) else (bif Nat.ble i 53 then (bif Nat.ble i 52 then (yX6_copyFrom, cX6_copyFrom, 2, none, 6, 2, 1, 100, false) else (yX6_write, cX6_write, 6, none, 6, 5, 1, 21, false)) else (bif Nat.ble i 54 then (yX6_tell, cX6_tell, 3, (some .int), 6, 3, 0, 0, false) else (yX7_init, cX7_init, 1, none, 7, 1, 1, 21, true)))) else (bif Nat.ble i 59 then (bif Nat.ble i 57 then (bif Nat.ble i 56 then (yX7_copyFrom, cX7_copyFrom, 2, none, 7, 2, 1, 100, false) else (yX7_has, cX7_has, 2, (some .boolean), 7, 2, 0, 0, false)) else (bif Nat.ble i 58 then (yX7_append, cX7_append, 3, none, 7, 3, 0, 0, false) else (yX7_removeAt, cX7_removeAt, 3, none, 7, 2, 0, 0, false))) else (bif Nat.ble i 61 then (bif Nat.ble i 60 then (yX8_init, cX8_init, 2, none, 8, 1, 2, 41, true) else (yX8_copyFrom, cX8_copyFrom, 3, none, 8, 2, 2, 121, false)) else (bif Nat.ble i 62 then (yX8_isFull, cX8_isFull, 1, (some .boolean), 8, 1, 0, 0, false) else (yX8_add, cX8_add, 3, (some (.object "IroningBaskets$Basket")), 8, 1, 1, 22, false))))))) else (bif Nat.ble i 95 then (bif Nat.ble i 79 then (bif Nat.ble i 71 then (bif Nat.ble i 67 then (bif Nat.ble i 65 then (bif Nat.ble i 64 then (yX8_lowestFreePin, cX8_lowestFreePin, 3, (some .int), 8, 1, 0, 0, false) else (yX8_withNumber, cX8_withNumber, 3, (some (.object "IroningBaskets$Basket")), 8, 2, 0, 0, false)) else (bif Nat.ble i 66 then (yX8_numberFrom, cX8_numberFrom, 4, (some .int), 8, 2, 0, 0, false) else (yX8_numberReady, cX8_numberReady, 3, (some .int), 8, 1, 1, 21, false))) else (bif Nat.ble i 69 then (bif Nat.ble i 68 then (yX8_numberMissing, cX8_numberMissing, 5, (some .int), 8, 3, 3, 63, false) else (yX8_lowestMissing, cX8_lowestMissing, 4, (some .int), 8, 3, 3, 63, false)) else (bif Nat.ble i 70 then (yX8_hangersOnPieces, cX8_hangersOnPieces, 3, (some .int), 8, 1, 1, 22, false) else (yX0_init, cX0_init, 1, none, 0, 1, 1, 21, true)))) else (bif Nat.ble i 75 then (bif Nat.ble i 73 then (bif Nat.ble i 72 then (yX9_init, cX9_init, 1, none, 9, 1, 3, 62, true) else (yX9_copyFrom, cX9_copyFrom, 2, none, 9, 2, 3, 143, false)) else (bif Nat.ble i 74 then (yX9_refusal, cX9_refusal, 5, (some .int), 9, 5, 1, 23, false) else (yX9_receive, cX9_receive, 6, (some .int), 9, 5, 2, 47, false))) else (bif Nat.ble i 77 then (bif Nat.ble i 76 then (yX9_hangersOfTheService, cX9_hangersOfTheService, 1, (some .int), 9, 1, 2, 44, false) else (yX9_nextVisit, cX9_nextVisit, 3, (some .int), 9, 2, 1, 22, false)) else (bif Nat.ble i 78 then (yX9_isVisited, cX9_isVisited, 3, (some .boolean), 9, 3, 0, 0, false) else (yX9_turn, cX9_turn, 3, (some .int), 9, 2, 2, 44, false))))) else (bif Nat.ble i 87 then (bif Nat.ble i 83 then (bif Nat.ble i 81 then (bif Nat.ble i 80 then (yX9_basketAtRank, cX9_basketAtRank, 3, (some .int), 9, 2, 4, 91, false) else (yX9_rankOf, cX9_rankOf, 6, (some .int), 9, 2, 3, 66, false)) else (bif Nat.ble i 82 then (yX9_nextToIron, cX9_nextToIron, 6, (some (.object "IroningBaskets$Basket")), 9, 1, 3, 66, false) else (yX9_ironFor, cX9_ironFor, 6, (some .int), 9, 2, 4, 91, false))) else (bif Nat.ble i 85 then (bif Nat.ble i 84 then (yX9_ironNext, cX9_ironNext, 6, (some .int), 9, 3, 2, 43, false) else (yX9_nextDay, cX9_nextDay, 1, (some .int), 9, 1, 4, 92, false)) else (bif Nat.ble i 86 then (yX9_chargeHangers, cX9_chargeHangers, 5, none, 9, 1, 2, 46, false) else (yX9_loadVan, cX9_loadVan, 5, (some .int), 9, 1, 3, 68, false)))) else (bif Nat.ble i 91 then (bif Nat.ble i 89 then (bif Nat.ble i 88 then (yX9_handOver, cX9_handOver, 3, none, 9, 2, 2, 46, false) else (yX10_init, cX10_init, 1, none, 10, 1, 5, 103, true)) else (bif Nat.ble i 90 then (yX10_customer, cX10_customer, 2, (some .int), 10, 2, 5, 185, false) else (yX10_visit, cX10_visit, 4, (some .int), 10, 3, 5, 185, false))) else (bif Nat.ble i 93 then (bif Nat.ble i 92 then (yX10_basket, cX10_basket, 6, (some .int), 10, 5, 5, 185, false) else (yX0_init, cX0_init, 1, none, 0, 1, 1, 21, true)) else (bif Nat.ble i 94 then (yX10_lose, cX10_lose, 4, (some .int), 10, 3, 5, 185, false) else (yX10_find, cX10_find, 5, (some .int), 10, 3, 5, 185, false)))))) else (bif Nat.ble i 111 then (bif Nat.ble i 103 then (bif Nat.ble i 99 then (bif Nat.ble i 97 then (bif Nat.ble i 96 then (yX10_iron, cX10_iron, 2, (some .int), 10, 2, 5, 185, false) else (yX10_pass, cX10_pass, 4, (some .int), 10, 2, 5, 185, false)) else (bif Nat.ble i 98 then (yX10_buy, cX10_buy, 2, (some .int), 10, 2, 5, 185, false) else (yX10_pay, cX10_pay, 3, (some .int), 10, 2, 5, 185, false))) else (bif Nat.ble i 101 then (bif Nat.ble i 100 then (yX10_set, cX10_set, 4, (some .int), 10, 3, 5, 185, false) else (yX0_init, cX0_init, 1, none, 0, 1, 1, 21, true)) else (bif Nat.ble i 102 then (yX0_init, cX0_init, 1, none, 0, 1, 1, 21, true) else (yX0_init, cX0_init, 1, none, 0, 1, 1, 21, true)))) else (bif Nat.ble i 107 then (bif Nat.ble i 105 then (bif Nat.ble i 104 then (yX10_undo, cX10_undo, 1, (some .int), 10, 1, 5, 185, false) else (yX10_keep, cX10_keep, 1, (some .int), 10, 1, 4, 164, false)) else (bif Nat.ble i 106 then (yX10_restore, cX10_restore, 1, (some .int), 10, 1, 5, 185, false) else (yX10_customerOf, cX10_customerOf, 3, (some .int), 10, 3, 2, 44, false))) else (bif Nat.ble i 109 then (bif Nat.ble i 108 then (yX10_basketOf, cX10_basketOf, 4, (some .int), 10, 3, 2, 43, false) else (yX10_lost, cX10_lost, 5, (some .int), 10, 3, 4, 87, false)) else (bif Nat.ble i 110 then (yX10_ordered, cX10_ordered, 2, (some .int), 10, 2, 5, 113, false) else (yX10_book, cX10_book, 3, (some .int), 10, 3, 1, 22, false))))) else (bif Nat.ble i 119 then (bif Nat.ble i 115 then (bif Nat.ble i 113 then (bif Nat.ble i 112 then (yX10_count, cX10_count, 2, (some .int), 10, 2, 2, 44, false) else (yX10_meanMinutes, cX10_meanMinutes, 1, (some .float), 10, 1, 0, 0, false)) else (bif Nat.ble i 114 then (yX10_ifIroned, cX10_ifIroned, 5, (some .int), 10, 4, 6, 186, false) else (yX0_init, cX0_init, 1, none, 0, 1, 1, 21, true))) else (bif Nat.ble i 117 then (bif Nat.ble i 116 then (yX0_init, cX0_init, 1, none, 0, 1, 1, 21, true) else (yX0_init, cX0_init, 1, none, 0, 1, 1, 21, true)) else (bif Nat.ble i 118 then (yX0_init, cX0_init, 1, none, 0, 1, 1, 21, true) else (yX10_tryOrder, cX10_tryOrder, 3, (some .int), 10, 3, 5, 164, false)))) else (bif Nat.ble i 123 then (bif Nat.ble i 121 then (bif Nat.ble i 120 then (yX10_within, cX10_within, 3, (some .boolean), 10, 3, 0, 0, false) else (yX10_lowest, cX10_lowest, 1, (some .int), 10, 1, 0, 0, false)) else (bif Nat.ble i 122 then (yX10_highest, cX10_highest, 1, (some .int), 10, 1, 0, 0, false) else (yL_low, cL_low, 2, (some .int), 12, 2, 0, 0, false))) else (bif Nat.ble i 125 then (bif Nat.ble i 124 then (yL_told, cL_told, 6, (some .long), 12, 1, 6, 134, false) else (yL_act, cL_act, 6, (some .int), 12, 3, 6, 210, false)) else (yL_holds, cL_holds, 16, (some .boolean), 12, 1, 6, 134, false)))))))
def mN (i : Nat) : MethodName := (mrow i).1
def mB (i : Nat) : ByteArray := (mrow i).2.1
def mL (i : Nat) : Nat := (mrow i).2.2.1
def mR (i : Nat) : Option FieldType := (mrow i).2.2.2.1
def mC (i : Nat) : Nat := (mrow i).2.2.2.2.1
def mA (i : Nat) : Nat := (mrow i).2.2.2.2.2.1
def mF (i : Nat) : Nat := (mrow i).2.2.2.2.2.2.1
def mW (i : Nat) : Nat := (mrow i).2.2.2.2.2.2.2.1
def mZ (i : Nat) : Bool := (mrow i).2.2.2.2.2.2.2.2
def ftab : List (Nat × Nat × Nat × Nat × Nat) := [(0, 9, 0, 5, 88), (0, 15, 0, 6, 90), (0, 18, 0, 7, 94), (0, 21, 0, 0, 72), (0, 25, 0, 1, 75), (0, 28, 0, 2, 79), (0, 31, 0, 3, 82), (0, 34, 0, 4, 85), (1, 9, 1, 0, 283), (1, 15, 1, 3, 285), (1, 19, 1, 4, 286), (1, 22, 1, 5, 287), (1, 25, 1, 6, 288), (2, 7, 2, 0, 171), (2, 13, 2, 1, 174), (2, 16, 2, 2, 177), (2, 19, 2, 3, 180), (3, 9, 3, 1, 40), (3, 15, 3, 2, 43), (3, 18, 3, 3, 46), (3, 21, 3, 0, 37), (4, 9, 4, 0, 133), (4, 15, 4, 1, 134), (4, 18, 4, 2, 135), (4, 21, 4, 3, 136), (5, 11, 5, 0, 266), (5, 18, 5, 2, 269), (5, 22, 5, 1, 267), (6, 11, 6, 0, 198), (6, 15, 6, 1, 199), (6, 19, 6, 2, 200), (7, 9, 7, 0, 152), (7, 15, 7, 1, 154), (7, 18, 7, 2, 156), (8, 11, 8, 0, 113), (8, 18, 8, 1, 115), (8, 22, 8, 2, 118), (8, 33, 0, 0, 73), (8, 34, 0, 2, 80), (8, 37, 0, 1, 77), (8, 48, 0, 6, 91), (9, 9, 9, 1, 210), (9, 15, 9, 4, 216), (9, 19, 9, 5, 218), (9, 25, 9, 6, 220), (9, 32, 9, 7, 222), (9, 39, 9, 8, 224), (9, 46, 9, 9, 226), (9, 53, 9, 10, 228), (9, 60, 9, 11, 230), (9, 64, 9, 0, 208), (9, 67, 9, 2, 212), (9, 70, 9, 3, 214), (9, 118, 0, 1, 76), (9, 123, 0, 3, 83), (9, 126, 0, 4, 86), (9, 135, 0, 0, 74), (9, 153, 3, 1, 41), (9, 163, 8, 1, 116), (9, 167, 8, 0, 114), (9, 189, 2, 0, 172), (9, 195, 2, 1, 175), (9, 201, 0, 6, 92), (9, 204, 2, 2, 178), (9, 207, 2, 3, 181), (9, 218, 3, 0, 39), (9, 223, 3, 3, 47), (9, 226, 3, 2, 45), (10, 12, 10, 0, 309), (10, 16, 10, 1, 310), (10, 19, 10, 2, 311), (10, 25, 10, 3, 312), (10, 32, 10, 4, 313), (10, 40, 9, 6, 221), (10, 44, 3, 0, 38), (10, 58, 9, 5, 219), (10, 91, 9, 7, 223), (10, 101, 9, 9, 227), (10, 105, 7, 2, 157), (10, 113, 0, 7, 95), (10, 123, 9, 11, 231), (10, 127, 9, 0, 209), (10, 140, 7, 0, 153), (10, 143, 7, 1, 155), (10, 162, 9, 1, 211), (10, 165, 9, 2, 213), (10, 169, 3, 2, 44), (10, 172, 9, 3, 215), (10, 181, 9, 4, 217), (10, 190, 5, 1, 268), (10, 196, 10, 5, 314), (10, 200, 3, 1, 42), (10, 203, 9, 8, 225), (10, 212, 3, 3, 48), (10, 224, 0, 1, 78), (10, 226, 0, 2, 81), (10, 229, 0, 3, 84), (10, 231, 0, 5, 89), (10, 236, 0, 6, 93), (10, 249, 0, 4, 87), (10, 263, 8, 1, 117), (10, 267, 8, 2, 119), (10, 279, 9, 10, 229), (10, 283, 2, 0, 173), (10, 288, 2, 1, 176), (10, 291, 2, 2, 179), (10, 293, 2, 3, 182), (10, 184, 1, 1, 284)]
def stab : List (Nat × Nat × Nat × Nat) := [(0, 43, 1, 642), (0, 46, 2, 426), (0, 49, 3, 401), (0, 56, 0, 424)]
def ctab : List (Nat × Nat × Nat × Nat) := [(5, 9, 9, 263), (8, 9, 0, 65), (9, 22, 3, 31), (9, 29, 8, 59), (9, 36, 4, 127), (9, 43, 7, 146), (9, 50, 2, 165), (9, 57, 6, 192), (10, 9, 9, 25), (10, 22, 5, 257), (10, 29, 1, 277)]
def atab : List (Nat × Nat × Nat × Nat) := [(5, 9, 3, 263), (8, 9, 2, 65)]
def ktab : List (Nat × Nat × Int32 × Nat) := [(9, 159, 1000000, 415), (12, 7, 2147483647, 507)]
def k2tab : List (Nat × Nat × Int64 × Nat) := [(12, 8, 3, 511), (12, 10, 31, 512)]
def ltab : List (Nat × Nat × Nat × Nat × Nat) := [(0, 3, 5, 0, 71), (0, 37, 8, 0, 362), (0, 52, 1, 4, 583), (0, 59, 0, 8, 394), (0, 63, 0, 7, 420), (0, 66, 1, 5, 398), (0, 69, 0, 6, 579), (1, 3, 5, 0, 282), (2, 1, 5, 0, 170), (3, 3, 5, 0, 36), (3, 25, 8, 0, 353), (3, 31, 0, 37, 481), (4, 3, 5, 0, 132), (4, 25, 8, 0, 367), (4, 31, 7, 0, 648), (4, 37, 0, 47, 649), (5, 3, 5, 0, 262), (5, 17, 3, 72, 7), (5, 25, 7, 0, 339), (5, 31, 0, 73, 342), (6, 3, 5, 0, 197), (6, 22, 8, 0, 381), (6, 28, 7, 0, 657), (7, 3, 5, 0, 151), (7, 22, 8, 0, 372), (8, 3, 5, 0, 64), (8, 17, 3, 0, 2), (8, 25, 0, 1, 358), (8, 29, 0, 64, 634), (8, 40, 0, 12, 462), (8, 44, 0, 11, 575), (8, 52, 1, 14, 470), (9, 3, 5, 0, 30), (9, 24, 3, 31, 1), (9, 31, 2, 60, 61), (9, 38, 3, 38, 3), (9, 45, 3, 55, 4), (9, 52, 3, 29, 5), (9, 59, 3, 51, 6), (9, 73, 8, 0, 346), (9, 79, 0, 32, 349), (9, 83, 0, 61, 354), (9, 86, 0, 39, 363), (9, 89, 0, 56, 368), (9, 92, 0, 30, 373), (9, 95, 0, 52, 377), (9, 98, 0, 33, 619), (9, 102, 4, 120, 9), (9, 106, 0, 41, 621), (9, 110, 0, 62, 622), (9, 114, 0, 63, 630), (9, 127, 0, 2, 638), (9, 131, 0, 44, 644), (9, 138, 0, 53, 653), (9, 142, 0, 70, 686), (9, 146, 0, 42, 687), (9, 149, 0, 78, 411), (9, 156, 0, 77, 407), (9, 160, 0, 9, 416), (9, 164, 0, 81, 542), (9, 171, 0, 79, 403), (9, 175, 0, 10, 390), (9, 179, 0, 82, 386), (9, 182, 0, 84, 428), (9, 186, 1, 4, 432), (9, 192, 0, 7, 435), (9, 198, 1, 5, 436), (9, 209, 0, 86, 710), (9, 212, 0, 87, 722), (9, 215, 0, 45, 714), (9, 219, 0, 46, 718), (9, 229, 0, 12, 726), (9, 232, 0, 88, 727), (9, 236, 0, 13, 731), (9, 239, 1, 14, 732), (9, 243, 0, 40, 733), (10, 3, 5, 0, 22), (10, 11, 3, 72, 0), (10, 24, 2, 48, 259), (10, 31, 3, 15, 8), (10, 36, 1, 120, 332), (10, 50, 0, 49, 335), (10, 54, 0, 34, 603), (10, 62, 0, 74, 615), (10, 66, 0, 75, 626), (10, 95, 0, 65, 550), (10, 108, 0, 8, 662), (10, 116, 0, 6, 663), (10, 119, 0, 58, 664), (10, 130, 0, 53, 668), (10, 136, 0, 57, 567), (10, 145, 0, 11, 673), (10, 149, 0, 59, 674), (10, 153, 0, 83, 382), (10, 156, 0, 85, 706), (10, 159, 0, 76, 682), (10, 168, 0, 33, 517), (10, 175, 1, 121, 696), (10, 178, 1, 122, 699), (10, 193, 0, 50, 441), (10, 73, 0, 73, 449), (10, 207, 0, 41, 521), (10, 215, 0, 66, 525), (10, 218, 0, 43, 529), (10, 221, 0, 77, 533), (10, 232, 1, 3, 554), (10, 239, 0, 12, 557), (10, 243, 0, 13, 558), (10, 246, 0, 9, 562), (10, 250, 0, 68, 571), (10, 254, 0, 69, 584), (10, 257, 0, 80, 538), (10, 260, 0, 54, 592), (10, 264, 0, 67, 458), (10, 270, 0, 70, 466), (10, 273, 0, 42, 473), (10, 276, 0, 36, 477), (10, 296, 0, 35, 485), (10, 299, 0, 119, 497), (12, 12, 0, 112, 454), (12, 18, 0, 107, 513), (12, 22, 0, 110, 534), (12, 25, 0, 108, 546), (12, 28, 0, 109, 563), (12, 31, 0, 111, 588), (12, 34, 1, 123, 504), (12, 39, 0, 90, 599), (12, 42, 0, 91, 607), (12, 45, 0, 92, 611), (12, 49, 0, 94, 658), (12, 52, 0, 95, 669), (12, 55, 0, 96, 328), (12, 58, 0, 98, 678), (12, 61, 0, 106, 450), (12, 65, 0, 99, 688), (12, 68, 0, 100, 692), (12, 71, 0, 97, 702)]
def mP (i : Nat) : Nat × Nat × Nat × Nat × Nat := (bif Nat.ble i 63 then (bif Nat.ble i 31 then (bif Nat.ble i 15 then (bif Nat.ble i 7 then (bif Nat.ble i 3 then (bif Nat.ble i 1 then (bif Nat.ble i 0 then (1, 70, 69, 0, 8) else (0, 361, 359, 360, 8)) else (bif Nat.ble i 2 then (0, 641, 639, 640, 8) else (2, 556, 555, 0, 8))) else (bif Nat.ble i 5 then (bif Nat.ble i 4 then (2, 434, 433, 0, 8) else (2, 400, 399, 0, 8)) else (bif Nat.ble i 6 then (0, 582, 580, 581, 8) else (0, 423, 421, 422, 8)))) else (bif Nat.ble i 11 then (bif Nat.ble i 9 then (bif Nat.ble i 8 then (0, 397, 395, 396, 8) else (0, 419, 417, 418, 8)) else (bif Nat.ble i 10 then (0, 393, 391, 392, 8) else (0, 578, 576, 577, 8))) else (bif Nat.ble i 13 then (bif Nat.ble i 12 then (0, 465, 463, 464, 8) else (0, 561, 559, 560, 8)) else (bif Nat.ble i 14 then (2, 472, 471, 0, 8) else (1, 281, 280, 0, 14))))) else (bif Nat.ble i 23 then (bif Nat.ble i 19 then (bif Nat.ble i 17 then (bif Nat.ble i 16 then (1, 70, 69, 0, 8) else (1, 70, 69, 0, 8)) else (bif Nat.ble i 18 then (1, 70, 69, 0, 8) else (1, 70, 69, 0, 8))) else (bif Nat.ble i 21 then (bif Nat.ble i 20 then (1, 70, 69, 0, 8) else (1, 70, 69, 0, 8)) else (bif Nat.ble i 22 then (1, 70, 69, 0, 8) else (1, 70, 69, 0, 8)))) else (bif Nat.ble i 27 then (bif Nat.ble i 25 then (bif Nat.ble i 24 then (1, 70, 69, 0, 8) else (1, 70, 69, 0, 8)) else (bif Nat.ble i 26 then (1, 70, 69, 0, 8) else (1, 70, 69, 0, 8))) else (bif Nat.ble i 29 then (bif Nat.ble i 28 then (1, 70, 69, 0, 8) else (1, 169, 168, 0, 11)) else (bif Nat.ble i 30 then (0, 376, 374, 375, 11) else (1, 35, 34, 0, 6)))))) else (bif Nat.ble i 47 then (bif Nat.ble i 39 then (bif Nat.ble i 35 then (bif Nat.ble i 33 then (bif Nat.ble i 32 then (0, 352, 350, 351, 6) else (0, 520, 518, 519, 6)) else (bif Nat.ble i 34 then (0, 606, 604, 605, 6) else (0, 488, 486, 487, 6))) else (bif Nat.ble i 37 then (bif Nat.ble i 36 then (0, 480, 478, 479, 6) else (0, 484, 483, 0, 6)) else (bif Nat.ble i 38 then (1, 131, 130, 0, 9) else (0, 366, 364, 365, 9)))) else (bif Nat.ble i 43 then (bif Nat.ble i 41 then (bif Nat.ble i 40 then (0, 736, 734, 735, 9) else (0, 524, 522, 523, 9)) else (bif Nat.ble i 42 then (0, 476, 474, 475, 9) else (0, 532, 530, 531, 9))) else (bif Nat.ble i 45 then (bif Nat.ble i 44 then (0, 647, 645, 646, 9) else (0, 717, 715, 716, 9)) else (bif Nat.ble i 46 then (0, 721, 719, 720, 9) else (0, 652, 651, 2, 9))))) else (bif Nat.ble i 55 then (bif Nat.ble i 51 then (bif Nat.ble i 49 then (bif Nat.ble i 48 then (1, 261, 260, 0, 13) else (0, 338, 336, 337, 13)) else (bif Nat.ble i 50 then (0, 444, 442, 443, 13) else (1, 196, 195, 0, 12))) else (bif Nat.ble i 53 then (bif Nat.ble i 52 then (0, 380, 378, 379, 12) else (0, 656, 654, 655, 12)) else (bif Nat.ble i 54 then (0, 595, 593, 594, 12) else (1, 150, 149, 0, 10)))) else (bif Nat.ble i 59 then (bif Nat.ble i 57 then (bif Nat.ble i 56 then (0, 371, 369, 370, 10) else (0, 570, 568, 569, 10)) else (bif Nat.ble i 58 then (0, 667, 665, 666, 10) else (0, 677, 675, 676, 10))) else (bif Nat.ble i 61 then (bif Nat.ble i 60 then (1, 63, 62, 0, 7) else (0, 357, 355, 356, 7)) else (bif Nat.ble i 62 then (0, 625, 623, 624, 7) else (0, 633, 631, 632, 7))))))) else (bif Nat.ble i 95 then (bif Nat.ble i 79 then (bif Nat.ble i 71 then (bif Nat.ble i 67 then (bif Nat.ble i 65 then (bif Nat.ble i 64 then (0, 637, 635, 636, 7) else (0, 553, 551, 552, 7)) else (bif Nat.ble i 66 then (0, 528, 526, 527, 7) else (0, 461, 459, 460, 7))) else (bif Nat.ble i 69 then (bif Nat.ble i 68 then (0, 574, 572, 573, 7) else (0, 587, 585, 586, 7)) else (bif Nat.ble i 70 then (0, 469, 467, 468, 7) else (1, 70, 69, 0, 8)))) else (bif Nat.ble i 75 then (bif Nat.ble i 73 then (bif Nat.ble i 72 then (1, 29, 28, 0, 5) else (0, 345, 343, 344, 5)) else (bif Nat.ble i 74 then (0, 618, 616, 617, 5) else (0, 629, 627, 628, 5))) else (bif Nat.ble i 77 then (bif Nat.ble i 76 then (0, 685, 683, 684, 5) else (0, 410, 408, 409, 5)) else (bif Nat.ble i 78 then (0, 414, 412, 413, 5) else (0, 406, 404, 405, 5))))) else (bif Nat.ble i 87 then (bif Nat.ble i 83 then (bif Nat.ble i 81 then (bif Nat.ble i 80 then (0, 541, 539, 540, 5) else (0, 545, 543, 544, 5)) else (bif Nat.ble i 82 then (0, 389, 387, 388, 5) else (0, 385, 383, 384, 5))) else (bif Nat.ble i 85 then (bif Nat.ble i 84 then (0, 431, 429, 430, 5) else (0, 709, 707, 708, 5)) else (bif Nat.ble i 86 then (0, 713, 711, 712, 5) else (0, 725, 723, 724, 5)))) else (bif Nat.ble i 91 then (bif Nat.ble i 89 then (bif Nat.ble i 88 then (0, 730, 728, 729, 5) else (1, 21, 20, 0, 4)) else (bif Nat.ble i 90 then (0, 602, 600, 601, 4) else (0, 610, 608, 609, 4))) else (bif Nat.ble i 93 then (bif Nat.ble i 92 then (0, 614, 612, 613, 4) else (1, 70, 69, 0, 8)) else (bif Nat.ble i 94 then (0, 661, 659, 660, 4) else (0, 672, 670, 671, 4)))))) else (bif Nat.ble i 111 then (bif Nat.ble i 103 then (bif Nat.ble i 99 then (bif Nat.ble i 97 then (bif Nat.ble i 96 then (0, 331, 329, 330, 4) else (0, 705, 703, 704, 4)) else (bif Nat.ble i 98 then (0, 681, 679, 680, 4) else (0, 691, 689, 690, 4))) else (bif Nat.ble i 101 then (bif Nat.ble i 100 then (0, 695, 693, 694, 4) else (1, 70, 69, 0, 8)) else (bif Nat.ble i 102 then (1, 70, 69, 0, 8) else (1, 70, 69, 0, 8)))) else (bif Nat.ble i 107 then (bif Nat.ble i 105 then (bif Nat.ble i 104 then (0, 440, 438, 439, 4) else (0, 448, 446, 447, 4)) else (bif Nat.ble i 106 then (0, 453, 451, 452, 4) else (0, 516, 514, 515, 4))) else (bif Nat.ble i 109 then (bif Nat.ble i 108 then (0, 549, 547, 548, 4) else (0, 566, 564, 565, 4)) else (bif Nat.ble i 110 then (0, 537, 535, 536, 4) else (0, 591, 589, 590, 4))))) else (bif Nat.ble i 119 then (bif Nat.ble i 115 then (bif Nat.ble i 113 then (bif Nat.ble i 112 then (0, 457, 455, 456, 4) else (0, 492, 490, 491, 4)) else (bif Nat.ble i 114 then (0, 496, 494, 495, 4) else (1, 70, 69, 0, 8))) else (bif Nat.ble i 117 then (bif Nat.ble i 116 then (1, 70, 69, 0, 8) else (1, 70, 69, 0, 8)) else (bif Nat.ble i 118 then (1, 70, 69, 0, 8) else (0, 500, 499, 1, 4)))) else (bif Nat.ble i 123 then (bif Nat.ble i 121 then (bif Nat.ble i 120 then (2, 334, 333, 0, 4) else (2, 698, 697, 0, 4)) else (bif Nat.ble i 122 then (2, 701, 700, 0, 4) else (2, 506, 505, 0, 3))) else (bif Nat.ble i 125 then (bif Nat.ble i 124 then (2, 510, 509, 0, 3) else (2, 598, 597, 0, 3)) else (2, 739, 738, 0, 3)))))))
def ntab : List (String × Nat × MethodName × String) := [("IroningBaskets", 11, yX9_init, "IroningBaskets"), ("IroningBaskets$State", 24, yX3_init, "IroningBaskets"), ("IroningBaskets$Shelf", 17, yX0_init, "IroningBaskets"), ("IroningBaskets$State", 38, yX4_init, "IroningBaskets"), ("IroningBaskets$State", 45, yX7_init, "IroningBaskets"), ("IroningBaskets$State", 52, yX2_init, "IroningBaskets"), ("IroningBaskets$State", 59, yX6_init, "IroningBaskets"), ("IroningBaskets$History", 17, yX9_init, "IroningBaskets"), ("IroningBaskets", 31, yX1_init, "IroningBaskets"), ("IroningBaskets$State", 102, yX10_within, "IroningBaskets")]
def fref (oc i : Nat) : Option (Nat × Nat) := (ftab.find? (fun e => e.1 == oc && e.2.1 == i)).map (fun e => (e.2.2.1, e.2.2.2.1))
def sref (oc i : Nat) : Option Nat := (stab.find? (fun e => e.1 == oc && e.2.1 == i)).map (fun e => e.2.2.1)
def nref (oc i : Nat) : Option Nat := (ctab.find? (fun e => e.1 == oc && e.2.1 == i)).map (fun e => e.2.2.1)
def aref (oc i : Nat) : Option Nat := (atab.find? (fun e => e.1 == oc && e.2.1 == i)).map (fun e => e.2.2.1)
def kref (oc i : Nat) : Option Int32 := (ktab.find? (fun e => e.1 == oc && e.2.1 == i)).map (fun e => e.2.2.1)
def k2ref (oc i : Nat) : Option Int64 := (k2tab.find? (fun e => e.1 == oc && e.2.1 == i)).map (fun e => e.2.2.1)
def lref (oc i : Nat) : Option (Nat × Nat) := (ltab.find? (fun e => e.1 == oc && e.2.1 == i)).map (fun e => (e.2.2.1, e.2.2.2.1))
/-- a field's type, and whether it is final -/
def fty (ci k : Nat) : FieldType := match ci with
  | 0 => tyX0 k | 1 => tyX1 k | 2 => tyX2 k | 3 => tyX3 k | 4 => tyX4 k | 5 => tyX5 k | 6 => tyX6 k | 7 => tyX7 k | 8 => tyX8 k | 9 => tyX9 k | _ => tyX10 k
def fT (ci : Nat) : u_T := match ci with
  | 0 => TX0 | 1 => TX1 | 2 => TX2 | 3 => TX3 | 4 => TX4 | 5 => TX5 | 6 => TX6 | 7 => TX7 | 8 => TX8 | 9 => TX9 | _ => TX10
def fN (ci : Nat) : Nat := match ci with
  | 0 => 8 | 1 => 9 | 2 => 4 | 3 => 4 | 4 => 4 | 5 => 3 | 6 => 3 | 7 => 3 | 8 => 3 | 9 => 12 | _ => 6
def fR (ci : Nat) : String := match ci with
  | 0 => RX0 | 1 => RX1 | 2 => RX2 | 3 => RX3 | 4 => RX4 | 5 => RX5 | 6 => RX6 | 7 => RX7 | 8 => RX8 | 9 => RX9 | 10 => RX10 | 11 => RX10 | _ => RL
/-- the class of what an array of this type holds -/
def qcl (t : Nat) : Nat := if t = 2 then 0 else 9
end
section
/-! what the tables say, held against the claim's words -/
theorem lw_at {q : Nat} {w : Cond} (h : lw_tbl[q]? = some w) (g : goodWord w = true) : w ∈ gw := gw_in (List.mem_of_getElem? h) g
set_option maxRecDepth 100000 in
theorem ftab_ok : ftab.all (fun e => decide (e.2.2.1 < 12) && decide (e.2.2.2.1 < fN e.2.2.1) && decide (lw_tbl[e.2.2.2.2]? = some (Cond.fieldLink (fR e.1) e.2.1 (fT e.2.2.1 e.2.2.2.1).1 (fT e.2.2.1 e.2.2.2.1).2.1 (fT e.2.2.1 e.2.2.2.1).2.2.1))) = true := by decide +kernel
theorem fref_ok {oc i ci k : Nat} (h : fref oc i = some (ci, k)) : ci < 12 ∧ k < fN ci ∧ Cond.fieldLink (fR oc) i (fT ci k).1 (fT ci k).2.1 (fT ci k).2.2.1 ∈ gw := by
  unfold fref at h
  cases he : ftab.find? (fun e => e.1 == oc && e.2.1 == i) with
  | none => rw [he] at h; cases h
  | some e =>
    rw [he] at h
    have h1 := List.find?_some he
    have h2 := List.all_eq_true.mp ftab_ok e (List.mem_of_find?_eq_some he)
    obtain ⟨a, b, c, d, q⟩ := e
    cases h
    simp only [Bool.and_eq_true, beq_iff_eq, decide_eq_true_eq] at h1 h2
    obtain ⟨rfl, rfl⟩ := h1
    exact ⟨h2.1.1, h2.1.2, lw_at h2.2 rfl⟩
def sNm (k : Nat) : String := match k with
  | 0 => "MINUTES"
  | 1 => "WEIGHTS"
  | 2 => "MINUTES_A_DEGREE"
  | _ => "HANGERS_TAKEN"
set_option maxRecDepth 100000 in
theorem stab_ok : stab.all (fun e => decide (e.2.2.1 < 4) && decide (lw_tbl[e.2.2.2]? = some (Cond.fieldLink (fR e.1) e.2.1 RX0 (sNm e.2.2.1) "[I"))) = true := by decide +kernel
theorem sref_ok {oc i k : Nat} (h : sref oc i = some k) : k < 4 ∧ Cond.fieldLink (fR oc) i RX0 (sNm k) "[I" ∈ gw := by
  unfold sref at h
  cases he : stab.find? (fun e => e.1 == oc && e.2.1 == i) with
  | none => rw [he] at h; cases h
  | some e =>
    rw [he] at h
    have h1 := List.find?_some he
    have h2 := List.all_eq_true.mp stab_ok e (List.mem_of_find?_eq_some he)
    obtain ⟨a, b, c, q⟩ := e
    cases h
    simp only [Bool.and_eq_true, beq_iff_eq, decide_eq_true_eq] at h1 h2
    obtain ⟨rfl, rfl⟩ := h1
    exact ⟨h2.1, lw_at h2.2 rfl⟩
def insQ (ci : Nat) : Nat := match ci with
  | 0 => 67 | 1 => 278 | 2 => 166 | 3 => 32 | 4 => 128 | 5 => 258 | 6 => 193 | 7 => 147 | 8 => 60 | 9 => 26 | 10 => 18 | _ => 18
set_option maxRecDepth 100000 in
theorem cls_ok : (List.range 12).all (fun ci => decide (lw_tbl[insQ ci]? = some (Cond.instantiable (fR ci) (fN ci))) && decide (Cond.initialized (fR ci) ∈ lw_tbl) && (u_ws (fR ci) (fT ci) (fN ci)).all (fun w => decide (w ∈ lw_tbl))) = true := by decide +kernel
theorem vw_at {ci : Nat} (h : ci < 12) : vwCl[ci]? = some (fR ci, fT ci, fN ci) := by
  match ci, h with
  | 0, _ => rfl
  | 1, _ => rfl
  | 2, _ => rfl
  | 3, _ => rfl
  | 4, _ => rfl
  | 5, _ => rfl
  | 6, _ => rfl
  | 7, _ => rfl
  | 8, _ => rfl
  | 9, _ => rfl
  | 10, _ => rfl
  | 11, _ => rfl
theorem cls_at {ci : Nat} (h : ci < 12) : Cond.instantiable (fR ci) (fN ci) ∈ gw ∧ Cond.initialized (fR ci) ∈ gw ∧ ∀ w ∈ u_ws (fR ci) (fT ci) (fN ci), w ∈ gw := by
  have h1 := List.all_eq_true.mp cls_ok ci (List.mem_range.mpr h)
  simp only [Bool.and_eq_true, decide_eq_true_eq] at h1
  refine ⟨lw_at h1.1.1 rfl, gw_in h1.1.2 rfl, fun w hw => ?_⟩
  have h2 := List.all_eq_true.mp h1.2 w hw
  refine gw_in (of_decide_eq_true h2) ?_
  obtain ⟨k, -, rfl⟩ := List.mem_map.mp hw
  unfold u_lay
  split <;> rfl
set_option maxRecDepth 100000 in
theorem ctab_ok : ctab.all (fun e => decide (e.2.2.1 < 12) && decide (lw_tbl[e.2.2.2]? = some (Cond.classLink (fR e.1) e.2.1 (fR e.2.2.1)))) = true := by decide +kernel
theorem nref_ok {oc i ci : Nat} (h : nref oc i = some ci) : ci < 12 ∧ Cond.classLink (fR oc) i (fR ci) ∈ gw := by
  unfold nref at h
  cases he : ctab.find? (fun e => e.1 == oc && e.2.1 == i) with
  | none => rw [he] at h; cases h
  | some e =>
    rw [he] at h
    have h1 := List.find?_some he
    have h2 := List.all_eq_true.mp ctab_ok e (List.mem_of_find?_eq_some he)
    obtain ⟨a, b, c, q⟩ := e
    cases h
    simp only [Bool.and_eq_true, beq_iff_eq, decide_eq_true_eq] at h1 h2
    obtain ⟨rfl, rfl⟩ := h1
    exact ⟨h2.1, lw_at h2.2 rfl⟩
set_option maxRecDepth 100000 in
theorem atab_ok : atab.all (fun e => decide (lw_tbl[e.2.2.2]? = some (Cond.classLink (fR e.1) e.2.1 (fR (qcl e.2.2.1))))) = true := by decide +kernel
theorem aref_ok {oc i t : Nat} (h : aref oc i = some t) : Cond.classLink (fR oc) i (fR (qcl t)) ∈ gw := by
  unfold aref at h
  cases he : atab.find? (fun e => e.1 == oc && e.2.1 == i) with
  | none => rw [he] at h; cases h
  | some e =>
    rw [he] at h
    have h1 := List.find?_some he
    have h2 := List.all_eq_true.mp atab_ok e (List.mem_of_find?_eq_some he)
    obtain ⟨a, b, c, q⟩ := e
    cases h
    simp only [Bool.and_eq_true, beq_iff_eq, decide_eq_true_eq] at h1 h2
    obtain ⟨rfl, rfl⟩ := h1
    exact lw_at h2 rfl
set_option maxRecDepth 100000 in
theorem ktab_ok : ktab.all (fun e => decide (lw_tbl[e.2.2.2]? = some (Cond.constant (fR e.1) e.2.1 e.2.2.1))) = true := by decide +kernel
theorem kref_ok {oc i : Nat} {v : Int32} (h : kref oc i = some v) : Cond.constant (fR oc) i v ∈ gw := by
  unfold kref at h
  cases he : ktab.find? (fun e => e.1 == oc && e.2.1 == i) with
  | none => rw [he] at h; cases h
  | some e =>
    rw [he] at h
    have h1 := List.find?_some he
    have h2 := List.all_eq_true.mp ktab_ok e (List.mem_of_find?_eq_some he)
    obtain ⟨a, b, c, q⟩ := e
    cases h
    simp only [Bool.and_eq_true, beq_iff_eq, decide_eq_true_eq] at h1 h2
    obtain ⟨rfl, rfl⟩ := h1
    exact lw_at h2 rfl
set_option maxRecDepth 100000 in
theorem k2tab_ok : k2tab.all (fun e => decide (lw_tbl[e.2.2.2]? = some (Cond.constantLong (fR e.1) e.2.1 e.2.2.1))) = true := by decide +kernel
theorem k2ref_ok {oc i : Nat} {v : Int64} (h : k2ref oc i = some v) : Cond.constantLong (fR oc) i v ∈ gw := by
  unfold k2ref at h
  cases he : k2tab.find? (fun e => e.1 == oc && e.2.1 == i) with
  | none => rw [he] at h; cases h
  | some e =>
    rw [he] at h
    have h1 := List.find?_some he
    have h2 := List.all_eq_true.mp k2tab_ok e (List.mem_of_find?_eq_some he)
    obtain ⟨a, b, c, q⟩ := e
    cases h
    simp only [Bool.and_eq_true, beq_iff_eq, decide_eq_true_eq] at h1 h2
    obtain ⟨rfl, rfl⟩ := h1
    exact lw_at h2 rfl
set_option maxRecDepth 100000 in
theorem mtab_ok : (List.range mtab.length).all (fun i => decide (lw_tbl[(mP i).2.2.2.2]? = some (Cond.initialized (mN i).cls)) && decide ((mN i).cls = fR (mC i)) && (decide (mC i < 12) || decide ((mP i).1 = 2)) && plainName (mN i).cls && decide ((mN i).cls ≠ "java/lang/invoke/MethodHandle") && decide ((mN i).cls ≠ "java/lang/invoke/VarHandle")
    && (match (mP i).1 with
      | 0 => decide (lw_tbl[(mP i).2.2.1]? = some (Cond.instanceMethod (mN i))) && decide (lw_tbl[(mP i).2.2.2.1]? = some (Cond.selects (mN i).cls (mN i) (mN i))) && decide ((parseMethodDescriptor (mN i).desc).map (fun d => d.parameters.length + 1) = some (mA i))
      | 1 => decide (lw_tbl[(mP i).2.2.1]? = some (Cond.instanceMethod (mN i))) && decide ((mN i).name = "<init>") && decide (mR i = none) && decide ((parseMethodDescriptor (mN i).desc).map (fun d => d.parameters.length + 1) = some (mA i))
      | _ => decide (lw_tbl[(mP i).2.2.1]? = some (Cond.static (mN i))) && decide ((parseMethodDescriptor (mN i).desc).map (fun d => d.parameters.length) = some (mA i)))) = true := by decide +kernel
set_option maxRecDepth 100000 in
theorem ltab_ok : ltab.all (fun e => match e.2.2.1 with
    | 0 => decide (e.2.2.2.1 < mtab.length) && decide ((mP e.2.2.2.1).1 = 0) && decide (lw_tbl[e.2.2.2.2]? = some (Cond.methodLink (fR e.1) e.2.1 (mN e.2.2.2.1)))
    | 1 => decide (e.2.2.2.1 < mtab.length) && decide ((mP e.2.2.2.1).1 = 2) && decide (lw_tbl[e.2.2.2.2]? = some (Cond.methodLink (fR e.1) e.2.1 (mN e.2.2.2.1)))
    | 2 => decide (e.2.2.2.1 < mtab.length) && decide ((mP e.2.2.2.1).1 = 1) && decide (lw_tbl[e.2.2.2.2]? = some (Cond.methodLink (fR e.1) e.2.1 (mN e.2.2.2.1)))
    | 3 => decide (e.2.2.2.1 < mtab.length) && decide ((mP e.2.2.2.1).1 = 1) && decide (ntab[e.2.2.2.2]? = some (fR e.1, e.2.1, mN e.2.2.2.1, RX10))
    | 4 => decide (e.2.2.2.1 < mtab.length) && decide ((mP e.2.2.2.1).1 = 2) && decide (ntab[e.2.2.2.2]? = some (fR e.1, e.2.1, mN e.2.2.2.1, RX10))
    | 5 => decide (lw_tbl[e.2.2.2.2]? = some (Cond.methodLink (fR e.1) e.2.1 Lib.objectInit))
    | 6 => false
    | 7 => decide (lw_tbl[e.2.2.2.2]? = some (Cond.methodLink (fR e.1) e.2.1 Lib.Math.min.name))
    | _ => decide (lw_tbl[e.2.2.2.2]? = some (Cond.methodLink (fR e.1) e.2.1 arraycopyName))) = true := by decide +kernel
set_option maxRecDepth 100000 in
theorem jdk_ok : (decide (lw_tbl[23]? = some (Cond.instanceMethod Lib.objectInit)) && decide (lw_tbl[24]? = some (Cond.code Lib.objectInit ⟨#[0xb1]⟩ 1 none)) && decide (lw_tbl[16]? = some (Cond.initialized "java/lang/Math")) && decide (lw_tbl[15]? = some (Cond.initialized "java/lang/System")) && decide (lw_tbl[340]? = some (Cond.static Lib.Math.min.name)) && decide (lw_tbl[341]? = some (Cond.code Lib.Math.min.name Lib.Math.min.code 2 (some .int))) && decide (lw_tbl[347]? = some (Cond.static arraycopyName)) && decide (lw_tbl[348]? = some (Cond.native arraycopyName)) && decide (lw_tbl[58]? = some (Cond.arrayClass .int)) && decide (lw_tbl[308]? = some (Cond.arrayClass .char))) = true := by decide +kernel
set_option maxRecDepth 100000 in
theorem codes_ok : (List.range 127).map (fun i => lw_tbl[(mP i).2.1]?) = (List.range 127).map (fun i => some (Cond.code (mN i) (mB i) (mL i) (mR i))) := rfl
theorem room_nat : nativeFrameWords "java/lang/System" "arraycopy" 5 + 11 + 8 ≤ 100 := by decide +kernel
end
