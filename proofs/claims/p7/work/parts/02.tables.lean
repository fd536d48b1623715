section
/-! the methods by number: name, code, locals, answer, class, arguments (with this), frames, locals' words, makes cells -/
def mt_0 : List (MethodName × ByteArray × Nat × Option FieldType × Nat × Nat × Nat × Nat × Bool) := [(yX0_init, cX0_init, 1, none, 0, 1, 1, 21, true),
  (yX0_copyFrom, cX0_copyFrom, 2, none, 0, 2, 1, 100, false),
  (yX0_fill, cX0_fill, 3, none, 0, 2, 0, 0, false),
  (yX0_asDigits, cX0_asDigits, 3, (some .int), 0, 1, 0, 0, false),
  (yX0_takesStarch, cX0_takesStarch, 1, (some .boolean), 0, 1, 0, 0, false),
  (yX0_takesHanger, cX0_takesHanger, 1, (some .boolean), 0, 1, 0, 0, false),
  (yX0_degree, cX0_degree, 2, (some .int), 0, 2, 1, 20, false),
  (yX0_minutes, cX0_minutes, 2, (some .int), 0, 2, 0, 0, false),
  (yX0_open, cX0_open, 2, (some .int), 0, 2, 0, 0, false),
  (yX0_openMinutes, cX0_openMinutes, 3, (some .int), 0, 1, 1, 21, false),
  (yX0_lowestIronable, cX0_lowestIronable, 3, (some .int), 0, 2, 1, 21, false),
  (yX0_misses, cX0_misses, 3, (some .boolean), 0, 3, 2, 41, false),
  (yX0_isReady, cX0_isReady, 2, (some .boolean), 0, 1, 0, 0, false),
  (yX0_price, cX0_price, 3, (some .int), 0, 1, 1, 21, false),
  (yX0_needingHangers, cX0_needingHangers, 3, (some .int), 0, 1, 0, 0, false),
  (yX1_init, cX1_init, 1, none, 1, 1, 1, 21, true),
  (yX1_append, cX1_append, 2, none, 1, 2, 0, 0, false),
  (yX1_read, cX1_read, 2, (some .int), 1, 1, 3, 65, false),
  (yX1_mayEnd, cX1_mayEnd, 1, (some .boolean), 1, 1, 0, 0, false),
  (yX1_take, cX1_take, 2, (some .boolean), 1, 2, 2, 44, false)]
def mt_1 : List (MethodName × ByteArray × Nat × Option FieldType × Nat × Nat × Nat × Nat × Bool) := [(yX1_takeCustomer, cX1_takeCustomer, 2, (some .boolean), 1, 2, 1, 22, false),
  (yX1_takeKind, cX1_takeKind, 3, (some .boolean), 1, 2, 1, 20, false),
  (yX1_takePieces, cX1_takePieces, 2, (some .boolean), 1, 2, 1, 22, false),
  (yX1_takeStarch, cX1_takeStarch, 2, (some .boolean), 1, 2, 1, 22, false),
  (yX1_takeHangers, cX1_takeHangers, 3, (some .boolean), 1, 3, 1, 22, false),
  (yX1_takeEnding, cX1_takeEnding, 2, (some .boolean), 1, 2, 1, 23, false),
  (yX1_takeSign, cX1_takeSign, 4, (some .boolean), 1, 4, 0, 0, false),
  (yX1_isDigit, cX1_isDigit, 3, (some .boolean), 1, 3, 0, 0, false),
  (yX1_kindOf, cX1_kindOf, 1, (some .int), 1, 1, 0, 0, false),
  (yX2_init, cX2_init, 1, none, 2, 1, 1, 21, false),
  (yX2_copyFrom, cX2_copyFrom, 2, none, 2, 2, 0, 0, false),
  (yX3_init, cX3_init, 1, none, 3, 1, 1, 21, true),
  (yX3_copyFrom, cX3_copyFrom, 2, none, 3, 2, 1, 100, false),
  (yX3_has, cX3_has, 2, (some .boolean), 3, 2, 0, 0, false),
  (yX3_enter, cX3_enter, 3, (some .int), 3, 2, 0, 0, false),
  (yX3_owedByAll, cX3_owedByAll, 1, (some .int), 3, 1, 1, 23, false),
  (yX3_hangersPaidByAll, cX3_hangersPaidByAll, 1, (some .int), 3, 1, 1, 23, false),
  (yX3_sumOf, cX3_sumOf, 4, (some .int), 3, 2, 0, 0, false),
  (yX4_init, cX4_init, 1, none, 4, 1, 1, 21, true),
  (yX4_copyFrom, cX4_copyFrom, 2, none, 4, 2, 1, 100, false)]
def mt_2 : List (MethodName × ByteArray × Nat × Option FieldType × Nat × Nat × Nat × Nat × Bool) := [(yX4_send, cX4_send, 4, none, 4, 4, 0, 0, false),
  (yX4_outTo, cX4_outTo, 4, (some .int), 4, 2, 0, 0, false),
  (yX4_outToAll, cX4_outToAll, 3, (some .int), 4, 1, 0, 0, false),
  (yX4_firstDay, cX4_firstDay, 3, (some .int), 4, 2, 0, 0, false),
  (yX4_takeBack, cX4_takeBack, 6, none, 4, 3, 1, 22, false),
  (yX4_anyFromBefore, cX4_anyFromBefore, 2, (some .boolean), 4, 2, 0, 0, false),
  (yX4_takeFromBefore, cX4_takeFromBefore, 5, (some .int), 4, 3, 1, 22, false),
  (yX4_dropEmptyBatches, cX4_dropEmptyBatches, 3, none, 4, 1, 0, 0, false),
  (yX5_init, cX5_init, 2, none, 5, 1, 4, 82, true),
  (yX5_push, cX5_push, 2, none, 5, 2, 4, 164, false),
  (yX5_popInto, cX5_popInto, 2, none, 5, 2, 4, 164, false),
  (yX6_init, cX6_init, 1, none, 6, 1, 1, 21, true),
  (yX6_copyFrom, cX6_copyFrom, 2, none, 6, 2, 1, 100, false),
  (yX6_write, cX6_write, 6, none, 6, 5, 1, 21, false),
  (yX6_tell, cX6_tell, 3, (some .int), 6, 3, 0, 0, false),
  (yX7_init, cX7_init, 1, none, 7, 1, 1, 21, true),
  (yX7_copyFrom, cX7_copyFrom, 2, none, 7, 2, 1, 100, false),
  (yX7_has, cX7_has, 2, (some .boolean), 7, 2, 0, 0, false),
  (yX7_append, cX7_append, 3, none, 7, 3, 0, 0, false),
  (yX7_removeAt, cX7_removeAt, 3, none, 7, 2, 0, 0, false)]
def mt_3 : List (MethodName × ByteArray × Nat × Option FieldType × Nat × Nat × Nat × Nat × Bool) := [(yX8_init, cX8_init, 2, none, 8, 1, 2, 41, true),
  (yX8_copyFrom, cX8_copyFrom, 3, none, 8, 2, 2, 121, false),
  (yX8_isFull, cX8_isFull, 1, (some .boolean), 8, 1, 0, 0, false),
  (yX8_add, cX8_add, 3, (some (.object "IroningBaskets$Basket")), 8, 1, 1, 22, false),
  (yX8_lowestFreePin, cX8_lowestFreePin, 3, (some .int), 8, 1, 0, 0, false),
  (yX8_withNumber, cX8_withNumber, 3, (some (.object "IroningBaskets$Basket")), 8, 2, 0, 0, false),
  (yX8_numberFrom, cX8_numberFrom, 4, (some .int), 8, 2, 0, 0, false),
  (yX8_numberReady, cX8_numberReady, 3, (some .int), 8, 1, 1, 21, false),
  (yX8_numberMissing, cX8_numberMissing, 5, (some .int), 8, 3, 3, 63, false),
  (yX8_lowestMissing, cX8_lowestMissing, 4, (some .int), 8, 3, 3, 63, false),
  (yX8_hangersOnPieces, cX8_hangersOnPieces, 3, (some .int), 8, 1, 1, 22, false),
  (yX8_hangersToCome, cX8_hangersToCome, 3, (some .int), 8, 1, 1, 22, false),
  (yX9_init, cX9_init, 1, none, 9, 1, 3, 62, true),
  (yX9_copyFrom, cX9_copyFrom, 2, none, 9, 2, 3, 143, false),
  (yX9_refusal, cX9_refusal, 5, (some .int), 9, 5, 1, 23, false),
  (yX9_receive, cX9_receive, 6, (some .int), 9, 5, 2, 47, false),
  (yX9_hangersOfTheService, cX9_hangersOfTheService, 1, (some .int), 9, 1, 2, 44, false),
  (yX9_nextVisit, cX9_nextVisit, 3, (some .int), 9, 2, 1, 22, false),
  (yX9_isVisited, cX9_isVisited, 3, (some .boolean), 9, 3, 0, 0, false),
  (yX9_turn, cX9_turn, 3, (some .int), 9, 2, 2, 44, false)]
def mt_4 : List (MethodName × ByteArray × Nat × Option FieldType × Nat × Nat × Nat × Nat × Bool) := [(yX9_basketAtRank, cX9_basketAtRank, 3, (some .int), 9, 2, 4, 91, false),
  (yX9_rankOf, cX9_rankOf, 6, (some .int), 9, 2, 3, 66, false),
  (yX9_nextToIron, cX9_nextToIron, 6, (some (.object "IroningBaskets$Basket")), 9, 1, 3, 66, false),
  (yX9_ironFor, cX9_ironFor, 6, (some .int), 9, 2, 4, 91, false),
  (yX9_ironNext, cX9_ironNext, 6, (some .int), 9, 3, 2, 43, false),
  (yX9_nextDay, cX9_nextDay, 1, (some .int), 9, 1, 4, 92, false),
  (yX9_chargeHangers, cX9_chargeHangers, 5, none, 9, 1, 2, 46, false),
  (yX9_loadVan, cX9_loadVan, 5, (some .int), 9, 1, 3, 68, false),
  (yX9_handOver, cX9_handOver, 3, none, 9, 2, 2, 46, false),
  (yX10_init, cX10_init, 1, none, 10, 1, 5, 103, true),
  (yX10_customer, cX10_customer, 2, (some .int), 10, 2, 5, 185, false),
  (yX10_visit, cX10_visit, 4, (some .int), 10, 3, 5, 185, false),
  (yX10_basket, cX10_basket, 6, (some .int), 10, 5, 5, 185, false),
  (yX10_baskets, cX10_baskets, 4, (some .int), 10, 1, 5, 185, false),
  (yX10_lose, cX10_lose, 4, (some .int), 10, 3, 5, 185, false),
  (yX10_find, cX10_find, 5, (some .int), 10, 3, 5, 185, false),
  (yX10_iron, cX10_iron, 2, (some .int), 10, 2, 5, 185, false),
  (yX10_pass, cX10_pass, 4, (some .int), 10, 2, 5, 185, false),
  (yX10_buy, cX10_buy, 2, (some .int), 10, 2, 5, 185, false),
  (yX10_pay, cX10_pay, 3, (some .int), 10, 2, 5, 185, false)]
def mt_5 : List (MethodName × ByteArray × Nat × Option FieldType × Nat × Nat × Nat × Nat × Bool) := [(yX10_set, cX10_set, 4, (some .int), 10, 3, 5, 185, false),
  (yX10_type, cX10_type, 2, (some .int), 10, 2, 1, 21, false),
  (yX10_clearText, cX10_clearText, 2, (some .int), 10, 1, 0, 0, false),
  (yX10_fault, cX10_fault, 1, (some .int), 10, 1, 4, 86, false),
  (yX10_undo, cX10_undo, 1, (some .int), 10, 1, 5, 185, false),
  (yX10_keep, cX10_keep, 1, (some .int), 10, 1, 4, 164, false),
  (yX10_restore, cX10_restore, 1, (some .int), 10, 1, 5, 185, false),
  (yX10_customerOf, cX10_customerOf, 3, (some .int), 10, 3, 2, 44, false),
  (yX10_basketOf, cX10_basketOf, 4, (some .int), 10, 3, 2, 43, false),
  (yX10_lost, cX10_lost, 5, (some .int), 10, 3, 4, 87, false),
  (yX10_ordered, cX10_ordered, 2, (some .int), 10, 2, 5, 113, false),
  (yX10_book, cX10_book, 3, (some .int), 10, 3, 1, 22, false),
  (yX10_count, cX10_count, 2, (some .int), 10, 2, 2, 44, false),
  (yX10_meanMinutes, cX10_meanMinutes, 1, (some .float), 10, 1, 0, 0, false),
  (yX10_ifIroned, cX10_ifIroned, 5, (some .int), 10, 4, 6, 186, false),
  (yX10_bestOrder, cX10_bestOrder, 8, (some .int), 10, 2, 6, 186, false),
  (yX10_homeOn, cX10_homeOn, 4, (some .int), 10, 3, 5, 164, false),
  (yX10_wanting, cX10_wanting, 1, (some .int), 10, 1, 2, 44, false),
  (yX10_sure, cX10_sure, 3, (some .int), 10, 1, 4, 87, false),
  (yX10_tryOrder, cX10_tryOrder, 3, (some .int), 10, 3, 5, 164, false)]
def mt_6 : List (MethodName × ByteArray × Nat × Option FieldType × Nat × Nat × Nat × Nat × Bool) := [(yX10_within, cX10_within, 3, (some .boolean), 10, 3, 0, 0, false),
  (yX10_lowest, cX10_lowest, 1, (some .int), 10, 1, 0, 0, false),
  (yX10_highest, cX10_highest, 1, (some .int), 10, 1, 0, 0, false),
  (yX11_init, cX11_init, 2, none, 11, 1, 1, 21, true),
  (yX11_in, cX11_in, 3, (some .boolean), 11, 3, 0, 0, false),
  (yX11_isCustomer, cX11_isCustomer, 2, (some .boolean), 11, 2, 1, 22, false),
  (yX11_ofCustomer, cX11_ofCustomer, 3, (some .int), 11, 3, 0, 0, false),
  (yX11_layCustomer, cX11_layCustomer, 4, none, 11, 4, 0, 0, false),
  (yX11_of, cX11_of, 3, (some .int), 11, 3, 0, 0, false),
  (yX11_lay, cX11_lay, 4, none, 11, 4, 0, 0, false),
  (yX11_placeOf, cX11_placeOf, 4, (some .int), 11, 2, 1, 22, false),
  (yX11_records, cX11_records, 2, none, 11, 1, 0, 0, false),
  (yX11_putAside, cX11_putAside, 2, none, 11, 1, 0, 0, false),
  (yX11_takeBack, cX11_takeBack, 2, none, 11, 1, 0, 0, false),
  (yX11_books, cX11_books, 5, none, 11, 4, 0, 0, false),
  (yX11_minutesOf, cX11_minutesOf, 2, (some .int), 11, 2, 0, 0, false),
  (yX11_left, cX11_left, 3, (some .int), 11, 3, 1, 22, false),
  (yX11_minutesLeft, cX11_minutesLeft, 4, (some .int), 11, 2, 2, 44, false),
  (yX11_priceOf, cX11_priceOf, 4, (some .int), 11, 2, 1, 22, false),
  (yX11_isReady, cX11_isReady, 4, (some .boolean), 11, 2, 1, 22, false)]
def mt_7 : List (MethodName × ByteArray × Nat × Option FieldType × Nat × Nat × Nat × Nat × Bool) := [(yX11_readyMany, cX11_readyMany, 3, (some .int), 11, 1, 2, 45, false),
  (yX11_outTo, cX11_outTo, 4, (some .int), 11, 2, 0, 0, false),
  (yX11_oldest, cX11_oldest, 4, (some .int), 11, 2, 0, 0, false),
  (yX11_ageOf, cX11_ageOf, 2, (some .int), 11, 2, 0, 0, false),
  (yX11_comeBack, cX11_comeBack, 6, none, 11, 3, 1, 23, false),
  (yX11_nextVisit, cX11_nextVisit, 3, (some .int), 11, 2, 0, 0, false),
  (yX11_customer, cX11_customer, 2, (some .int), 11, 2, 1, 23, false),
  (yX11_visit, cX11_visit, 4, (some .int), 11, 3, 1, 22, false),
  (yX11_refusesBasket, cX11_refusesBasket, 5, (some .int), 11, 5, 2, 43, false),
  (yX11_freePin, cX11_freePin, 3, (some .int), 11, 1, 1, 22, false),
  (yX11_comes, cX11_comes, 8, (some .int), 11, 5, 2, 48, false),
  (yX11_basket, cX11_basket, 6, (some .int), 11, 5, 3, 75, false),
  (yX11_baskets, cX11_baskets, 4, (some .int), 11, 1, 5, 108, false),
  (yX11_degree, cX11_degree, 3, (some .int), 11, 3, 1, 22, false),
  (yX11_lose, cX11_lose, 4, (some .int), 11, 3, 2, 45, false),
  (yX11_canBelong, cX11_canBelong, 4, (some .boolean), 11, 3, 2, 44, false),
  (yX11_isLost, cX11_isLost, 2, (some .boolean), 11, 2, 1, 22, false),
  (yX11_find, cX11_find, 6, (some .int), 11, 3, 3, 67, false),
  (yX11_keyOf, cX11_keyOf, 2, (some .int), 11, 2, 3, 67, false),
  (yX11_ranked, cX11_ranked, 5, (some .int), 11, 2, 4, 88, false)]
def mt_8 : List (MethodName × ByteArray × Nat × Option FieldType × Nat × Nat × Nat × Nat × Bool) := [(yX11_kindNow, cX11_kindNow, 3, (some .int), 11, 2, 2, 44, false),
  (yX11_nextBasket, cX11_nextBasket, 3, (some .int), 11, 1, 5, 112, false),
  (yX11_irons, cX11_irons, 8, (some .int), 11, 2, 6, 134, false),
  (yX11_iron, cX11_iron, 2, (some .int), 11, 2, 7, 161, false),
  (yX11_pays, cX11_pays, 4, none, 11, 2, 1, 24, false),
  (yX11_leaves, cX11_leaves, 4, none, 11, 2, 2, 45, false),
  (yX11_goesBy, cX11_goesBy, 5, (some .int), 11, 1, 3, 68, false),
  (yX11_pass, cX11_pass, 4, (some .int), 11, 2, 4, 92, false),
  (yX11_buy, cX11_buy, 2, (some .int), 11, 2, 1, 22, false),
  (yX11_pay, cX11_pay, 3, (some .int), 11, 2, 2, 43, false),
  (yX11_mostOf, cX11_mostOf, 1, (some .int), 11, 1, 0, 0, false),
  (yX11_set, cX11_set, 4, (some .int), 11, 3, 1, 22, false),
  (yX11_type, cX11_type, 2, (some .int), 11, 2, 0, 0, false),
  (yX11_clearText, cX11_clearText, 2, (some .int), 11, 1, 0, 0, false),
  (yX11_sign, cX11_sign, 1, (some .int), 11, 1, 0, 0, false),
  (yX11_digit, cX11_digit, 4, (some .int), 11, 3, 1, 22, false),
  (yX11_takes, cX11_takes, 3, (some .boolean), 11, 2, 1, 20, false),
  (yX11_letterOf, cX11_letterOf, 1, (some .int), 11, 1, 0, 0, false),
  (yX11_unitOf, cX11_unitOf, 1, (some .int), 11, 1, 0, 0, false),
  (yX11_readsPieces, cX11_readsPieces, 3, (some .int), 11, 1, 2, 45, false)]
def mt_9 : List (MethodName × ByteArray × Nat × Option FieldType × Nat × Nat × Nat × Nat × Bool) := [(yX11_readsHangers, cX11_readsHangers, 2, (some .int), 11, 1, 2, 45, false),
  (yX11_readsBasket, cX11_readsBasket, 2, none, 11, 1, 3, 67, false),
  (yX11_reads, cX11_reads, 1, (some .int), 11, 1, 4, 88, false),
  (yX11_fault, cX11_fault, 1, (some .int), 11, 1, 5, 108, false),
  (yX11_undo, cX11_undo, 2, (some .int), 11, 1, 0, 0, false),
  (yX11_keep, cX11_keep, 2, (some .int), 11, 1, 0, 0, false),
  (yX11_restore, cX11_restore, 2, (some .int), 11, 1, 1, 21, false),
  (yX11_basketsOf, cX11_basketsOf, 4, (some .int), 11, 2, 1, 22, false),
  (yX11_oldestDay, cX11_oldestDay, 3, (some .int), 11, 2, 1, 23, false),
  (yX11_customerOf, cX11_customerOf, 4, (some .int), 11, 3, 2, 45, false),
  (yX11_digitsOf, cX11_digitsOf, 3, (some .int), 11, 3, 1, 22, false),
  (yX11_basketOf, cX11_basketOf, 4, (some .int), 11, 3, 3, 67, false),
  (yX11_belongsTo, cX11_belongsTo, 4, (some .int), 11, 2, 3, 67, false),
  (yX11_lowestFor, cX11_lowestFor, 3, (some .int), 11, 2, 3, 67, false),
  (yX11_lost, cX11_lost, 3, (some .int), 11, 3, 4, 90, false),
  (yX11_ordered, cX11_ordered, 3, (some .int), 11, 2, 5, 112, false),
  (yX11_book, cX11_book, 3, (some .int), 11, 3, 1, 22, false),
  (yX11_onPieces, cX11_onPieces, 3, (some .int), 11, 1, 1, 22, false),
  (yX11_outInAll, cX11_outInAll, 3, (some .int), 11, 1, 1, 23, false),
  (yX11_owedInAll, cX11_owedInAll, 3, (some .int), 11, 1, 1, 22, false)]
def mt_10 : List (MethodName × ByteArray × Nat × Option FieldType × Nat × Nat × Nat × Nat × Bool) := [(yX11_tellsCount, cX11_tellsCount, 2, (some .int), 11, 2, 3, 67, false),
  (yX11_count, cX11_count, 2, (some .int), 11, 2, 4, 88, false),
  (yX11_meanMinutes, cX11_meanMinutes, 1, (some .float), 11, 1, 0, 0, false),
  (yX11_would, cX11_would, 6, (some .int), 11, 4, 7, 161, false),
  (yX11_ifIroned, cX11_ifIroned, 5, (some .int), 11, 4, 8, 186, false),
  (yX11_bestOrder, cX11_bestOrder, 6, (some .int), 11, 2, 8, 186, false),
  (yX11_homeOn, cX11_homeOn, 5, (some .int), 11, 3, 7, 161, false),
  (yX11_wanting, cX11_wanting, 4, (some .int), 11, 1, 1, 22, false),
  (yX11_sure, cX11_sure, 3, (some .int), 11, 1, 4, 90, false)]
def mtab : List (MethodName × ByteArray × Nat × Option FieldType × Nat × Nat × Nat × Nat × Bool) := mt_0 ++ (mt_1 ++ (mt_2 ++ (mt_3 ++ (mt_4 ++ (mt_5 ++ (mt_6 ++ (mt_7 ++ (mt_8 ++ (mt_9 ++ (mt_10))))))))))
def mrow (i : Nat) : MethodName × ByteArray × Nat × Option FieldType × Nat × Nat × Nat × Nat × Bool := mtab.getD i (yX0_init, cX0_init, 1, none, 0, 1, 0, 0, false)
def mN (i : Nat) : MethodName := (mrow i).1
def mB (i : Nat) : ByteArray := (mrow i).2.1
def mL (i : Nat) : Nat := (mrow i).2.2.1
def mR (i : Nat) : Option FieldType := (mrow i).2.2.2.1
def mC (i : Nat) : Nat := (mrow i).2.2.2.2.1
def mA (i : Nat) : Nat := (mrow i).2.2.2.2.2.1
def mF (i : Nat) : Nat := (mrow i).2.2.2.2.2.2.1
def mW (i : Nat) : Nat := (mrow i).2.2.2.2.2.2.2.1
def mZ (i : Nat) : Bool := (mrow i).2.2.2.2.2.2.2.2
def ftab : List (Nat × Nat × Nat × Nat × Nat) := [(0, 9, 0, 5, 149), (0, 15, 0, 6, 152), (0, 18, 0, 7, 156), (0, 21, 0, 0, 133), (0, 25, 0, 1, 136), (0, 28, 0, 2, 140), (0, 31, 0, 3, 143), (0, 34, 0, 4, 146), (1, 9, 1, 0, 345), (1, 15, 1, 3, 350), (1, 19, 1, 4, 352), (1, 22, 1, 5, 354), (1, 25, 1, 6, 356), (1, 28, 1, 1, 346), (1, 32, 1, 2, 348), (1, 35, 1, 7, 358), (1, 73, 1, 8, 359), (2, 7, 2, 0, 233), (2, 13, 2, 1, 236), (2, 16, 2, 2, 239), (2, 19, 2, 3, 242), (3, 9, 3, 1, 101), (3, 15, 3, 2, 104), (3, 18, 3, 3, 107), (3, 21, 3, 0, 98), (4, 9, 4, 0, 195), (4, 15, 4, 1, 196), (4, 18, 4, 2, 197), (4, 21, 4, 3, 198), (5, 11, 5, 0, 328), (5, 18, 5, 2, 331), (5, 22, 5, 1, 329), (6, 11, 6, 0, 260), (6, 15, 6, 1, 261), (6, 19, 6, 2, 262), (7, 9, 7, 0, 214), (7, 15, 7, 1, 216), (7, 18, 7, 2, 218), (8, 11, 8, 0, 175), (8, 18, 8, 1, 177), (8, 22, 8, 2, 180), (8, 33, 0, 0, 134), (8, 34, 0, 2, 141), (8, 37, 0, 1, 138), (8, 48, 0, 6, 153), (8, 56, 0, 5, 150), (9, 9, 9, 1, 272), (9, 15, 9, 4, 278), (9, 19, 9, 5, 280), (9, 25, 9, 6, 282), (9, 32, 9, 7, 284), (9, 39, 9, 8, 286), (9, 46, 9, 9, 288), (9, 53, 9, 10, 290), (9, 60, 9, 11, 292), (9, 64, 9, 0, 270), (9, 67, 9, 2, 274), (9, 70, 9, 3, 276), (9, 118, 0, 1, 137), (9, 123, 0, 3, 144), (9, 126, 0, 4, 147), (9, 135, 0, 0, 135), (9, 153, 3, 1, 102), (9, 163, 8, 1, 178), (9, 167, 8, 0, 176), (9, 189, 2, 0, 234), (9, 195, 2, 1, 237), (9, 201, 0, 6, 154), (9, 204, 2, 2, 240), (9, 207, 2, 3, 243), (9, 218, 3, 0, 100), (9, 223, 3, 3, 108), (9, 226, 3, 2, 106), (10, 12, 10, 0, 380), (10, 16, 10, 1, 381), (10, 19, 10, 2, 382), (10, 25, 10, 3, 383), (10, 32, 10, 4, 384), (10, 40, 9, 6, 283), (10, 44, 3, 0, 99), (10, 58, 9, 5, 281), (10, 76, 1, 2, 349), (10, 79, 1, 3, 351), (10, 82, 1, 4, 353), (10, 85, 1, 5, 355), (10, 88, 1, 6, 357), (10, 91, 9, 7, 285), (10, 101, 9, 9, 289), (10, 105, 7, 2, 219), (10, 113, 0, 7, 157), (10, 123, 9, 11, 293), (10, 127, 9, 0, 271), (10, 140, 7, 0, 215), (10, 143, 7, 1, 217), (10, 162, 9, 1, 273), (10, 165, 9, 2, 275), (10, 169, 3, 2, 105), (10, 172, 9, 3, 277), (10, 181, 9, 4, 279), (10, 184, 1, 1, 347), (10, 190, 5, 1, 330), (10, 196, 10, 5, 385), (10, 200, 3, 1, 103), (10, 203, 9, 8, 287), (10, 212, 3, 3, 109), (10, 224, 0, 1, 139), (10, 226, 0, 2, 142), (10, 229, 0, 3, 145), (10, 231, 0, 5, 151), (10, 236, 0, 6, 155), (10, 249, 0, 4, 148), (10, 263, 8, 1, 179), (10, 267, 8, 2, 181), (10, 279, 9, 10, 291), (10, 283, 2, 0, 235), (10, 288, 2, 1, 238), (10, 291, 2, 2, 241), (10, 293, 2, 3, 244), (11, 7, 11, 1, 890), (11, 13, 11, 2, 891), (11, 16, 11, 3, 892), (11, 19, 11, 5, 894), (11, 22, 11, 7, 896), (11, 25, 11, 11, 900), (11, 28, 11, 0, 889), (11, 40, 11, 4, 893), (11, 98, 11, 12, 901), (11, 160, 11, 8, 897), (11, 163, 11, 9, 898), (11, 166, 11, 10, 899), (11, 194, 11, 6, 895)]
def stab : List (Nat × Nat × Nat × Nat) := [(0, 43, 1, 498), (0, 46, 2, 585), (0, 49, 3, 629), (0, 56, 0, 652), (1, 80, 1, 548)]
def ctab : List (Nat × Nat × Nat × Nat) := [(5, 9, 9, 325), (8, 9, 0, 126), (9, 22, 3, 92), (9, 29, 8, 120), (9, 36, 4, 189), (9, 43, 7, 208), (9, 50, 2, 227), (9, 57, 6, 254), (10, 9, 9, 86), (10, 22, 5, 319), (10, 29, 1, 339)]
def atab : List (Nat × Nat × Nat × Nat) := [(5, 9, 3, 325), (8, 9, 2, 126)]
def ktab : List (Nat × Nat × Int32 × Nat) := [(9, 159, 1000000, 643), (11, 57, 99999, 1094)]
def ltab : List (Nat × Nat × Nat × Nat × Nat) := [(0, 3, 5, 0, 132), (0, 37, 8, 0, 433), (0, 52, 1, 4, 582), (0, 59, 0, 8, 625), (0, 63, 0, 7, 648), (0, 66, 1, 5, 626), (0, 69, 0, 6, 604), (1, 3, 5, 0, 344), (1, 38, 0, 19, 522), (1, 42, 0, 18, 561), (1, 46, 0, 20, 526), (1, 49, 0, 26, 533), (1, 53, 0, 21, 537), (1, 56, 0, 22, 544), (1, 59, 0, 25, 549), (1, 62, 0, 23, 553), (1, 65, 1, 27, 530), (1, 69, 0, 24, 557), (1, 76, 1, 28, 541), (2, 1, 5, 0, 232), (3, 3, 5, 0, 97), (3, 25, 8, 0, 424), (3, 31, 0, 37, 840), (4, 3, 5, 0, 194), (4, 25, 8, 0, 438), (4, 31, 7, 0, 504), (4, 37, 0, 47, 505), (5, 3, 5, 0, 324), (5, 17, 3, 72, 7), (5, 25, 7, 0, 410), (5, 31, 0, 73, 413), (6, 3, 5, 0, 259), (6, 22, 8, 0, 452), (6, 28, 7, 0, 513), (7, 3, 5, 0, 213), (7, 22, 8, 0, 443), (8, 3, 5, 0, 125), (8, 17, 3, 0, 2), (8, 25, 0, 1, 429), (8, 29, 0, 64, 490), (8, 40, 0, 12, 833), (8, 44, 0, 11, 800), (8, 52, 1, 14, 716), (9, 3, 5, 0, 91), (9, 24, 3, 31, 1), (9, 31, 2, 60, 122), (9, 38, 3, 38, 3), (9, 45, 3, 55, 4), (9, 52, 3, 29, 5), (9, 59, 3, 51, 6), (9, 73, 8, 0, 417), (9, 79, 0, 32, 420), (9, 83, 0, 61, 425), (9, 86, 0, 39, 434), (9, 89, 0, 56, 439), (9, 92, 0, 30, 444), (9, 95, 0, 52, 448), (9, 98, 0, 33, 469), (9, 102, 4, 120, 9), (9, 106, 0, 41, 474), (9, 110, 0, 62, 478), (9, 114, 0, 63, 486), (9, 127, 0, 2, 494), (9, 131, 0, 44, 500), (9, 138, 0, 53, 509), (9, 142, 0, 70, 712), (9, 146, 0, 42, 717), (9, 149, 0, 78, 639), (9, 156, 0, 77, 635), (9, 160, 0, 9, 644), (9, 164, 0, 81, 813), (9, 171, 0, 79, 631), (9, 175, 0, 10, 621), (9, 179, 0, 82, 617), (9, 182, 0, 84, 654), (9, 186, 1, 4, 658), (9, 192, 0, 7, 659), (9, 198, 1, 5, 660), (9, 209, 0, 86, 669), (9, 212, 0, 87, 681), (9, 215, 0, 45, 673), (9, 219, 0, 46, 677), (9, 229, 0, 12, 685), (9, 232, 0, 88, 689), (9, 236, 0, 13, 693), (9, 239, 1, 14, 697), (9, 243, 0, 40, 700), (10, 3, 5, 0, 83), (10, 11, 3, 72, 0), (10, 24, 2, 48, 321), (10, 31, 3, 15, 8), (10, 36, 1, 120, 403), (10, 50, 0, 49, 406), (10, 54, 0, 34, 453), (10, 62, 0, 74, 465), (10, 66, 0, 75, 482), (10, 69, 0, 17, 518), (10, 73, 0, 73, 565), (10, 95, 0, 65, 570), (10, 108, 0, 8, 574), (10, 116, 0, 6, 578), (10, 119, 0, 58, 587), (10, 130, 0, 53, 591), (10, 136, 0, 57, 596), (10, 145, 0, 11, 600), (10, 149, 0, 59, 605), (10, 153, 0, 83, 613), (10, 156, 0, 85, 665), (10, 159, 0, 76, 708), (10, 168, 0, 33, 725), (10, 175, 1, 121, 730), (10, 178, 1, 122, 733), (10, 187, 0, 16, 740), (10, 193, 0, 50, 756), (10, 207, 0, 41, 772), (10, 215, 0, 66, 773), (10, 218, 0, 43, 777), (10, 221, 0, 77, 781), (10, 232, 1, 3, 786), (10, 239, 0, 12, 789), (10, 243, 0, 13, 790), (10, 246, 0, 9, 791), (10, 250, 0, 68, 796), (10, 254, 0, 69, 801), (10, 257, 0, 80, 809), (10, 260, 0, 54, 821), (10, 264, 0, 67, 829), (10, 270, 0, 70, 834), (10, 273, 0, 42, 835), (10, 276, 0, 36, 836), (10, 296, 0, 35, 844), (10, 299, 0, 119, 856), (10, 302, 0, 71, 872), (10, 305, 6, 0, 876), (11, 1, 5, 0, 888), (11, 32, 1, 124, 933), (11, 36, 0, 128, 976), (11, 43, 0, 136, 1046), (11, 46, 1, 135, 1099), (11, 49, 0, 139, 1122), (11, 53, 0, 142, 984), (11, 58, 0, 131, 936), (11, 61, 0, 127, 940), (11, 65, 0, 125, 956), (11, 68, 0, 141, 960), (11, 71, 0, 129, 968), (11, 74, 0, 149, 972), (11, 78, 0, 144, 980), (11, 82, 0, 134, 988), (11, 85, 0, 148, 952), (11, 89, 0, 150, 964), (11, 92, 0, 182, 996), (11, 95, 0, 132, 1030), (11, 101, 0, 133, 1034), (11, 104, 0, 130, 1042), (11, 107, 0, 153, 1050), (11, 110, 0, 156, 1058), (11, 113, 0, 155, 1062), (11, 117, 0, 126, 1086), (11, 120, 0, 145, 1090), (11, 123, 0, 137, 1095), (11, 126, 0, 158, 1082), (11, 129, 0, 159, 1078), (11, 132, 0, 160, 1102), (11, 135, 0, 161, 1074), (11, 138, 0, 162, 1070), (11, 141, 0, 143, 1118), (11, 144, 0, 138, 1130), (11, 147, 0, 164, 1114), (11, 151, 0, 165, 1126), (11, 154, 0, 166, 1110), (11, 157, 1, 170, 1146), (11, 170, 0, 174, 1008), (11, 173, 1, 177, 1020), (11, 176, 0, 176, 1012), (11, 179, 1, 178, 1023), (11, 182, 0, 175, 1004), (11, 185, 0, 179, 1016), (11, 188, 0, 180, 1026), (11, 191, 0, 181, 1000), (11, 197, 0, 187, 1177), (11, 200, 0, 188, 1181), (11, 203, 0, 190, 1189), (11, 206, 0, 192, 1197), (11, 209, 0, 193, 1201), (11, 212, 0, 140, 1221), (11, 215, 0, 197, 1225), (11, 218, 0, 198, 1229), (11, 221, 0, 199, 1233), (11, 224, 0, 200, 1217), (11, 227, 0, 203, 1245)]
def mpos : List (Nat × Nat × Nat × Nat × Nat) := [(1, 131, 130, 0, 68), (0, 432, 430, 431, 68), (0, 497, 495, 496, 68), (2, 788, 787, 0, 68), (2, 584, 583, 0, 68), (2, 628, 627, 0, 68), (0, 581, 579, 580, 68), (0, 651, 649, 650, 68), (0, 577, 575, 576, 68), (0, 647, 645, 646, 68), (0, 624, 622, 623, 68), (0, 603, 601, 602, 68), (0, 688, 686, 687, 68), (0, 696, 694, 695, 68), (2, 699, 698, 0, 68), (1, 343, 342, 0, 74), (0, 743, 741, 742, 74), (0, 521, 519, 520, 74), (0, 564, 563, 9, 74), (0, 525, 524, 1, 74), (0, 529, 528, 2, 74), (0, 540, 539, 4, 74), (0, 547, 546, 5, 74), (0, 556, 555, 7, 74), (0, 560, 559, 8, 74), (0, 552, 551, 6, 74), (0, 536, 535, 3, 74), (2, 532, 531, 0, 74), (2, 543, 542, 0, 74), (1, 231, 230, 0, 71), (0, 447, 445, 446, 71), (1, 96, 95, 0, 66), (0, 423, 421, 422, 66), (0, 472, 470, 471, 66), (0, 456, 454, 455, 66), (0, 847, 845, 846, 66), (0, 839, 837, 838, 66), (0, 843, 842, 10, 66), (1, 193, 192, 0, 69), (0, 437, 435, 436, 69), (0, 703, 701, 702, 69), (0, 477, 475, 476, 69), (0, 720, 718, 719, 69), (0, 780, 778, 779, 69), (0, 503, 501, 502, 69), (0, 676, 674, 675, 69), (0, 680, 678, 679, 69), (0, 508, 507, 0, 69), (1, 323, 322, 0, 73), (0, 409, 407, 408, 73), (0, 759, 757, 758, 73), (1, 258, 257, 0, 72), (0, 451, 449, 450, 72), (0, 512, 510, 511, 72), (0, 824, 822, 823, 72), (1, 212, 211, 0, 70), (0, 442, 440, 441, 70), (0, 599, 597, 598, 70), (0, 590, 588, 589, 70), (0, 608, 606, 607, 70), (1, 124, 123, 0, 67), (0, 428, 426, 427, 67), (0, 481, 479, 480, 67), (0, 489, 487, 488, 67), (0, 493, 491, 492, 67), (0, 573, 571, 572, 67), (0, 776, 774, 775, 67), (0, 832, 830, 831, 67), (0, 799, 797, 798, 67), (0, 804, 802, 803, 67), (0, 715, 713, 714, 67), (0, 875, 873, 874, 67), (1, 90, 89, 0, 65), (0, 416, 414, 415, 65), (0, 468, 466, 467, 65), (0, 485, 483, 484, 65), (0, 711, 709, 710, 65), (0, 638, 636, 637, 65), (0, 642, 640, 641, 65), (0, 634, 632, 633, 65), (0, 812, 810, 811, 65), (0, 816, 814, 815, 65), (0, 620, 618, 619, 65), (0, 616, 614, 615, 65), (0, 657, 655, 656, 65), (0, 668, 666, 667, 65), (0, 672, 670, 671, 65), (0, 684, 682, 683, 65), (0, 692, 690, 691, 65), (1, 82, 81, 0, 64), (0, 402, 400, 401, 64), (0, 460, 458, 459, 64), (0, 464, 462, 463, 64), (0, 517, 515, 516, 64), (0, 569, 567, 568, 64), (0, 595, 593, 594, 64), (0, 612, 610, 611, 64), (0, 664, 662, 663, 64), (0, 707, 705, 706, 64), (0, 724, 722, 723, 64), (0, 729, 727, 728, 64), (0, 739, 737, 738, 64), (0, 747, 745, 746, 64), (0, 751, 749, 750, 64), (0, 755, 753, 754, 64), (0, 763, 761, 762, 64), (0, 767, 765, 766, 64), (0, 771, 769, 770, 64), (0, 785, 783, 784, 64), (0, 795, 793, 794, 64), (0, 808, 806, 807, 64), (0, 820, 818, 819, 64), (0, 828, 826, 827, 64), (0, 851, 849, 850, 64), (0, 855, 853, 854, 64), (0, 863, 861, 862, 64), (0, 867, 865, 866, 64), (0, 871, 869, 870, 64), (0, 882, 880, 881, 64), (0, 859, 858, 11, 64), (2, 405, 404, 0, 64), (2, 732, 731, 0, 64), (2, 735, 734, 0, 64), (1, 887, 886, 0, 75), (2, 935, 934, 0, 75), (0, 959, 958, 15, 75), (0, 1089, 1088, 42, 75), (0, 943, 942, 13, 75), (0, 979, 978, 20, 75), (0, 971, 970, 18, 75), (0, 1045, 1044, 33, 75), (0, 939, 938, 12, 75), (0, 1033, 1032, 31, 75), (0, 1037, 1036, 32, 75), (0, 991, 990, 23, 75), (2, 1101, 1100, 0, 75), (0, 1049, 1048, 34, 75), (0, 1098, 1097, 44, 75), (0, 1133, 1132, 51, 75), (0, 1125, 1124, 49, 75), (0, 1224, 1223, 58, 75), (0, 963, 962, 16, 75), (0, 987, 986, 22, 75), (0, 1121, 1120, 48, 75), (0, 983, 982, 21, 75), (0, 1093, 1092, 43, 75), (0, 932, 930, 931, 75), (0, 947, 945, 946, 75), (0, 955, 954, 14, 75), (0, 975, 974, 19, 75), (0, 967, 966, 17, 75), (0, 951, 949, 950, 75), (0, 995, 993, 994, 75), (0, 1053, 1052, 35, 75), (0, 1041, 1039, 1040, 75), (0, 1065, 1064, 37, 75), (0, 1061, 1060, 36, 75), (0, 1057, 1055, 1056, 75), (0, 1085, 1084, 41, 75), (0, 1081, 1080, 40, 75), (0, 1105, 1104, 45, 75), (0, 1077, 1076, 39, 75), (0, 1073, 1072, 38, 75), (0, 1069, 1067, 1068, 75), (0, 1117, 1116, 47, 75), (0, 1129, 1128, 50, 75), (0, 1113, 1112, 46, 75), (0, 1109, 1107, 1108, 75), (0, 1137, 1135, 1136, 75), (0, 1141, 1139, 1140, 75), (2, 1148, 1147, 0, 75), (0, 1145, 1143, 1144, 75), (0, 1152, 1150, 1151, 75), (0, 1156, 1154, 1155, 75), (0, 1011, 1010, 27, 75), (0, 1007, 1006, 26, 75), (0, 1015, 1014, 28, 75), (2, 1022, 1021, 0, 75), (2, 1025, 1024, 0, 75), (0, 1019, 1018, 29, 75), (0, 1029, 1028, 30, 75), (0, 1003, 1002, 25, 75), (0, 999, 998, 24, 75), (0, 1160, 1158, 1159, 75), (0, 1164, 1162, 1163, 75), (0, 1168, 1166, 1167, 75), (0, 1172, 1170, 1171, 75), (0, 1180, 1179, 52, 75), (0, 1184, 1183, 53, 75), (0, 1176, 1174, 1175, 75), (0, 1192, 1191, 54, 75), (0, 1188, 1186, 1187, 75), (0, 1200, 1199, 55, 75), (0, 1204, 1203, 56, 75), (0, 1196, 1194, 1195, 75), (0, 1208, 1206, 1207, 75), (0, 1212, 1210, 1211, 75), (0, 1228, 1227, 59, 75), (0, 1232, 1231, 60, 75), (0, 1236, 1235, 61, 75), (0, 1220, 1219, 57, 75), (0, 1216, 1214, 1215, 75), (0, 1240, 1238, 1239, 75), (0, 1248, 1247, 62, 75), (0, 1244, 1242, 1243, 75), (0, 1252, 1250, 1251, 75), (0, 1256, 1254, 1255, 75), (0, 1260, 1258, 1259, 75), (0, 1264, 1262, 1263, 75)]
def ntab : List (String × Nat × MethodName × String) := [("IroningBaskets", 11, yX9_init, "IroningBaskets"), ("IroningBaskets$State", 24, yX3_init, "IroningBaskets"), ("IroningBaskets$Shelf", 17, yX0_init, "IroningBaskets"), ("IroningBaskets$State", 38, yX4_init, "IroningBaskets"), ("IroningBaskets$State", 45, yX7_init, "IroningBaskets"), ("IroningBaskets$State", 52, yX2_init, "IroningBaskets"), ("IroningBaskets$State", 59, yX6_init, "IroningBaskets"), ("IroningBaskets$History", 17, yX9_init, "IroningBaskets"), ("IroningBaskets", 31, yX1_init, "IroningBaskets"), ("IroningBaskets$State", 102, yX10_within, "IroningBaskets")]
def fref (oc i : Nat) : Option (Nat × Nat) := (ftab.find? (fun e => e.1 == oc && e.2.1 == i)).map (fun e => (e.2.2.1, e.2.2.2.1))
def sref (oc i : Nat) : Option Nat := (stab.find? (fun e => e.1 == oc && e.2.1 == i)).map (fun e => e.2.2.1)
def nref (oc i : Nat) : Option Nat := (ctab.find? (fun e => e.1 == oc && e.2.1 == i)).map (fun e => e.2.2.1)
def aref (oc i : Nat) : Option Nat := (atab.find? (fun e => e.1 == oc && e.2.1 == i)).map (fun e => e.2.2.1)
def kref (oc i : Nat) : Option Int32 := (ktab.find? (fun e => e.1 == oc && e.2.1 == i)).map (fun e => e.2.2.1)
def lref (oc i : Nat) : Option (Nat × Nat) := (ltab.find? (fun e => e.1 == oc && e.2.1 == i)).map (fun e => (e.2.2.1, e.2.2.2.1))
/-- a field's type, and whether it is final -/
def fty (ci k : Nat) : FieldType := match ci with
  | 0 => tyX0 k | 1 => tyX1 k | 2 => tyX2 k | 3 => tyX3 k | 4 => tyX4 k | 5 => tyX5 k | 6 => tyX6 k | 7 => tyX7 k | 8 => tyX8 k | 9 => tyX9 k | 10 => tyX10 k | _ => tyX11 k
def fT (ci : Nat) : u_T := match ci with
  | 0 => TX0 | 1 => TX1 | 2 => TX2 | 3 => TX3 | 4 => TX4 | 5 => TX5 | 6 => TX6 | 7 => TX7 | 8 => TX8 | 9 => TX9 | 10 => TX10 | _ => TX11
def fN (ci : Nat) : Nat := match ci with
  | 0 => 8 | 1 => 9 | 2 => 4 | 3 => 4 | 4 => 4 | 5 => 3 | 6 => 3 | 7 => 3 | 8 => 3 | 9 => 12 | 10 => 6 | _ => 13
def fR (ci : Nat) : String := match ci with
  | 0 => RX0 | 1 => RX1 | 2 => RX2 | 3 => RX3 | 4 => RX4 | 5 => RX5 | 6 => RX6 | 7 => RX7 | 8 => RX8 | 9 => RX9 | 10 => RX10 | _ => RX11
/-- the class of what an array of this type holds -/
def qcl (t : Nat) : Nat := if t = 2 then 0 else 9
end
section
/-! what the tables say, held against the claim's words -/
theorem lw_at {q : Nat} {w : Cond} (h : lw_tbl[q]? = some w) (g : goodWord w = true) : w ∈ gw := gw_in (List.mem_of_getElem? h) g
set_option maxRecDepth 100000 in
theorem ftab_ok : ftab.all (fun e => decide (e.2.2.1 < 12) && decide (e.2.2.2.1 < fN e.2.2.1) && decide (lw_tbl[e.2.2.2.2]? = some (Cond.fieldLink (fR e.1) e.2.1 (fT e.2.2.1 e.2.2.2.1).1 (fT e.2.2.1 e.2.2.2.1).2.1 (fT e.2.2.1 e.2.2.2.1).2.2.1))) = true := by decide +kernel
theorem fref_ok {oc i ci k : Nat} (h : fref oc i = some (ci, k)) : ci < 12 ∧ k < fN ci ∧ Cond.fieldLink (fR oc) i (fT ci k).1 (fT ci k).2.1 (fT ci k).2.2.1 ∈ gw := by
  unfold fref at h
  cases he : ftab.find? (fun e => e.1 == oc && e.2.1 == i) with
  | none => rw [he] at h; cases h
  | some e =>
    rw [he] at h
    have h1 := List.find?_some he
    have h2 := List.all_eq_true.mp ftab_ok e (List.mem_of_find?_eq_some he)
    obtain ⟨a, b, c, d, q⟩ := e
    cases h
    simp only [Bool.and_eq_true, beq_iff_eq, decide_eq_true_eq] at h1 h2
    obtain ⟨rfl, rfl⟩ := h1
    exact ⟨h2.1.1, h2.1.2, lw_at h2.2 rfl⟩
def sNm (k : Nat) : String := match k with
  | 0 => "MINUTES"
  | 1 => "WEIGHTS"
  | 2 => "MINUTES_A_DEGREE"
  | _ => "HANGERS_TAKEN"
set_option maxRecDepth 100000 in
theorem stab_ok : stab.all (fun e => decide (e.2.2.1 < 4) && decide (lw_tbl[e.2.2.2]? = some (Cond.fieldLink (fR e.1) e.2.1 RX0 (sNm e.2.2.1) "[I"))) = true := by decide +kernel
theorem sref_ok {oc i k : Nat} (h : sref oc i = some k) : k < 4 ∧ Cond.fieldLink (fR oc) i RX0 (sNm k) "[I" ∈ gw := by
  unfold sref at h
  cases he : stab.find? (fun e => e.1 == oc && e.2.1 == i) with
  | none => rw [he] at h; cases h
  | some e =>
    rw [he] at h
    have h1 := List.find?_some he
    have h2 := List.all_eq_true.mp stab_ok e (List.mem_of_find?_eq_some he)
    obtain ⟨a, b, c, q⟩ := e
    cases h
    simp only [Bool.and_eq_true, beq_iff_eq, decide_eq_true_eq] at h1 h2
    obtain ⟨rfl, rfl⟩ := h1
    exact ⟨h2.1, lw_at h2.2 rfl⟩
def insQ (ci : Nat) : Nat := match ci with
  | 0 => 128 | 1 => 340 | 2 => 228 | 3 => 93 | 4 => 190 | 5 => 320 | 6 => 255 | 7 => 209 | 8 => 121 | 9 => 87 | 10 => 79 | _ => 884
set_option maxRecDepth 100000 in
theorem cls_ok : (List.range 12).all (fun ci => decide (lw_tbl[insQ ci]? = some (Cond.instantiable (fR ci) (fN ci))) && decide (Cond.initialized (fR ci) ∈ lw_tbl) && (u_ws (fR ci) (fT ci) (fN ci)).all (fun w => decide (w ∈ lw_tbl))) = true := by decide +kernel
theorem vw_at {ci : Nat} (h : ci < 12) : vwCl[ci]? = some (fR ci, fT ci, fN ci) := by
  match ci, h with
  | 0, _ => rfl
  | 1, _ => rfl
  | 2, _ => rfl
  | 3, _ => rfl
  | 4, _ => rfl
  | 5, _ => rfl
  | 6, _ => rfl
  | 7, _ => rfl
  | 8, _ => rfl
  | 9, _ => rfl
  | 10, _ => rfl
  | 11, _ => rfl
theorem cls_at {ci : Nat} (h : ci < 12) : Cond.instantiable (fR ci) (fN ci) ∈ gw ∧ Cond.initialized (fR ci) ∈ gw ∧ ∀ w ∈ u_ws (fR ci) (fT ci) (fN ci), w ∈ gw := by
  have h1 := List.all_eq_true.mp cls_ok ci (List.mem_range.mpr h)
  simp only [Bool.and_eq_true, decide_eq_true_eq] at h1
  refine ⟨lw_at h1.1.1 rfl, gw_in h1.1.2 rfl, fun w hw => ?_⟩
  have h2 := List.all_eq_true.mp h1.2 w hw
  refine gw_in (of_decide_eq_true h2) ?_
  obtain ⟨k, -, rfl⟩ := List.mem_map.mp hw
  unfold u_lay
  split <;> rfl
set_option maxRecDepth 100000 in
theorem ctab_ok : ctab.all (fun e => decide (e.2.2.1 < 12) && decide (lw_tbl[e.2.2.2]? = some (Cond.classLink (fR e.1) e.2.1 (fR e.2.2.1)))) = true := by decide +kernel
theorem nref_ok {oc i ci : Nat} (h : nref oc i = some ci) : ci < 12 ∧ Cond.classLink (fR oc) i (fR ci) ∈ gw := by
  unfold nref at h
  cases he : ctab.find? (fun e => e.1 == oc && e.2.1 == i) with
  | none => rw [he] at h; cases h
  | some e =>
    rw [he] at h
    have h1 := List.find?_some he
    have h2 := List.all_eq_true.mp ctab_ok e (List.mem_of_find?_eq_some he)
    obtain ⟨a, b, c, q⟩ := e
    cases h
    simp only [Bool.and_eq_true, beq_iff_eq, decide_eq_true_eq] at h1 h2
    obtain ⟨rfl, rfl⟩ := h1
    exact ⟨h2.1, lw_at h2.2 rfl⟩
set_option maxRecDepth 100000 in
theorem atab_ok : atab.all (fun e => decide (lw_tbl[e.2.2.2]? = some (Cond.classLink (fR e.1) e.2.1 (fR (qcl e.2.2.1))))) = true := by decide +kernel
theorem aref_ok {oc i t : Nat} (h : aref oc i = some t) : Cond.classLink (fR oc) i (fR (qcl t)) ∈ gw := by
  unfold aref at h
  cases he : atab.find? (fun e => e.1 == oc && e.2.1 == i) with
  | none => rw [he] at h; cases h
  | some e =>
    rw [he] at h
    have h1 := List.find?_some he
    have h2 := List.all_eq_true.mp atab_ok e (List.mem_of_find?_eq_some he)
    obtain ⟨a, b, c, q⟩ := e
    cases h
    simp only [Bool.and_eq_true, beq_iff_eq, decide_eq_true_eq] at h1 h2
    obtain ⟨rfl, rfl⟩ := h1
    exact lw_at h2 rfl
set_option maxRecDepth 100000 in
theorem ktab_ok : ktab.all (fun e => decide (lw_tbl[e.2.2.2]? = some (Cond.constant (fR e.1) e.2.1 e.2.2.1))) = true := by decide +kernel
theorem kref_ok {oc i : Nat} {v : Int32} (h : kref oc i = some v) : Cond.constant (fR oc) i v ∈ gw := by
  unfold kref at h
  cases he : ktab.find? (fun e => e.1 == oc && e.2.1 == i) with
  | none => rw [he] at h; cases h
  | some e =>
    rw [he] at h
    have h1 := List.find?_some he
    have h2 := List.all_eq_true.mp ktab_ok e (List.mem_of_find?_eq_some he)
    obtain ⟨a, b, c, q⟩ := e
    cases h
    simp only [Bool.and_eq_true, beq_iff_eq, decide_eq_true_eq] at h1 h2
    obtain ⟨rfl, rfl⟩ := h1
    exact lw_at h2 rfl
/-- the words of a method: kind (0 of an object, 1 a constructor, 2 static), and the places of its words -/
def mP (i : Nat) : Nat × Nat × Nat × Nat × Nat := mpos.getD i (0, 0, 0, 0, 0)
set_option maxRecDepth 100000 in
theorem mtab_ok : (List.range mtab.length).all (fun i => decide (lw_tbl[(mP i).2.2.2.2]? = some (Cond.initialized (mN i).cls)) && decide ((mN i).cls = fR (mC i)) && decide (mC i < 12) && plainName (mN i).cls && decide ((mN i).cls ≠ "java/lang/invoke/MethodHandle") && decide ((mN i).cls ≠ "java/lang/invoke/VarHandle")
    && (match (mP i).1 with
      | 0 => decide (lw_tbl[(mP i).2.2.1]? = some (Cond.instanceMethod (mN i))) && decide (lw_tbl[(mP i).2.2.2.1]? = some (Cond.selects (mN i).cls (mN i) (mN i))) && decide ((parseMethodDescriptor (mN i).desc).map (fun d => d.parameters.length + 1) = some (mA i))
      | 1 => decide (lw_tbl[(mP i).2.2.1]? = some (Cond.instanceMethod (mN i))) && decide ((mN i).name = "<init>") && decide (mR i = none) && decide ((parseMethodDescriptor (mN i).desc).map (fun d => d.parameters.length + 1) = some (mA i))
      | _ => decide (lw_tbl[(mP i).2.2.1]? = some (Cond.static (mN i))) && decide ((parseMethodDescriptor (mN i).desc).map (fun d => d.parameters.length) = some (mA i)))) = true := by decide +kernel
set_option maxRecDepth 100000 in
theorem ltab_ok : ltab.all (fun e => match e.2.2.1 with
    | 0 => decide (e.2.2.2.1 < mtab.length) && decide ((mP e.2.2.2.1).1 = 0) && decide (lw_tbl[e.2.2.2.2]? = some (Cond.methodLink (fR e.1) e.2.1 (mN e.2.2.2.1)))
    | 1 => decide (e.2.2.2.1 < mtab.length) && decide ((mP e.2.2.2.1).1 = 2) && decide (lw_tbl[e.2.2.2.2]? = some (Cond.methodLink (fR e.1) e.2.1 (mN e.2.2.2.1)))
    | 2 => decide (e.2.2.2.1 < mtab.length) && decide ((mP e.2.2.2.1).1 = 1) && decide (lw_tbl[e.2.2.2.2]? = some (Cond.methodLink (fR e.1) e.2.1 (mN e.2.2.2.1)))
    | 3 => decide (e.2.2.2.1 < mtab.length) && decide ((mP e.2.2.2.1).1 = 1) && decide (ntab[e.2.2.2.2]? = some (fR e.1, e.2.1, mN e.2.2.2.1, RX10))
    | 4 => decide (e.2.2.2.1 < mtab.length) && decide ((mP e.2.2.2.1).1 = 2) && decide (ntab[e.2.2.2.2]? = some (fR e.1, e.2.1, mN e.2.2.2.1, RX10))
    | 5 => decide (lw_tbl[e.2.2.2.2]? = some (Cond.methodLink (fR e.1) e.2.1 Lib.objectInit))
    | 6 => decide (lw_tbl[e.2.2.2.2]? = some (Cond.methodLink (fR e.1) e.2.1 Lib.Math.max.name))
    | 7 => decide (lw_tbl[e.2.2.2.2]? = some (Cond.methodLink (fR e.1) e.2.1 Lib.Math.min.name))
    | _ => decide (lw_tbl[e.2.2.2.2]? = some (Cond.methodLink (fR e.1) e.2.1 arraycopyName))) = true := by decide +kernel
set_option maxRecDepth 100000 in
theorem jdk_ok : (decide (lw_tbl[84]? = some (Cond.instanceMethod Lib.objectInit)) && decide (lw_tbl[85]? = some (Cond.code Lib.objectInit ⟨#[0xb1]⟩ 1 none)) && decide (lw_tbl[76]? = some (Cond.initialized "java/lang/Math")) && decide (lw_tbl[77]? = some (Cond.initialized "java/lang/System")) && decide (lw_tbl[411]? = some (Cond.static Lib.Math.min.name)) && decide (lw_tbl[412]? = some (Cond.code Lib.Math.min.name Lib.Math.min.code 2 (some .int))) && decide (lw_tbl[418]? = some (Cond.static arraycopyName)) && decide (lw_tbl[419]? = some (Cond.native arraycopyName)) && decide (lw_tbl[877]? = some (Cond.static Lib.Math.max.name)) && decide (lw_tbl[878]? = some (Cond.code Lib.Math.max.name Lib.Math.max.code 2 (some .int))) && decide (lw_tbl[119]? = some (Cond.arrayClass .int)) && decide (lw_tbl[379]? = some (Cond.arrayClass .char))) = true := by decide +kernel
set_option maxRecDepth 100000 in
theorem codes_ok : (List.range 209).map (fun i => lw_tbl[(mP i).2.1]?) = (List.range 209).map (fun i => some (Cond.code (mN i) (mB i) (mL i) (mR i))) := rfl
theorem room_nat : nativeFrameWords "java/lang/System" "arraycopy" 5 + 11 + 8 ≤ 100 := by decide +kernel
end
