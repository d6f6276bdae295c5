/-! THE TABLES' WORDS, each as a member of one list -/
def xT : List Cond := lw_tbl.filter goodWord
theorem xT_in {i : Nat} {w : Cond} (h : lw_tbl[i]? = some w) (hg : goodWord w = true) : w ∈ xT := List.mem_filter.mpr ⟨List.mem_of_getElem? h, hg⟩
theorem xT_good {w : Cond} (h : w ∈ xT) : goodWord w = true := (List.mem_filter.mp h).2
theorem xT_tbl {w : Cond} (h : w ∈ xT) : w ∈ lw_tbl := (List.mem_filter.mp h).1
theorem xT_p {i : Nat} {w : Cond} (h : (k2_sels lw_privs)[i]? = some w) (hg : goodWord w = true) : w ∈ xT := List.mem_filter.mpr ⟨List.mem_append_left _ (List.mem_of_getElem? h), hg⟩
theorem xT_1 {i : Nat} {w : Cond} (h : tables_1_1[i]? = some w) (hg : goodWord w = true) : w ∈ xT := by
  have h9 := List.mem_of_getElem? h
  exact List.mem_filter.mpr ⟨List.mem_append_right _ (List.mem_append_left _ h9), hg⟩
theorem xT_2 {i : Nat} {w : Cond} (h : tables_1_2[i]? = some w) (hg : goodWord w = true) : w ∈ xT := by
  have h9 := List.mem_of_getElem? h
  exact List.mem_filter.mpr ⟨List.mem_append_right _ (List.mem_append_right _ (List.mem_append_left _ h9)), hg⟩
theorem xT_3 {i : Nat} {w : Cond} (h : tables_1_3[i]? = some w) (hg : goodWord w = true) : w ∈ xT := by
  have h9 := List.mem_of_getElem? h
  exact List.mem_filter.mpr ⟨List.mem_append_right _ (List.mem_append_right _ (List.mem_append_right _ (List.mem_append_left _ h9))), hg⟩
theorem xT_4 {i : Nat} {w : Cond} (h : tables_1_4[i]? = some w) (hg : goodWord w = true) : w ∈ xT := by
  have h9 := List.mem_of_getElem? h
  exact List.mem_filter.mpr ⟨List.mem_append_right _ (List.mem_append_right _ (List.mem_append_right _ (List.mem_append_right _ (List.mem_append_left _ h9)))), hg⟩
theorem xT_5 {i : Nat} {w : Cond} (h : tables_1_5[i]? = some w) (hg : goodWord w = true) : w ∈ xT := by
  have h9 := List.mem_of_getElem? h
  exact List.mem_filter.mpr ⟨List.mem_append_right _ (List.mem_append_right _ (List.mem_append_right _ (List.mem_append_right _ (List.mem_append_right _ (List.mem_append_left _ h9))))), hg⟩
theorem xT_6 {i : Nat} {w : Cond} (h : tables_1_6[i]? = some w) (hg : goodWord w = true) : w ∈ xT := by
  have h9 := List.mem_of_getElem? h
  exact List.mem_filter.mpr ⟨List.mem_append_right _ (List.mem_append_right _ (List.mem_append_right _ (List.mem_append_right _ (List.mem_append_right _ (List.mem_append_right _ (List.mem_append_left _ h9)))))), hg⟩
theorem xT_7 {i : Nat} {w : Cond} (h : tables_1_7[i]? = some w) (hg : goodWord w = true) : w ∈ xT := by
  have h9 := List.mem_of_getElem? h
  exact List.mem_filter.mpr ⟨List.mem_append_right _ (List.mem_append_right _ (List.mem_append_right _ (List.mem_append_right _ (List.mem_append_right _ (List.mem_append_right _ (List.mem_append_right _ (List.mem_append_left _ h9))))))), hg⟩
theorem xT_8 {i : Nat} {w : Cond} (h : tables_1_8[i]? = some w) (hg : goodWord w = true) : w ∈ xT := by
  have h9 := List.mem_of_getElem? h
  exact List.mem_filter.mpr ⟨List.mem_append_right _ (List.mem_append_right _ (List.mem_append_right _ (List.mem_append_right _ (List.mem_append_right _ (List.mem_append_right _ (List.mem_append_right _ (List.mem_append_right _ h9))))))), hg⟩
theorem mV_X4_storedOf : Cond.selects RX4 yX4_storedOf yX4_storedOf ∈ xT := xT_p (i := 0) rfl rfl
theorem mV_Throwable_fillInStackTrace : Cond.selects "java/lang/Throwable" ⟨"java/lang/Throwable", "fillInStackTrace", "(I)Ljava/lang/Throwable;"⟩ ⟨"java/lang/Throwable", "fillInStackTrace", "(I)Ljava/lang/Throwable;"⟩ ∈ xT := xT_p (i := 1) rfl rfl
theorem mV_X3_spareRow : Cond.selects RX3 yX3_spareRow yX3_spareRow ∈ xT := xT_p (i := 2) rfl rfl
theorem mV_X4_addToStore : Cond.selects RX4 yX4_addToStore yX4_addToStore ∈ xT := xT_p (i := 3) rfl rfl
theorem mV_X7_conclude : Cond.selects RX7 yX7_conclude yX7_conclude ∈ xT := xT_p (i := 4) rfl rfl
theorem mV_X7_keepChange : Cond.selects RX7 yX7_keepChange yX7_keepChange ∈ xT := xT_p (i := 5) rfl rfl
theorem mV_X7_needChest : Cond.selects RX7 yX7_needChest yX7_needChest ∈ xT := xT_p (i := 6) rfl rfl
theorem mV_X4_isInHouse : Cond.selects RX4 yX4_isInHouse yX4_isInHouse ∈ xT := xT_p (i := 7) rfl rfl
theorem mV_X4_isUnscrewed : Cond.selects RX4 yX4_isUnscrewed yX4_isUnscrewed ∈ xT := xT_p (i := 8) rfl rfl
theorem mV_X4_isUnlined : Cond.selects RX4 yX4_isUnlined yX4_isUnlined ∈ xT := xT_p (i := 9) rfl rfl
theorem mV_X4_hasSheets : Cond.selects RX4 yX4_hasSheets yX4_hasSheets ∈ xT := xT_p (i := 10) rfl rfl
theorem mV_X4_hasNoOtherLeaves : Cond.selects RX4 yX4_hasNoOtherLeaves yX4_hasNoOtherLeaves ∈ xT := xT_p (i := 11) rfl rfl
theorem mV_X4_hasRoom : Cond.selects RX4 yX4_hasRoom yX4_hasRoom ∈ xT := xT_p (i := 12) rfl rfl
theorem mV_X4_hasPounds : Cond.selects RX4 yX4_hasPounds yX4_hasPounds ∈ xT := xT_p (i := 13) rfl rfl
theorem mV_X4_isFilled : Cond.selects RX4 yX4_isFilled yX4_isFilled ∈ xT := xT_p (i := 14) rfl rfl
theorem mV_X4_hasScrews : Cond.selects RX4 yX4_hasScrews yX4_hasScrews ∈ xT := xT_p (i := 15) rfl rfl
theorem mV_X4_takesScrews : Cond.selects RX4 yX4_takesScrews yX4_takesScrews ∈ xT := xT_p (i := 16) rfl rfl
theorem mV_X4_placeOf : Cond.selects RX4 yX4_placeOf yX4_placeOf ∈ xT := xT_p (i := 17) rfl rfl
theorem mV_X4_isReadyForQuay : Cond.selects RX4 yX4_isReadyForQuay yX4_isReadyForQuay ∈ xT := xT_p (i := 18) rfl rfl
theorem mV_X4_isOnQuay : Cond.selects RX4 yX4_isOnQuay yX4_isOnQuay ∈ xT := xT_p (i := 19) rfl rfl
theorem mV_X4_isShipReached : Cond.selects RX4 yX4_isShipReached yX4_isShipReached ∈ xT := xT_p (i := 20) rfl rfl
theorem mV_X4_hasShipRoom : Cond.selects RX4 yX4_hasShipRoom yX4_hasShipRoom ∈ xT := xT_p (i := 21) rfl rfl
theorem mV_X4_isShipLoaded : Cond.selects RX4 yX4_isShipLoaded yX4_isShipLoaded ∈ xT := xT_p (i := 22) rfl rfl
theorem mV_X4_letDampIn : Cond.selects RX4 yX4_letDampIn yX4_letDampIn ∈ xT := xT_p (i := 23) rfl rfl
theorem mV_X2_readVerb : Cond.selects RX2 yX2_readVerb yX2_readVerb ∈ xT := xT_p (i := 24) rfl rfl
theorem mV_X2_readWord : Cond.selects RX2 yX2_readWord yX2_readWord ∈ xT := xT_p (i := 25) rfl rfl
theorem mV_X2_signAt : Cond.selects RX2 yX2_signAt yX2_signAt ∈ xT := xT_p (i := 26) rfl rfl
theorem mV_X2_readManyAsNumber : Cond.selects RX2 yX2_readManyAsNumber yX2_readManyAsNumber ∈ xT := xT_p (i := 27) rfl rfl
theorem mV_X2_readNumber : Cond.selects RX2 yX2_readNumber yX2_readNumber ∈ xT := xT_p (i := 28) rfl rfl
theorem mV_X2_readDigit : Cond.selects RX2 yX2_readDigit yX2_readDigit ∈ xT := xT_p (i := 29) rfl rfl
theorem mV_X2_readChest : Cond.selects RX2 yX2_readChest yX2_readChest ∈ xT := xT_p (i := 30) rfl rfl
theorem mV_X2_readLeaf : Cond.selects RX2 yX2_readLeaf yX2_readLeaf ∈ xT := xT_p (i := 31) rfl rfl
theorem mV_X2_readKind : Cond.selects RX2 yX2_readKind yX2_readKind ∈ xT := xT_p (i := 32) rfl rfl
theorem mV_X2_readManyAsDigit : Cond.selects RX2 yX2_readManyAsDigit yX2_readManyAsDigit ∈ xT := xT_p (i := 33) rfl rfl
theorem mV_X7_carryOutAll : Cond.selects RX7 yX7_carryOutAll yX7_carryOutAll ∈ xT := xT_p (i := 34) rfl rfl
theorem mV_X7_carryOutRead : Cond.selects RX7 yX7_carryOutRead yX7_carryOutRead ∈ xT := xT_p (i := 35) rfl rfl
theorem mV_X8_begins : Cond.selects RX8 yX8_begins yX8_begins ∈ xT := xT_p (i := 36) rfl rfl
theorem mV_X8_brings : Cond.selects RX8 yX8_brings yX8_brings ∈ xT := xT_p (i := 37) rfl rfl
theorem mV_X8_fail : Cond.selects RX8 yX8_fail yX8_fail ∈ xT := xT_p (i := 38) rfl rfl
theorem mV_X8_refuses : Cond.selects RX8 yX8_refuses yX8_refuses ∈ xT := xT_p (i := 39) rfl rfl
theorem mV_X8_ends : Cond.selects RX8 yX8_ends yX8_ends ∈ xT := xT_p (i := 40) rfl rfl
theorem mV_X8_no : Cond.selects RX8 yX8_no yX8_no ∈ xT := xT_p (i := 41) rfl rfl
theorem mV_X8_allOf : Cond.selects RX8 yX8_allOf yX8_allOf ∈ xT := xT_p (i := 42) rfl rfl
theorem mV_X8_buys : Cond.selects RX8 yX8_buys yX8_buys ∈ xT := xT_p (i := 43) rfl rfl
theorem mV_X8_makes : Cond.selects RX8 yX8_makes yX8_makes ∈ xT := xT_p (i := 44) rfl rfl
theorem mV_X8_linesChest : Cond.selects RX8 yX8_linesChest yX8_linesChest ∈ xT := xT_p (i := 45) rfl rfl
theorem mV_X8_isChest : Cond.selects RX8 yX8_isChest yX8_isChest ∈ xT := xT_p (i := 46) rfl rfl
theorem mV_X8_isShut : Cond.selects RX8 yX8_isShut yX8_isShut ∈ xT := xT_p (i := 47) rfl rfl
theorem mV_X8_fills : Cond.selects RX8 yX8_fills yX8_fills ∈ xT := xT_p (i := 48) rfl rfl
theorem mV_X8_isEmpty : Cond.selects RX8 yX8_isEmpty yX8_isEmpty ∈ xT := xT_p (i := 49) rfl rfl
theorem mV_X8_empties : Cond.selects RX8 yX8_empties yX8_empties ∈ xT := xT_p (i := 50) rfl rfl
theorem mV_X8_screws : Cond.selects RX8 yX8_screws yX8_screws ∈ xT := xT_p (i := 51) rfl rfl
theorem mV_X8_isTight : Cond.selects RX8 yX8_isTight yX8_isTight ∈ xT := xT_p (i := 52) rfl rfl
theorem mV_X8_unscrews : Cond.selects RX8 yX8_unscrews yX8_unscrews ∈ xT := xT_p (i := 53) rfl rfl
theorem mV_X8_labels : Cond.selects RX8 yX8_labels yX8_labels ∈ xT := xT_p (i := 54) rfl rfl
theorem mV_X8_writesLabel : Cond.selects RX8 yX8_writesLabel yX8_writesLabel ∈ xT := xT_p (i := 55) rfl rfl
theorem mV_X8_writes : Cond.selects RX8 yX8_writes yX8_writes ∈ xT := xT_p (i := 56) rfl rfl
theorem mV_X8_worthOf : Cond.selects RX8 yX8_worthOf yX8_worthOf ∈ xT := xT_p (i := 57) rfl rfl
theorem mV_X8_isAhead : Cond.selects RX8 yX8_isAhead yX8_isAhead ∈ xT := xT_p (i := 58) rfl rfl
theorem mV_X8_goesOut : Cond.selects RX8 yX8_goesOut yX8_goesOut ∈ xT := xT_p (i := 59) rfl rfl
theorem mV_X8_withWhere : Cond.selects RX8 yX8_withWhere yX8_withWhere ∈ xT := xT_p (i := 60) rfl rfl
theorem mV_X8_loads : Cond.selects RX8 yX8_loads yX8_loads ∈ xT := xT_p (i := 61) rfl rfl
theorem mV_X8_room : Cond.selects RX8 yX8_room yX8_room ∈ xT := xT_p (i := 62) rfl rfl
theorem mV_X8_sails : Cond.selects RX8 yX8_sails yX8_sails ∈ xT := xT_p (i := 63) rfl rfl
theorem mV_X8_cargoOf : Cond.selects RX8 yX8_cargoOf yX8_cargoOf ∈ xT := xT_p (i := 64) rfl rfl
theorem mV_X8_humid : Cond.selects RX8 yX8_humid yX8_humid ∈ xT := xT_p (i := 65) rfl rfl
theorem mV_X8_passes : Cond.selects RX8 yX8_passes yX8_passes ∈ xT := xT_p (i := 66) rfl rfl
theorem mV_X8_hour : Cond.selects RX8 yX8_hour yX8_hour ∈ xT := xT_p (i := 67) rfl rfl
theorem mV_X8_stored : Cond.selects RX8 yX8_stored yX8_stored ∈ xT := xT_p (i := 68) rfl rfl
theorem mV_X8_packed : Cond.selects RX8 yX8_packed yX8_packed ∈ xT := xT_p (i := 69) rfl rfl
theorem mV_X8_commands : Cond.selects RX8 yX8_commands yX8_commands ∈ xT := xT_p (i := 70) rfl rfl
theorem mV_X8_command : Cond.selects RX8 yX8_command yX8_command ∈ xT := xT_p (i := 71) rfl rfl
theorem mV_X8_word : Cond.selects RX8 yX8_word yX8_word ∈ xT := xT_p (i := 72) rfl rfl
theorem mV_X8_sign : Cond.selects RX8 yX8_sign yX8_sign ∈ xT := xT_p (i := 73) rfl rfl
theorem mV_X8_number : Cond.selects RX8 yX8_number yX8_number ∈ xT := xT_p (i := 74) rfl rfl
theorem mV_X8_mark : Cond.selects RX8 yX8_mark yX8_mark ∈ xT := xT_p (i := 75) rfl rfl
theorem mV_X8_does : Cond.selects RX8 yX8_does yX8_does ∈ xT := xT_p (i := 76) rfl rfl
theorem mN_L : Cond.initialized RL ∈ xT := xT_1 (i := 0) rfl rfl
theorem mN_X7 : Cond.initialized RX7 ∈ xT := xT_1 (i := 1) rfl rfl
theorem mN_X4 : Cond.initialized RX4 ∈ xT := xT_1 (i := 2) rfl rfl
theorem mN_X1 : Cond.initialized RX1 ∈ xT := xT_1 (i := 3) rfl rfl
theorem mN_X3 : Cond.initialized RX3 ∈ xT := xT_1 (i := 4) rfl rfl
theorem mN_X2 : Cond.initialized RX2 ∈ xT := xT_1 (i := 5) rfl rfl
theorem mN_X8 : Cond.initialized RX8 ∈ xT := xT_1 (i := 6) rfl rfl
theorem mN_Throwable : Cond.initialized "java/lang/Throwable" ∈ xT := xT_1 (i := 7) rfl rfl
theorem mN_Exception : Cond.initialized "java/lang/Exception" ∈ xT := xT_1 (i := 8) rfl rfl
theorem mN_RuntimeException : Cond.initialized "java/lang/RuntimeException" ∈ xT := xT_1 (i := 9) rfl rfl
theorem mN_IndexOutOfBoundsException : Cond.initialized "java/lang/IndexOutOfBoundsException" ∈ xT := xT_1 (i := 10) rfl rfl
theorem mN_Jx00060 : Cond.initialized RJx00060 ∈ xT := xT_1 (i := 11) rfl rfl
theorem mN_J0 : Cond.initialized RJ0 ∈ xT := xT_1 (i := 12) rfl rfl
theorem mN_IllegalArgumentException : Cond.initialized "java/lang/IllegalArgumentException" ∈ xT := xT_1 (i := 13) rfl rfl
theorem mN_J9 : Cond.initialized RJ9 ∈ xT := xT_1 (i := 14) rfl rfl
theorem mN_J10 : Cond.initialized RJ10 ∈ xT := xT_1 (i := 15) rfl rfl
theorem mN_UnsupportedOperationException : Cond.initialized "java/lang/UnsupportedOperationException" ∈ xT := xT_1 (i := 16) rfl rfl
theorem mN_J5 : Cond.initialized RJ5 ∈ xT := xT_1 (i := 17) rfl rfl
theorem mN_J4 : Cond.initialized RJ4 ∈ xT := xT_1 (i := 18) rfl rfl
theorem mN_J2 : Cond.initialized RJ2 ∈ xT := xT_1 (i := 19) rfl rfl
theorem mN_Jxd2413 : Cond.initialized RJxd2413 ∈ xT := xT_1 (i := 20) rfl rfl
theorem mN_J6 : Cond.initialized RJ6 ∈ xT := xT_1 (i := 21) rfl rfl
theorem mN_J8 : Cond.initialized RJ8 ∈ xT := xT_1 (i := 22) rfl rfl
theorem mN_J7 : Cond.initialized RJ7 ∈ xT := xT_1 (i := 23) rfl rfl
theorem mN_J3 : Cond.initialized RJ3 ∈ xT := xT_1 (i := 24) rfl rfl
theorem mN_J1 : Cond.initialized RJ1 ∈ xT := xT_1 (i := 25) rfl rfl
theorem mN_NoSuchElementException : Cond.initialized "java/util/NoSuchElementException" ∈ xT := xT_1 (i := 26) rfl rfl
theorem mN_ArithmeticException : Cond.initialized "java/lang/ArithmeticException" ∈ xT := xT_1 (i := 27) rfl rfl
theorem mN_IllegalStateException : Cond.initialized "java/lang/IllegalStateException" ∈ xT := xT_1 (i := 28) rfl rfl
theorem mN_X0 : Cond.initialized RX0 ∈ xT := xT_1 (i := 29) rfl rfl
theorem mN_Jx29ce0 : Cond.initialized RJx29ce0 ∈ xT := xT_1 (i := 30) rfl rfl
theorem mN_X6 : Cond.initialized RX6 ∈ xT := xT_1 (i := 31) rfl rfl
theorem mK_L_8 : Cond.classLink RL 8 RX7 ∈ xT := xT_1 (i := 32) rfl rfl
theorem mA_X7 : Cond.instantiable RX7 5 ∈ xT := xT_1 (i := 33) rfl rfl
theorem mM_L_120 : Cond.methodLink RL 120 yX7_init ∈ xT := xT_1 (i := 34) rfl rfl
theorem mI_X7_init : Cond.instanceMethod yX7_init ∈ xT := xT_1 (i := 35) rfl rfl
theorem mC_X7_init : Cond.code yX7_init cX7_init 1 none ∈ xT := xT_1 (i := 36) rfl rfl
theorem mM_X7_1 : Cond.methodLink RX7 1 Lib.objectInit ∈ xT := xT_1 (i := 37) rfl rfl
theorem mI_Object_init : Cond.instanceMethod Lib.objectInit ∈ xT := xT_1 (i := 38) rfl rfl
theorem mC_Object_init : Cond.code Lib.objectInit ⟨#[0xb1]⟩ 1 none ∈ xT := xT_1 (i := 39) rfl rfl
theorem mK_X7_7 : Cond.classLink RX7 7 RX4 ∈ xT := xT_1 (i := 40) rfl rfl
theorem mA_X4 : Cond.instantiable RX4 14 ∈ xT := xT_1 (i := 41) rfl rfl
theorem mM_X7_9 : Cond.methodLink RX7 9 yX4_init ∈ xT := xT_1 (i := 42) rfl rfl
theorem mI_X4_init : Cond.instanceMethod yX4_init ∈ xT := xT_1 (i := 43) rfl rfl
theorem mC_X4_init : Cond.code yX4_init cX4_init 2 none ∈ xT := xT_1 (i := 44) rfl rfl
theorem mM_X4_3 : Cond.methodLink RX4 3 Lib.objectInit ∈ xT := xT_1 (i := 45) rfl rfl
theorem mK_X4_19 : Cond.classLink RX4 19 RX1 ∈ xT := xT_1 (i := 48) rfl rfl
theorem mA_X1 : Cond.instantiable RX1 10 ∈ xT := xT_1 (i := 50) rfl rfl
theorem mM_X4_35 : Cond.methodLink RX4 35 yX1_init ∈ xT := xT_1 (i := 51) rfl rfl
theorem mI_X1_init : Cond.instanceMethod yX1_init ∈ xT := xT_1 (i := 52) rfl rfl
theorem mC_X1_init : Cond.code yX1_init cX1_init 2 none ∈ xT := xT_1 (i := 53) rfl rfl
theorem mM_X1_3 : Cond.methodLink RX1 3 Lib.objectInit ∈ xT := xT_1 (i := 54) rfl rfl
theorem mF_X1_27 : Cond.fieldLink RX1 27 "TeaChests$Chest" "number" "I" ∈ xT := xT_1 (i := 56) rfl rfl
theorem mF_X4_123 : Cond.fieldLink RX4 123 "TeaChests$Chest" "number" "I" ∈ xT := xT_1 (i := 57) rfl rfl
theorem mF_X1_30 : Cond.fieldLink RX1 30 "TeaChests$Chest" "size" "I" ∈ xT := xT_1 (i := 58) rfl rfl
theorem mF_X7_148 : Cond.fieldLink RX7 148 "TeaChests$Chest" "size" "I" ∈ xT := xT_1 (i := 59) rfl rfl
theorem mF_X4_107 : Cond.fieldLink RX4 107 "TeaChests$Chest" "size" "I" ∈ xT := xT_1 (i := 60) rfl rfl
theorem mF_X1_9 : Cond.fieldLink RX1 9 "TeaChests$Chest" "garden" "I" ∈ xT := xT_1 (i := 61) rfl rfl
theorem mF_X7_151 : Cond.fieldLink RX7 151 "TeaChests$Chest" "garden" "I" ∈ xT := xT_1 (i := 62) rfl rfl
theorem mF_X4_113 : Cond.fieldLink RX4 113 "TeaChests$Chest" "garden" "I" ∈ xT := xT_1 (i := 63) rfl rfl
theorem mF_X1_15 : Cond.fieldLink RX1 15 "TeaChests$Chest" "kind" "I" ∈ xT := xT_1 (i := 64) rfl rfl
theorem mF_X7_154 : Cond.fieldLink RX7 154 "TeaChests$Chest" "kind" "I" ∈ xT := xT_1 (i := 65) rfl rfl
theorem mF_X4_116 : Cond.fieldLink RX4 116 "TeaChests$Chest" "kind" "I" ∈ xT := xT_1 (i := 66) rfl rfl
theorem mF_X1_33 : Cond.fieldLink RX1 33 "TeaChests$Chest" "pounds" "I" ∈ xT := xT_1 (i := 67) rfl rfl
theorem mF_X7_107 : Cond.fieldLink RX7 107 "TeaChests$Chest" "pounds" "I" ∈ xT := xT_1 (i := 68) rfl rfl
theorem mF_X4_110 : Cond.fieldLink RX4 110 "TeaChests$Chest" "pounds" "I" ∈ xT := xT_1 (i := 69) rfl rfl
theorem mF_X1_36 : Cond.fieldLink RX1 36 "TeaChests$Chest" "isLined" "Z" ∈ xT := xT_1 (i := 70) rfl rfl
theorem mF_X7_157 : Cond.fieldLink RX7 157 "TeaChests$Chest" "isLined" "Z" ∈ xT := xT_1 (i := 71) rfl rfl
theorem mF_X4_103 : Cond.fieldLink RX4 103 "TeaChests$Chest" "isLined" "Z" ∈ xT := xT_1 (i := 72) rfl rfl
theorem mF_X1_40 : Cond.fieldLink RX1 40 "TeaChests$Chest" "screws" "I" ∈ xT := xT_1 (i := 73) rfl rfl
theorem mF_X7_121 : Cond.fieldLink RX7 121 "TeaChests$Chest" "screws" "I" ∈ xT := xT_1 (i := 74) rfl rfl
theorem mF_X4_102 : Cond.fieldLink RX4 102 "TeaChests$Chest" "screws" "I" ∈ xT := xT_1 (i := 75) rfl rfl
theorem mF_X1_43 : Cond.fieldLink RX1 43 "TeaChests$Chest" "damp" "I" ∈ xT := xT_1 (i := 76) rfl rfl
theorem mF_X7_160 : Cond.fieldLink RX7 160 "TeaChests$Chest" "damp" "I" ∈ xT := xT_1 (i := 77) rfl rfl
theorem mF_X4_199 : Cond.fieldLink RX4 199 "TeaChests$Chest" "damp" "I" ∈ xT := xT_1 (i := 78) rfl rfl
theorem mF_X1_18 : Cond.fieldLink RX1 18 "TeaChests$Chest" "where" "I" ∈ xT := xT_1 (i := 79) rfl rfl
theorem mF_X4_99 : Cond.fieldLink RX4 99 "TeaChests$Chest" "where" "I" ∈ xT := xT_1 (i := 80) rfl rfl
theorem mF_X7_163 : Cond.fieldLink RX7 163 "TeaChests$Chest" "where" "I" ∈ xT := xT_1 (i := 81) rfl rfl
theorem mF_X1_23 : Cond.fieldLink RX1 23 "TeaChests$Chest" "label" "Ljava/lang/String;" ∈ xT := xT_1 (i := 82) rfl rfl
theorem mF_X7_128 : Cond.fieldLink RX7 128 "TeaChests$Chest" "label" "Ljava/lang/String;" ∈ xT := xT_1 (i := 83) rfl rfl
theorem mL_X1_X1_number : Cond.laysFinal RX1 RX1 "number" "I" ∈ xT := xT_1 (i := 84) rfl rfl
theorem mL_X1_X1_size : Cond.lays RX1 RX1 "size" "I" ∈ xT := xT_1 (i := 86) rfl rfl
theorem mL_X1_X1_garden : Cond.lays RX1 RX1 "garden" "I" ∈ xT := xT_1 (i := 88) rfl rfl
theorem mL_X1_X1_kind : Cond.lays RX1 RX1 "kind" "I" ∈ xT := xT_1 (i := 90) rfl rfl
theorem mL_X1_X1_pounds : Cond.lays RX1 RX1 "pounds" "I" ∈ xT := xT_1 (i := 92) rfl rfl
theorem mL_X1_X1_isLined : Cond.lays RX1 RX1 "isLined" "Z" ∈ xT := xT_1 (i := 94) rfl rfl
theorem mL_X1_X1_screws : Cond.lays RX1 RX1 "screws" "I" ∈ xT := xT_1 (i := 96) rfl rfl
theorem mL_X1_X1_damp : Cond.lays RX1 RX1 "damp" "I" ∈ xT := xT_1 (i := 98) rfl rfl
theorem mL_X1_X1_where : Cond.lays RX1 RX1 "where" "I" ∈ xT := xT_1 (i := 100) rfl rfl
theorem mL_X1_X1_label : Cond.lays RX1 RX1 "label" "Ljava/lang/String;" ∈ xT := xT_1 (i := 102) rfl rfl
theorem mU_X1_Object : Cond.superclass RX1 "java/lang/Object" ∈ xT := xT_1 (i := 104) rfl rfl
theorem mR_int : Cond.arrayClass .int ∈ xT := xT_1 (i := 105) rfl rfl
theorem mR_byte : Cond.arrayClass .byte ∈ xT := xT_1 (i := 106) rfl rfl
theorem mF_X4_13 : Cond.fieldLink RX4 13 "TeaChests$House" "store" "[I" ∈ xT := xT_1 (i := 107) rfl rfl
theorem mF_X4_21 : Cond.fieldLink RX4 21 "TeaChests$House" "chests" "[LTeaChests$Chest;" ∈ xT := xT_1 (i := 108) rfl rfl
theorem mF_X4_48 : Cond.fieldLink RX4 48 "TeaChests$House" "made" "I" ∈ xT := xT_1 (i := 109) rfl rfl
theorem mF_X7_86 : Cond.fieldLink RX7 86 "TeaChests$House" "made" "I" ∈ xT := xT_1 (i := 110) rfl rfl
theorem mF_X4_25 : Cond.fieldLink RX4 25 "TeaChests$House" "sheets" "I" ∈ xT := xT_1 (i := 111) rfl rfl
theorem mF_X7_79 : Cond.fieldLink RX7 79 "TeaChests$House" "sheets" "I" ∈ xT := xT_1 (i := 112) rfl rfl
theorem mF_X4_29 : Cond.fieldLink RX4 29 "TeaChests$House" "screws" "I" ∈ xT := xT_1 (i := 113) rfl rfl
theorem mF_X7_72 : Cond.fieldLink RX7 72 "TeaChests$House" "screws" "I" ∈ xT := xT_1 (i := 114) rfl rfl
theorem mF_X4_51 : Cond.fieldLink RX4 51 "TeaChests$House" "clock" "I" ∈ xT := xT_1 (i := 115) rfl rfl
theorem mF_X7_201 : Cond.fieldLink RX7 201 "TeaChests$House" "clock" "I" ∈ xT := xT_1 (i := 116) rfl rfl
theorem mF_X4_32 : Cond.fieldLink RX4 32 "TeaChests$House" "humidity" "I" ∈ xT := xT_1 (i := 117) rfl rfl
theorem mF_X7_204 : Cond.fieldLink RX7 204 "TeaChests$House" "humidity" "I" ∈ xT := xT_1 (i := 118) rfl rfl
theorem mF_X4_54 : Cond.fieldLink RX4 54 "TeaChests$House" "coins" "I" ∈ xT := xT_1 (i := 119) rfl rfl
theorem mF_X7_252 : Cond.fieldLink RX7 252 "TeaChests$House" "coins" "I" ∈ xT := xT_1 (i := 120) rfl rfl
theorem mF_X4_57 : Cond.fieldLink RX4 57 "TeaChests$House" "shipsSailed" "I" ∈ xT := xT_1 (i := 121) rfl rfl
theorem mF_X7_249 : Cond.fieldLink RX7 249 "TeaChests$House" "shipsSailed" "I" ∈ xT := xT_1 (i := 122) rfl rfl
theorem mF_X4_60 : Cond.fieldLink RX4 60 "TeaChests$House" "poundsBrought" "I" ∈ xT := xT_1 (i := 123) rfl rfl
theorem mF_X7_222 : Cond.fieldLink RX7 222 "TeaChests$House" "poundsBrought" "I" ∈ xT := xT_1 (i := 124) rfl rfl
theorem mF_X4_63 : Cond.fieldLink RX4 63 "TeaChests$House" "poundsSailed" "I" ∈ xT := xT_1 (i := 125) rfl rfl
theorem mF_X7_216 : Cond.fieldLink RX7 216 "TeaChests$House" "poundsSailed" "I" ∈ xT := xT_1 (i := 126) rfl rfl
theorem mF_X4_66 : Cond.fieldLink RX4 66 "TeaChests$House" "poundsThrown" "I" ∈ xT := xT_1 (i := 127) rfl rfl
theorem mF_X7_219 : Cond.fieldLink RX7 219 "TeaChests$House" "poundsThrown" "I" ∈ xT := xT_1 (i := 128) rfl rfl
theorem mF_X4_93 : Cond.fieldLink RX4 93 "TeaChests$House" "reason" "I" ∈ xT := xT_1 (i := 129) rfl rfl
theorem mF_X7_241 : Cond.fieldLink RX7 241 "TeaChests$House" "reason" "I" ∈ xT := xT_1 (i := 130) rfl rfl
theorem mF_X4_96 : Cond.fieldLink RX4 96 "TeaChests$House" "detail" "I" ∈ xT := xT_1 (i := 131) rfl rfl
theorem mF_X7_246 : Cond.fieldLink RX7 246 "TeaChests$House" "detail" "I" ∈ xT := xT_1 (i := 132) rfl rfl
theorem mL_X4_X4_store : Cond.laysFinal RX4 RX4 "store" "[I" ∈ xT := xT_1 (i := 133) rfl rfl
theorem mL_X4_X4_chests : Cond.laysFinal RX4 RX4 "chests" "[LTeaChests$Chest;" ∈ xT := xT_1 (i := 135) rfl rfl
theorem mL_X4_X4_made : Cond.lays RX4 RX4 "made" "I" ∈ xT := xT_1 (i := 137) rfl rfl
theorem mL_X4_X4_sheets : Cond.lays RX4 RX4 "sheets" "I" ∈ xT := xT_1 (i := 139) rfl rfl
theorem mL_X4_X4_screws : Cond.lays RX4 RX4 "screws" "I" ∈ xT := xT_1 (i := 141) rfl rfl
theorem mL_X4_X4_clock : Cond.lays RX4 RX4 "clock" "I" ∈ xT := xT_1 (i := 143) rfl rfl
theorem mL_X4_X4_humidity : Cond.lays RX4 RX4 "humidity" "I" ∈ xT := xT_1 (i := 145) rfl rfl
theorem mL_X4_X4_coins : Cond.lays RX4 RX4 "coins" "I" ∈ xT := xT_1 (i := 147) rfl rfl
theorem mL_X4_X4_shipsSailed : Cond.lays RX4 RX4 "shipsSailed" "I" ∈ xT := xT_1 (i := 149) rfl rfl
theorem mL_X4_X4_poundsBrought : Cond.lays RX4 RX4 "poundsBrought" "I" ∈ xT := xT_1 (i := 151) rfl rfl
theorem mL_X4_X4_poundsSailed : Cond.lays RX4 RX4 "poundsSailed" "I" ∈ xT := xT_1 (i := 153) rfl rfl
theorem mL_X4_X4_poundsThrown : Cond.lays RX4 RX4 "poundsThrown" "I" ∈ xT := xT_1 (i := 155) rfl rfl
theorem mL_X4_X4_reason : Cond.lays RX4 RX4 "reason" "I" ∈ xT := xT_1 (i := 157) rfl rfl
theorem mL_X4_X4_detail : Cond.lays RX4 RX4 "detail" "I" ∈ xT := xT_1 (i := 159) rfl rfl
theorem mU_X4_Object : Cond.superclass RX4 "java/lang/Object" ∈ xT := xT_1 (i := 161) rfl rfl
theorem mK_X7_23 : Cond.classLink RX7 23 RX3 ∈ xT := xT_1 (i := 162) rfl rfl
theorem mA_X3 : Cond.instantiable RX3 3 ∈ xT := xT_1 (i := 163) rfl rfl
theorem mM_X7_25 : Cond.methodLink RX7 25 yX3_init ∈ xT := xT_1 (i := 164) rfl rfl
theorem mI_X3_init : Cond.instanceMethod yX3_init ∈ xT := xT_1 (i := 165) rfl rfl
theorem mC_X3_init : Cond.code yX3_init cX3_init 2 none ∈ xT := xT_1 (i := 166) rfl rfl
theorem mM_X3_3 : Cond.methodLink RX3 3 Lib.objectInit ∈ xT := xT_1 (i := 167) rfl rfl
theorem mK_X3_11 : Cond.classLink RX3 11 RX4 ∈ xT := xT_1 (i := 168) rfl rfl
theorem mM_X3_17 : Cond.methodLink RX3 17 yX4_init ∈ xT := xT_1 (i := 170) rfl rfl
theorem mF_X3_13 : Cond.fieldLink RX3 13 "TeaChests$History" "rows" "[LTeaChests$House;" ∈ xT := xT_1 (i := 171) rfl rfl
theorem mF_X3_18 : Cond.fieldLink RX3 18 "TeaChests$History" "committed" "I" ∈ xT := xT_1 (i := 172) rfl rfl
theorem mF_X3_36 : Cond.fieldLink RX3 36 "TeaChests$History" "changes" "I" ∈ xT := xT_1 (i := 173) rfl rfl
theorem mF_X7_256 : Cond.fieldLink RX7 256 "TeaChests$History" "changes" "I" ∈ xT := xT_1 (i := 174) rfl rfl
theorem mL_X3_X3_rows : Cond.laysFinal RX3 RX3 "rows" "[LTeaChests$House;" ∈ xT := xT_1 (i := 175) rfl rfl
theorem mL_X3_X3_committed : Cond.lays RX3 RX3 "committed" "I" ∈ xT := xT_1 (i := 177) rfl rfl
theorem mL_X3_X3_changes : Cond.lays RX3 RX3 "changes" "I" ∈ xT := xT_1 (i := 179) rfl rfl
theorem mU_X3_Object : Cond.superclass RX3 "java/lang/Object" ∈ xT := xT_1 (i := 181) rfl rfl
theorem mK_X7_30 : Cond.classLink RX7 30 RX2 ∈ xT := xT_1 (i := 182) rfl rfl
theorem mA_X2 : Cond.instantiable RX2 9 ∈ xT := xT_1 (i := 183) rfl rfl
theorem mI_X2_init : Cond.instanceMethod yX2_init ∈ xT := xT_1 (i := 185) rfl rfl
theorem mC_X2_init : Cond.code yX2_init cX2_init 1 none ∈ xT := xT_1 (i := 186) rfl rfl
theorem mM_X2_3 : Cond.methodLink RX2 3 Lib.objectInit ∈ xT := xT_1 (i := 187) rfl rfl
theorem mF_X2_9 : Cond.fieldLink RX2 9 "TeaChests$CommandText" "signs" "[C" ∈ xT := xT_1 (i := 188) rfl rfl
theorem mF_X2_15 : Cond.fieldLink RX2 15 "TeaChests$CommandText" "length" "I" ∈ xT := xT_1 (i := 189) rfl rfl
theorem mF_X7_254 : Cond.fieldLink RX7 254 "TeaChests$CommandText" "length" "I" ∈ xT := xT_1 (i := 190) rfl rfl
theorem mF_X2_19 : Cond.fieldLink RX2 19 "TeaChests$CommandText" "at" "I" ∈ xT := xT_1 (i := 191) rfl rfl
theorem mF_X2_87 : Cond.fieldLink RX2 87 "TeaChests$CommandText" "farthest" "I" ∈ xT := xT_1 (i := 192) rfl rfl
theorem mF_X2_37 : Cond.fieldLink RX2 37 "TeaChests$CommandText" "verb" "LTeaChests$Verb;" ∈ xT := xT_1 (i := 193) rfl rfl
theorem mF_X7_337 : Cond.fieldLink RX7 337 "TeaChests$CommandText" "verb" "LTeaChests$Verb;" ∈ xT := xT_1 (i := 194) rfl rfl
theorem mF_X2_81 : Cond.fieldLink RX2 81 "TeaChests$CommandText" "chest" "I" ∈ xT := xT_1 (i := 195) rfl rfl
theorem mF_X7_352 : Cond.fieldLink RX7 352 "TeaChests$CommandText" "chest" "I" ∈ xT := xT_1 (i := 196) rfl rfl
theorem mF_X2_72 : Cond.fieldLink RX2 72 "TeaChests$CommandText" "garden" "I" ∈ xT := xT_1 (i := 197) rfl rfl
theorem mF_X7_364 : Cond.fieldLink RX7 364 "TeaChests$CommandText" "garden" "I" ∈ xT := xT_1 (i := 198) rfl rfl
theorem mF_X2_109 : Cond.fieldLink RX2 109 "TeaChests$CommandText" "kind" "I" ∈ xT := xT_1 (i := 199) rfl rfl
theorem mF_X7_365 : Cond.fieldLink RX7 365 "TeaChests$CommandText" "kind" "I" ∈ xT := xT_1 (i := 200) rfl rfl
theorem mF_X2_84 : Cond.fieldLink RX2 84 "TeaChests$CommandText" "many" "I" ∈ xT := xT_1 (i := 201) rfl rfl
theorem mF_X7_349 : Cond.fieldLink RX7 349 "TeaChests$CommandText" "many" "I" ∈ xT := xT_1 (i := 202) rfl rfl
theorem mL_X2_X2_signs : Cond.laysFinal RX2 RX2 "signs" "[C" ∈ xT := xT_1 (i := 203) rfl rfl
theorem mL_X2_X2_length : Cond.lays RX2 RX2 "length" "I" ∈ xT := xT_1 (i := 205) rfl rfl
theorem mL_X2_X2_at : Cond.lays RX2 RX2 "at" "I" ∈ xT := xT_1 (i := 207) rfl rfl
theorem mL_X2_X2_farthest : Cond.lays RX2 RX2 "farthest" "I" ∈ xT := xT_1 (i := 209) rfl rfl
theorem mL_X2_X2_verb : Cond.lays RX2 RX2 "verb" "LTeaChests$Verb;" ∈ xT := xT_1 (i := 211) rfl rfl
theorem mL_X2_X2_chest : Cond.lays RX2 RX2 "chest" "I" ∈ xT := xT_1 (i := 213) rfl rfl
theorem mL_X2_X2_garden : Cond.lays RX2 RX2 "garden" "I" ∈ xT := xT_1 (i := 215) rfl rfl
theorem mL_X2_X2_kind : Cond.lays RX2 RX2 "kind" "I" ∈ xT := xT_1 (i := 217) rfl rfl
theorem mL_X2_X2_many : Cond.lays RX2 RX2 "many" "I" ∈ xT := xT_1 (i := 219) rfl rfl
theorem mU_X2_Object : Cond.superclass RX2 "java/lang/Object" ∈ xT := xT_1 (i := 221) rfl rfl
theorem mR_char : Cond.arrayClass .char ∈ xT := xT_1 (i := 222) rfl rfl
theorem mF_X7_10 : Cond.fieldLink RX7 10 "TeaChests" "house" "LTeaChests$House;" ∈ xT := xT_1 (i := 223) rfl rfl
theorem mF_X7_16 : Cond.fieldLink RX7 16 "TeaChests" "saved" "LTeaChests$House;" ∈ xT := xT_1 (i := 224) rfl rfl
theorem mF_X7_19 : Cond.fieldLink RX7 19 "TeaChests" "isSaved" "Z" ∈ xT := xT_1 (i := 225) rfl rfl
theorem mF_X7_26 : Cond.fieldLink RX7 26 "TeaChests" "history" "LTeaChests$History;" ∈ xT := xT_1 (i := 226) rfl rfl
theorem mF_X7_33 : Cond.fieldLink RX7 33 "TeaChests" "text" "LTeaChests$CommandText;" ∈ xT := xT_1 (i := 227) rfl rfl
theorem mL_X7_X7_house : Cond.laysFinal RX7 RX7 "house" "LTeaChests$House;" ∈ xT := xT_1 (i := 228) rfl rfl
theorem mL_X7_X7_saved : Cond.laysFinal RX7 RX7 "saved" "LTeaChests$House;" ∈ xT := xT_1 (i := 230) rfl rfl
theorem mL_X7_X7_isSaved : Cond.lays RX7 RX7 "isSaved" "Z" ∈ xT := xT_1 (i := 232) rfl rfl
theorem mL_X7_X7_history : Cond.laysFinal RX7 RX7 "history" "LTeaChests$History;" ∈ xT := xT_1 (i := 234) rfl rfl
theorem mL_X7_X7_text : Cond.laysFinal RX7 RX7 "text" "LTeaChests$CommandText;" ∈ xT := xT_1 (i := 236) rfl rfl
theorem mU_X7_Object : Cond.superclass RX7 "java/lang/Object" ∈ xT := xT_1 (i := 238) rfl rfl
theorem mM_L_134 : Cond.methodLink RL 134 yX7_bestGarden ∈ xT := xT_1 (i := 239) rfl rfl
theorem mI_X7_bestGarden : Cond.instanceMethod yX7_bestGarden ∈ xT := xT_2 (i := 0) rfl rfl
theorem mV_X7_bestGarden : Cond.selects RX7 yX7_bestGarden yX7_bestGarden ∈ xT := xT_2 (i := 1) rfl rfl
theorem mC_X7_bestGarden : Cond.code yX7_bestGarden cX7_bestGarden 3 (some .int) ∈ xT := xT_2 (i := 2) rfl rfl
theorem mM_X7_61 : Cond.methodLink RX7 61 yX4_isBetterGarden ∈ xT := xT_2 (i := 3) rfl rfl
theorem mI_X4_isBetterGarden : Cond.instanceMethod yX4_isBetterGarden ∈ xT := xT_2 (i := 4) rfl rfl
theorem mV_X4_isBetterGarden : Cond.selects RX4 yX4_isBetterGarden yX4_isBetterGarden ∈ xT := xT_2 (i := 5) rfl rfl
theorem mC_X4_isBetterGarden : Cond.code yX4_isBetterGarden cX4_isBetterGarden 5 (some .boolean) ∈ xT := xT_2 (i := 6) rfl rfl
theorem mM_X4_77 : Cond.methodLink RX4 77 yX4_storedOf ∈ xT := xT_2 (i := 7) rfl rfl
theorem mI_X4_storedOf : Cond.instanceMethod yX4_storedOf ∈ xT := xT_2 (i := 9) rfl rfl
theorem mC_X4_storedOf : Cond.code yX4_storedOf cX4_storedOf 4 (some .int) ∈ xT := xT_2 (i := 10) rfl rfl
theorem mM_X4_73 : Cond.methodLink RX4 73 yX4_stored ∈ xT := xT_2 (i := 11) rfl rfl
theorem mI_X4_stored : Cond.instanceMethod yX4_stored ∈ xT := xT_2 (i := 12) rfl rfl
theorem mV_X4_stored : Cond.selects RX4 yX4_stored yX4_stored ∈ xT := xT_2 (i := 13) rfl rfl
theorem mC_X4_stored : Cond.code yX4_stored cX4_stored 3 (some .int) ∈ xT := xT_2 (i := 14) rfl rfl
theorem mM_X4_69 : Cond.methodLink RX4 69 yX4_isLeaf ∈ xT := xT_2 (i := 15) rfl rfl
theorem mS_X4_isLeaf : Cond.static yX4_isLeaf ∈ xT := xT_2 (i := 16) rfl rfl
theorem mC_X4_isLeaf : Cond.code yX4_isLeaf cX4_isLeaf 2 (some .boolean) ∈ xT := xT_2 (i := 17) rfl rfl
theorem mM_L_190 : Cond.methodLink RL 190 yX7_cargo ∈ xT := xT_2 (i := 18) rfl rfl
theorem mI_X7_cargo : Cond.instanceMethod yX7_cargo ∈ xT := xT_2 (i := 19) rfl rfl
theorem mV_X7_cargo : Cond.selects RX7 yX7_cargo yX7_cargo ∈ xT := xT_2 (i := 20) rfl rfl
theorem mC_X7_cargo : Cond.code yX7_cargo cX7_cargo 1 (some .int) ∈ xT := xT_2 (i := 21) rfl rfl
theorem mM_X7_192 : Cond.methodLink RX7 192 yX4_shipCoins ∈ xT := xT_2 (i := 22) rfl rfl
theorem mI_X4_shipCoins : Cond.instanceMethod yX4_shipCoins ∈ xT := xT_2 (i := 23) rfl rfl
theorem mV_X4_shipCoins : Cond.selects RX4 yX4_shipCoins yX4_shipCoins ∈ xT := xT_2 (i := 24) rfl rfl
theorem mC_X4_shipCoins : Cond.code yX4_shipCoins cX4_shipCoins 6 (some .int) ∈ xT := xT_2 (i := 25) rfl rfl
theorem mM_X4_220 : Cond.methodLink RX4 220 yX1_coins ∈ xT := xT_2 (i := 26) rfl rfl
theorem mI_X1_coins : Cond.instanceMethod yX1_coins ∈ xT := xT_2 (i := 27) rfl rfl
theorem mV_X1_coins : Cond.selects RX1 yX1_coins yX1_coins ∈ xT := xT_2 (i := 28) rfl rfl
theorem mC_X1_coins : Cond.code yX1_coins cX1_coins 1 (some .int) ∈ xT := xT_2 (i := 29) rfl rfl
theorem mM_L_200 : Cond.methodLink RL 200 yX7_reachedIn ∈ xT := xT_2 (i := 30) rfl rfl
theorem mI_X7_reachedIn : Cond.instanceMethod yX7_reachedIn ∈ xT := xT_2 (i := 31) rfl rfl
theorem mV_X7_reachedIn : Cond.selects RX7 yX7_reachedIn yX7_reachedIn ∈ xT := xT_2 (i := 32) rfl rfl
theorem mC_X7_reachedIn : Cond.code yX7_reachedIn cX7_reachedIn 2 (some .int) ∈ xT := xT_2 (i := 33) rfl rfl
theorem mM_X7_198 : Cond.methodLink RX7 198 yX4_heightIn ∈ xT := xT_2 (i := 34) rfl rfl
theorem mI_X4_heightIn : Cond.instanceMethod yX4_heightIn ∈ xT := xT_2 (i := 35) rfl rfl
theorem mV_X4_heightIn : Cond.selects RX4 yX4_heightIn yX4_heightIn ∈ xT := xT_2 (i := 36) rfl rfl
theorem mC_X4_heightIn : Cond.code yX4_heightIn cX4_heightIn 2 (some .int) ∈ xT := xT_2 (i := 37) rfl rfl
theorem mM_X4_222 : Cond.methodLink RX4 222 Lib.Math.abs.name ∈ xT := xT_2 (i := 38) rfl rfl
theorem mS_Math_abs : Cond.static Lib.Math.abs.name ∈ xT := xT_2 (i := 39) rfl rfl
theorem mC_Math_abs : Cond.code Lib.Math.abs.name Lib.Math.abs.code 1 (some .int) ∈ xT := xT_2 (i := 40) rfl rfl
theorem mM_L_210 : Cond.methodLink RL 210 yX7_isWell ∈ xT := xT_2 (i := 41) rfl rfl
theorem mI_X7_isWell : Cond.instanceMethod yX7_isWell ∈ xT := xT_2 (i := 42) rfl rfl
theorem mV_X7_isWell : Cond.selects RX7 yX7_isWell yX7_isWell ∈ xT := xT_2 (i := 43) rfl rfl
theorem mC_X7_isWell : Cond.code yX7_isWell cX7_isWell 2 (some .boolean) ∈ xT := xT_2 (i := 44) rfl rfl
theorem mM_X7_210 : Cond.methodLink RX7 210 yX4_poundsStored ∈ xT := xT_2 (i := 45) rfl rfl
theorem mI_X4_poundsStored : Cond.instanceMethod yX4_poundsStored ∈ xT := xT_2 (i := 46) rfl rfl
theorem mV_X4_poundsStored : Cond.selects RX4 yX4_poundsStored yX4_poundsStored ∈ xT := xT_2 (i := 47) rfl rfl
theorem mC_X4_poundsStored : Cond.code yX4_poundsStored cX4_poundsStored 3 (some .int) ∈ xT := xT_2 (i := 48) rfl rfl
theorem mM_X7_213 : Cond.methodLink RX7 213 yX4_poundsInChests ∈ xT := xT_2 (i := 49) rfl rfl
theorem mI_X4_poundsInChests : Cond.instanceMethod yX4_poundsInChests ∈ xT := xT_2 (i := 50) rfl rfl
theorem mV_X4_poundsInChests : Cond.selects RX4 yX4_poundsInChests yX4_poundsInChests ∈ xT := xT_2 (i := 51) rfl rfl
theorem mC_X4_poundsInChests : Cond.code yX4_poundsInChests cX4_poundsInChests 6 (some .int) ∈ xT := xT_2 (i := 52) rfl rfl
theorem mM_X4_189 : Cond.methodLink RX4 189 yX1_isThere ∈ xT := xT_2 (i := 53) rfl rfl
theorem mI_X1_isThere : Cond.instanceMethod yX1_isThere ∈ xT := xT_2 (i := 54) rfl rfl
theorem mV_X1_isThere : Cond.selects RX1 yX1_isThere yX1_isThere ∈ xT := xT_2 (i := 55) rfl rfl
theorem mC_X1_isThere : Cond.code yX1_isThere cX1_isThere 1 (some .boolean) ∈ xT := xT_2 (i := 56) rfl rfl
theorem mM_X7_225 : Cond.methodLink RX7 225 yX4_isOutsideInOrder ∈ xT := xT_2 (i := 57) rfl rfl
theorem mI_X4_isOutsideInOrder : Cond.instanceMethod yX4_isOutsideInOrder ∈ xT := xT_2 (i := 58) rfl rfl
theorem mV_X4_isOutsideInOrder : Cond.selects RX4 yX4_isOutsideInOrder yX4_isOutsideInOrder ∈ xT := xT_2 (i := 59) rfl rfl
theorem mC_X4_isOutsideInOrder : Cond.code yX4_isOutsideInOrder cX4_isOutsideInOrder 6 (some .boolean) ∈ xT := xT_2 (i := 60) rfl rfl
theorem mM_X4_126 : Cond.methodLink RX4 126 yX1_isTight ∈ xT := xT_2 (i := 61) rfl rfl
theorem mI_X1_isTight : Cond.instanceMethod yX1_isTight ∈ xT := xT_2 (i := 62) rfl rfl
theorem mV_X1_isTight : Cond.selects RX1 yX1_isTight yX1_isTight ∈ xT := xT_2 (i := 63) rfl rfl
theorem mC_X1_isTight : Cond.code yX1_isTight cX1_isTight 1 (some .boolean) ∈ xT := xT_2 (i := 64) rfl rfl
theorem mM_X4_130 : Cond.methodLink RX4 130 yX1_hasLabel ∈ xT := xT_2 (i := 65) rfl rfl
theorem mI_X1_hasLabel : Cond.instanceMethod yX1_hasLabel ∈ xT := xT_2 (i := 66) rfl rfl
theorem mV_X1_hasLabel : Cond.selects RX1 yX1_hasLabel yX1_hasLabel ∈ xT := xT_2 (i := 67) rfl rfl
theorem mC_X1_hasLabel : Cond.code yX1_hasLabel cX1_hasLabel 1 (some .boolean) ∈ xT := xT_2 (i := 68) rfl rfl
theorem mM_X1_46 : Cond.methodLink RX1 46 yJ0_isEmpty_aae02 ∈ xT := xT_2 (i := 69) rfl rfl
theorem mI_J0_isEmpty_aae02 : Cond.instanceMethod yJ0_isEmpty_aae02 ∈ xT := xT_2 (i := 70) rfl rfl
theorem mV_J0_isEmpty_aae02 : Cond.selects RJ0 yJ0_isEmpty_aae02 yJ0_isEmpty_aae02 ∈ xT := xT_2 (i := 71) rfl rfl
theorem mC_J0_isEmpty_aae02 : Cond.code yJ0_isEmpty_aae02 cJ0_isEmpty_aae02 1 (some .boolean) ∈ xT := xT_2 (i := 72) rfl rfl
theorem mM_L_239 : Cond.methodLink RL 239 yX7_save ∈ xT := xT_2 (i := 73) rfl rfl
theorem mI_X7_save : Cond.instanceMethod yX7_save ∈ xT := xT_2 (i := 74) rfl rfl
theorem mV_X7_save : Cond.selects RX7 yX7_save yX7_save ∈ xT := xT_2 (i := 75) rfl rfl
theorem mC_X7_save : Cond.code yX7_save cX7_save 1 (some .int) ∈ xT := xT_2 (i := 76) rfl rfl
theorem mM_X7_291 : Cond.methodLink RX7 291 yX4_copyFrom ∈ xT := xT_2 (i := 77) rfl rfl
theorem mI_X4_copyFrom : Cond.instanceMethod yX4_copyFrom ∈ xT := xT_2 (i := 78) rfl rfl
theorem mV_X4_copyFrom : Cond.selects RX4 yX4_copyFrom yX4_copyFrom ∈ xT := xT_2 (i := 79) rfl rfl
theorem mC_X4_copyFrom : Cond.code yX4_copyFrom cX4_copyFrom 3 none ∈ xT := xT_2 (i := 80) rfl rfl
theorem mM_X4_38 : Cond.methodLink RX4 38 ⟨RJ10, "arraycopy", "(Ljava/lang/Object;ILjava/lang/Object;II)V"⟩ ∈ xT := xT_2 (i := 81) rfl rfl
theorem mS_System_arraycopy : Cond.static ⟨RJ10, "arraycopy", "(Ljava/lang/Object;ILjava/lang/Object;II)V"⟩ ∈ xT := xT_2 (i := 82) rfl rfl
theorem mZ_System_arraycopy : Cond.native ⟨RJ10, "arraycopy", "(Ljava/lang/Object;ILjava/lang/Object;II)V"⟩ ∈ xT := xT_2 (i := 83) rfl rfl
theorem mM_X4_44 : Cond.methodLink RX4 44 yX1_copyFrom ∈ xT := xT_2 (i := 84) rfl rfl
theorem mI_X1_copyFrom : Cond.instanceMethod yX1_copyFrom ∈ xT := xT_2 (i := 85) rfl rfl
theorem mV_X1_copyFrom : Cond.selects RX1 yX1_copyFrom yX1_copyFrom ∈ xT := xT_2 (i := 86) rfl rfl
theorem mC_X1_copyFrom : Cond.code yX1_copyFrom cX1_copyFrom 2 none ∈ xT := xT_2 (i := 87) rfl rfl
theorem mM_L_124 : Cond.methodLink RL 124 yL_bring ∈ xT := xT_2 (i := 88) rfl rfl
theorem mS_L_bring : Cond.static yL_bring ∈ xT := xT_2 (i := 89) rfl rfl
theorem mC_L_bring : Cond.codeWith yL_bring cL_bring 6 (some .int) [((0), (12), (15), (13)), ((0), (12), (19), (15)), ((0), (12), (23), (17))] ∈ xT := xT_2 (i := 90) rfl rfl
theorem mK_L_13 : Cond.classLink RL 13 "java/lang/IndexOutOfBoundsException" ∈ xT := xT_2 (i := 91) rfl rfl
theorem mA_Jx00060 : Cond.instantiable RJx00060 6 ∈ xT := xT_2 (i := 92) rfl rfl
theorem mI_Jx00060_init_a7421 : Cond.instanceMethod yJx00060_init_a7421 ∈ xT := xT_2 (i := 93) rfl rfl
theorem mC_Jx00060_init_a7421 : Cond.code yJx00060_init_a7421 cJx00060_init_a7421 2 none ∈ xT := xT_2 (i := 94) rfl rfl
theorem mM_Jx00060_7 : Cond.methodLink RJx00060 7 ⟨"java/lang/IndexOutOfBoundsException", "<init>", "(Ljava/lang/String;)V"⟩ ∈ xT := xT_2 (i := 95) rfl rfl
theorem mI_IndexOutOfBoundsException_init_S : Cond.instanceMethod ⟨"java/lang/IndexOutOfBoundsException", "<init>", "(Ljava/lang/String;)V"⟩ ∈ xT := xT_2 (i := 96) rfl rfl
theorem mC_IndexOutOfBoundsException_init_S : Cond.code ⟨"java/lang/IndexOutOfBoundsException", "<init>", "(Ljava/lang/String;)V"⟩ prog_23_method_2_code 2 none ∈ xT := xT_2 (i := 97) rfl rfl
theorem mM_IndexOutOfBoundsException_7 : Cond.methodLink "java/lang/IndexOutOfBoundsException" 7 ⟨"java/lang/RuntimeException", "<init>", "(Ljava/lang/String;)V"⟩ ∈ xT := xT_2 (i := 98) rfl rfl
theorem mI_RuntimeException_init_S : Cond.instanceMethod ⟨"java/lang/RuntimeException", "<init>", "(Ljava/lang/String;)V"⟩ ∈ xT := xT_2 (i := 99) rfl rfl
theorem mC_RuntimeException_init_S : Cond.code ⟨"java/lang/RuntimeException", "<init>", "(Ljava/lang/String;)V"⟩ prog_27_method_2_code 2 none ∈ xT := xT_2 (i := 100) rfl rfl
theorem mM_RuntimeException_7 : Cond.methodLink "java/lang/RuntimeException" 7 ⟨"java/lang/Exception", "<init>", "(Ljava/lang/String;)V"⟩ ∈ xT := xT_2 (i := 101) rfl rfl
theorem mI_Exception_init_S : Cond.instanceMethod ⟨"java/lang/Exception", "<init>", "(Ljava/lang/String;)V"⟩ ∈ xT := xT_2 (i := 102) rfl rfl
theorem mC_Exception_init_S : Cond.code ⟨"java/lang/Exception", "<init>", "(Ljava/lang/String;)V"⟩ prog_20_method_2_code 2 none ∈ xT := xT_2 (i := 103) rfl rfl
theorem mM_Exception_7 : Cond.methodLink "java/lang/Exception" 7 ⟨"java/lang/Throwable", "<init>", "(Ljava/lang/String;)V"⟩ ∈ xT := xT_2 (i := 104) rfl rfl
theorem mI_Throwable_init_S : Cond.instanceMethod ⟨"java/lang/Throwable", "<init>", "(Ljava/lang/String;)V"⟩ ∈ xT := xT_2 (i := 105) rfl rfl
theorem mC_Throwable_init_S : Cond.code ⟨"java/lang/Throwable", "<init>", "(Ljava/lang/String;)V"⟩ prog_33_method_2_code 2 none ∈ xT := xT_2 (i := 106) rfl rfl
theorem mM_Throwable_1 : Cond.methodLink "java/lang/Throwable" 1 Lib.objectInit ∈ xT := xT_2 (i := 107) rfl rfl
theorem mF_Throwable_13 : Cond.fieldLink "java/lang/Throwable" 13 "java/lang/Throwable" "UNASSIGNED_STACK" "[Ljava/lang/StackTraceElement;" ∈ xT := xT_2 (i := 108) rfl rfl
theorem mF_Throwable_20 : Cond.fieldLink "java/lang/Throwable" 20 "java/lang/Throwable" "SUPPRESSED_SENTINEL" "Ljava/util/List;" ∈ xT := xT_2 (i := 110) rfl rfl
theorem mM_Throwable_27 : Cond.methodLink "java/lang/Throwable" 27 ⟨"java/lang/Throwable", "fillInStackTrace", "()Ljava/lang/Throwable;"⟩ ∈ xT := xT_2 (i := 112) rfl rfl
theorem mI_Throwable_fillInStackTrace : Cond.instanceMethod ⟨"java/lang/Throwable", "fillInStackTrace", "()Ljava/lang/Throwable;"⟩ ∈ xT := xT_2 (i := 113) rfl rfl
theorem mE_Throwable_Throwable_fillInStackTrace_34321 : Cond.sameMethod "java/lang/Throwable" "java/lang/Throwable" "fillInStackTrace" "()Ljava/lang/Throwable;" ∈ xT := xT_2 (i := 114) rfl rfl
theorem mV_ArithmeticException_Throwable_fillInStackTrace : Cond.selects "java/lang/ArithmeticException" ⟨"java/lang/Throwable", "fillInStackTrace", "()Ljava/lang/Throwable;"⟩ ⟨"java/lang/Throwable", "fillInStackTrace", "()Ljava/lang/Throwable;"⟩ ∈ xT := xT_2 (i := 115) rfl rfl
theorem mV_Jx00060_Throwable_fillInStackTrace : Cond.selects RJx00060 ⟨"java/lang/Throwable", "fillInStackTrace", "()Ljava/lang/Throwable;"⟩ ⟨"java/lang/Throwable", "fillInStackTrace", "()Ljava/lang/Throwable;"⟩ ∈ xT := xT_2 (i := 116) rfl rfl
theorem mV_IllegalArgumentException_Throwable_fillInStackTrace : Cond.selects "java/lang/IllegalArgumentException" ⟨"java/lang/Throwable", "fillInStackTrace", "()Ljava/lang/Throwable;"⟩ ⟨"java/lang/Throwable", "fillInStackTrace", "()Ljava/lang/Throwable;"⟩ ∈ xT := xT_2 (i := 117) rfl rfl
theorem mV_IllegalStateException_Throwable_fillInStackTrace : Cond.selects "java/lang/IllegalStateException" ⟨"java/lang/Throwable", "fillInStackTrace", "()Ljava/lang/Throwable;"⟩ ⟨"java/lang/Throwable", "fillInStackTrace", "()Ljava/lang/Throwable;"⟩ ∈ xT := xT_2 (i := 118) rfl rfl
theorem mV_IndexOutOfBoundsException_Throwable_fillInStackTrace : Cond.selects "java/lang/IndexOutOfBoundsException" ⟨"java/lang/Throwable", "fillInStackTrace", "()Ljava/lang/Throwable;"⟩ ⟨"java/lang/Throwable", "fillInStackTrace", "()Ljava/lang/Throwable;"⟩ ∈ xT := xT_2 (i := 119) rfl rfl
theorem mV_UnsupportedOperationException_Throwable_fillInStackTrace : Cond.selects "java/lang/UnsupportedOperationException" ⟨"java/lang/Throwable", "fillInStackTrace", "()Ljava/lang/Throwable;"⟩ ⟨"java/lang/Throwable", "fillInStackTrace", "()Ljava/lang/Throwable;"⟩ ∈ xT := xT_2 (i := 120) rfl rfl
theorem mV_NoSuchElementException_Throwable_fillInStackTrace : Cond.selects "java/util/NoSuchElementException" ⟨"java/lang/Throwable", "fillInStackTrace", "()Ljava/lang/Throwable;"⟩ ⟨"java/lang/Throwable", "fillInStackTrace", "()Ljava/lang/Throwable;"⟩ ∈ xT := xT_2 (i := 121) rfl rfl
theorem mM_Throwable_202 : Cond.methodLink "java/lang/Throwable" 202 ⟨"java/lang/Throwable", "fillInStackTrace", "(I)Ljava/lang/Throwable;"⟩ ∈ xT := xT_2 (i := 123) rfl rfl
theorem mA_Throwable : Cond.instantiable "java/lang/Throwable" 6 ∈ xT := xT_2 (i := 126) rfl rfl
theorem mZ_Throwable_fillInStackTrace : Cond.native ⟨"java/lang/Throwable", "fillInStackTrace", "(I)Ljava/lang/Throwable;"⟩ ∈ xT := xT_2 (i := 127) rfl rfl
theorem mF_Throwable_198 : Cond.fieldLink "java/lang/Throwable" 198 "java/lang/Throwable" "backtrace" "Ljava/lang/Object;" ∈ xT := xT_2 (i := 128) rfl rfl
theorem mF_Throwable_31 : Cond.fieldLink "java/lang/Throwable" 31 "java/lang/Throwable" "detailMessage" "Ljava/lang/String;" ∈ xT := xT_2 (i := 129) rfl rfl
theorem mF_Throwable_7 : Cond.fieldLink "java/lang/Throwable" 7 "java/lang/Throwable" "cause" "Ljava/lang/Throwable;" ∈ xT := xT_2 (i := 130) rfl rfl
theorem mF_Throwable_17 : Cond.fieldLink "java/lang/Throwable" 17 "java/lang/Throwable" "stackTrace" "[Ljava/lang/StackTraceElement;" ∈ xT := xT_2 (i := 131) rfl rfl
theorem mF_Throwable_24 : Cond.fieldLink "java/lang/Throwable" 24 "java/lang/Throwable" "suppressedExceptions" "Ljava/util/List;" ∈ xT := xT_2 (i := 132) rfl rfl
theorem mL_Jx00060_Throwable_backtrace : Cond.lays RJx00060 "java/lang/Throwable" "backtrace" "Ljava/lang/Object;" ∈ xT := xT_2 (i := 133) rfl rfl
theorem mL_Jx00060_Throwable_detailMessage : Cond.lays RJx00060 "java/lang/Throwable" "detailMessage" "Ljava/lang/String;" ∈ xT := xT_2 (i := 135) rfl rfl
theorem mL_Jx00060_Throwable_cause : Cond.lays RJx00060 "java/lang/Throwable" "cause" "Ljava/lang/Throwable;" ∈ xT := xT_2 (i := 137) rfl rfl
theorem mL_Jx00060_Throwable_stackTrace : Cond.lays RJx00060 "java/lang/Throwable" "stackTrace" "[Ljava/lang/StackTraceElement;" ∈ xT := xT_2 (i := 139) rfl rfl
theorem mL_Jx00060_Throwable_depth : Cond.lays RJx00060 "java/lang/Throwable" "depth" "I" ∈ xT := xT_2 (i := 141) rfl rfl
theorem mL_Jx00060_Throwable_suppressedExceptions : Cond.lays RJx00060 "java/lang/Throwable" "suppressedExceptions" "Ljava/util/List;" ∈ xT := xT_2 (i := 143) rfl rfl
theorem mU_Jx00060_IndexOutOfBoundsException : Cond.superclass RJx00060 "java/lang/IndexOutOfBoundsException" ∈ xT := xT_2 (i := 145) rfl rfl
theorem mL_Throwable_Throwable_cause : Cond.lays "java/lang/Throwable" "java/lang/Throwable" "cause" "Ljava/lang/Throwable;" ∈ xT := xT_2 (i := 156) rfl rfl
theorem mL_Throwable_Throwable_stackTrace : Cond.lays "java/lang/Throwable" "java/lang/Throwable" "stackTrace" "[Ljava/lang/StackTraceElement;" ∈ xT := xT_2 (i := 157) rfl rfl
theorem mL_Throwable_Throwable_suppressedExceptions : Cond.lays "java/lang/Throwable" "java/lang/Throwable" "suppressedExceptions" "Ljava/util/List;" ∈ xT := xT_2 (i := 158) rfl rfl
theorem mL_Throwable_Throwable_detailMessage : Cond.lays "java/lang/Throwable" "java/lang/Throwable" "detailMessage" "Ljava/lang/String;" ∈ xT := xT_2 (i := 159) rfl rfl
theorem mL_Throwable_Throwable_backtrace : Cond.lays "java/lang/Throwable" "java/lang/Throwable" "backtrace" "Ljava/lang/Object;" ∈ xT := xT_2 (i := 160) rfl rfl
theorem mU_Throwable_Object : Cond.superclass "java/lang/Throwable" "java/lang/Object" ∈ xT := xT_2 (i := 162) rfl rfl
theorem mI_Throwable_init : Cond.instanceMethod ⟨"java/lang/Throwable", "<init>", "()V"⟩ ∈ xT := xT_2 (i := 163) rfl rfl
theorem mC_Throwable_init : Cond.code ⟨"java/lang/Throwable", "<init>", "()V"⟩ prog_33_method_1_code 1 none ∈ xT := xT_2 (i := 164) rfl rfl
theorem mA_J0 : Cond.instantiable RJ0 4 ∈ xT := xT_2 (i := 165) rfl rfl
theorem mL_J0_J0_value : Cond.laysFinal RJ0 RJ0 "value" "[B" ∈ xT := xT_2 (i := 166) rfl rfl
theorem mL_J0_J0_coder : Cond.laysFinal RJ0 RJ0 "coder" "B" ∈ xT := xT_2 (i := 168) rfl rfl
theorem mK_L_15 : Cond.classLink RL 15 "java/lang/IllegalArgumentException" ∈ xT := xT_2 (i := 170) rfl rfl
theorem mK_L_17 : Cond.classLink RL 17 "java/lang/UnsupportedOperationException" ∈ xT := xT_2 (i := 171) rfl rfl
theorem mM_L_7 : Cond.methodLink RL 7 yX7_bring ∈ xT := xT_2 (i := 172) rfl rfl
theorem mI_X7_bring : Cond.instanceMethod yX7_bring ∈ xT := xT_2 (i := 173) rfl rfl
theorem mV_X7_bring : Cond.selects RX7 yX7_bring yX7_bring ∈ xT := xT_2 (i := 174) rfl rfl
theorem mC_X7_bring : Cond.code yX7_bring cX7_bring 4 (some .int) ∈ xT := xT_2 (i := 175) rfl rfl
theorem mM_X7_37 : Cond.methodLink RX7 37 yX7_needLeaf ∈ xT := xT_2 (i := 176) rfl rfl
theorem mS_X7_needLeaf : Cond.static yX7_needLeaf ∈ xT := xT_2 (i := 177) rfl rfl
theorem mC_X7_needLeaf : Cond.code yX7_needLeaf cX7_needLeaf 2 none ∈ xT := xT_2 (i := 178) rfl rfl
theorem mM_X7_304 : Cond.methodLink RX7 304 yX4_isLeaf ∈ xT := xT_2 (i := 179) rfl rfl
theorem mK_X7_307 : Cond.classLink RX7 307 "java/lang/IndexOutOfBoundsException" ∈ xT := xT_2 (i := 180) rfl rfl
theorem mA_IndexOutOfBoundsException : Cond.instantiable "java/lang/IndexOutOfBoundsException" 6 ∈ xT := xT_2 (i := 181) rfl rfl
theorem mL_IndexOutOfBoundsException_Throwable_cause : Cond.lays "java/lang/IndexOutOfBoundsException" "java/lang/Throwable" "cause" "Ljava/lang/Throwable;" ∈ xT := xT_2 (i := 184) rfl rfl
theorem mL_IndexOutOfBoundsException_Throwable_stackTrace : Cond.lays "java/lang/IndexOutOfBoundsException" "java/lang/Throwable" "stackTrace" "[Ljava/lang/StackTraceElement;" ∈ xT := xT_2 (i := 185) rfl rfl
theorem mL_IndexOutOfBoundsException_Throwable_suppressedExceptions : Cond.lays "java/lang/IndexOutOfBoundsException" "java/lang/Throwable" "suppressedExceptions" "Ljava/util/List;" ∈ xT := xT_2 (i := 186) rfl rfl
theorem mL_IndexOutOfBoundsException_Throwable_detailMessage : Cond.lays "java/lang/IndexOutOfBoundsException" "java/lang/Throwable" "detailMessage" "Ljava/lang/String;" ∈ xT := xT_2 (i := 187) rfl rfl
theorem mL_IndexOutOfBoundsException_Throwable_backtrace : Cond.lays "java/lang/IndexOutOfBoundsException" "java/lang/Throwable" "backtrace" "Ljava/lang/Object;" ∈ xT := xT_2 (i := 188) rfl rfl
theorem mM_X7_311 : Cond.methodLink RX7 311 ⟨"java/lang/IndexOutOfBoundsException", "<init>", "(Ljava/lang/String;)V"⟩ ∈ xT := xT_2 (i := 190) rfl rfl
theorem mL_IndexOutOfBoundsException_Throwable_depth : Cond.lays "java/lang/IndexOutOfBoundsException" "java/lang/Throwable" "depth" "I" ∈ xT := xT_2 (i := 191) rfl rfl
theorem mU_IndexOutOfBoundsException_RuntimeException : Cond.superclass "java/lang/IndexOutOfBoundsException" "java/lang/RuntimeException" ∈ xT := xT_2 (i := 192) rfl rfl
theorem mM_X7_41 : Cond.methodLink RX7 41 yX7_needRange ∈ xT := xT_2 (i := 193) rfl rfl
theorem mS_X7_needRange : Cond.static yX7_needRange ∈ xT := xT_2 (i := 194) rfl rfl
theorem mC_X7_needRange : Cond.code yX7_needRange cX7_needRange 3 none ∈ xT := xT_2 (i := 195) rfl rfl
theorem mM_X7_299 : Cond.methodLink RX7 299 yX7_isWithin ∈ xT := xT_2 (i := 196) rfl rfl
theorem mS_X7_isWithin : Cond.static yX7_isWithin ∈ xT := xT_2 (i := 197) rfl rfl
theorem mC_X7_isWithin : Cond.code yX7_isWithin cX7_isWithin 3 (some .boolean) ∈ xT := xT_2 (i := 198) rfl rfl
theorem mK_X7_166 : Cond.classLink RX7 166 "java/lang/IllegalArgumentException" ∈ xT := xT_2 (i := 199) rfl rfl
theorem mA_IllegalArgumentException : Cond.instantiable "java/lang/IllegalArgumentException" 6 ∈ xT := xT_2 (i := 200) rfl rfl
theorem mL_IllegalArgumentException_Throwable_cause : Cond.lays "java/lang/IllegalArgumentException" "java/lang/Throwable" "cause" "Ljava/lang/Throwable;" ∈ xT := xT_2 (i := 203) rfl rfl
theorem mL_IllegalArgumentException_Throwable_stackTrace : Cond.lays "java/lang/IllegalArgumentException" "java/lang/Throwable" "stackTrace" "[Ljava/lang/StackTraceElement;" ∈ xT := xT_2 (i := 204) rfl rfl
theorem mL_IllegalArgumentException_Throwable_suppressedExceptions : Cond.lays "java/lang/IllegalArgumentException" "java/lang/Throwable" "suppressedExceptions" "Ljava/util/List;" ∈ xT := xT_2 (i := 205) rfl rfl
theorem mL_IllegalArgumentException_Throwable_detailMessage : Cond.lays "java/lang/IllegalArgumentException" "java/lang/Throwable" "detailMessage" "Ljava/lang/String;" ∈ xT := xT_2 (i := 206) rfl rfl
theorem mL_IllegalArgumentException_Throwable_backtrace : Cond.lays "java/lang/IllegalArgumentException" "java/lang/Throwable" "backtrace" "Ljava/lang/Object;" ∈ xT := xT_2 (i := 207) rfl rfl
theorem mM_X7_170 : Cond.methodLink RX7 170 ⟨"java/lang/IllegalArgumentException", "<init>", "(Ljava/lang/String;)V"⟩ ∈ xT := xT_2 (i := 209) rfl rfl
theorem mI_IllegalArgumentException_init_S : Cond.instanceMethod ⟨"java/lang/IllegalArgumentException", "<init>", "(Ljava/lang/String;)V"⟩ ∈ xT := xT_2 (i := 210) rfl rfl
theorem mC_IllegalArgumentException_init_S : Cond.code ⟨"java/lang/IllegalArgumentException", "<init>", "(Ljava/lang/String;)V"⟩ prog_21_method_2_code 2 none ∈ xT := xT_2 (i := 211) rfl rfl
theorem mM_IllegalArgumentException_7 : Cond.methodLink "java/lang/IllegalArgumentException" 7 ⟨"java/lang/RuntimeException", "<init>", "(Ljava/lang/String;)V"⟩ ∈ xT := xT_2 (i := 212) rfl rfl
theorem mL_IllegalArgumentException_Throwable_depth : Cond.lays "java/lang/IllegalArgumentException" "java/lang/Throwable" "depth" "I" ∈ xT := xT_2 (i := 213) rfl rfl
theorem mU_IllegalArgumentException_RuntimeException : Cond.superclass "java/lang/IllegalArgumentException" "java/lang/RuntimeException" ∈ xT := xT_2 (i := 214) rfl rfl
theorem mM_X7_45 : Cond.methodLink RX7 45 yX3_prepare ∈ xT := xT_2 (i := 215) rfl rfl
theorem mI_X3_prepare : Cond.instanceMethod yX3_prepare ∈ xT := xT_2 (i := 216) rfl rfl
theorem mV_X3_prepare : Cond.selects RX3 yX3_prepare yX3_prepare ∈ xT := xT_2 (i := 217) rfl rfl
theorem mC_X3_prepare : Cond.code yX3_prepare cX3_prepare 2 none ∈ xT := xT_2 (i := 218) rfl rfl
theorem mM_X3_28 : Cond.methodLink RX3 28 yX3_spareRow ∈ xT := xT_2 (i := 219) rfl rfl
theorem mI_X3_spareRow : Cond.instanceMethod yX3_spareRow ∈ xT := xT_2 (i := 221) rfl rfl
theorem mC_X3_spareRow : Cond.code yX3_spareRow cX3_spareRow 1 (some (.object "TeaChests$House")) ∈ xT := xT_2 (i := 222) rfl rfl
theorem mM_X3_22 : Cond.methodLink RX3 22 yJ9_floorMod_7cf53 ∈ xT := xT_2 (i := 223) rfl rfl
theorem mS_J9_floorMod_7cf53 : Cond.static yJ9_floorMod_7cf53 ∈ xT := xT_2 (i := 224) rfl rfl
theorem mC_J9_floorMod_7cf53 : Cond.code yJ9_floorMod_7cf53 cJ9_floorMod_7cf53 3 (some .int) ∈ xT := xT_2 (i := 225) rfl rfl
theorem mM_X3_32 : Cond.methodLink RX3 32 yX4_copyFrom ∈ xT := xT_2 (i := 226) rfl rfl
theorem mM_X7_49 : Cond.methodLink RX7 49 yX4_tryBring ∈ xT := xT_2 (i := 227) rfl rfl
theorem mI_X4_tryBring : Cond.instanceMethod yX4_tryBring ∈ xT := xT_2 (i := 228) rfl rfl
theorem mV_X4_tryBring : Cond.selects RX4 yX4_tryBring yX4_tryBring ∈ xT := xT_2 (i := 229) rfl rfl
theorem mC_X4_tryBring : Cond.code yX4_tryBring cX4_tryBring 5 (some .boolean) ∈ xT := xT_2 (i := 230) rfl rfl
theorem mM_X4_81 : Cond.methodLink RX4 81 yX4_refuse ∈ xT := xT_2 (i := 231) rfl rfl
theorem mI_X4_refuse : Cond.instanceMethod yX4_refuse ∈ xT := xT_2 (i := 232) rfl rfl
theorem mV_X4_refuse : Cond.selects RX4 yX4_refuse yX4_refuse ∈ xT := xT_2 (i := 233) rfl rfl
theorem mC_X4_refuse : Cond.code yX4_refuse cX4_refuse 3 (some .boolean) ∈ xT := xT_2 (i := 234) rfl rfl
theorem mM_X4_84 : Cond.methodLink RX4 84 yX4_addToStore ∈ xT := xT_2 (i := 235) rfl rfl
theorem mI_X4_addToStore : Cond.instanceMethod yX4_addToStore ∈ xT := xT_2 (i := 237) rfl rfl
theorem mC_X4_addToStore : Cond.code yX4_addToStore cX4_addToStore 4 none ∈ xT := xT_2 (i := 238) rfl rfl
theorem mM_X7_53 : Cond.methodLink RX7 53 yX7_conclude ∈ xT := xT_2 (i := 239) rfl rfl
theorem mI_X7_conclude : Cond.instanceMethod yX7_conclude ∈ xT := xT_3 (i := 1) rfl rfl
theorem mC_X7_conclude : Cond.code yX7_conclude cX7_conclude 2 none ∈ xT := xT_3 (i := 2) rfl rfl
theorem mK_X7_320 : Cond.classLink RX7 320 "java/lang/UnsupportedOperationException" ∈ xT := xT_3 (i := 3) rfl rfl
theorem mA_UnsupportedOperationException : Cond.instantiable "java/lang/UnsupportedOperationException" 6 ∈ xT := xT_3 (i := 4) rfl rfl
theorem mL_UnsupportedOperationException_Throwable_cause : Cond.lays "java/lang/UnsupportedOperationException" "java/lang/Throwable" "cause" "Ljava/lang/Throwable;" ∈ xT := xT_3 (i := 7) rfl rfl
theorem mL_UnsupportedOperationException_Throwable_stackTrace : Cond.lays "java/lang/UnsupportedOperationException" "java/lang/Throwable" "stackTrace" "[Ljava/lang/StackTraceElement;" ∈ xT := xT_3 (i := 8) rfl rfl
theorem mL_UnsupportedOperationException_Throwable_suppressedExceptions : Cond.lays "java/lang/UnsupportedOperationException" "java/lang/Throwable" "suppressedExceptions" "Ljava/util/List;" ∈ xT := xT_3 (i := 9) rfl rfl
theorem mL_UnsupportedOperationException_Throwable_detailMessage : Cond.lays "java/lang/UnsupportedOperationException" "java/lang/Throwable" "detailMessage" "Ljava/lang/String;" ∈ xT := xT_3 (i := 10) rfl rfl
theorem mL_UnsupportedOperationException_Throwable_backtrace : Cond.lays "java/lang/UnsupportedOperationException" "java/lang/Throwable" "backtrace" "Ljava/lang/Object;" ∈ xT := xT_3 (i := 11) rfl rfl
theorem mM_X7_324 : Cond.methodLink RX7 324 ⟨"java/lang/UnsupportedOperationException", "<init>", "(Ljava/lang/String;)V"⟩ ∈ xT := xT_3 (i := 13) rfl rfl
theorem mI_UnsupportedOperationException_init_S : Cond.instanceMethod ⟨"java/lang/UnsupportedOperationException", "<init>", "(Ljava/lang/String;)V"⟩ ∈ xT := xT_3 (i := 14) rfl rfl
theorem mC_UnsupportedOperationException_init_S : Cond.code ⟨"java/lang/UnsupportedOperationException", "<init>", "(Ljava/lang/String;)V"⟩ prog_34_method_2_code 2 none ∈ xT := xT_3 (i := 15) rfl rfl
theorem mM_UnsupportedOperationException_7 : Cond.methodLink "java/lang/UnsupportedOperationException" 7 ⟨"java/lang/RuntimeException", "<init>", "(Ljava/lang/String;)V"⟩ ∈ xT := xT_3 (i := 16) rfl rfl
theorem mL_UnsupportedOperationException_Throwable_depth : Cond.lays "java/lang/UnsupportedOperationException" "java/lang/Throwable" "depth" "I" ∈ xT := xT_3 (i := 17) rfl rfl
theorem mU_UnsupportedOperationException_RuntimeException : Cond.superclass "java/lang/UnsupportedOperationException" "java/lang/RuntimeException" ∈ xT := xT_3 (i := 18) rfl rfl
theorem mM_X7_317 : Cond.methodLink RX7 317 yX3_commit ∈ xT := xT_3 (i := 19) rfl rfl
theorem mI_X3_commit : Cond.instanceMethod yX3_commit ∈ xT := xT_3 (i := 20) rfl rfl
theorem mV_X3_commit : Cond.selects RX3 yX3_commit yX3_commit ∈ xT := xT_3 (i := 21) rfl rfl
theorem mC_X3_commit : Cond.code yX3_commit cX3_commit 1 none ∈ xT := xT_3 (i := 22) rfl rfl
theorem mM_X3_39 : Cond.methodLink RX3 39 Lib.Math.min.name ∈ xT := xT_3 (i := 23) rfl rfl
theorem mS_Math_min : Cond.static Lib.Math.min.name ∈ xT := xT_3 (i := 24) rfl rfl
theorem mC_Math_min : Cond.code Lib.Math.min.name Lib.Math.min.code 2 (some .int) ∈ xT := xT_3 (i := 25) rfl rfl
theorem mM_X7_57 : Cond.methodLink RX7 57 yX4_stored ∈ xT := xT_3 (i := 26) rfl rfl
theorem mM_L_130 : Cond.methodLink RL 130 yL_leaves ∈ xT := xT_3 (i := 27) rfl rfl
theorem mS_L_leaves : Cond.static yL_leaves ∈ xT := xT_3 (i := 28) rfl rfl
theorem mC_L_leaves : Cond.codeWith yL_leaves cL_leaves 5 (some .int) [((0), (10), (13), (13))] ∈ xT := xT_3 (i := 29) rfl rfl
theorem mM_L_19 : Cond.methodLink RL 19 yX7_leaves ∈ xT := xT_3 (i := 30) rfl rfl
theorem mI_X7_leaves : Cond.instanceMethod yX7_leaves ∈ xT := xT_3 (i := 31) rfl rfl
theorem mV_X7_leaves : Cond.selects RX7 yX7_leaves yX7_leaves ∈ xT := xT_3 (i := 32) rfl rfl
theorem mC_X7_leaves : Cond.code yX7_leaves cX7_leaves 3 (some .int) ∈ xT := xT_3 (i := 33) rfl rfl
theorem mM_L_138 : Cond.methodLink RL 138 yL_buy ∈ xT := xT_3 (i := 34) rfl rfl
theorem mS_L_buy : Cond.static yL_buy ∈ xT := xT_3 (i := 35) rfl rfl
theorem mC_L_buy : Cond.codeWith yL_buy cL_buy 5 (some .int) [((0), (10), (13), (15))] ∈ xT := xT_3 (i := 36) rfl rfl
theorem mM_L_23 : Cond.methodLink RL 23 yX7_buy ∈ xT := xT_3 (i := 37) rfl rfl
theorem mI_X7_buy : Cond.instanceMethod yX7_buy ∈ xT := xT_3 (i := 38) rfl rfl
theorem mV_X7_buy : Cond.selects RX7 yX7_buy yX7_buy ∈ xT := xT_3 (i := 39) rfl rfl
theorem mC_X7_buy : Cond.code yX7_buy cX7_buy 3 (some .int) ∈ xT := xT_3 (i := 40) rfl rfl
theorem mM_X7_65 : Cond.methodLink RX7 65 yX7_keepChange ∈ xT := xT_3 (i := 41) rfl rfl
theorem mI_X7_keepChange : Cond.instanceMethod yX7_keepChange ∈ xT := xT_3 (i := 43) rfl rfl
theorem mC_X7_keepChange : Cond.code yX7_keepChange cX7_keepChange 1 none ∈ xT := xT_3 (i := 44) rfl rfl
theorem mM_X7_68 : Cond.methodLink RX7 68 yX4_addScrews ∈ xT := xT_3 (i := 45) rfl rfl
theorem mI_X4_addScrews : Cond.instanceMethod yX4_addScrews ∈ xT := xT_3 (i := 46) rfl rfl
theorem mV_X4_addScrews : Cond.selects RX4 yX4_addScrews yX4_addScrews ∈ xT := xT_3 (i := 47) rfl rfl
theorem mC_X4_addScrews : Cond.code yX4_addScrews cX4_addScrews 2 none ∈ xT := xT_3 (i := 48) rfl rfl
theorem mM_X4_88 : Cond.methodLink RX4 88 Lib.Math.min.name ∈ xT := xT_3 (i := 49) rfl rfl
theorem mM_X7_76 : Cond.methodLink RX7 76 yX4_addSheets ∈ xT := xT_3 (i := 50) rfl rfl
theorem mI_X4_addSheets : Cond.instanceMethod yX4_addSheets ∈ xT := xT_3 (i := 51) rfl rfl
theorem mV_X4_addSheets : Cond.selects RX4 yX4_addSheets yX4_addSheets ∈ xT := xT_3 (i := 52) rfl rfl
theorem mC_X4_addSheets : Cond.code yX4_addSheets cX4_addSheets 2 none ∈ xT := xT_3 (i := 53) rfl rfl
theorem mM_L_142 : Cond.methodLink RL 142 yL_make ∈ xT := xT_3 (i := 54) rfl rfl
theorem mS_L_make : Cond.static yL_make ∈ xT := xT_3 (i := 55) rfl rfl
theorem mC_L_make : Cond.codeWith yL_make cL_make 4 (some .int) [((0), (9), (12), (15)), ((0), (9), (15), (17))] ∈ xT := xT_3 (i := 56) rfl rfl
theorem mM_L_27 : Cond.methodLink RL 27 yX7_make ∈ xT := xT_3 (i := 57) rfl rfl
theorem mI_X7_make : Cond.instanceMethod yX7_make ∈ xT := xT_3 (i := 58) rfl rfl
theorem mV_X7_make : Cond.selects RX7 yX7_make yX7_make ∈ xT := xT_3 (i := 59) rfl rfl
theorem mC_X7_make : Cond.code yX7_make cX7_make 2 (some .int) ∈ xT := xT_3 (i := 60) rfl rfl
theorem mM_X7_82 : Cond.methodLink RX7 82 yX4_tryMake ∈ xT := xT_3 (i := 61) rfl rfl
theorem mI_X4_tryMake : Cond.instanceMethod yX4_tryMake ∈ xT := xT_3 (i := 62) rfl rfl
theorem mV_X4_tryMake : Cond.selects RX4 yX4_tryMake yX4_tryMake ∈ xT := xT_3 (i := 63) rfl rfl
theorem mC_X4_tryMake : Cond.code yX4_tryMake cX4_tryMake 2 (some .boolean) ∈ xT := xT_3 (i := 64) rfl rfl
theorem mM_L_146 : Cond.methodLink RL 146 yL_line ∈ xT := xT_3 (i := 65) rfl rfl
theorem mS_L_line : Cond.static yL_line ∈ xT := xT_3 (i := 66) rfl rfl
theorem mC_L_line : Cond.codeWith yL_line cL_line 4 (some .int) [((0), (9), (12), (13)), ((0), (9), (15), (17))] ∈ xT := xT_3 (i := 67) rfl rfl
theorem mM_L_31 : Cond.methodLink RL 31 yX7_line ∈ xT := xT_3 (i := 68) rfl rfl
theorem mI_X7_line : Cond.instanceMethod yX7_line ∈ xT := xT_3 (i := 69) rfl rfl
theorem mV_X7_line : Cond.selects RX7 yX7_line yX7_line ∈ xT := xT_3 (i := 70) rfl rfl
theorem mC_X7_line : Cond.code yX7_line cX7_line 3 (some .int) ∈ xT := xT_3 (i := 71) rfl rfl
theorem mM_X7_89 : Cond.methodLink RX7 89 yX7_needChest ∈ xT := xT_3 (i := 72) rfl rfl
theorem mI_X7_needChest : Cond.instanceMethod yX7_needChest ∈ xT := xT_3 (i := 74) rfl rfl
theorem mC_X7_needChest : Cond.code yX7_needChest cX7_needChest 3 (some (.object "TeaChests$Chest")) ∈ xT := xT_3 (i := 75) rfl rfl
theorem mM_X7_312 : Cond.methodLink RX7 312 yX4_find ∈ xT := xT_3 (i := 76) rfl rfl
theorem mI_X4_find : Cond.instanceMethod yX4_find ∈ xT := xT_3 (i := 77) rfl rfl
theorem mV_X4_find : Cond.selects RX4 yX4_find yX4_find ∈ xT := xT_3 (i := 78) rfl rfl
theorem mC_X4_find : Cond.code yX4_find cX4_find 2 (some (.object "TeaChests$Chest")) ∈ xT := xT_3 (i := 79) rfl rfl
theorem mM_X7_93 : Cond.methodLink RX7 93 yX4_tryLine ∈ xT := xT_3 (i := 81) rfl rfl
theorem mI_X4_tryLine : Cond.instanceMethod yX4_tryLine ∈ xT := xT_3 (i := 82) rfl rfl
theorem mV_X4_tryLine : Cond.selects RX4 yX4_tryLine yX4_tryLine ∈ xT := xT_3 (i := 83) rfl rfl
theorem mC_X4_tryLine : Cond.code yX4_tryLine cX4_tryLine 3 (some .boolean) ∈ xT := xT_3 (i := 84) rfl rfl
theorem mM_X4_142 : Cond.methodLink RX4 142 yX4_isInHouse ∈ xT := xT_3 (i := 85) rfl rfl
theorem mI_X4_isInHouse : Cond.instanceMethod yX4_isInHouse ∈ xT := xT_3 (i := 87) rfl rfl
theorem mC_X4_isInHouse : Cond.code yX4_isInHouse cX4_isInHouse 2 (some .boolean) ∈ xT := xT_3 (i := 88) rfl rfl
theorem mM_X4_146 : Cond.methodLink RX4 146 yX4_isUnscrewed ∈ xT := xT_3 (i := 89) rfl rfl
theorem mI_X4_isUnscrewed : Cond.instanceMethod yX4_isUnscrewed ∈ xT := xT_3 (i := 91) rfl rfl
theorem mC_X4_isUnscrewed : Cond.code yX4_isUnscrewed cX4_isUnscrewed 2 (some .boolean) ∈ xT := xT_3 (i := 92) rfl rfl
theorem mM_X4_149 : Cond.methodLink RX4 149 yX4_isUnlined ∈ xT := xT_3 (i := 93) rfl rfl
theorem mI_X4_isUnlined : Cond.instanceMethod yX4_isUnlined ∈ xT := xT_3 (i := 95) rfl rfl
theorem mC_X4_isUnlined : Cond.code yX4_isUnlined cX4_isUnlined 2 (some .boolean) ∈ xT := xT_3 (i := 96) rfl rfl
theorem mM_X4_152 : Cond.methodLink RX4 152 yX4_hasSheets ∈ xT := xT_3 (i := 97) rfl rfl
theorem mI_X4_hasSheets : Cond.instanceMethod yX4_hasSheets ∈ xT := xT_3 (i := 99) rfl rfl
theorem mC_X4_hasSheets : Cond.code yX4_hasSheets cX4_hasSheets 2 (some .boolean) ∈ xT := xT_3 (i := 100) rfl rfl
theorem mM_L_149 : Cond.methodLink RL 149 yL_fill ∈ xT := xT_3 (i := 101) rfl rfl
theorem mS_L_fill : Cond.static yL_fill ∈ xT := xT_3 (i := 102) rfl rfl
theorem mC_L_fill : Cond.codeWith yL_fill cL_fill 7 (some .int) [((0), (14), (17), (13)), ((0), (14), (21), (15)), ((0), (14), (25), (17))] ∈ xT := xT_3 (i := 103) rfl rfl
theorem mM_L_34 : Cond.methodLink RL 34 yX7_fill ∈ xT := xT_3 (i := 104) rfl rfl
theorem mI_X7_fill : Cond.instanceMethod yX7_fill ∈ xT := xT_3 (i := 105) rfl rfl
theorem mV_X7_fill : Cond.selects RX7 yX7_fill yX7_fill ∈ xT := xT_3 (i := 106) rfl rfl
theorem mC_X7_fill : Cond.code yX7_fill cX7_fill 6 (some .int) ∈ xT := xT_3 (i := 107) rfl rfl
theorem mM_X7_97 : Cond.methodLink RX7 97 yX4_tryFill ∈ xT := xT_3 (i := 108) rfl rfl
theorem mI_X4_tryFill : Cond.instanceMethod yX4_tryFill ∈ xT := xT_3 (i := 109) rfl rfl
theorem mV_X4_tryFill : Cond.selects RX4 yX4_tryFill yX4_tryFill ∈ xT := xT_3 (i := 110) rfl rfl
theorem mC_X4_tryFill : Cond.code yX4_tryFill cX4_tryFill 5 (some .boolean) ∈ xT := xT_3 (i := 111) rfl rfl
theorem mM_X4_156 : Cond.methodLink RX4 156 yX4_hasNoOtherLeaves ∈ xT := xT_3 (i := 112) rfl rfl
theorem mI_X4_hasNoOtherLeaves : Cond.instanceMethod yX4_hasNoOtherLeaves ∈ xT := xT_3 (i := 114) rfl rfl
theorem mC_X4_hasNoOtherLeaves : Cond.code yX4_hasNoOtherLeaves cX4_hasNoOtherLeaves 4 (some .boolean) ∈ xT := xT_3 (i := 115) rfl rfl
theorem mM_X4_160 : Cond.methodLink RX4 160 yX4_hasRoom ∈ xT := xT_3 (i := 116) rfl rfl
theorem mI_X4_hasRoom : Cond.instanceMethod yX4_hasRoom ∈ xT := xT_3 (i := 118) rfl rfl
theorem mC_X4_hasRoom : Cond.code yX4_hasRoom cX4_hasRoom 3 (some .boolean) ∈ xT := xT_3 (i := 119) rfl rfl
theorem mM_X4_119 : Cond.methodLink RX4 119 yX1_room ∈ xT := xT_3 (i := 120) rfl rfl
theorem mI_X1_room : Cond.instanceMethod yX1_room ∈ xT := xT_3 (i := 121) rfl rfl
theorem mV_X1_room : Cond.selects RX1 yX1_room yX1_room ∈ xT := xT_3 (i := 122) rfl rfl
theorem mC_X1_room : Cond.code yX1_room cX1_room 1 (some .int) ∈ xT := xT_3 (i := 123) rfl rfl
theorem mM_X4_164 : Cond.methodLink RX4 164 yX4_hasPounds ∈ xT := xT_3 (i := 124) rfl rfl
theorem mI_X4_hasPounds : Cond.instanceMethod yX4_hasPounds ∈ xT := xT_3 (i := 126) rfl rfl
theorem mC_X4_hasPounds : Cond.code yX4_hasPounds cX4_hasPounds 4 (some .boolean) ∈ xT := xT_3 (i := 127) rfl rfl
theorem mM_X4_168 : Cond.methodLink RX4 168 yX1_putIn ∈ xT := xT_3 (i := 128) rfl rfl
theorem mI_X1_putIn : Cond.instanceMethod yX1_putIn ∈ xT := xT_3 (i := 129) rfl rfl
theorem mV_X1_putIn : Cond.selects RX1 yX1_putIn yX1_putIn ∈ xT := xT_3 (i := 130) rfl rfl
theorem mC_X1_putIn : Cond.code yX1_putIn cX1_putIn 4 none ∈ xT := xT_3 (i := 131) rfl rfl
theorem mM_X7_101 : Cond.methodLink RX7 101 yX1_room ∈ xT := xT_3 (i := 132) rfl rfl
theorem mM_L_153 : Cond.methodLink RL 153 yL_empty ∈ xT := xT_3 (i := 133) rfl rfl
theorem mS_L_empty : Cond.static yL_empty ∈ xT := xT_3 (i := 134) rfl rfl
theorem mC_L_empty : Cond.codeWith yL_empty cL_empty 4 (some .int) [((0), (9), (12), (13)), ((0), (9), (15), (17))] ∈ xT := xT_3 (i := 135) rfl rfl
theorem mM_L_38 : Cond.methodLink RL 38 yX7_empty ∈ xT := xT_3 (i := 136) rfl rfl
theorem mI_X7_empty : Cond.instanceMethod yX7_empty ∈ xT := xT_3 (i := 137) rfl rfl
theorem mV_X7_empty : Cond.selects RX7 yX7_empty yX7_empty ∈ xT := xT_3 (i := 138) rfl rfl
theorem mC_X7_empty : Cond.code yX7_empty cX7_empty 4 (some .int) ∈ xT := xT_3 (i := 139) rfl rfl
theorem mM_X7_110 : Cond.methodLink RX7 110 yX4_tryEmpty ∈ xT := xT_3 (i := 140) rfl rfl
theorem mI_X4_tryEmpty : Cond.instanceMethod yX4_tryEmpty ∈ xT := xT_3 (i := 141) rfl rfl
theorem mV_X4_tryEmpty : Cond.selects RX4 yX4_tryEmpty yX4_tryEmpty ∈ xT := xT_3 (i := 142) rfl rfl
theorem mC_X4_tryEmpty : Cond.code yX4_tryEmpty cX4_tryEmpty 4 (some .boolean) ∈ xT := xT_3 (i := 143) rfl rfl
theorem mM_X4_171 : Cond.methodLink RX4 171 yX4_isFilled ∈ xT := xT_3 (i := 144) rfl rfl
theorem mI_X4_isFilled : Cond.instanceMethod yX4_isFilled ∈ xT := xT_3 (i := 146) rfl rfl
theorem mC_X4_isFilled : Cond.code yX4_isFilled cX4_isFilled 2 (some .boolean) ∈ xT := xT_3 (i := 147) rfl rfl
theorem mM_X4_174 : Cond.methodLink RX4 174 yX1_takeAllOut ∈ xT := xT_3 (i := 148) rfl rfl
theorem mI_X1_takeAllOut : Cond.instanceMethod yX1_takeAllOut ∈ xT := xT_3 (i := 149) rfl rfl
theorem mV_X1_takeAllOut : Cond.selects RX1 yX1_takeAllOut yX1_takeAllOut ∈ xT := xT_3 (i := 150) rfl rfl
theorem mC_X1_takeAllOut : Cond.code yX1_takeAllOut cX1_takeAllOut 1 none ∈ xT := xT_3 (i := 151) rfl rfl
theorem mM_L_156 : Cond.methodLink RL 156 yL_screw ∈ xT := xT_3 (i := 152) rfl rfl
theorem mS_L_screw : Cond.static yL_screw ∈ xT := xT_3 (i := 153) rfl rfl
theorem mC_L_screw : Cond.codeWith yL_screw cL_screw 5 (some .int) [((0), (17), (20), (13)), ((0), (17), (24), (15)), ((0), (17), (28), (17))] ∈ xT := xT_3 (i := 154) rfl rfl
theorem mM_L_41 : Cond.methodLink RL 41 yX7_screw ∈ xT := xT_3 (i := 155) rfl rfl
theorem mI_X7_screw : Cond.instanceMethod yX7_screw ∈ xT := xT_3 (i := 156) rfl rfl
theorem mV_X7_screw : Cond.selects RX7 yX7_screw yX7_screw ∈ xT := xT_3 (i := 157) rfl rfl
theorem mC_X7_screw : Cond.code yX7_screw cX7_screw 4 (some .boolean) ∈ xT := xT_3 (i := 158) rfl rfl
theorem mM_X7_113 : Cond.methodLink RX7 113 yX4_tryScrew ∈ xT := xT_3 (i := 159) rfl rfl
theorem mI_X4_tryScrew : Cond.instanceMethod yX4_tryScrew ∈ xT := xT_3 (i := 160) rfl rfl
theorem mV_X4_tryScrew : Cond.selects RX4 yX4_tryScrew yX4_tryScrew ∈ xT := xT_3 (i := 161) rfl rfl
theorem mC_X4_tryScrew : Cond.code yX4_tryScrew cX4_tryScrew 3 (some .boolean) ∈ xT := xT_3 (i := 162) rfl rfl
theorem mM_X4_177 : Cond.methodLink RX4 177 yX4_hasScrews ∈ xT := xT_3 (i := 163) rfl rfl
theorem mI_X4_hasScrews : Cond.instanceMethod yX4_hasScrews ∈ xT := xT_3 (i := 165) rfl rfl
theorem mC_X4_hasScrews : Cond.code yX4_hasScrews cX4_hasScrews 2 (some .boolean) ∈ xT := xT_3 (i := 166) rfl rfl
theorem mM_X4_180 : Cond.methodLink RX4 180 yX4_takesScrews ∈ xT := xT_3 (i := 167) rfl rfl
theorem mI_X4_takesScrews : Cond.instanceMethod yX4_takesScrews ∈ xT := xT_3 (i := 169) rfl rfl
theorem mC_X4_takesScrews : Cond.code yX4_takesScrews cX4_takesScrews 3 (some .boolean) ∈ xT := xT_3 (i := 170) rfl rfl
theorem mM_X7_117 : Cond.methodLink RX7 117 yX1_isTight ∈ xT := xT_3 (i := 171) rfl rfl
theorem mM_L_159 : Cond.methodLink RL 159 yL_unscrew ∈ xT := xT_3 (i := 172) rfl rfl
theorem mS_L_unscrew : Cond.static yL_unscrew ∈ xT := xT_3 (i := 173) rfl rfl
theorem mC_L_unscrew : Cond.codeWith yL_unscrew cL_unscrew 4 (some .int) [((0), (9), (12), (13)), ((0), (9), (15), (17))] ∈ xT := xT_3 (i := 174) rfl rfl
theorem mM_L_45 : Cond.methodLink RL 45 yX7_unscrew ∈ xT := xT_3 (i := 175) rfl rfl
theorem mI_X7_unscrew : Cond.instanceMethod yX7_unscrew ∈ xT := xT_3 (i := 176) rfl rfl
theorem mV_X7_unscrew : Cond.selects RX7 yX7_unscrew yX7_unscrew ∈ xT := xT_3 (i := 177) rfl rfl
theorem mC_X7_unscrew : Cond.code yX7_unscrew cX7_unscrew 4 (some .int) ∈ xT := xT_3 (i := 178) rfl rfl
theorem mM_X7_122 : Cond.methodLink RX7 122 yX4_tryUnscrew ∈ xT := xT_3 (i := 179) rfl rfl
theorem mI_X4_tryUnscrew : Cond.instanceMethod yX4_tryUnscrew ∈ xT := xT_3 (i := 180) rfl rfl
theorem mV_X4_tryUnscrew : Cond.selects RX4 yX4_tryUnscrew yX4_tryUnscrew ∈ xT := xT_3 (i := 181) rfl rfl
theorem mC_X4_tryUnscrew : Cond.code yX4_tryUnscrew cX4_tryUnscrew 2 (some .boolean) ∈ xT := xT_3 (i := 182) rfl rfl
theorem mM_X4_183 : Cond.methodLink RX4 183 yX4_addScrews ∈ xT := xT_3 (i := 183) rfl rfl
theorem mM_L_162 : Cond.methodLink RL 162 yL_label ∈ xT := xT_3 (i := 184) rfl rfl
theorem mS_L_label : Cond.static yL_label ∈ xT := xT_3 (i := 185) rfl rfl
theorem mC_L_label : Cond.codeWith yL_label cL_label 4 (some .int) [((0), (9), (12), (13)), ((0), (9), (15), (17))] ∈ xT := xT_3 (i := 186) rfl rfl
theorem mM_L_48 : Cond.methodLink RL 48 yX7_label ∈ xT := xT_3 (i := 187) rfl rfl
theorem mI_X7_label : Cond.instanceMethod yX7_label ∈ xT := xT_3 (i := 188) rfl rfl
theorem mV_X7_label : Cond.selects RX7 yX7_label yX7_label ∈ xT := xT_3 (i := 189) rfl rfl
theorem mC_X7_label : Cond.code yX7_label cX7_label 3 (some .int) ∈ xT := xT_3 (i := 190) rfl rfl
theorem mM_X7_125 : Cond.methodLink RX7 125 yX4_tryLabel ∈ xT := xT_3 (i := 191) rfl rfl
theorem mI_X4_tryLabel : Cond.instanceMethod yX4_tryLabel ∈ xT := xT_3 (i := 192) rfl rfl
theorem mV_X4_tryLabel : Cond.selects RX4 yX4_tryLabel yX4_tryLabel ∈ xT := xT_3 (i := 193) rfl rfl
theorem mC_X4_tryLabel : Cond.code yX4_tryLabel cX4_tryLabel 2 (some .boolean) ∈ xT := xT_3 (i := 194) rfl rfl
theorem mM_X4_186 : Cond.methodLink RX4 186 yX1_writeLabel ∈ xT := xT_3 (i := 195) rfl rfl
theorem mI_X1_writeLabel : Cond.instanceMethod yX1_writeLabel ∈ xT := xT_3 (i := 196) rfl rfl
theorem mV_X1_writeLabel : Cond.selects RX1 yX1_writeLabel yX1_writeLabel ∈ xT := xT_3 (i := 197) rfl rfl
theorem mC_X1_writeLabel : Cond.code yX1_writeLabel cX1_writeLabel 2 none ∈ xT := xT_3 (i := 198) rfl rfl
theorem mK_X1_56 : Cond.classLink RX1 56 RJ4 ∈ xT := xT_3 (i := 200) rfl rfl
theorem mA_J4 : Cond.instantiable RJ4 4 ∈ xT := xT_3 (i := 201) rfl rfl
theorem mM_X1_58 : Cond.methodLink RX1 58 yJ4_init_da8c8 ∈ xT := xT_3 (i := 202) rfl rfl
theorem mI_J4_init_da8c8 : Cond.instanceMethod yJ4_init_da8c8 ∈ xT := xT_3 (i := 203) rfl rfl
theorem mC_J4_init_da8c8 : Cond.code yJ4_init_da8c8 cJ4_init_da8c8 1 none ∈ xT := xT_3 (i := 204) rfl rfl
theorem mM_J4_1 : Cond.methodLink RJ4 1 yJ5_init_d00df ∈ xT := xT_3 (i := 205) rfl rfl
theorem mI_J5_init_d00df : Cond.instanceMethod yJ5_init_d00df ∈ xT := xT_3 (i := 206) rfl rfl
theorem mC_J5_init_d00df : Cond.code yJ5_init_d00df cJ5_init_d00df 2 none ∈ xT := xT_3 (i := 207) rfl rfl
theorem mM_J5_3 : Cond.methodLink RJ5 3 Lib.objectInit ∈ xT := xT_3 (i := 208) rfl rfl
theorem mF_J5_18 : Cond.fieldLink RJ5 18 "java/lang/String" "COMPACT_STRINGS" "Z" ∈ xT := xT_3 (i := 209) rfl rfl
theorem mM_J5_26 : Cond.methodLink RJ5 26 yJ2_newBytesFor_77867 ∈ xT := xT_3 (i := 211) rfl rfl
theorem mS_J2_newBytesFor_77867 : Cond.static yJ2_newBytesFor_77867 ∈ xT := xT_3 (i := 212) rfl rfl
theorem mC_J2_newBytesFor_77867 : Cond.code yJ2_newBytesFor_77867 cJ2_newBytesFor_77867 1 (some (.array .byte)) ∈ xT := xT_3 (i := 213) rfl rfl
theorem mM_J2_11 : Cond.methodLink RJ2 11 yJ2_newBytesLength_0f7a4 ∈ xT := xT_3 (i := 214) rfl rfl
theorem mS_J2_newBytesLength_0f7a4 : Cond.static yJ2_newBytesLength_0f7a4 ∈ xT := xT_3 (i := 215) rfl rfl
theorem mC_J2_newBytesLength_0f7a4 : Cond.code yJ2_newBytesLength_0f7a4 cJ2_newBytesLength_0f7a4 1 (some .int) ∈ xT := xT_3 (i := 216) rfl rfl
theorem mQ_J2_20 : Cond.constant RJ2 20 (1073741823) ∈ xT := xT_3 (i := 217) rfl rfl
theorem mF_J5_15 : Cond.fieldLink RJ5 15 "java/lang/AbstractStringBuilder" "value" "[B" ∈ xT := xT_3 (i := 218) rfl rfl
theorem mF_J5_22 : Cond.fieldLink RJ5 22 "java/lang/AbstractStringBuilder" "coder" "B" ∈ xT := xT_3 (i := 219) rfl rfl
theorem mF_J0_1048 : Cond.fieldLink RJ0 1048 "java/lang/AbstractStringBuilder" "maybeLatin1" "Z" ∈ xT := xT_3 (i := 220) rfl rfl
theorem mF_J5_79 : Cond.fieldLink RJ5 79 "java/lang/AbstractStringBuilder" "count" "I" ∈ xT := xT_3 (i := 221) rfl rfl
theorem mL_J4_J5_value : Cond.lays RJ4 RJ5 "value" "[B" ∈ xT := xT_3 (i := 222) rfl rfl
theorem mL_J4_J5_coder : Cond.lays RJ4 RJ5 "coder" "B" ∈ xT := xT_3 (i := 224) rfl rfl
theorem mL_J4_J5_maybeLatin1 : Cond.lays RJ4 RJ5 "maybeLatin1" "Z" ∈ xT := xT_3 (i := 226) rfl rfl
theorem mL_J4_J5_count : Cond.lays RJ4 RJ5 "count" "I" ∈ xT := xT_3 (i := 228) rfl rfl
theorem mU_J4_J5 : Cond.superclass RJ4 RJ5 ∈ xT := xT_3 (i := 230) rfl rfl
theorem mM_X1_59 : Cond.methodLink RX1 59 yJ4_append_bf812 ∈ xT := xT_3 (i := 231) rfl rfl
theorem mI_J4_append_bf812 : Cond.instanceMethod yJ4_append_bf812 ∈ xT := xT_3 (i := 232) rfl rfl
theorem mV_J4_append_bf812 : Cond.selects RJ4 yJ4_append_bf812 yJ4_append_bf812 ∈ xT := xT_3 (i := 233) rfl rfl
theorem mC_J4_append_bf812 : Cond.code yJ4_append_bf812 cJ4_append_bf812 2 (some (.object "java/lang/StringBuilder")) ∈ xT := xT_3 (i := 234) rfl rfl
theorem mM_J4_53 : Cond.methodLink RJ4 53 yJ5_append_c97b9 ∈ xT := xT_3 (i := 235) rfl rfl
theorem mI_J5_append_c97b9 : Cond.instanceMethod yJ5_append_c97b9 ∈ xT := xT_3 (i := 236) rfl rfl
theorem mC_J5_append_c97b9 : Cond.code yJ5_append_c97b9 cJ5_append_c97b9 4 (some (.object "java/lang/AbstractStringBuilder")) ∈ xT := xT_3 (i := 237) rfl rfl
theorem mM_J5_245 : Cond.methodLink RJ5 245 yJ6_stringSize_0f7a4 ∈ xT := xT_3 (i := 238) rfl rfl
theorem mS_J6_stringSize_0f7a4 : Cond.static yJ6_stringSize_0f7a4 ∈ xT := xT_3 (i := 239) rfl rfl
theorem mC_J6_stringSize_0f7a4 : Cond.code yJ6_stringSize_0f7a4 cJ6_stringSize_0f7a4 4 (some .int) ∈ xT := xT_4 (i := 0) rfl rfl
theorem mM_J5_100 : Cond.methodLink RJ5 100 yJ5_ensureCapacityInternal_d00df ∈ xT := xT_4 (i := 1) rfl rfl
theorem mI_J5_ensureCapacityInternal_d00df : Cond.instanceMethod yJ5_ensureCapacityInternal_d00df ∈ xT := xT_4 (i := 3) rfl rfl
theorem mC_J5_ensureCapacityInternal_d00df : Cond.code yJ5_ensureCapacityInternal_d00df cJ5_ensureCapacityInternal_d00df 3 none ∈ xT := xT_4 (i := 4) rfl rfl
theorem mM_J5_104 : Cond.methodLink RJ5 104 yJ5_newCapacity_0f7a4 ∈ xT := xT_4 (i := 5) rfl rfl
theorem mI_J5_newCapacity_0f7a4 : Cond.instanceMethod yJ5_newCapacity_0f7a4 ∈ xT := xT_4 (i := 7) rfl rfl
theorem mC_J5_newCapacity_0f7a4 : Cond.code yJ5_newCapacity_0f7a4 cJ5_newCapacity_0f7a4 6 (some .int) ∈ xT := xT_4 (i := 8) rfl rfl
theorem mM_J5_114 : Cond.methodLink RJ5 114 yJ8_newLength_cabcc ∈ xT := xT_4 (i := 9) rfl rfl
theorem mS_J8_newLength_cabcc : Cond.static yJ8_newLength_cabcc ∈ xT := xT_4 (i := 10) rfl rfl
theorem mC_J8_newLength_cabcc : Cond.code yJ8_newLength_cabcc cJ8_newLength_cabcc 4 (some .int) ∈ xT := xT_4 (i := 11) rfl rfl
theorem mM_J8_194 : Cond.methodLink RJ8 194 Lib.Math.max.name ∈ xT := xT_4 (i := 12) rfl rfl
theorem mS_Math_max : Cond.static Lib.Math.max.name ∈ xT := xT_4 (i := 13) rfl rfl
theorem mC_Math_max : Cond.code Lib.Math.max.name Lib.Math.max.code 2 (some .int) ∈ xT := xT_4 (i := 14) rfl rfl
theorem mQ_J8_200 : Cond.constant RJ8 200 (2147483639) ∈ xT := xT_4 (i := 15) rfl rfl
theorem mM_J8_201 : Cond.methodLink RJ8 201 yJ8_hugeLength_7cf53 ∈ xT := xT_4 (i := 16) rfl rfl
theorem mS_J8_hugeLength_7cf53 : Cond.static yJ8_hugeLength_7cf53 ∈ xT := xT_4 (i := 17) rfl rfl
theorem mC_J8_hugeLength_7cf53 : Cond.code yJ8_hugeLength_7cf53 cJ8_hugeLength_7cf53 3 (some .int) ∈ xT := xT_4 (i := 18) rfl rfl
theorem mQ_J5_39 : Cond.constant RJ5 39 (2147483647) ∈ xT := xT_4 (i := 19) rfl rfl
theorem mM_J5_108 : Cond.methodLink RJ5 108 yJ7_copyOf_9075b ∈ xT := xT_4 (i := 20) rfl rfl
theorem mS_J7_copyOf_9075b : Cond.static yJ7_copyOf_9075b ∈ xT := xT_4 (i := 21) rfl rfl
theorem mC_J7_copyOf_9075b : Cond.code yJ7_copyOf_9075b cJ7_copyOf_9075b 3 (some (.array .byte)) ∈ xT := xT_4 (i := 22) rfl rfl
theorem mM_J7_310 : Cond.methodLink RJ7 310 ⟨"[B", "clone", "()Ljava/lang/Object;"⟩ ∈ xT := xT_4 (i := 23) rfl rfl
theorem mE__B_Object_clone_77408 : Cond.sameMethod "[B" "java/lang/Object" "clone" "()Ljava/lang/Object;" ∈ xT := xT_4 (i := 24) rfl rfl
theorem mZ_Object_clone : Cond.native ⟨"java/lang/Object", "clone", "()Ljava/lang/Object;"⟩ ∈ xT := xT_4 (i := 25) rfl rfl
theorem mI_Object_clone : Cond.instanceMethod ⟨"java/lang/Object", "clone", "()Ljava/lang/Object;"⟩ ∈ xT := xT_4 (i := 26) rfl rfl
theorem mV__B_AB_clone_Object_clone : Cond.selects "[B" ⟨"[B", "clone", "()Ljava/lang/Object;"⟩ ⟨"java/lang/Object", "clone", "()Ljava/lang/Object;"⟩ ∈ xT := xT_4 (i := 27) rfl rfl
theorem mK_J7_311 : Cond.classLink RJ7 311 "[B" ∈ xT := xT_4 (i := 29) rfl rfl
theorem mM_J7_304 : Cond.methodLink RJ7 304 Lib.Math.min.name ∈ xT := xT_4 (i := 30) rfl rfl
theorem mM_J7_150 : Cond.methodLink RJ7 150 ⟨RJ10, "arraycopy", "(Ljava/lang/Object;ILjava/lang/Object;II)V"⟩ ∈ xT := xT_4 (i := 31) rfl rfl
theorem mM_J5_83 : Cond.methodLink RJ5 83 yJ5_isLatin1_aae02 ∈ xT := xT_4 (i := 32) rfl rfl
theorem mI_J5_isLatin1_aae02 : Cond.instanceMethod yJ5_isLatin1_aae02 ∈ xT := xT_4 (i := 33) rfl rfl
theorem mE_J5_J5_isLatin_72257 : Cond.sameMethod RJ5 RJ5 "isLatin1" "()Z" ∈ xT := xT_4 (i := 34) rfl rfl
theorem mV_J4_J5_isLatin1_aae02 : Cond.selects RJ4 yJ5_isLatin1_aae02 yJ5_isLatin1_aae02 ∈ xT := xT_4 (i := 35) rfl rfl
theorem mC_J5_isLatin1_aae02 : Cond.code yJ5_isLatin1_aae02 cJ5_isLatin1_aae02 1 (some .boolean) ∈ xT := xT_4 (i := 36) rfl rfl
theorem mM_J5_248 : Cond.methodLink RJ5 248 yJ6_getChars_ba4f3 ∈ xT := xT_4 (i := 37) rfl rfl
theorem mS_J6_getChars_ba4f3 : Cond.static yJ6_getChars_ba4f3 ∈ xT := xT_4 (i := 38) rfl rfl
theorem mC_J6_getChars_ba4f3 : Cond.code yJ6_getChars_ba4f3 cJ6_getChars_ba4f3 7 (some .int) ∈ xT := xT_4 (i := 39) rfl rfl
theorem mF_J6_83 : Cond.fieldLink RJ6 83 "java/lang/Integer" "DigitOnes" "[B" ∈ xT := xT_4 (i := 40) rfl rfl
theorem mF_J6_87 : Cond.fieldLink RJ6 87 "java/lang/Integer" "DigitTens" "[B" ∈ xT := xT_4 (i := 42) rfl rfl
theorem mM_J5_251 : Cond.methodLink RJ5 251 yJ2_getChars_46870 ∈ xT := xT_4 (i := 44) rfl rfl
theorem mS_J2_getChars_46870 : Cond.static yJ2_getChars_46870 ∈ xT := xT_4 (i := 45) rfl rfl
theorem mC_J2_getChars_46870 : Cond.code yJ2_getChars_46870 cJ2_getChars_46870 5 (some .int) ∈ xT := xT_4 (i := 46) rfl rfl
theorem mM_J2_96 : Cond.methodLink RJ2 96 yJ2_checkBoundsBeginEnd_d044e ∈ xT := xT_4 (i := 47) rfl rfl
theorem mS_J2_checkBoundsBeginEnd_d044e : Cond.static yJ2_checkBoundsBeginEnd_d044e ∈ xT := xT_4 (i := 48) rfl rfl
theorem mC_J2_checkBoundsBeginEnd_d044e : Cond.code yJ2_checkBoundsBeginEnd_d044e cJ2_checkBoundsBeginEnd_d044e 3 none ∈ xT := xT_4 (i := 49) rfl rfl
theorem mM_J2_48 : Cond.methodLink RJ2 48 yJ2_length_9d52b ∈ xT := xT_4 (i := 50) rfl rfl
theorem mS_J2_length_9d52b : Cond.static yJ2_length_9d52b ∈ xT := xT_4 (i := 51) rfl rfl
theorem mC_J2_length_9d52b : Cond.code yJ2_length_9d52b cJ2_length_9d52b 1 (some .int) ∈ xT := xT_4 (i := 52) rfl rfl
theorem mM_J2_241 : Cond.methodLink RJ2 241 yJ0_checkBoundsBeginEnd_23922 ∈ xT := xT_4 (i := 53) rfl rfl
theorem mS_J0_checkBoundsBeginEnd_23922 : Cond.static yJ0_checkBoundsBeginEnd_23922 ∈ xT := xT_4 (i := 54) rfl rfl
theorem mC_J0_checkBoundsBeginEnd_23922 : Cond.code yJ0_checkBoundsBeginEnd_23922 cJ0_checkBoundsBeginEnd_23922 3 none ∈ xT := xT_4 (i := 55) rfl rfl
theorem mF_J0_1053 : Cond.fieldLink RJ0 1053 "jdk/internal/util/Preconditions" "SIOOBE_FORMATTER" "Ljava/util/function/BiFunction;" ∈ xT := xT_4 (i := 56) rfl rfl
theorem mM_J0_1062 : Cond.methodLink RJ0 1062 yJ3_checkFromToIndex_8c36e ∈ xT := xT_4 (i := 58) rfl rfl
theorem mS_J3_checkFromToIndex_8c36e : Cond.static yJ3_checkFromToIndex_8c36e ∈ xT := xT_4 (i := 59) rfl rfl
theorem mC_J3_checkFromToIndex_8c36e : Cond.code yJ3_checkFromToIndex_8c36e cJ3_checkFromToIndex_8c36e 4 (some .int) ∈ xT := xT_4 (i := 60) rfl rfl
theorem mM_J2_393 : Cond.methodLink RJ2 393 yJ2_getChars_ba4f3 ∈ xT := xT_4 (i := 61) rfl rfl
theorem mS_J2_getChars_ba4f3 : Cond.static yJ2_getChars_ba4f3 ∈ xT := xT_4 (i := 62) rfl rfl
theorem mC_J2_getChars_ba4f3 : Cond.code yJ2_getChars_ba4f3 cJ2_getChars_ba4f3 7 (some .int) ∈ xT := xT_4 (i := 63) rfl rfl
theorem mF_J2_403 : Cond.fieldLink RJ2 403 "java/lang/Integer" "DigitOnes" "[B" ∈ xT := xT_4 (i := 64) rfl rfl
theorem mM_J2_111 : Cond.methodLink RJ2 111 yJ2_putChar_b72d1 ∈ xT := xT_4 (i := 65) rfl rfl
theorem mS_J2_putChar_b72d1 : Cond.static yJ2_putChar_b72d1 ∈ xT := xT_4 (i := 66) rfl rfl
theorem mC_J2_putChar_b72d1 : Cond.code yJ2_putChar_b72d1 cJ2_putChar_b72d1 3 none ∈ xT := xT_4 (i := 67) rfl rfl
theorem mF_J2_44 : Cond.fieldLink RJ2 44 "java/lang/StringUTF16" "$assertionsDisabled" "Z" ∈ xT := xT_4 (i := 68) rfl rfl
theorem mF_J2_59 : Cond.fieldLink RJ2 59 "java/lang/StringUTF16" "HI_BYTE_SHIFT" "I" ∈ xT := xT_4 (i := 70) rfl rfl
theorem mF_J2_63 : Cond.fieldLink RJ2 63 "java/lang/StringUTF16" "LO_BYTE_SHIFT" "I" ∈ xT := xT_4 (i := 72) rfl rfl
theorem mF_J2_407 : Cond.fieldLink RJ2 407 "java/lang/Integer" "DigitTens" "[B" ∈ xT := xT_4 (i := 74) rfl rfl
theorem mM_X1_63 : Cond.methodLink RX1 63 yJ4_append_cf468 ∈ xT := xT_4 (i := 75) rfl rfl
theorem mI_J4_append_cf468 : Cond.instanceMethod yJ4_append_cf468 ∈ xT := xT_4 (i := 76) rfl rfl
theorem mV_J4_append_cf468 : Cond.selects RJ4 yJ4_append_cf468 yJ4_append_cf468 ∈ xT := xT_4 (i := 77) rfl rfl
theorem mC_J4_append_cf468 : Cond.code yJ4_append_cf468 cJ4_append_cf468 2 (some (.object "java/lang/StringBuilder")) ∈ xT := xT_4 (i := 78) rfl rfl
theorem mM_J4_50 : Cond.methodLink RJ4 50 yJ5_append_3fe6f ∈ xT := xT_4 (i := 79) rfl rfl
theorem mI_J5_append_3fe6f : Cond.instanceMethod yJ5_append_3fe6f ∈ xT := xT_4 (i := 80) rfl rfl
theorem mC_J5_append_3fe6f : Cond.code yJ5_append_3fe6f cJ5_append_3fe6f 2 (some (.object "java/lang/AbstractStringBuilder")) ∈ xT := xT_4 (i := 81) rfl rfl
theorem mM_J5_191 : Cond.methodLink RJ5 191 yJ1_canEncode_fc78d ∈ xT := xT_4 (i := 82) rfl rfl
theorem mS_J1_canEncode_fc78d : Cond.static yJ1_canEncode_fc78d ∈ xT := xT_4 (i := 83) rfl rfl
theorem mC_J1_canEncode_fc78d : Cond.code yJ1_canEncode_fc78d cJ1_canEncode_fc78d 1 (some .boolean) ∈ xT := xT_4 (i := 84) rfl rfl
theorem mM_J5_195 : Cond.methodLink RJ5 195 yJ5_inflate_da8c8 ∈ xT := xT_4 (i := 85) rfl rfl
theorem mI_J5_inflate_da8c8 : Cond.instanceMethod yJ5_inflate_da8c8 ∈ xT := xT_4 (i := 87) rfl rfl
theorem mC_J5_inflate_da8c8 : Cond.code yJ5_inflate_da8c8 cJ5_inflate_da8c8 2 none ∈ xT := xT_4 (i := 88) rfl rfl
theorem mM_J5_125 : Cond.methodLink RJ5 125 yJ1_inflate_0e8fd ∈ xT := xT_4 (i := 89) rfl rfl
theorem mS_J1_inflate_0e8fd : Cond.static yJ1_inflate_0e8fd ∈ xT := xT_4 (i := 90) rfl rfl
theorem mC_J1_inflate_0e8fd : Cond.code yJ1_inflate_0e8fd cJ1_inflate_0e8fd 5 none ∈ xT := xT_4 (i := 91) rfl rfl
theorem mM_J1_240 : Cond.methodLink RJ1 240 yJ2_inflate_0e8fd ∈ xT := xT_4 (i := 92) rfl rfl
theorem mS_J2_inflate_0e8fd : Cond.static yJ2_inflate_0e8fd ∈ xT := xT_4 (i := 93) rfl rfl
theorem mC_J2_inflate_0e8fd : Cond.code yJ2_inflate_0e8fd cJ2_inflate_0e8fd 6 none ∈ xT := xT_4 (i := 94) rfl rfl
theorem mM_J2_173 : Cond.methodLink RJ2 173 yJ2_checkBoundsOffCount_d044e ∈ xT := xT_4 (i := 95) rfl rfl
theorem mS_J2_checkBoundsOffCount_d044e : Cond.static yJ2_checkBoundsOffCount_d044e ∈ xT := xT_4 (i := 96) rfl rfl
theorem mC_J2_checkBoundsOffCount_d044e : Cond.code yJ2_checkBoundsOffCount_d044e cJ2_checkBoundsOffCount_d044e 3 none ∈ xT := xT_4 (i := 97) rfl rfl
theorem mM_J2_419 : Cond.methodLink RJ2 419 yJ0_checkBoundsOffCount_cabcc ∈ xT := xT_4 (i := 98) rfl rfl
theorem mS_J0_checkBoundsOffCount_cabcc : Cond.static yJ0_checkBoundsOffCount_cabcc ∈ xT := xT_4 (i := 99) rfl rfl
theorem mC_J0_checkBoundsOffCount_cabcc : Cond.code yJ0_checkBoundsOffCount_cabcc cJ0_checkBoundsOffCount_cabcc 3 (some .int) ∈ xT := xT_4 (i := 100) rfl rfl
theorem mM_J0_1065 : Cond.methodLink RJ0 1065 yJ3_checkFromIndexSize_8c36e ∈ xT := xT_4 (i := 101) rfl rfl
theorem mS_J3_checkFromIndexSize_8c36e : Cond.static yJ3_checkFromIndexSize_8c36e ∈ xT := xT_4 (i := 102) rfl rfl
theorem mC_J3_checkFromIndexSize_8c36e : Cond.code yJ3_checkFromIndexSize_8c36e cJ3_checkFromIndexSize_8c36e 4 (some .int) ∈ xT := xT_4 (i := 103) rfl rfl
theorem mM_J5_197 : Cond.methodLink RJ5 197 yJ2_putCharSB_b72d1 ∈ xT := xT_4 (i := 104) rfl rfl
theorem mS_J2_putCharSB_b72d1 : Cond.static yJ2_putCharSB_b72d1 ∈ xT := xT_4 (i := 105) rfl rfl
theorem mC_J2_putCharSB_b72d1 : Cond.code yJ2_putCharSB_b72d1 cJ2_putCharSB_b72d1 3 none ∈ xT := xT_4 (i := 106) rfl rfl
theorem mM_J2_67 : Cond.methodLink RJ2 67 yJ2_checkIndex_2214a ∈ xT := xT_4 (i := 107) rfl rfl
theorem mS_J2_checkIndex_2214a : Cond.static yJ2_checkIndex_2214a ∈ xT := xT_4 (i := 108) rfl rfl
theorem mC_J2_checkIndex_2214a : Cond.code yJ2_checkIndex_2214a cJ2_checkIndex_2214a 2 none ∈ xT := xT_4 (i := 109) rfl rfl
theorem mM_J2_414 : Cond.methodLink RJ2 414 yJ0_checkIndex_df160 ∈ xT := xT_4 (i := 110) rfl rfl
theorem mS_J0_checkIndex_df160 : Cond.static yJ0_checkIndex_df160 ∈ xT := xT_4 (i := 111) rfl rfl
theorem mC_J0_checkIndex_df160 : Cond.code yJ0_checkIndex_df160 cJ0_checkIndex_df160 2 none ∈ xT := xT_4 (i := 112) rfl rfl
theorem mM_J0_1059 : Cond.methodLink RJ0 1059 yJ3_checkIndex_8e157 ∈ xT := xT_4 (i := 113) rfl rfl
theorem mS_J3_checkIndex_8e157 : Cond.static yJ3_checkIndex_8e157 ∈ xT := xT_4 (i := 114) rfl rfl
theorem mC_J3_checkIndex_8e157 : Cond.code yJ3_checkIndex_8e157 cJ3_checkIndex_8e157 3 (some .int) ∈ xT := xT_4 (i := 115) rfl rfl
theorem mM_X1_71 : Cond.methodLink RX1 71 yJ4_append_15ec4 ∈ xT := xT_4 (i := 116) rfl rfl
theorem mI_J4_append_15ec4 : Cond.instanceMethod yJ4_append_15ec4 ∈ xT := xT_4 (i := 117) rfl rfl
theorem mV_J4_append_15ec4 : Cond.selects RJ4 yJ4_append_15ec4 yJ4_append_15ec4 ∈ xT := xT_4 (i := 118) rfl rfl
theorem mC_J4_append_15ec4 : Cond.code yJ4_append_15ec4 cJ4_append_15ec4 2 (some (.object "java/lang/StringBuilder")) ∈ xT := xT_4 (i := 119) rfl rfl
theorem mM_J4_29 : Cond.methodLink RJ4 29 yJ5_append_cf1ce ∈ xT := xT_4 (i := 120) rfl rfl
theorem mI_J5_append_cf1ce : Cond.instanceMethod yJ5_append_cf1ce ∈ xT := xT_4 (i := 121) rfl rfl
theorem mC_J5_append_cf1ce : Cond.code yJ5_append_cf1ce cJ5_append_cf1ce 3 (some (.object "java/lang/AbstractStringBuilder")) ∈ xT := xT_4 (i := 122) rfl rfl
theorem mM_J5_204 : Cond.methodLink RJ5 204 yJ5_appendNull_278bc ∈ xT := xT_4 (i := 123) rfl rfl
theorem mI_J5_appendNull_278bc : Cond.instanceMethod yJ5_appendNull_278bc ∈ xT := xT_4 (i := 125) rfl rfl
theorem mC_J5_appendNull_278bc : Cond.code yJ5_appendNull_278bc cJ5_appendNull_278bc 3 (some (.object "java/lang/AbstractStringBuilder")) ∈ xT := xT_4 (i := 126) rfl rfl
theorem mM_J5_226 : Cond.methodLink RJ5 226 yJ2_putCharsAt_cd4e5 ∈ xT := xT_4 (i := 127) rfl rfl
theorem mS_J2_putCharsAt_cd4e5 : Cond.static yJ2_putCharsAt_cd4e5 ∈ xT := xT_4 (i := 128) rfl rfl
theorem mC_J2_putCharsAt_cd4e5 : Cond.code yJ2_putCharsAt_cd4e5 cJ2_putCharsAt_cd4e5 7 (some .int) ∈ xT := xT_4 (i := 129) rfl rfl
theorem mM_J5_32 : Cond.methodLink RJ5 32 yJ0_length_8abf5 ∈ xT := xT_4 (i := 130) rfl rfl
theorem mI_J0_length_8abf5 : Cond.instanceMethod yJ0_length_8abf5 ∈ xT := xT_4 (i := 131) rfl rfl
theorem mV_J0_length_8abf5 : Cond.selects RJ0 yJ0_length_8abf5 yJ0_length_8abf5 ∈ xT := xT_4 (i := 132) rfl rfl
theorem mC_J0_length_8abf5 : Cond.code yJ0_length_8abf5 cJ0_length_8abf5 1 (some .int) ∈ xT := xT_4 (i := 133) rfl rfl
theorem mM_J0_335 : Cond.methodLink RJ0 335 yJ0_coder_7d493 ∈ xT := xT_4 (i := 134) rfl rfl
theorem mI_J0_coder_7d493 : Cond.instanceMethod yJ0_coder_7d493 ∈ xT := xT_4 (i := 135) rfl rfl
theorem mV_J0_coder_7d493 : Cond.selects RJ0 yJ0_coder_7d493 yJ0_coder_7d493 ∈ xT := xT_4 (i := 136) rfl rfl
theorem mC_J0_coder_7d493 : Cond.code yJ0_coder_7d493 cJ0_coder_7d493 1 (some .byte) ∈ xT := xT_4 (i := 137) rfl rfl
theorem mF_J0_38 : Cond.fieldLink RJ0 38 "java/lang/String" "COMPACT_STRINGS" "Z" ∈ xT := xT_4 (i := 138) rfl rfl
theorem mM_J5_208 : Cond.methodLink RJ5 208 yJ5_putStringAt_47b60 ∈ xT := xT_4 (i := 139) rfl rfl
theorem mI_J5_putStringAt_47b60 : Cond.instanceMethod yJ5_putStringAt_47b60 ∈ xT := xT_4 (i := 141) rfl rfl
theorem mC_J5_putStringAt_47b60 : Cond.code yJ5_putStringAt_47b60 cJ5_putStringAt_47b60 3 none ∈ xT := xT_4 (i := 142) rfl rfl
theorem mM_J5_397 : Cond.methodLink RJ5 397 yJ5_inflateIfNeededFor_a7421 ∈ xT := xT_4 (i := 143) rfl rfl
theorem mI_J5_inflateIfNeededFor_a7421 : Cond.instanceMethod yJ5_inflateIfNeededFor_a7421 ∈ xT := xT_4 (i := 145) rfl rfl
theorem mC_J5_inflateIfNeededFor_a7421 : Cond.code yJ5_inflateIfNeededFor_a7421 cJ5_inflateIfNeededFor_a7421 2 none ∈ xT := xT_4 (i := 146) rfl rfl
theorem mM_J5_40 : Cond.methodLink RJ5 40 yJ0_coder_7d493 ∈ xT := xT_4 (i := 147) rfl rfl
theorem mM_J5_399 : Cond.methodLink RJ5 399 yJ0_getBytes_840e7 ∈ xT := xT_4 (i := 148) rfl rfl
theorem mI_J0_getBytes_840e7 : Cond.instanceMethod yJ0_getBytes_840e7 ∈ xT := xT_4 (i := 149) rfl rfl
theorem mV_J0_getBytes_840e7 : Cond.selects RJ0 yJ0_getBytes_840e7 yJ0_getBytes_840e7 ∈ xT := xT_4 (i := 150) rfl rfl
theorem mC_J0_getBytes_840e7 : Cond.code yJ0_getBytes_840e7 cJ0_getBytes_840e7 4 none ∈ xT := xT_4 (i := 151) rfl rfl
theorem mM_J0_212 : Cond.methodLink RJ0 212 ⟨RJ10, "arraycopy", "(Ljava/lang/Object;ILjava/lang/Object;II)V"⟩ ∈ xT := xT_4 (i := 152) rfl rfl
theorem mM_J0_106 : Cond.methodLink RJ0 106 yJ1_inflate_0e8fd ∈ xT := xT_4 (i := 153) rfl rfl
theorem mM_X1_76 : Cond.methodLink RX1 76 yJ4_toString_0e30d ∈ xT := xT_4 (i := 155) rfl rfl
theorem mI_J4_toString_0e30d : Cond.instanceMethod yJ4_toString_0e30d ∈ xT := xT_4 (i := 156) rfl rfl
theorem mV_J4_toString_0e30d : Cond.selects RJ4 yJ4_toString_0e30d yJ4_toString_0e30d ∈ xT := xT_4 (i := 157) rfl rfl
theorem mC_J4_toString_0e30d : Cond.code yJ4_toString_0e30d cJ4_toString_0e30d 1 (some (.object "java/lang/String")) ∈ xT := xT_4 (i := 158) rfl rfl
theorem mK_J4_18 : Cond.classLink RJ4 18 RJ0 ∈ xT := xT_4 (i := 159) rfl rfl
theorem mM_J4_137 : Cond.methodLink RJ4 137 yJ0_init_81219 ∈ xT := xT_4 (i := 160) rfl rfl
theorem mI_J0_init_81219 : Cond.instanceMethod yJ0_init_81219 ∈ xT := xT_4 (i := 161) rfl rfl
theorem mC_J0_init_81219 : Cond.code yJ0_init_81219 cJ0_init_81219 2 none ∈ xT := xT_4 (i := 162) rfl rfl
theorem mM_J0_489 : Cond.methodLink RJ0 489 yJ0_init_db425 ∈ xT := xT_4 (i := 163) rfl rfl
theorem mI_J0_init_db425 : Cond.instanceMethod yJ0_init_db425 ∈ xT := xT_4 (i := 164) rfl rfl
theorem mC_J0_init_db425 : Cond.code yJ0_init_db425 cJ0_init_db425 5 none ∈ xT := xT_4 (i := 165) rfl rfl
theorem mM_J0_1 : Cond.methodLink RJ0 1 Lib.objectInit ∈ xT := xT_4 (i := 166) rfl rfl
theorem mM_J0_552 : Cond.methodLink RJ0 552 yJ5_getValue_6d5f1 ∈ xT := xT_4 (i := 167) rfl rfl
theorem mI_J5_getValue_6d5f1 : Cond.instanceMethod yJ5_getValue_6d5f1 ∈ xT := xT_4 (i := 168) rfl rfl
theorem mE_J5_J5_getValue_27067 : Cond.sameMethod RJ5 RJ5 "getValue" "()[B" ∈ xT := xT_4 (i := 169) rfl rfl
theorem mV_J4_J5_getValue_6d5f1 : Cond.selects RJ4 yJ5_getValue_6d5f1 yJ5_getValue_6d5f1 ∈ xT := xT_4 (i := 170) rfl rfl
theorem mC_J5_getValue_6d5f1 : Cond.code yJ5_getValue_6d5f1 cJ5_getValue_6d5f1 1 (some (.array .byte)) ∈ xT := xT_4 (i := 171) rfl rfl
theorem mM_J0_549 : Cond.methodLink RJ0 549 yJ5_length_8abf5 ∈ xT := xT_4 (i := 172) rfl rfl
theorem mI_J5_length_8abf5 : Cond.instanceMethod yJ5_length_8abf5 ∈ xT := xT_4 (i := 173) rfl rfl
theorem mE_J5_J5_length_10780 : Cond.sameMethod RJ5 RJ5 "length" "()I" ∈ xT := xT_4 (i := 174) rfl rfl
theorem mV_J4_J5_length_8abf5_J4_length_8abf5 : Cond.selects RJ4 yJ5_length_8abf5 yJ4_length_8abf5 ∈ xT := xT_4 (i := 175) rfl rfl
theorem mI_J4_length_8abf5 : Cond.instanceMethod yJ4_length_8abf5 ∈ xT := xT_4 (i := 176) rfl rfl
theorem mC_J4_length_8abf5 : Cond.code yJ4_length_8abf5 cJ4_length_8abf5 1 (some .int) ∈ xT := xT_4 (i := 177) rfl rfl
theorem mM_J4_343 : Cond.methodLink RJ4 343 yJ5_length_8abf5 ∈ xT := xT_4 (i := 178) rfl rfl
theorem mC_J5_length_8abf5 : Cond.code yJ5_length_8abf5 cJ5_length_8abf5 1 (some .int) ∈ xT := xT_4 (i := 179) rfl rfl
theorem mM_J0_1047 : Cond.methodLink RJ0 1047 yJ5_isLatin1_aae02 ∈ xT := xT_4 (i := 180) rfl rfl
theorem mM_J0_54 : Cond.methodLink RJ0 54 yJ7_copyOfRange_39247 ∈ xT := xT_4 (i := 181) rfl rfl
theorem mS_J7_copyOfRange_39247 : Cond.static yJ7_copyOfRange_39247 ∈ xT := xT_4 (i := 182) rfl rfl
theorem mC_J7_copyOfRange_39247 : Cond.code yJ7_copyOfRange_39247 cJ7_copyOfRange_39247 3 (some (.array .byte)) ∈ xT := xT_4 (i := 183) rfl rfl
theorem mM_J7_339 : Cond.methodLink RJ7 339 yJ7_copyOfRangeByte_39247 ∈ xT := xT_4 (i := 184) rfl rfl
theorem mS_J7_copyOfRangeByte_39247 : Cond.static yJ7_copyOfRangeByte_39247 ∈ xT := xT_4 (i := 185) rfl rfl
theorem mC_J7_copyOfRangeByte_39247 : Cond.code yJ7_copyOfRangeByte_39247 cJ7_copyOfRangeByte_39247 5 (some (.array .byte)) ∈ xT := xT_4 (i := 186) rfl rfl
theorem mM_J7_343 : Cond.methodLink RJ7 343 yJ7_checkLength_df160 ∈ xT := xT_4 (i := 187) rfl rfl
theorem mS_J7_checkLength_df160 : Cond.static yJ7_checkLength_df160 ∈ xT := xT_4 (i := 188) rfl rfl
theorem mC_J7_checkLength_df160 : Cond.code yJ7_checkLength_df160 cJ7_checkLength_df160 2 none ∈ xT := xT_4 (i := 189) rfl rfl
theorem mK_J7_43 : Cond.classLink RJ7 43 "java/lang/IllegalArgumentException" ∈ xT := xT_4 (i := 190) rfl rfl
theorem mK_J7_45 : Cond.classLink RJ7 45 RJ4 ∈ xT := xT_4 (i := 191) rfl rfl
theorem mM_J7_47 : Cond.methodLink RJ7 47 yJ4_init_da8c8 ∈ xT := xT_4 (i := 192) rfl rfl
theorem mM_J7_54 : Cond.methodLink RJ7 54 yJ4_append_bf812 ∈ xT := xT_4 (i := 193) rfl rfl
theorem mM_J7_50 : Cond.methodLink RJ7 50 yJ4_append_15ec4 ∈ xT := xT_4 (i := 195) rfl rfl
theorem mM_J7_61 : Cond.methodLink RJ7 61 yJ4_toString_0e30d ∈ xT := xT_4 (i := 196) rfl rfl
theorem mM_J7_65 : Cond.methodLink RJ7 65 ⟨"java/lang/IllegalArgumentException", "<init>", "(Ljava/lang/String;)V"⟩ ∈ xT := xT_4 (i := 197) rfl rfl
theorem mM_J0_1051 : Cond.methodLink RJ0 1051 yJ2_compress_39247 ∈ xT := xT_4 (i := 198) rfl rfl
theorem mS_J2_compress_39247 : Cond.static yJ2_compress_39247 ∈ xT := xT_4 (i := 199) rfl rfl
theorem mC_J2_compress_39247 : Cond.code yJ2_compress_39247 cJ2_compress_39247 6 (some (.array .byte)) ∈ xT := xT_4 (i := 200) rfl rfl
theorem mM_J2_123 : Cond.methodLink RJ2 123 yJ2_compress_5af95 ∈ xT := xT_4 (i := 201) rfl rfl
theorem mS_J2_compress_5af95 : Cond.static yJ2_compress_5af95 ∈ xT := xT_4 (i := 202) rfl rfl
theorem mC_J2_compress_5af95 : Cond.code yJ2_compress_5af95 cJ2_compress_5af95 7 (some .int) ∈ xT := xT_4 (i := 203) rfl rfl
theorem mM_J2_71 : Cond.methodLink RJ2 71 yJ2_getChar_3b067 ∈ xT := xT_4 (i := 204) rfl rfl
theorem mS_J2_getChar_3b067 : Cond.static yJ2_getChar_3b067 ∈ xT := xT_4 (i := 205) rfl rfl
theorem mC_J2_getChar_3b067 : Cond.code yJ2_getChar_3b067 cJ2_getChar_3b067 2 (some .char) ∈ xT := xT_4 (i := 206) rfl rfl
theorem mM_J2_126 : Cond.methodLink RJ2 126 yJ7_copyOfRange_39247 ∈ xT := xT_4 (i := 207) rfl rfl
theorem mM_J0_47 : Cond.methodLink RJ0 47 yJ2_coderFromArrayLen_85cad ∈ xT := xT_4 (i := 208) rfl rfl
theorem mS_J2_coderFromArrayLen_85cad : Cond.static yJ2_coderFromArrayLen_85cad ∈ xT := xT_4 (i := 209) rfl rfl
theorem mC_J2_coderFromArrayLen_85cad : Cond.code yJ2_coderFromArrayLen_85cad cJ2_coderFromArrayLen_85cad 2 (some .byte) ∈ xT := xT_4 (i := 210) rfl rfl
theorem mF_J0_9 : Cond.fieldLink RJ0 9 "java/lang/String" "value" "[B" ∈ xT := xT_4 (i := 211) rfl rfl
theorem mF_J0_15 : Cond.fieldLink RJ0 15 "java/lang/String" "coder" "B" ∈ xT := xT_4 (i := 212) rfl rfl
theorem mL_J0_J0_hash : Cond.lays RJ0 RJ0 "hash" "I" ∈ xT := xT_4 (i := 213) rfl rfl
theorem mL_J0_J0_hashIsZero : Cond.lays RJ0 RJ0 "hashIsZero" "Z" ∈ xT := xT_4 (i := 215) rfl rfl
theorem mU_J0_Object : Cond.superclass RJ0 "java/lang/Object" ∈ xT := xT_4 (i := 217) rfl rfl
theorem mM_X7_132 : Cond.methodLink RX7 132 yJ0_length_8abf5 ∈ xT := xT_4 (i := 218) rfl rfl
theorem mM_L_168 : Cond.methodLink RL 168 yL_labelled ∈ xT := xT_4 (i := 219) rfl rfl
theorem mS_L_labelled : Cond.static yL_labelled ∈ xT := xT_4 (i := 220) rfl rfl
theorem mC_L_labelled : Cond.codeWith yL_labelled cL_labelled 5 (some .int) [((0), (10), (13), (13)), ((0), (10), (17), (55))] ∈ xT := xT_4 (i := 221) rfl rfl
theorem mK_L_55 : Cond.classLink RL 55 "java/util/NoSuchElementException" ∈ xT := xT_4 (i := 222) rfl rfl
theorem mM_L_51 : Cond.methodLink RL 51 yX7_labelled ∈ xT := xT_4 (i := 223) rfl rfl
theorem mI_X7_labelled : Cond.instanceMethod yX7_labelled ∈ xT := xT_4 (i := 224) rfl rfl
theorem mV_X7_labelled : Cond.selects RX7 yX7_labelled yX7_labelled ∈ xT := xT_4 (i := 225) rfl rfl
theorem mC_X7_labelled : Cond.code yX7_labelled cX7_labelled 4 (some .char) ∈ xT := xT_4 (i := 226) rfl rfl
theorem mK_X7_137 : Cond.classLink RX7 137 "java/util/NoSuchElementException" ∈ xT := xT_4 (i := 227) rfl rfl
theorem mA_NoSuchElementException : Cond.instantiable "java/util/NoSuchElementException" 6 ∈ xT := xT_4 (i := 228) rfl rfl
theorem mL_NoSuchElementException_Throwable_cause : Cond.lays "java/util/NoSuchElementException" "java/lang/Throwable" "cause" "Ljava/lang/Throwable;" ∈ xT := xT_4 (i := 231) rfl rfl
theorem mL_NoSuchElementException_Throwable_stackTrace : Cond.lays "java/util/NoSuchElementException" "java/lang/Throwable" "stackTrace" "[Ljava/lang/StackTraceElement;" ∈ xT := xT_4 (i := 232) rfl rfl
theorem mL_NoSuchElementException_Throwable_suppressedExceptions : Cond.lays "java/util/NoSuchElementException" "java/lang/Throwable" "suppressedExceptions" "Ljava/util/List;" ∈ xT := xT_4 (i := 233) rfl rfl
theorem mL_NoSuchElementException_Throwable_detailMessage : Cond.lays "java/util/NoSuchElementException" "java/lang/Throwable" "detailMessage" "Ljava/lang/String;" ∈ xT := xT_4 (i := 234) rfl rfl
theorem mL_NoSuchElementException_Throwable_backtrace : Cond.lays "java/util/NoSuchElementException" "java/lang/Throwable" "backtrace" "Ljava/lang/Object;" ∈ xT := xT_4 (i := 235) rfl rfl
theorem mM_X7_141 : Cond.methodLink RX7 141 ⟨"java/util/NoSuchElementException", "<init>", "(Ljava/lang/String;)V"⟩ ∈ xT := xT_4 (i := 237) rfl rfl
theorem mI_NoSuchElementException_init_S : Cond.instanceMethod ⟨"java/util/NoSuchElementException", "<init>", "(Ljava/lang/String;)V"⟩ ∈ xT := xT_4 (i := 238) rfl rfl
theorem mC_NoSuchElementException_init_S : Cond.code ⟨"java/util/NoSuchElementException", "<init>", "(Ljava/lang/String;)V"⟩ prog_38_method_4_code 2 none ∈ xT := xT_4 (i := 239) rfl rfl
theorem mM_NoSuchElementException_13 : Cond.methodLink "java/util/NoSuchElementException" 13 ⟨"java/lang/RuntimeException", "<init>", "(Ljava/lang/String;)V"⟩ ∈ xT := xT_5 (i := 0) rfl rfl
theorem mL_NoSuchElementException_Throwable_depth : Cond.lays "java/util/NoSuchElementException" "java/lang/Throwable" "depth" "I" ∈ xT := xT_5 (i := 1) rfl rfl
theorem mU_NoSuchElementException_RuntimeException : Cond.superclass "java/util/NoSuchElementException" "java/lang/RuntimeException" ∈ xT := xT_5 (i := 2) rfl rfl
theorem mM_X7_144 : Cond.methodLink RX7 144 yJ0_charAt_5068e ∈ xT := xT_5 (i := 3) rfl rfl
theorem mI_J0_charAt_5068e : Cond.instanceMethod yJ0_charAt_5068e ∈ xT := xT_5 (i := 4) rfl rfl
theorem mV_J0_charAt_5068e : Cond.selects RJ0 yJ0_charAt_5068e yJ0_charAt_5068e ∈ xT := xT_5 (i := 5) rfl rfl
theorem mC_J0_charAt_5068e : Cond.code yJ0_charAt_5068e cJ0_charAt_5068e 2 (some .char) ∈ xT := xT_5 (i := 6) rfl rfl
theorem mM_J0_492 : Cond.methodLink RJ0 492 yJ0_isLatin1_aae02 ∈ xT := xT_5 (i := 7) rfl rfl
theorem mI_J0_isLatin1_aae02 : Cond.instanceMethod yJ0_isLatin1_aae02 ∈ xT := xT_5 (i := 8) rfl rfl
theorem mV_J0_isLatin1_aae02 : Cond.selects RJ0 yJ0_isLatin1_aae02 yJ0_isLatin1_aae02 ∈ xT := xT_5 (i := 9) rfl rfl
theorem mC_J0_isLatin1_aae02 : Cond.code yJ0_isLatin1_aae02 cJ0_isLatin1_aae02 1 (some .boolean) ∈ xT := xT_5 (i := 10) rfl rfl
theorem mM_J0_495 : Cond.methodLink RJ0 495 yJ1_charAt_3b067 ∈ xT := xT_5 (i := 11) rfl rfl
theorem mS_J1_charAt_3b067 : Cond.static yJ1_charAt_3b067 ∈ xT := xT_5 (i := 12) rfl rfl
theorem mC_J1_charAt_3b067 : Cond.code yJ1_charAt_3b067 cJ1_charAt_3b067 2 (some .char) ∈ xT := xT_5 (i := 13) rfl rfl
theorem mM_J1_9 : Cond.methodLink RJ1 9 yJ0_checkIndex_df160 ∈ xT := xT_5 (i := 14) rfl rfl
theorem mM_J0_498 : Cond.methodLink RJ0 498 yJ2_charAt_3b067 ∈ xT := xT_5 (i := 15) rfl rfl
theorem mS_J2_charAt_3b067 : Cond.static yJ2_charAt_3b067 ∈ xT := xT_5 (i := 16) rfl rfl
theorem mC_J2_charAt_3b067 : Cond.code yJ2_charAt_3b067 cJ2_charAt_3b067 2 (some .char) ∈ xT := xT_5 (i := 17) rfl rfl
theorem mM_L_171 : Cond.methodLink RL 171 yL_chest ∈ xT := xT_5 (i := 18) rfl rfl
theorem mS_L_chest : Cond.static yL_chest ∈ xT := xT_5 (i := 19) rfl rfl
theorem mC_L_chest : Cond.codeWith yL_chest cL_chest 5 (some .int) [((0), (10), (13), (13)), ((0), (10), (17), (15))] ∈ xT := xT_5 (i := 20) rfl rfl
theorem mM_L_57 : Cond.methodLink RL 57 yX7_chest ∈ xT := xT_5 (i := 21) rfl rfl
theorem mI_X7_chest : Cond.instanceMethod yX7_chest ∈ xT := xT_5 (i := 22) rfl rfl
theorem mV_X7_chest : Cond.selects RX7 yX7_chest yX7_chest ∈ xT := xT_5 (i := 23) rfl rfl
theorem mC_X7_chest : Cond.code yX7_chest cX7_chest 4 (some .int) ∈ xT := xT_5 (i := 24) rfl rfl
theorem mM_L_174 : Cond.methodLink RL 174 yL_worth ∈ xT := xT_5 (i := 26) rfl rfl
theorem mS_L_worth : Cond.static yL_worth ∈ xT := xT_5 (i := 27) rfl rfl
theorem mC_L_worth : Cond.codeWith yL_worth cL_worth 4 (some .int) [((0), (9), (12), (13))] ∈ xT := xT_5 (i := 28) rfl rfl
theorem mM_L_60 : Cond.methodLink RL 60 yX7_worth ∈ xT := xT_5 (i := 29) rfl rfl
theorem mI_X7_worth : Cond.instanceMethod yX7_worth ∈ xT := xT_5 (i := 30) rfl rfl
theorem mV_X7_worth : Cond.selects RX7 yX7_worth yX7_worth ∈ xT := xT_5 (i := 31) rfl rfl
theorem mC_X7_worth : Cond.code yX7_worth cX7_worth 2 (some .int) ∈ xT := xT_5 (i := 32) rfl rfl
theorem mM_X7_171 : Cond.methodLink RX7 171 yX1_coins ∈ xT := xT_5 (i := 33) rfl rfl
theorem mM_L_177 : Cond.methodLink RL 177 yL_ranked ∈ xT := xT_5 (i := 34) rfl rfl
theorem mS_L_ranked : Cond.static yL_ranked ∈ xT := xT_5 (i := 35) rfl rfl
theorem mC_L_ranked : Cond.codeWith yL_ranked cL_ranked 4 (some .int) [((0), (9), (12), (55))] ∈ xT := xT_5 (i := 36) rfl rfl
theorem mM_L_63 : Cond.methodLink RL 63 yX7_ranked ∈ xT := xT_5 (i := 37) rfl rfl
theorem mI_X7_ranked : Cond.instanceMethod yX7_ranked ∈ xT := xT_5 (i := 38) rfl rfl
theorem mV_X7_ranked : Cond.selects RX7 yX7_ranked yX7_ranked ∈ xT := xT_5 (i := 39) rfl rfl
theorem mC_X7_ranked : Cond.code yX7_ranked cX7_ranked 3 (some .int) ∈ xT := xT_5 (i := 40) rfl rfl
theorem mM_X7_174 : Cond.methodLink RX7 174 yX4_chestAtPlace ∈ xT := xT_5 (i := 41) rfl rfl
theorem mI_X4_chestAtPlace : Cond.instanceMethod yX4_chestAtPlace ∈ xT := xT_5 (i := 42) rfl rfl
theorem mV_X4_chestAtPlace : Cond.selects RX4 yX4_chestAtPlace yX4_chestAtPlace ∈ xT := xT_5 (i := 43) rfl rfl
theorem mC_X4_chestAtPlace : Cond.code yX4_chestAtPlace cX4_chestAtPlace 6 (some .int) ∈ xT := xT_5 (i := 44) rfl rfl
theorem mM_X4_192 : Cond.methodLink RX4 192 yX4_placeOf ∈ xT := xT_5 (i := 45) rfl rfl
theorem mI_X4_placeOf : Cond.instanceMethod yX4_placeOf ∈ xT := xT_5 (i := 47) rfl rfl
theorem mC_X4_placeOf : Cond.code yX4_placeOf cX4_placeOf 7 (some .int) ∈ xT := xT_5 (i := 48) rfl rfl
theorem mM_X4_196 : Cond.methodLink RX4 196 yX1_ranksBefore ∈ xT := xT_5 (i := 49) rfl rfl
theorem mI_X1_ranksBefore : Cond.instanceMethod yX1_ranksBefore ∈ xT := xT_5 (i := 50) rfl rfl
theorem mV_X1_ranksBefore : Cond.selects RX1 yX1_ranksBefore yX1_ranksBefore ∈ xT := xT_5 (i := 51) rfl rfl
theorem mC_X1_ranksBefore : Cond.code yX1_ranksBefore cX1_ranksBefore 2 (some .boolean) ∈ xT := xT_5 (i := 52) rfl rfl
theorem mM_X1_83 : Cond.methodLink RX1 83 yX1_coins ∈ xT := xT_5 (i := 53) rfl rfl
theorem mM_L_180 : Cond.methodLink RL 180 yL_toQuay ∈ xT := xT_5 (i := 55) rfl rfl
theorem mS_L_toQuay : Cond.static yL_toQuay ∈ xT := xT_5 (i := 56) rfl rfl
theorem mC_L_toQuay : Cond.codeWith yL_toQuay cL_toQuay 4 (some .int) [((0), (9), (12), (13)), ((0), (9), (15), (17))] ∈ xT := xT_5 (i := 57) rfl rfl
theorem mM_L_66 : Cond.methodLink RL 66 yX7_toQuay ∈ xT := xT_5 (i := 58) rfl rfl
theorem mI_X7_toQuay : Cond.instanceMethod yX7_toQuay ∈ xT := xT_5 (i := 59) rfl rfl
theorem mV_X7_toQuay : Cond.selects RX7 yX7_toQuay yX7_toQuay ∈ xT := xT_5 (i := 60) rfl rfl
theorem mC_X7_toQuay : Cond.code yX7_toQuay cX7_toQuay 3 (some .int) ∈ xT := xT_5 (i := 61) rfl rfl
theorem mM_X7_180 : Cond.methodLink RX7 180 yX4_tryToQuay ∈ xT := xT_5 (i := 62) rfl rfl
theorem mI_X4_tryToQuay : Cond.instanceMethod yX4_tryToQuay ∈ xT := xT_5 (i := 63) rfl rfl
theorem mV_X4_tryToQuay : Cond.selects RX4 yX4_tryToQuay yX4_tryToQuay ∈ xT := xT_5 (i := 64) rfl rfl
theorem mC_X4_tryToQuay : Cond.code yX4_tryToQuay cX4_tryToQuay 2 (some .boolean) ∈ xT := xT_5 (i := 65) rfl rfl
theorem mM_X4_202 : Cond.methodLink RX4 202 yX4_isReadyForQuay ∈ xT := xT_5 (i := 66) rfl rfl
theorem mI_X4_isReadyForQuay : Cond.instanceMethod yX4_isReadyForQuay ∈ xT := xT_5 (i := 68) rfl rfl
theorem mC_X4_isReadyForQuay : Cond.code yX4_isReadyForQuay cX4_isReadyForQuay 2 (some .boolean) ∈ xT := xT_5 (i := 69) rfl rfl
theorem mM_X7_183 : Cond.methodLink RX7 183 yX4_chestsAt ∈ xT := xT_5 (i := 70) rfl rfl
theorem mI_X4_chestsAt : Cond.instanceMethod yX4_chestsAt ∈ xT := xT_5 (i := 71) rfl rfl
theorem mV_X4_chestsAt : Cond.selects RX4 yX4_chestsAt yX4_chestsAt ∈ xT := xT_5 (i := 72) rfl rfl
theorem mC_X4_chestsAt : Cond.code yX4_chestsAt cX4_chestsAt 7 (some .int) ∈ xT := xT_5 (i := 73) rfl rfl
theorem mM_L_183 : Cond.methodLink RL 183 yL_load ∈ xT := xT_5 (i := 74) rfl rfl
theorem mS_L_load : Cond.static yL_load ∈ xT := xT_5 (i := 75) rfl rfl
theorem mC_L_load : Cond.codeWith yL_load cL_load 4 (some .int) [((0), (9), (12), (13)), ((0), (9), (15), (17))] ∈ xT := xT_5 (i := 76) rfl rfl
theorem mM_L_69 : Cond.methodLink RL 69 yX7_load ∈ xT := xT_5 (i := 77) rfl rfl
theorem mI_X7_load : Cond.instanceMethod yX7_load ∈ xT := xT_5 (i := 78) rfl rfl
theorem mV_X7_load : Cond.selects RX7 yX7_load yX7_load ∈ xT := xT_5 (i := 79) rfl rfl
theorem mC_X7_load : Cond.code yX7_load cX7_load 3 (some .int) ∈ xT := xT_5 (i := 80) rfl rfl
theorem mM_X7_186 : Cond.methodLink RX7 186 yX4_tryLoad ∈ xT := xT_5 (i := 81) rfl rfl
theorem mI_X4_tryLoad : Cond.instanceMethod yX4_tryLoad ∈ xT := xT_5 (i := 82) rfl rfl
theorem mV_X4_tryLoad : Cond.selects RX4 yX4_tryLoad yX4_tryLoad ∈ xT := xT_5 (i := 83) rfl rfl
theorem mC_X4_tryLoad : Cond.code yX4_tryLoad cX4_tryLoad 2 (some .boolean) ∈ xT := xT_5 (i := 84) rfl rfl
theorem mM_X4_205 : Cond.methodLink RX4 205 yX4_isOnQuay ∈ xT := xT_5 (i := 85) rfl rfl
theorem mI_X4_isOnQuay : Cond.instanceMethod yX4_isOnQuay ∈ xT := xT_5 (i := 87) rfl rfl
theorem mC_X4_isOnQuay : Cond.code yX4_isOnQuay cX4_isOnQuay 2 (some .boolean) ∈ xT := xT_5 (i := 88) rfl rfl
theorem mM_X4_208 : Cond.methodLink RX4 208 yX4_isShipReached ∈ xT := xT_5 (i := 89) rfl rfl
theorem mI_X4_isShipReached : Cond.instanceMethod yX4_isShipReached ∈ xT := xT_5 (i := 91) rfl rfl
theorem mC_X4_isShipReached : Cond.code yX4_isShipReached cX4_isShipReached 1 (some .boolean) ∈ xT := xT_5 (i := 92) rfl rfl
theorem mM_X4_133 : Cond.methodLink RX4 133 yX4_heightIn ∈ xT := xT_5 (i := 93) rfl rfl
theorem mM_X4_211 : Cond.methodLink RX4 211 yX4_hasShipRoom ∈ xT := xT_5 (i := 94) rfl rfl
theorem mI_X4_hasShipRoom : Cond.instanceMethod yX4_hasShipRoom ∈ xT := xT_5 (i := 96) rfl rfl
theorem mC_X4_hasShipRoom : Cond.code yX4_hasShipRoom cX4_hasShipRoom 2 (some .boolean) ∈ xT := xT_5 (i := 97) rfl rfl
theorem mM_X4_136 : Cond.methodLink RX4 136 yX4_shipRoom ∈ xT := xT_5 (i := 98) rfl rfl
theorem mI_X4_shipRoom : Cond.instanceMethod yX4_shipRoom ∈ xT := xT_5 (i := 99) rfl rfl
theorem mV_X4_shipRoom : Cond.selects RX4 yX4_shipRoom yX4_shipRoom ∈ xT := xT_5 (i := 100) rfl rfl
theorem mC_X4_shipRoom : Cond.code yX4_shipRoom cX4_shipRoom 6 (some .int) ∈ xT := xT_5 (i := 101) rfl rfl
theorem mM_X7_189 : Cond.methodLink RX7 189 yX4_shipRoom ∈ xT := xT_5 (i := 102) rfl rfl
theorem mM_L_186 : Cond.methodLink RL 186 yL_sail ∈ xT := xT_5 (i := 103) rfl rfl
theorem mS_L_sail : Cond.static yL_sail ∈ xT := xT_5 (i := 104) rfl rfl
theorem mC_L_sail : Cond.codeWith yL_sail cL_sail 3 (some .int) [((0), (8), (11), (17))] ∈ xT := xT_5 (i := 105) rfl rfl
theorem mM_L_72 : Cond.methodLink RL 72 yX7_sail ∈ xT := xT_5 (i := 106) rfl rfl
theorem mI_X7_sail : Cond.instanceMethod yX7_sail ∈ xT := xT_5 (i := 107) rfl rfl
theorem mV_X7_sail : Cond.selects RX7 yX7_sail yX7_sail ∈ xT := xT_5 (i := 108) rfl rfl
theorem mC_X7_sail : Cond.code yX7_sail cX7_sail 2 (some .int) ∈ xT := xT_5 (i := 109) rfl rfl
theorem mM_X7_195 : Cond.methodLink RX7 195 yX4_trySail ∈ xT := xT_5 (i := 110) rfl rfl
theorem mI_X4_trySail : Cond.instanceMethod yX4_trySail ∈ xT := xT_5 (i := 111) rfl rfl
theorem mV_X4_trySail : Cond.selects RX4 yX4_trySail yX4_trySail ∈ xT := xT_5 (i := 112) rfl rfl
theorem mC_X4_trySail : Cond.code yX4_trySail cX4_trySail 5 (some .boolean) ∈ xT := xT_5 (i := 113) rfl rfl
theorem mM_X4_214 : Cond.methodLink RX4 214 yX4_isShipLoaded ∈ xT := xT_5 (i := 114) rfl rfl
theorem mI_X4_isShipLoaded : Cond.instanceMethod yX4_isShipLoaded ∈ xT := xT_5 (i := 116) rfl rfl
theorem mC_X4_isShipLoaded : Cond.code yX4_isShipLoaded cX4_isShipLoaded 1 (some .boolean) ∈ xT := xT_5 (i := 117) rfl rfl
theorem mM_X4_139 : Cond.methodLink RX4 139 yX4_chestsAt ∈ xT := xT_5 (i := 118) rfl rfl
theorem mM_X4_217 : Cond.methodLink RX4 217 yX4_shipCoins ∈ xT := xT_5 (i := 119) rfl rfl
theorem mM_L_194 : Cond.methodLink RL 194 yL_height ∈ xT := xT_5 (i := 120) rfl rfl
theorem mS_L_height : Cond.static yL_height ∈ xT := xT_5 (i := 121) rfl rfl
theorem mC_L_height : Cond.codeWith yL_height cL_height 4 (some .int) [((0), (9), (12), (15))] ∈ xT := xT_5 (i := 122) rfl rfl
theorem mM_L_76 : Cond.methodLink RL 76 yX7_height ∈ xT := xT_5 (i := 123) rfl rfl
theorem mI_X7_height : Cond.instanceMethod yX7_height ∈ xT := xT_5 (i := 124) rfl rfl
theorem mV_X7_height : Cond.selects RX7 yX7_height yX7_height ∈ xT := xT_5 (i := 125) rfl rfl
theorem mC_X7_height : Cond.code yX7_height cX7_height 2 (some .int) ∈ xT := xT_5 (i := 126) rfl rfl
theorem mM_L_197 : Cond.methodLink RL 197 yL_heightAgain ∈ xT := xT_5 (i := 127) rfl rfl
theorem mS_L_heightAgain : Cond.static yL_heightAgain ∈ xT := xT_5 (i := 128) rfl rfl
theorem mC_L_heightAgain : Cond.codeWith yL_heightAgain cL_heightAgain 4 (some .int) [((0), (9), (12), (15))] ∈ xT := xT_5 (i := 129) rfl rfl
theorem mM_L_79 : Cond.methodLink RL 79 yX7_heightAgain ∈ xT := xT_5 (i := 130) rfl rfl
theorem mI_X7_heightAgain : Cond.instanceMethod yX7_heightAgain ∈ xT := xT_5 (i := 131) rfl rfl
theorem mV_X7_heightAgain : Cond.selects RX7 yX7_heightAgain yX7_heightAgain ∈ xT := xT_5 (i := 132) rfl rfl
theorem mC_X7_heightAgain : Cond.code yX7_heightAgain cX7_heightAgain 6 (some .int) ∈ xT := xT_5 (i := 133) rfl rfl
theorem mM_L_204 : Cond.methodLink RL 204 yL_setHumidity ∈ xT := xT_5 (i := 134) rfl rfl
theorem mS_L_setHumidity : Cond.static yL_setHumidity ∈ xT := xT_5 (i := 135) rfl rfl
theorem mC_L_setHumidity : Cond.codeWith yL_setHumidity cL_setHumidity 4 (some .int) [((0), (9), (12), (15))] ∈ xT := xT_5 (i := 136) rfl rfl
theorem mM_L_82 : Cond.methodLink RL 82 yX7_setHumidity ∈ xT := xT_5 (i := 137) rfl rfl
theorem mI_X7_setHumidity : Cond.instanceMethod yX7_setHumidity ∈ xT := xT_5 (i := 138) rfl rfl
theorem mV_X7_setHumidity : Cond.selects RX7 yX7_setHumidity yX7_setHumidity ∈ xT := xT_5 (i := 139) rfl rfl
theorem mC_X7_setHumidity : Cond.code yX7_setHumidity cX7_setHumidity 3 (some .int) ∈ xT := xT_5 (i := 140) rfl rfl
theorem mM_L_207 : Cond.methodLink RL 207 yL_pass ∈ xT := xT_5 (i := 141) rfl rfl
theorem mS_L_pass : Cond.static yL_pass ∈ xT := xT_5 (i := 142) rfl rfl
theorem mC_L_pass : Cond.codeWith yL_pass cL_pass 4 (some .int) [((0), (9), (12), (15))] ∈ xT := xT_5 (i := 143) rfl rfl
theorem mM_L_85 : Cond.methodLink RL 85 yX7_pass ∈ xT := xT_5 (i := 144) rfl rfl
theorem mI_X7_pass : Cond.instanceMethod yX7_pass ∈ xT := xT_5 (i := 145) rfl rfl
theorem mV_X7_pass : Cond.selects RX7 yX7_pass yX7_pass ∈ xT := xT_5 (i := 146) rfl rfl
theorem mC_X7_pass : Cond.code yX7_pass cX7_pass 2 (some .int) ∈ xT := xT_5 (i := 147) rfl rfl
theorem mM_X7_207 : Cond.methodLink RX7 207 yX4_letPass ∈ xT := xT_5 (i := 148) rfl rfl
theorem mI_X4_letPass : Cond.instanceMethod yX4_letPass ∈ xT := xT_5 (i := 149) rfl rfl
theorem mV_X4_letPass : Cond.selects RX4 yX4_letPass yX4_letPass ∈ xT := xT_5 (i := 150) rfl rfl
theorem mC_X4_letPass : Cond.code yX4_letPass cX4_letPass 3 (some .boolean) ∈ xT := xT_5 (i := 151) rfl rfl
theorem mM_X4_225 : Cond.methodLink RX4 225 yX4_letDampIn ∈ xT := xT_5 (i := 152) rfl rfl
theorem mI_X4_letDampIn : Cond.instanceMethod yX4_letDampIn ∈ xT := xT_5 (i := 154) rfl rfl
theorem mC_X4_letDampIn : Cond.code yX4_letDampIn cX4_letDampIn 5 none ∈ xT := xT_5 (i := 155) rfl rfl
theorem mM_X4_228 : Cond.methodLink RX4 228 yX1_becomeDamper ∈ xT := xT_5 (i := 156) rfl rfl
theorem mI_X1_becomeDamper : Cond.instanceMethod yX1_becomeDamper ∈ xT := xT_5 (i := 157) rfl rfl
theorem mV_X1_becomeDamper : Cond.selects RX1 yX1_becomeDamper yX1_becomeDamper ∈ xT := xT_5 (i := 158) rfl rfl
theorem mC_X1_becomeDamper : Cond.code yX1_becomeDamper cX1_becomeDamper 1 none ∈ xT := xT_5 (i := 159) rfl rfl
theorem mM_X1_80 : Cond.methodLink RX1 80 yX1_isTight ∈ xT := xT_5 (i := 160) rfl rfl
theorem mM_L_215 : Cond.methodLink RL 215 yL_meanDamp ∈ xT := xT_5 (i := 161) rfl rfl
theorem mS_L_meanDamp : Cond.static yL_meanDamp ∈ xT := xT_5 (i := 162) rfl rfl
theorem mC_L_meanDamp : Cond.codeWith yL_meanDamp cL_meanDamp 3 (some .int) [((0), (7), (10), (92))] ∈ xT := xT_5 (i := 163) rfl rfl
theorem mK_L_92 : Cond.classLink RL 92 "java/lang/ArithmeticException" ∈ xT := xT_5 (i := 164) rfl rfl
theorem mA_ArithmeticException : Cond.instantiable "java/lang/ArithmeticException" 6 ∈ xT := xT_5 (i := 165) rfl rfl
theorem mI_ArithmeticException_init_S : Cond.instanceMethod ⟨"java/lang/ArithmeticException", "<init>", "(Ljava/lang/String;)V"⟩ ∈ xT := xT_5 (i := 166) rfl rfl
theorem mC_ArithmeticException_init_S : Cond.code ⟨"java/lang/ArithmeticException", "<init>", "(Ljava/lang/String;)V"⟩ prog_14_method_2_code 2 none ∈ xT := xT_5 (i := 167) rfl rfl
theorem mM_ArithmeticException_7 : Cond.methodLink "java/lang/ArithmeticException" 7 ⟨"java/lang/RuntimeException", "<init>", "(Ljava/lang/String;)V"⟩ ∈ xT := xT_5 (i := 168) rfl rfl
theorem mL_ArithmeticException_Throwable_backtrace : Cond.lays "java/lang/ArithmeticException" "java/lang/Throwable" "backtrace" "Ljava/lang/Object;" ∈ xT := xT_5 (i := 169) rfl rfl
theorem mL_ArithmeticException_Throwable_detailMessage : Cond.lays "java/lang/ArithmeticException" "java/lang/Throwable" "detailMessage" "Ljava/lang/String;" ∈ xT := xT_5 (i := 170) rfl rfl
theorem mL_ArithmeticException_Throwable_cause : Cond.lays "java/lang/ArithmeticException" "java/lang/Throwable" "cause" "Ljava/lang/Throwable;" ∈ xT := xT_5 (i := 171) rfl rfl
theorem mL_ArithmeticException_Throwable_stackTrace : Cond.lays "java/lang/ArithmeticException" "java/lang/Throwable" "stackTrace" "[Ljava/lang/StackTraceElement;" ∈ xT := xT_5 (i := 172) rfl rfl
theorem mL_ArithmeticException_Throwable_depth : Cond.lays "java/lang/ArithmeticException" "java/lang/Throwable" "depth" "I" ∈ xT := xT_5 (i := 173) rfl rfl
theorem mL_ArithmeticException_Throwable_suppressedExceptions : Cond.lays "java/lang/ArithmeticException" "java/lang/Throwable" "suppressedExceptions" "Ljava/util/List;" ∈ xT := xT_5 (i := 174) rfl rfl
theorem mU_ArithmeticException_RuntimeException : Cond.superclass "java/lang/ArithmeticException" "java/lang/RuntimeException" ∈ xT := xT_5 (i := 175) rfl rfl
theorem mM_L_88 : Cond.methodLink RL 88 yX7_meanDamp ∈ xT := xT_5 (i := 178) rfl rfl
theorem mI_X7_meanDamp : Cond.instanceMethod yX7_meanDamp ∈ xT := xT_5 (i := 179) rfl rfl
theorem mV_X7_meanDamp : Cond.selects RX7 yX7_meanDamp yX7_meanDamp ∈ xT := xT_5 (i := 180) rfl rfl
theorem mC_X7_meanDamp : Cond.code yX7_meanDamp cX7_meanDamp 2 (some .double) ∈ xT := xT_5 (i := 181) rfl rfl
theorem mM_X7_228 : Cond.methodLink RX7 228 yX4_filledChests ∈ xT := xT_5 (i := 182) rfl rfl
theorem mI_X4_filledChests : Cond.instanceMethod yX4_filledChests ∈ xT := xT_5 (i := 183) rfl rfl
theorem mV_X4_filledChests : Cond.selects RX4 yX4_filledChests yX4_filledChests ∈ xT := xT_5 (i := 184) rfl rfl
theorem mC_X4_filledChests : Cond.code yX4_filledChests cX4_filledChests 6 (some .int) ∈ xT := xT_5 (i := 185) rfl rfl
theorem mK_X7_231 : Cond.classLink RX7 231 "java/lang/ArithmeticException" ∈ xT := xT_5 (i := 186) rfl rfl
theorem mM_X7_235 : Cond.methodLink RX7 235 ⟨"java/lang/ArithmeticException", "<init>", "(Ljava/lang/String;)V"⟩ ∈ xT := xT_5 (i := 188) rfl rfl
theorem mM_X7_236 : Cond.methodLink RX7 236 yX4_sumOfDamp ∈ xT := xT_5 (i := 189) rfl rfl
theorem mI_X4_sumOfDamp : Cond.instanceMethod yX4_sumOfDamp ∈ xT := xT_5 (i := 190) rfl rfl
theorem mV_X4_sumOfDamp : Cond.selects RX4 yX4_sumOfDamp yX4_sumOfDamp ∈ xT := xT_5 (i := 191) rfl rfl
theorem mC_X4_sumOfDamp : Cond.code yX4_sumOfDamp cX4_sumOfDamp 6 (some .int) ∈ xT := xT_5 (i := 192) rfl rfl
theorem mM_L_219 : Cond.methodLink RL 219 yL_sailedShare ∈ xT := xT_5 (i := 193) rfl rfl
theorem mS_L_sailedShare : Cond.static yL_sailedShare ∈ xT := xT_5 (i := 194) rfl rfl
theorem mC_L_sailedShare : Cond.codeWith yL_sailedShare cL_sailedShare 3 (some .int) [((0), (8), (11), (92))] ∈ xT := xT_5 (i := 195) rfl rfl
theorem mM_L_94 : Cond.methodLink RL 94 yX7_sailedShare ∈ xT := xT_5 (i := 196) rfl rfl
theorem mI_X7_sailedShare : Cond.instanceMethod yX7_sailedShare ∈ xT := xT_5 (i := 197) rfl rfl
theorem mV_X7_sailedShare : Cond.selects RX7 yX7_sailedShare yX7_sailedShare ∈ xT := xT_5 (i := 198) rfl rfl
theorem mC_X7_sailedShare : Cond.code yX7_sailedShare cX7_sailedShare 1 (some .float) ∈ xT := xT_5 (i := 199) rfl rfl
theorem mM_L_222 : Cond.methodLink RL 222 yL_reason ∈ xT := xT_5 (i := 201) rfl rfl
theorem mS_L_reason : Cond.static yL_reason ∈ xT := xT_5 (i := 202) rfl rfl
theorem mC_L_reason : Cond.codeWith yL_reason cL_reason 4 (some .int) [((0), (9), (12), (55))] ∈ xT := xT_5 (i := 203) rfl rfl
theorem mM_L_98 : Cond.methodLink RL 98 yX7_reason ∈ xT := xT_5 (i := 204) rfl rfl
theorem mI_X7_reason : Cond.instanceMethod yX7_reason ∈ xT := xT_5 (i := 205) rfl rfl
theorem mV_X7_reason : Cond.selects RX7 yX7_reason yX7_reason ∈ xT := xT_5 (i := 206) rfl rfl
theorem mC_X7_reason : Cond.code yX7_reason cX7_reason 2 (some .int) ∈ xT := xT_5 (i := 207) rfl rfl
theorem mM_L_226 : Cond.methodLink RL 226 yL_account ∈ xT := xT_5 (i := 209) rfl rfl
theorem mS_L_account : Cond.static yL_account ∈ xT := xT_5 (i := 210) rfl rfl
theorem mC_L_account : Cond.codeWith yL_account cL_account 4 (some .int) [((0), (9), (12), (15))] ∈ xT := xT_5 (i := 211) rfl rfl
theorem mM_L_102 : Cond.methodLink RL 102 yX7_account ∈ xT := xT_5 (i := 212) rfl rfl
theorem mI_X7_account : Cond.instanceMethod yX7_account ∈ xT := xT_5 (i := 213) rfl rfl
theorem mV_X7_account : Cond.selects RX7 yX7_account yX7_account ∈ xT := xT_5 (i := 214) rfl rfl
theorem mC_X7_account : Cond.code yX7_account cX7_account 2 (some .int) ∈ xT := xT_5 (i := 215) rfl rfl
theorem mM_L_229 : Cond.methodLink RL 229 yL_feed ∈ xT := xT_5 (i := 217) rfl rfl
theorem mS_L_feed : Cond.static yL_feed ∈ xT := xT_5 (i := 218) rfl rfl
theorem mC_L_feed : Cond.codeWith yL_feed cL_feed 4 (some .int) [((0), (9), (12), (109))] ∈ xT := xT_5 (i := 219) rfl rfl
theorem mK_L_109 : Cond.classLink RL 109 "java/lang/IllegalStateException" ∈ xT := xT_5 (i := 220) rfl rfl
theorem mM_L_105 : Cond.methodLink RL 105 yX7_feed ∈ xT := xT_5 (i := 221) rfl rfl
theorem mI_X7_feed : Cond.instanceMethod yX7_feed ∈ xT := xT_5 (i := 222) rfl rfl
theorem mV_X7_feed : Cond.selects RX7 yX7_feed yX7_feed ∈ xT := xT_5 (i := 223) rfl rfl
theorem mC_X7_feed : Cond.code yX7_feed cX7_feed 2 (some .int) ∈ xT := xT_5 (i := 224) rfl rfl
theorem mM_X7_261 : Cond.methodLink RX7 261 yX2_append ∈ xT := xT_5 (i := 225) rfl rfl
theorem mI_X2_append : Cond.instanceMethod yX2_append ∈ xT := xT_5 (i := 226) rfl rfl
theorem mV_X2_append : Cond.selects RX2 yX2_append yX2_append ∈ xT := xT_5 (i := 227) rfl rfl
theorem mC_X2_append : Cond.code yX2_append cX2_append 2 (some .boolean) ∈ xT := xT_5 (i := 228) rfl rfl
theorem mK_X7_265 : Cond.classLink RX7 265 "java/lang/IllegalStateException" ∈ xT := xT_5 (i := 229) rfl rfl
theorem mA_IllegalStateException : Cond.instantiable "java/lang/IllegalStateException" 6 ∈ xT := xT_5 (i := 230) rfl rfl
theorem mL_IllegalStateException_Throwable_cause : Cond.lays "java/lang/IllegalStateException" "java/lang/Throwable" "cause" "Ljava/lang/Throwable;" ∈ xT := xT_5 (i := 233) rfl rfl
theorem mL_IllegalStateException_Throwable_stackTrace : Cond.lays "java/lang/IllegalStateException" "java/lang/Throwable" "stackTrace" "[Ljava/lang/StackTraceElement;" ∈ xT := xT_5 (i := 234) rfl rfl
theorem mL_IllegalStateException_Throwable_suppressedExceptions : Cond.lays "java/lang/IllegalStateException" "java/lang/Throwable" "suppressedExceptions" "Ljava/util/List;" ∈ xT := xT_5 (i := 235) rfl rfl
theorem mL_IllegalStateException_Throwable_detailMessage : Cond.lays "java/lang/IllegalStateException" "java/lang/Throwable" "detailMessage" "Ljava/lang/String;" ∈ xT := xT_5 (i := 236) rfl rfl
theorem mL_IllegalStateException_Throwable_backtrace : Cond.lays "java/lang/IllegalStateException" "java/lang/Throwable" "backtrace" "Ljava/lang/Object;" ∈ xT := xT_5 (i := 237) rfl rfl
theorem mM_X7_269 : Cond.methodLink RX7 269 ⟨"java/lang/IllegalStateException", "<init>", "(Ljava/lang/String;)V"⟩ ∈ xT := xT_5 (i := 239) rfl rfl
theorem mI_IllegalStateException_init_S : Cond.instanceMethod ⟨"java/lang/IllegalStateException", "<init>", "(Ljava/lang/String;)V"⟩ ∈ xT := xT_6 (i := 0) rfl rfl
theorem mC_IllegalStateException_init_S : Cond.code ⟨"java/lang/IllegalStateException", "<init>", "(Ljava/lang/String;)V"⟩ prog_22_method_2_code 2 none ∈ xT := xT_6 (i := 1) rfl rfl
theorem mM_IllegalStateException_7 : Cond.methodLink "java/lang/IllegalStateException" 7 ⟨"java/lang/RuntimeException", "<init>", "(Ljava/lang/String;)V"⟩ ∈ xT := xT_6 (i := 2) rfl rfl
theorem mL_IllegalStateException_Throwable_depth : Cond.lays "java/lang/IllegalStateException" "java/lang/Throwable" "depth" "I" ∈ xT := xT_6 (i := 3) rfl rfl
theorem mU_IllegalStateException_RuntimeException : Cond.superclass "java/lang/IllegalStateException" "java/lang/RuntimeException" ∈ xT := xT_6 (i := 4) rfl rfl
theorem mM_L_233 : Cond.methodLink RL 233 yL_perform ∈ xT := xT_6 (i := 5) rfl rfl
theorem mS_L_perform : Cond.static yL_perform ∈ xT := xT_6 (i := 6) rfl rfl
theorem mC_L_perform : Cond.codeWith yL_perform cL_perform 3 (some .int) [((0), (8), (11), (17))] ∈ xT := xT_6 (i := 7) rfl rfl
theorem mM_L_111 : Cond.methodLink RL 111 yX7_perform ∈ xT := xT_6 (i := 8) rfl rfl
theorem mI_X7_perform : Cond.instanceMethod yX7_perform ∈ xT := xT_6 (i := 9) rfl rfl
theorem mV_X7_perform : Cond.selects RX7 yX7_perform yX7_perform ∈ xT := xT_6 (i := 10) rfl rfl
theorem mC_X7_perform : Cond.code yX7_perform cX7_perform 3 (some .int) ∈ xT := xT_6 (i := 11) rfl rfl
theorem mM_X7_270 : Cond.methodLink RX7 270 yX2_countCommands ∈ xT := xT_6 (i := 12) rfl rfl
theorem mI_X2_countCommands : Cond.instanceMethod yX2_countCommands ∈ xT := xT_6 (i := 13) rfl rfl
theorem mV_X2_countCommands : Cond.selects RX2 yX2_countCommands yX2_countCommands ∈ xT := xT_6 (i := 14) rfl rfl
theorem mC_X2_countCommands : Cond.code yX2_countCommands cX2_countCommands 2 (some .int) ∈ xT := xT_6 (i := 15) rfl rfl
theorem mM_X2_22 : Cond.methodLink RX2 22 yX2_rewind ∈ xT := xT_6 (i := 16) rfl rfl
theorem mI_X2_rewind : Cond.instanceMethod yX2_rewind ∈ xT := xT_6 (i := 17) rfl rfl
theorem mV_X2_rewind : Cond.selects RX2 yX2_rewind yX2_rewind ∈ xT := xT_6 (i := 18) rfl rfl
theorem mC_X2_rewind : Cond.code yX2_rewind cX2_rewind 1 none ∈ xT := xT_6 (i := 19) rfl rfl
theorem mM_X2_25 : Cond.methodLink RX2 25 yX2_readCommand ∈ xT := xT_6 (i := 20) rfl rfl
theorem mI_X2_readCommand : Cond.instanceMethod yX2_readCommand ∈ xT := xT_6 (i := 21) rfl rfl
theorem mV_X2_readCommand : Cond.selects RX2 yX2_readCommand yX2_readCommand ∈ xT := xT_6 (i := 22) rfl rfl
theorem mC_X2_readCommand : Cond.code yX2_readCommand cX2_readCommand 1 (some .boolean) ∈ xT := xT_6 (i := 23) rfl rfl
theorem mM_X2_33 : Cond.methodLink RX2 33 yX2_readVerb ∈ xT := xT_6 (i := 24) rfl rfl
theorem mI_X2_readVerb : Cond.instanceMethod yX2_readVerb ∈ xT := xT_6 (i := 26) rfl rfl
theorem mC_X2_readVerb : Cond.code yX2_readVerb cX2_readVerb 5 (some (.object "TeaChests$Verb")) ∈ xT := xT_6 (i := 27) rfl rfl
theorem mM_X2_98 : Cond.methodLink RX2 98 yX2_readWord ∈ xT := xT_6 (i := 30) rfl rfl
theorem mI_X2_readWord : Cond.instanceMethod yX2_readWord ∈ xT := xT_6 (i := 32) rfl rfl
theorem mC_X2_readWord : Cond.code yX2_readWord cX2_readWord 3 (some .boolean) ∈ xT := xT_6 (i := 33) rfl rfl
theorem mM_X2_112 : Cond.methodLink RX2 112 yJ0_length_8abf5 ∈ xT := xT_6 (i := 34) rfl rfl
theorem mM_X2_65 : Cond.methodLink RX2 65 yX2_signAt ∈ xT := xT_6 (i := 35) rfl rfl
theorem mI_X2_signAt : Cond.instanceMethod yX2_signAt ∈ xT := xT_6 (i := 37) rfl rfl
theorem mC_X2_signAt : Cond.code yX2_signAt cX2_signAt 2 (some .int) ∈ xT := xT_6 (i := 38) rfl rfl
theorem mM_X2_116 : Cond.methodLink RX2 116 yJ0_charAt_5068e ∈ xT := xT_6 (i := 39) rfl rfl
theorem mM_X2_120 : Cond.methodLink RX2 120 Lib.Math.max.name ∈ xT := xT_6 (i := 40) rfl rfl
theorem mF_X2_41 : Cond.fieldLink RX2 41 "TeaChests$1" "$SwitchMap$TeaChests$Verb" "[I" ∈ xT := xT_6 (i := 41) rfl rfl
theorem mM_X2_47 : Cond.methodLink RX2 47 ⟨RX6, "ordinal", "()I"⟩ ∈ xT := xT_6 (i := 43) rfl rfl
theorem mE_X6_Jx29ce0_ordinal_10780 : Cond.sameMethod RX6 RJx29ce0 "ordinal" "()I" ∈ xT := xT_6 (i := 44) rfl rfl
theorem mV_X6_TeaChests_Verb_ordinal_Jx29ce0_ordinal_8abf5 : Cond.selects RX6 ⟨RX6, "ordinal", "()I"⟩ yJx29ce0_ordinal_8abf5 ∈ xT := xT_6 (i := 46) rfl rfl
theorem mI_Jx29ce0_ordinal_8abf5 : Cond.instanceMethod yJx29ce0_ordinal_8abf5 ∈ xT := xT_6 (i := 47) rfl rfl
theorem mC_Jx29ce0_ordinal_8abf5 : Cond.code yJx29ce0_ordinal_8abf5 cJx29ce0_ordinal_8abf5 1 (some .int) ∈ xT := xT_6 (i := 48) rfl rfl
theorem mM_X2_53 : Cond.methodLink RX2 53 yX2_readManyAsNumber ∈ xT := xT_6 (i := 49) rfl rfl
theorem mI_X2_readManyAsNumber : Cond.instanceMethod yX2_readManyAsNumber ∈ xT := xT_6 (i := 51) rfl rfl
theorem mC_X2_readManyAsNumber : Cond.code yX2_readManyAsNumber cX2_readManyAsNumber 1 (some .boolean) ∈ xT := xT_6 (i := 52) rfl rfl
theorem mM_X2_78 : Cond.methodLink RX2 78 yX2_readNumber ∈ xT := xT_6 (i := 53) rfl rfl
theorem mI_X2_readNumber : Cond.instanceMethod yX2_readNumber ∈ xT := xT_6 (i := 55) rfl rfl
theorem mC_X2_readNumber : Cond.code yX2_readNumber cX2_readNumber 3 (some .int) ∈ xT := xT_6 (i := 56) rfl rfl
theorem mM_X2_69 : Cond.methodLink RX2 69 yX2_readDigit ∈ xT := xT_6 (i := 57) rfl rfl
theorem mI_X2_readDigit : Cond.instanceMethod yX2_readDigit ∈ xT := xT_6 (i := 59) rfl rfl
theorem mC_X2_readDigit : Cond.code yX2_readDigit cX2_readDigit 2 (some .int) ∈ xT := xT_6 (i := 60) rfl rfl
theorem mM_X2_56 : Cond.methodLink RX2 56 yX2_readChest ∈ xT := xT_6 (i := 61) rfl rfl
theorem mI_X2_readChest : Cond.instanceMethod yX2_readChest ∈ xT := xT_6 (i := 63) rfl rfl
theorem mC_X2_readChest : Cond.code yX2_readChest cX2_readChest 1 (some .boolean) ∈ xT := xT_6 (i := 64) rfl rfl
theorem mM_X2_29 : Cond.methodLink RX2 29 yX2_readSign ∈ xT := xT_6 (i := 65) rfl rfl
theorem mI_X2_readSign : Cond.instanceMethod yX2_readSign ∈ xT := xT_6 (i := 66) rfl rfl
theorem mV_X2_readSign : Cond.selects RX2 yX2_readSign yX2_readSign ∈ xT := xT_6 (i := 67) rfl rfl
theorem mC_X2_readSign : Cond.code yX2_readSign cX2_readSign 2 (some .boolean) ∈ xT := xT_6 (i := 68) rfl rfl
theorem mM_X2_59 : Cond.methodLink RX2 59 yX2_readLeaf ∈ xT := xT_6 (i := 69) rfl rfl
theorem mI_X2_readLeaf : Cond.instanceMethod yX2_readLeaf ∈ xT := xT_6 (i := 71) rfl rfl
theorem mC_X2_readLeaf : Cond.code yX2_readLeaf cX2_readLeaf 1 (some .boolean) ∈ xT := xT_6 (i := 72) rfl rfl
theorem mM_X2_75 : Cond.methodLink RX2 75 yX2_readKind ∈ xT := xT_6 (i := 73) rfl rfl
theorem mI_X2_readKind : Cond.instanceMethod yX2_readKind ∈ xT := xT_6 (i := 75) rfl rfl
theorem mC_X2_readKind : Cond.code yX2_readKind cX2_readKind 2 (some .boolean) ∈ xT := xT_6 (i := 76) rfl rfl
theorem mM_X2_62 : Cond.methodLink RX2 62 yX2_readManyAsDigit ∈ xT := xT_6 (i := 78) rfl rfl
theorem mI_X2_readManyAsDigit : Cond.instanceMethod yX2_readManyAsDigit ∈ xT := xT_6 (i := 80) rfl rfl
theorem mC_X2_readManyAsDigit : Cond.code yX2_readManyAsDigit cX2_readManyAsDigit 1 (some .boolean) ∈ xT := xT_6 (i := 81) rfl rfl
theorem mM_X7_273 : Cond.methodLink RX7 273 yX2_clear ∈ xT := xT_6 (i := 82) rfl rfl
theorem mI_X2_clear : Cond.instanceMethod yX2_clear ∈ xT := xT_6 (i := 83) rfl rfl
theorem mV_X2_clear : Cond.selects RX2 yX2_clear yX2_clear ∈ xT := xT_6 (i := 84) rfl rfl
theorem mC_X2_clear : Cond.code yX2_clear cX2_clear 1 none ∈ xT := xT_6 (i := 85) rfl rfl
theorem mM_X7_276 : Cond.methodLink RX7 276 yX7_carryOutAll ∈ xT := xT_6 (i := 86) rfl rfl
theorem mI_X7_carryOutAll : Cond.instanceMethod yX7_carryOutAll ∈ xT := xT_6 (i := 88) rfl rfl
theorem mC_X7_carryOutAll : Cond.code yX7_carryOutAll cX7_carryOutAll 3 (some .int) ∈ xT := xT_6 (i := 89) rfl rfl
theorem mM_X7_325 : Cond.methodLink RX7 325 yX2_rewind ∈ xT := xT_6 (i := 90) rfl rfl
theorem mM_X7_328 : Cond.methodLink RX7 328 yX2_readCommand ∈ xT := xT_6 (i := 91) rfl rfl
theorem mM_X7_331 : Cond.methodLink RX7 331 yX7_carryOutRead ∈ xT := xT_6 (i := 92) rfl rfl
theorem mI_X7_carryOutRead : Cond.instanceMethod yX7_carryOutRead ∈ xT := xT_6 (i := 94) rfl rfl
theorem mC_X7_carryOutRead : Cond.code yX7_carryOutRead cX7_carryOutRead 3 (some .boolean) ∈ xT := xT_6 (i := 95) rfl rfl
theorem mF_X7_341 : Cond.fieldLink RX7 341 "TeaChests$Verb" "SAIL" "LTeaChests$Verb;" ∈ xT := xT_6 (i := 96) rfl rfl
theorem mF_X7_346 : Cond.fieldLink RX7 346 "TeaChests$Verb" "HOURS" "LTeaChests$Verb;" ∈ xT := xT_6 (i := 98) rfl rfl
theorem mF_X7_355 : Cond.fieldLink RX7 355 "TeaChests$1" "$SwitchMap$TeaChests$Verb" "[I" ∈ xT := xT_6 (i := 100) rfl rfl
theorem mM_X7_361 : Cond.methodLink RX7 361 ⟨RX6, "ordinal", "()I"⟩ ∈ xT := xT_6 (i := 101) rfl rfl
theorem mM_X7_334 : Cond.methodLink RX7 334 yX2_readSign ∈ xT := xT_6 (i := 102) rfl rfl
theorem mM_X7_279 : Cond.methodLink RX7 279 yX3_dropPrepared ∈ xT := xT_6 (i := 103) rfl rfl
theorem mI_X3_dropPrepared : Cond.instanceMethod yX3_dropPrepared ∈ xT := xT_6 (i := 104) rfl rfl
theorem mV_X3_dropPrepared : Cond.selects RX3 yX3_dropPrepared yX3_dropPrepared ∈ xT := xT_6 (i := 105) rfl rfl
theorem mC_X3_dropPrepared : Cond.code yX3_dropPrepared cX3_dropPrepared 2 none ∈ xT := xT_6 (i := 106) rfl rfl
theorem mM_X7_282 : Cond.methodLink RX7 282 yX4_refuse ∈ xT := xT_6 (i := 107) rfl rfl
theorem mM_L_236 : Cond.methodLink RL 236 yL_undo ∈ xT := xT_6 (i := 108) rfl rfl
theorem mS_L_undo : Cond.static yL_undo ∈ xT := xT_6 (i := 109) rfl rfl
theorem mC_L_undo : Cond.codeWith yL_undo cL_undo 3 (some .int) [((0), (8), (11), (109))] ∈ xT := xT_6 (i := 110) rfl rfl
theorem mM_L_114 : Cond.methodLink RL 114 yX7_undo ∈ xT := xT_6 (i := 111) rfl rfl
theorem mI_X7_undo : Cond.instanceMethod yX7_undo ∈ xT := xT_6 (i := 112) rfl rfl
theorem mV_X7_undo : Cond.selects RX7 yX7_undo yX7_undo ∈ xT := xT_6 (i := 113) rfl rfl
theorem mC_X7_undo : Cond.code yX7_undo cX7_undo 1 (some .int) ∈ xT := xT_6 (i := 114) rfl rfl
theorem mM_X7_285 : Cond.methodLink RX7 285 yX3_takeBack ∈ xT := xT_6 (i := 115) rfl rfl
theorem mI_X3_takeBack : Cond.instanceMethod yX3_takeBack ∈ xT := xT_6 (i := 116) rfl rfl
theorem mV_X3_takeBack : Cond.selects RX3 yX3_takeBack yX3_takeBack ∈ xT := xT_6 (i := 117) rfl rfl
theorem mC_X3_takeBack : Cond.code yX3_takeBack cX3_takeBack 2 (some .boolean) ∈ xT := xT_6 (i := 118) rfl rfl
theorem mM_L_243 : Cond.methodLink RL 243 yL_restore ∈ xT := xT_6 (i := 120) rfl rfl
theorem mS_L_restore : Cond.static yL_restore ∈ xT := xT_6 (i := 121) rfl rfl
theorem mC_L_restore : Cond.codeWith yL_restore cL_restore 3 (some .int) [((0), (8), (11), (109))] ∈ xT := xT_6 (i := 122) rfl rfl
theorem mM_L_117 : Cond.methodLink RL 117 yX7_restore ∈ xT := xT_6 (i := 123) rfl rfl
theorem mI_X7_restore : Cond.instanceMethod yX7_restore ∈ xT := xT_6 (i := 124) rfl rfl
theorem mV_X7_restore : Cond.selects RX7 yX7_restore yX7_restore ∈ xT := xT_6 (i := 125) rfl rfl
theorem mC_X7_restore : Cond.code yX7_restore cX7_restore 1 (some .int) ∈ xT := xT_6 (i := 126) rfl rfl
theorem mM_X7_296 : Cond.methodLink RX7 296 yX3_forget ∈ xT := xT_6 (i := 128) rfl rfl
theorem mI_X3_forget : Cond.instanceMethod yX3_forget ∈ xT := xT_6 (i := 129) rfl rfl
theorem mV_X3_forget : Cond.selects RX3 yX3_forget yX3_forget ∈ xT := xT_6 (i := 130) rfl rfl
theorem mC_X3_forget : Cond.code yX3_forget cX3_forget 1 none ∈ xT := xT_6 (i := 131) rfl rfl
theorem mK_L_121 : Cond.classLink RL 121 RX8 ∈ xT := xT_6 (i := 132) rfl rfl
theorem mA_X8 : Cond.instantiable RX8 21 ∈ xT := xT_6 (i := 133) rfl rfl
theorem mM_L_123 : Cond.methodLink RL 123 yX8_init ∈ xT := xT_6 (i := 134) rfl rfl
theorem mI_X8_init : Cond.instanceMethod yX8_init ∈ xT := xT_6 (i := 135) rfl rfl
theorem mC_X8_init : Cond.code yX8_init cX8_init 1 none ∈ xT := xT_6 (i := 136) rfl rfl
theorem mM_X8_1 : Cond.methodLink RX8 1 Lib.objectInit ∈ xT := xT_6 (i := 137) rfl rfl
theorem mF_X8_34 : Cond.fieldLink RX8 34 "TeaChestsModel" "thrown" "I" ∈ xT := xT_6 (i := 138) rfl rfl
theorem mF_X8_38 : Cond.fieldLink RX8 38 "TeaChestsModel" "fails" "I" ∈ xT := xT_6 (i := 139) rfl rfl
theorem mF_X8_64 : Cond.fieldLink RX8 64 "TeaChestsModel" "changes" "I" ∈ xT := xT_6 (i := 140) rfl rfl
theorem mF_X8_55 : Cond.fieldLink RX8 55 "TeaChestsModel" "why" "I" ∈ xT := xT_6 (i := 141) rfl rfl
theorem mF_X8_58 : Cond.fieldLink RX8 58 "TeaChestsModel" "detail" "I" ∈ xT := xT_6 (i := 142) rfl rfl
theorem mF_X8_41 : Cond.fieldLink RX8 41 "TeaChestsModel" "lastWhy" "I" ∈ xT := xT_6 (i := 143) rfl rfl
theorem mF_X8_44 : Cond.fieldLink RX8 44 "TeaChestsModel" "lastDetail" "I" ∈ xT := xT_6 (i := 144) rfl rfl
theorem mF_X8_229 : Cond.fieldLink RX8 229 "TeaChestsModel" "isSaved" "Z" ∈ xT := xT_6 (i := 145) rfl rfl
theorem mF_X8_7 : Cond.fieldLink RX8 7 "TeaChestsModel" "v" "[I" ∈ xT := xT_6 (i := 146) rfl rfl
theorem mF_X8_13 : Cond.fieldLink RX8 13 "TeaChestsModel" "before" "[I" ∈ xT := xT_6 (i := 147) rfl rfl
theorem mF_X8_16 : Cond.fieldLink RX8 16 "TeaChestsModel" "saved" "[I" ∈ xT := xT_6 (i := 148) rfl rfl
theorem mF_X8_19 : Cond.fieldLink RX8 19 "TeaChestsModel" "past" "[I" ∈ xT := xT_6 (i := 149) rfl rfl
theorem mF_X8_22 : Cond.fieldLink RX8 22 "TeaChestsModel" "label" "[I" ∈ xT := xT_6 (i := 150) rfl rfl
theorem mF_X8_136 : Cond.fieldLink RX8 136 "TeaChestsModel" "labelN" "I" ∈ xT := xT_6 (i := 151) rfl rfl
theorem mF_X8_25 : Cond.fieldLink RX8 25 "TeaChestsModel" "input" "[I" ∈ xT := xT_6 (i := 152) rfl rfl
theorem mF_X8_28 : Cond.fieldLink RX8 28 "TeaChestsModel" "told" "[I" ∈ xT := xT_6 (i := 153) rfl rfl
theorem mF_X8_31 : Cond.fieldLink RX8 31 "TeaChestsModel" "signs" "[I" ∈ xT := xT_6 (i := 154) rfl rfl
theorem mF_X8_195 : Cond.fieldLink RX8 195 "TeaChestsModel" "inputN" "I" ∈ xT := xT_6 (i := 155) rfl rfl
theorem mF_X8_198 : Cond.fieldLink RX8 198 "TeaChestsModel" "here" "I" ∈ xT := xT_6 (i := 156) rfl rfl
theorem mF_X8_204 : Cond.fieldLink RX8 204 "TeaChestsModel" "isWrong" "Z" ∈ xT := xT_6 (i := 157) rfl rfl
theorem mF_X8_217 : Cond.fieldLink RX8 217 "TeaChestsModel" "isDoing" "Z" ∈ xT := xT_6 (i := 158) rfl rfl
theorem mL_X8_X8_thrown : Cond.lays RX8 RX8 "thrown" "I" ∈ xT := xT_6 (i := 159) rfl rfl
theorem mL_X8_X8_fails : Cond.lays RX8 RX8 "fails" "I" ∈ xT := xT_6 (i := 161) rfl rfl
theorem mL_X8_X8_changes : Cond.lays RX8 RX8 "changes" "I" ∈ xT := xT_6 (i := 163) rfl rfl
theorem mL_X8_X8_why : Cond.lays RX8 RX8 "why" "I" ∈ xT := xT_6 (i := 165) rfl rfl
theorem mL_X8_X8_detail : Cond.lays RX8 RX8 "detail" "I" ∈ xT := xT_6 (i := 167) rfl rfl
theorem mL_X8_X8_lastWhy : Cond.lays RX8 RX8 "lastWhy" "I" ∈ xT := xT_6 (i := 169) rfl rfl
theorem mL_X8_X8_lastDetail : Cond.lays RX8 RX8 "lastDetail" "I" ∈ xT := xT_6 (i := 171) rfl rfl
theorem mL_X8_X8_isSaved : Cond.lays RX8 RX8 "isSaved" "Z" ∈ xT := xT_6 (i := 173) rfl rfl
theorem mL_X8_X8_v : Cond.laysFinal RX8 RX8 "v" "[I" ∈ xT := xT_6 (i := 175) rfl rfl
theorem mL_X8_X8_before : Cond.laysFinal RX8 RX8 "before" "[I" ∈ xT := xT_6 (i := 177) rfl rfl
theorem mL_X8_X8_saved : Cond.laysFinal RX8 RX8 "saved" "[I" ∈ xT := xT_6 (i := 179) rfl rfl
theorem mL_X8_X8_past : Cond.laysFinal RX8 RX8 "past" "[I" ∈ xT := xT_6 (i := 181) rfl rfl
theorem mL_X8_X8_label : Cond.laysFinal RX8 RX8 "label" "[I" ∈ xT := xT_6 (i := 183) rfl rfl
theorem mL_X8_X8_labelN : Cond.lays RX8 RX8 "labelN" "I" ∈ xT := xT_6 (i := 185) rfl rfl
theorem mL_X8_X8_input : Cond.laysFinal RX8 RX8 "input" "[I" ∈ xT := xT_6 (i := 187) rfl rfl
theorem mL_X8_X8_told : Cond.laysFinal RX8 RX8 "told" "[I" ∈ xT := xT_6 (i := 189) rfl rfl
theorem mL_X8_X8_signs : Cond.laysFinal RX8 RX8 "signs" "[I" ∈ xT := xT_6 (i := 191) rfl rfl
theorem mL_X8_X8_inputN : Cond.lays RX8 RX8 "inputN" "I" ∈ xT := xT_6 (i := 193) rfl rfl
theorem mL_X8_X8_here : Cond.lays RX8 RX8 "here" "I" ∈ xT := xT_6 (i := 195) rfl rfl
theorem mL_X8_X8_isWrong : Cond.lays RX8 RX8 "isWrong" "Z" ∈ xT := xT_6 (i := 197) rfl rfl
theorem mL_X8_X8_isDoing : Cond.lays RX8 RX8 "isDoing" "Z" ∈ xT := xT_6 (i := 199) rfl rfl
theorem mU_X8_Object : Cond.superclass RX8 "java/lang/Object" ∈ xT := xT_6 (i := 201) rfl rfl
theorem mM_L_165 : Cond.methodLink RL 165 yX8_thrown ∈ xT := xT_6 (i := 202) rfl rfl
theorem mI_X8_thrown : Cond.instanceMethod yX8_thrown ∈ xT := xT_6 (i := 203) rfl rfl
theorem mV_X8_thrown : Cond.selects RX8 yX8_thrown yX8_thrown ∈ xT := xT_6 (i := 204) rfl rfl
theorem mC_X8_thrown : Cond.code yX8_thrown cX8_thrown 1 (some .int) ∈ xT := xT_6 (i := 205) rfl rfl
theorem mM_L_129 : Cond.methodLink RL 129 yX8_bring ∈ xT := xT_6 (i := 206) rfl rfl
theorem mI_X8_bring : Cond.instanceMethod yX8_bring ∈ xT := xT_6 (i := 207) rfl rfl
theorem mV_X8_bring : Cond.selects RX8 yX8_bring yX8_bring ∈ xT := xT_6 (i := 208) rfl rfl
theorem mC_X8_bring : Cond.code yX8_bring cX8_bring 4 (some .int) ∈ xT := xT_6 (i := 209) rfl rfl
theorem mM_X8_85 : Cond.methodLink RX8 85 yX8_begins ∈ xT := xT_6 (i := 210) rfl rfl
theorem mI_X8_begins : Cond.instanceMethod yX8_begins ∈ xT := xT_6 (i := 212) rfl rfl
theorem mC_X8_begins : Cond.code yX8_begins cX8_begins 1 none ∈ xT := xT_6 (i := 213) rfl rfl
theorem mM_X8_51 : Cond.methodLink RX8 51 yX8_lays ∈ xT := xT_6 (i := 214) rfl rfl
theorem mS_X8_lays : Cond.static yX8_lays ∈ xT := xT_6 (i := 215) rfl rfl
theorem mC_X8_lays : Cond.code yX8_lays cX8_lays 3 none ∈ xT := xT_6 (i := 216) rfl rfl
theorem mM_X8_88 : Cond.methodLink RX8 88 yX8_brings ∈ xT := xT_6 (i := 217) rfl rfl
theorem mI_X8_brings : Cond.instanceMethod yX8_brings ∈ xT := xT_6 (i := 219) rfl rfl
theorem mC_X8_brings : Cond.code yX8_brings cX8_brings 5 (some .int) ∈ xT := xT_6 (i := 220) rfl rfl
theorem mM_X8_75 : Cond.methodLink RX8 75 yX8_isLeaf ∈ xT := xT_6 (i := 221) rfl rfl
theorem mS_X8_isLeaf : Cond.static yX8_isLeaf ∈ xT := xT_6 (i := 222) rfl rfl
theorem mC_X8_isLeaf : Cond.code yX8_isLeaf cX8_isLeaf 2 (some .boolean) ∈ xT := xT_6 (i := 223) rfl rfl
theorem mM_X8_67 : Cond.methodLink RX8 67 yX8_isIn ∈ xT := xT_6 (i := 224) rfl rfl
theorem mS_X8_isIn : Cond.static yX8_isIn ∈ xT := xT_6 (i := 225) rfl rfl
theorem mC_X8_isIn : Cond.code yX8_isIn cX8_isIn 3 (some .boolean) ∈ xT := xT_6 (i := 226) rfl rfl
theorem mM_X8_47 : Cond.methodLink RX8 47 yX8_fail ∈ xT := xT_6 (i := 227) rfl rfl
theorem mI_X8_fail : Cond.instanceMethod yX8_fail ∈ xT := xT_6 (i := 229) rfl rfl
theorem mC_X8_fail : Cond.code yX8_fail cX8_fail 2 (some .int) ∈ xT := xT_6 (i := 230) rfl rfl
theorem mM_X8_79 : Cond.methodLink RX8 79 yX8_leaf ∈ xT := xT_6 (i := 231) rfl rfl
theorem mS_X8_leaf : Cond.static yX8_leaf ∈ xT := xT_6 (i := 232) rfl rfl
theorem mC_X8_leaf : Cond.code yX8_leaf cX8_leaf 2 (some .int) ∈ xT := xT_6 (i := 233) rfl rfl
theorem mM_X8_82 : Cond.methodLink RX8 82 yX8_refuses ∈ xT := xT_6 (i := 234) rfl rfl
theorem mI_X8_refuses : Cond.instanceMethod yX8_refuses ∈ xT := xT_6 (i := 236) rfl rfl
theorem mC_X8_refuses : Cond.code yX8_refuses cX8_refuses 3 (some .int) ∈ xT := xT_6 (i := 237) rfl rfl
theorem mM_X8_92 : Cond.methodLink RX8 92 yX8_ends ∈ xT := xT_6 (i := 238) rfl rfl
theorem mI_X8_ends : Cond.instanceMethod yX8_ends ∈ xT := xT_7 (i := 0) rfl rfl
theorem mC_X8_ends : Cond.code yX8_ends cX8_ends 6 (some .int) ∈ xT := xT_7 (i := 1) rfl rfl
theorem mM_X8_61 : Cond.methodLink RX8 61 yX8_no ∈ xT := xT_7 (i := 2) rfl rfl
theorem mI_X8_no : Cond.instanceMethod yX8_no ∈ xT := xT_7 (i := 4) rfl rfl
theorem mC_X8_no : Cond.code yX8_no cX8_no 2 (some .int) ∈ xT := xT_7 (i := 5) rfl rfl
theorem mM_L_133 : Cond.methodLink RL 133 yX8_leaves ∈ xT := xT_7 (i := 6) rfl rfl
theorem mI_X8_leaves : Cond.instanceMethod yX8_leaves ∈ xT := xT_7 (i := 7) rfl rfl
theorem mV_X8_leaves : Cond.selects RX8 yX8_leaves yX8_leaves ∈ xT := xT_7 (i := 8) rfl rfl
theorem mC_X8_leaves : Cond.code yX8_leaves cX8_leaves 3 (some .int) ∈ xT := xT_7 (i := 9) rfl rfl
theorem mM_L_137 : Cond.methodLink RL 137 yX8_bestGarden ∈ xT := xT_7 (i := 10) rfl rfl
theorem mI_X8_bestGarden : Cond.instanceMethod yX8_bestGarden ∈ xT := xT_7 (i := 11) rfl rfl
theorem mV_X8_bestGarden : Cond.selects RX8 yX8_bestGarden yX8_bestGarden ∈ xT := xT_7 (i := 12) rfl rfl
theorem mC_X8_bestGarden : Cond.code yX8_bestGarden cX8_bestGarden 4 (some .int) ∈ xT := xT_7 (i := 13) rfl rfl
theorem mM_X8_96 : Cond.methodLink RX8 96 yX8_allOf ∈ xT := xT_7 (i := 14) rfl rfl
theorem mI_X8_allOf : Cond.instanceMethod yX8_allOf ∈ xT := xT_7 (i := 16) rfl rfl
theorem mC_X8_allOf : Cond.code yX8_allOf cX8_allOf 2 (some .int) ∈ xT := xT_7 (i := 17) rfl rfl
theorem mM_L_141 : Cond.methodLink RL 141 yX8_buy ∈ xT := xT_7 (i := 18) rfl rfl
theorem mI_X8_buy : Cond.instanceMethod yX8_buy ∈ xT := xT_7 (i := 19) rfl rfl
theorem mV_X8_buy : Cond.selects RX8 yX8_buy yX8_buy ∈ xT := xT_7 (i := 20) rfl rfl
theorem mC_X8_buy : Cond.code yX8_buy cX8_buy 3 (some .int) ∈ xT := xT_7 (i := 21) rfl rfl
theorem mM_X8_102 : Cond.methodLink RX8 102 yX8_buys ∈ xT := xT_7 (i := 22) rfl rfl
theorem mI_X8_buys : Cond.instanceMethod yX8_buys ∈ xT := xT_7 (i := 24) rfl rfl
theorem mC_X8_buys : Cond.code yX8_buys cX8_buys 3 (some .int) ∈ xT := xT_7 (i := 25) rfl rfl
theorem mM_X8_99 : Cond.methodLink RX8 99 yX8_lesser ∈ xT := xT_7 (i := 26) rfl rfl
theorem mS_X8_lesser : Cond.static yX8_lesser ∈ xT := xT_7 (i := 27) rfl rfl
theorem mC_X8_lesser : Cond.code yX8_lesser cX8_lesser 2 (some .int) ∈ xT := xT_7 (i := 28) rfl rfl
theorem mM_L_145 : Cond.methodLink RL 145 yX8_make ∈ xT := xT_7 (i := 29) rfl rfl
theorem mI_X8_make : Cond.instanceMethod yX8_make ∈ xT := xT_7 (i := 30) rfl rfl
theorem mV_X8_make : Cond.selects RX8 yX8_make yX8_make ∈ xT := xT_7 (i := 31) rfl rfl
theorem mC_X8_make : Cond.code yX8_make cX8_make 2 (some .int) ∈ xT := xT_7 (i := 32) rfl rfl
theorem mM_X8_105 : Cond.methodLink RX8 105 yX8_makes ∈ xT := xT_7 (i := 33) rfl rfl
theorem mI_X8_makes : Cond.instanceMethod yX8_makes ∈ xT := xT_7 (i := 35) rfl rfl
theorem mC_X8_makes : Cond.code yX8_makes cX8_makes 4 (some .int) ∈ xT := xT_7 (i := 36) rfl rfl
theorem mM_X8_71 : Cond.methodLink RX8 71 yX8_at ∈ xT := xT_7 (i := 37) rfl rfl
theorem mS_X8_at : Cond.static yX8_at ∈ xT := xT_7 (i := 38) rfl rfl
theorem mC_X8_at : Cond.code yX8_at cX8_at 2 (some .int) ∈ xT := xT_7 (i := 39) rfl rfl
theorem mM_L_148 : Cond.methodLink RL 148 yX8_line ∈ xT := xT_7 (i := 40) rfl rfl
theorem mI_X8_line : Cond.instanceMethod yX8_line ∈ xT := xT_7 (i := 41) rfl rfl
theorem mV_X8_line : Cond.selects RX8 yX8_line yX8_line ∈ xT := xT_7 (i := 42) rfl rfl
theorem mC_X8_line : Cond.code yX8_line cX8_line 2 (some .int) ∈ xT := xT_7 (i := 43) rfl rfl
theorem mM_X8_115 : Cond.methodLink RX8 115 yX8_linesChest ∈ xT := xT_7 (i := 44) rfl rfl
theorem mI_X8_linesChest : Cond.instanceMethod yX8_linesChest ∈ xT := xT_7 (i := 46) rfl rfl
theorem mC_X8_linesChest : Cond.code yX8_linesChest cX8_linesChest 3 (some .int) ∈ xT := xT_7 (i := 47) rfl rfl
theorem mM_X8_108 : Cond.methodLink RX8 108 yX8_isChest ∈ xT := xT_7 (i := 48) rfl rfl
theorem mI_X8_isChest : Cond.instanceMethod yX8_isChest ∈ xT := xT_7 (i := 50) rfl rfl
theorem mC_X8_isChest : Cond.code yX8_isChest cX8_isChest 2 (some .boolean) ∈ xT := xT_7 (i := 51) rfl rfl
theorem mM_X8_112 : Cond.methodLink RX8 112 yX8_isShut ∈ xT := xT_7 (i := 52) rfl rfl
theorem mI_X8_isShut : Cond.instanceMethod yX8_isShut ∈ xT := xT_7 (i := 54) rfl rfl
theorem mC_X8_isShut : Cond.code yX8_isShut cX8_isShut 3 (some .boolean) ∈ xT := xT_7 (i := 55) rfl rfl
theorem mM_L_152 : Cond.methodLink RL 152 yX8_fill ∈ xT := xT_7 (i := 56) rfl rfl
theorem mI_X8_fill : Cond.instanceMethod yX8_fill ∈ xT := xT_7 (i := 57) rfl rfl
theorem mV_X8_fill : Cond.selects RX8 yX8_fill yX8_fill ∈ xT := xT_7 (i := 58) rfl rfl
theorem mC_X8_fill : Cond.code yX8_fill cX8_fill 5 (some .int) ∈ xT := xT_7 (i := 59) rfl rfl
theorem mM_X8_121 : Cond.methodLink RX8 121 yX8_fills ∈ xT := xT_7 (i := 60) rfl rfl
theorem mI_X8_fills : Cond.instanceMethod yX8_fills ∈ xT := xT_7 (i := 62) rfl rfl
theorem mC_X8_fills : Cond.code yX8_fills cX8_fills 8 (some .int) ∈ xT := xT_7 (i := 63) rfl rfl
theorem mM_X8_118 : Cond.methodLink RX8 118 yX8_isEmpty ∈ xT := xT_7 (i := 64) rfl rfl
theorem mI_X8_isEmpty : Cond.instanceMethod yX8_isEmpty ∈ xT := xT_7 (i := 66) rfl rfl
theorem mC_X8_isEmpty : Cond.code yX8_isEmpty cX8_isEmpty 2 (some .boolean) ∈ xT := xT_7 (i := 67) rfl rfl
theorem mM_L_155 : Cond.methodLink RL 155 yX8_empty ∈ xT := xT_7 (i := 68) rfl rfl
theorem mI_X8_empty : Cond.instanceMethod yX8_empty ∈ xT := xT_7 (i := 69) rfl rfl
theorem mV_X8_empty : Cond.selects RX8 yX8_empty yX8_empty ∈ xT := xT_7 (i := 70) rfl rfl
theorem mC_X8_empty : Cond.code yX8_empty cX8_empty 2 (some .int) ∈ xT := xT_7 (i := 71) rfl rfl
theorem mM_X8_124 : Cond.methodLink RX8 124 yX8_empties ∈ xT := xT_7 (i := 72) rfl rfl
theorem mI_X8_empties : Cond.instanceMethod yX8_empties ∈ xT := xT_7 (i := 74) rfl rfl
theorem mC_X8_empties : Cond.code yX8_empties cX8_empties 5 (some .int) ∈ xT := xT_7 (i := 75) rfl rfl
theorem mM_L_158 : Cond.methodLink RL 158 yX8_screw ∈ xT := xT_7 (i := 76) rfl rfl
theorem mI_X8_screw : Cond.instanceMethod yX8_screw ∈ xT := xT_7 (i := 77) rfl rfl
theorem mV_X8_screw : Cond.selects RX8 yX8_screw yX8_screw ∈ xT := xT_7 (i := 78) rfl rfl
theorem mC_X8_screw : Cond.code yX8_screw cX8_screw 3 (some .boolean) ∈ xT := xT_7 (i := 79) rfl rfl
theorem mM_X8_130 : Cond.methodLink RX8 130 yX8_screws ∈ xT := xT_7 (i := 80) rfl rfl
theorem mI_X8_screws : Cond.instanceMethod yX8_screws ∈ xT := xT_7 (i := 82) rfl rfl
theorem mC_X8_screws : Cond.code yX8_screws cX8_screws 3 (some .int) ∈ xT := xT_7 (i := 83) rfl rfl
theorem mM_X8_127 : Cond.methodLink RX8 127 yX8_isTight ∈ xT := xT_7 (i := 84) rfl rfl
theorem mI_X8_isTight : Cond.instanceMethod yX8_isTight ∈ xT := xT_7 (i := 86) rfl rfl
theorem mC_X8_isTight : Cond.code yX8_isTight cX8_isTight 2 (some .boolean) ∈ xT := xT_7 (i := 87) rfl rfl
theorem mM_L_161 : Cond.methodLink RL 161 yX8_unscrew ∈ xT := xT_7 (i := 88) rfl rfl
theorem mI_X8_unscrew : Cond.instanceMethod yX8_unscrew ∈ xT := xT_7 (i := 89) rfl rfl
theorem mV_X8_unscrew : Cond.selects RX8 yX8_unscrew yX8_unscrew ∈ xT := xT_7 (i := 90) rfl rfl
theorem mC_X8_unscrew : Cond.code yX8_unscrew cX8_unscrew 2 (some .int) ∈ xT := xT_7 (i := 91) rfl rfl
theorem mM_X8_133 : Cond.methodLink RX8 133 yX8_unscrews ∈ xT := xT_7 (i := 92) rfl rfl
theorem mI_X8_unscrews : Cond.instanceMethod yX8_unscrews ∈ xT := xT_7 (i := 94) rfl rfl
theorem mC_X8_unscrews : Cond.code yX8_unscrews cX8_unscrews 3 (some .int) ∈ xT := xT_7 (i := 95) rfl rfl
theorem mM_L_164 : Cond.methodLink RL 164 yX8_label ∈ xT := xT_7 (i := 96) rfl rfl
theorem mI_X8_label : Cond.instanceMethod yX8_label ∈ xT := xT_7 (i := 97) rfl rfl
theorem mV_X8_label : Cond.selects RX8 yX8_label yX8_label ∈ xT := xT_7 (i := 98) rfl rfl
theorem mC_X8_label : Cond.code yX8_label cX8_label 2 (some .int) ∈ xT := xT_7 (i := 99) rfl rfl
theorem mM_X8_146 : Cond.methodLink RX8 146 yX8_labels ∈ xT := xT_7 (i := 100) rfl rfl
theorem mI_X8_labels : Cond.instanceMethod yX8_labels ∈ xT := xT_7 (i := 102) rfl rfl
theorem mC_X8_labels : Cond.code yX8_labels cX8_labels 2 (some .int) ∈ xT := xT_7 (i := 103) rfl rfl
theorem mM_X8_143 : Cond.methodLink RX8 143 yX8_writesLabel ∈ xT := xT_7 (i := 104) rfl rfl
theorem mI_X8_writesLabel : Cond.instanceMethod yX8_writesLabel ∈ xT := xT_7 (i := 106) rfl rfl
theorem mC_X8_writesLabel : Cond.code yX8_writesLabel cX8_writesLabel 5 none ∈ xT := xT_7 (i := 107) rfl rfl
theorem mM_X8_139 : Cond.methodLink RX8 139 yX8_writes ∈ xT := xT_7 (i := 108) rfl rfl
theorem mI_X8_writes : Cond.instanceMethod yX8_writes ∈ xT := xT_7 (i := 110) rfl rfl
theorem mC_X8_writes : Cond.code yX8_writes cX8_writes 2 none ∈ xT := xT_7 (i := 111) rfl rfl
theorem mM_L_170 : Cond.methodLink RL 170 yX8_labelled ∈ xT := xT_7 (i := 112) rfl rfl
theorem mI_X8_labelled : Cond.instanceMethod yX8_labelled ∈ xT := xT_7 (i := 113) rfl rfl
theorem mV_X8_labelled : Cond.selects RX8 yX8_labelled yX8_labelled ∈ xT := xT_7 (i := 114) rfl rfl
theorem mC_X8_labelled : Cond.code yX8_labelled cX8_labelled 3 (some .char) ∈ xT := xT_7 (i := 115) rfl rfl
theorem mM_L_173 : Cond.methodLink RL 173 yX8_chest ∈ xT := xT_7 (i := 116) rfl rfl
theorem mI_X8_chest : Cond.instanceMethod yX8_chest ∈ xT := xT_7 (i := 117) rfl rfl
theorem mV_X8_chest : Cond.selects RX8 yX8_chest yX8_chest ∈ xT := xT_7 (i := 118) rfl rfl
theorem mC_X8_chest : Cond.code yX8_chest cX8_chest 3 (some .int) ∈ xT := xT_7 (i := 119) rfl rfl
theorem mM_L_176 : Cond.methodLink RL 176 yX8_worth ∈ xT := xT_7 (i := 120) rfl rfl
theorem mI_X8_worth : Cond.instanceMethod yX8_worth ∈ xT := xT_7 (i := 121) rfl rfl
theorem mV_X8_worth : Cond.selects RX8 yX8_worth yX8_worth ∈ xT := xT_7 (i := 122) rfl rfl
theorem mC_X8_worth : Cond.code yX8_worth cX8_worth 2 (some .int) ∈ xT := xT_7 (i := 123) rfl rfl
theorem mM_X8_149 : Cond.methodLink RX8 149 yX8_worthOf ∈ xT := xT_7 (i := 124) rfl rfl
theorem mI_X8_worthOf : Cond.instanceMethod yX8_worthOf ∈ xT := xT_7 (i := 126) rfl rfl
theorem mC_X8_worthOf : Cond.code yX8_worthOf cX8_worthOf 3 (some .int) ∈ xT := xT_7 (i := 127) rfl rfl
theorem mM_L_179 : Cond.methodLink RL 179 yX8_ranked ∈ xT := xT_7 (i := 128) rfl rfl
theorem mI_X8_ranked : Cond.instanceMethod yX8_ranked ∈ xT := xT_7 (i := 129) rfl rfl
theorem mV_X8_ranked : Cond.selects RX8 yX8_ranked yX8_ranked ∈ xT := xT_7 (i := 130) rfl rfl
theorem mC_X8_ranked : Cond.code yX8_ranked cX8_ranked 5 (some .int) ∈ xT := xT_7 (i := 131) rfl rfl
theorem mM_X8_152 : Cond.methodLink RX8 152 yX8_isAhead ∈ xT := xT_7 (i := 132) rfl rfl
theorem mI_X8_isAhead : Cond.instanceMethod yX8_isAhead ∈ xT := xT_7 (i := 134) rfl rfl
theorem mC_X8_isAhead : Cond.code yX8_isAhead cX8_isAhead 4 (some .boolean) ∈ xT := xT_7 (i := 135) rfl rfl
theorem mM_L_182 : Cond.methodLink RL 182 yX8_toQuay ∈ xT := xT_7 (i := 136) rfl rfl
theorem mI_X8_toQuay : Cond.instanceMethod yX8_toQuay ∈ xT := xT_7 (i := 137) rfl rfl
theorem mV_X8_toQuay : Cond.selects RX8 yX8_toQuay yX8_toQuay ∈ xT := xT_7 (i := 138) rfl rfl
theorem mC_X8_toQuay : Cond.code yX8_toQuay cX8_toQuay 2 (some .int) ∈ xT := xT_7 (i := 139) rfl rfl
theorem mM_X8_158 : Cond.methodLink RX8 158 yX8_goesOut ∈ xT := xT_7 (i := 140) rfl rfl
theorem mI_X8_goesOut : Cond.instanceMethod yX8_goesOut ∈ xT := xT_7 (i := 142) rfl rfl
theorem mC_X8_goesOut : Cond.code yX8_goesOut cX8_goesOut 2 (some .int) ∈ xT := xT_7 (i := 143) rfl rfl
theorem mM_X8_155 : Cond.methodLink RX8 155 yX8_withWhere ∈ xT := xT_7 (i := 144) rfl rfl
theorem mI_X8_withWhere : Cond.instanceMethod yX8_withWhere ∈ xT := xT_7 (i := 146) rfl rfl
theorem mC_X8_withWhere : Cond.code yX8_withWhere cX8_withWhere 4 (some .int) ∈ xT := xT_7 (i := 147) rfl rfl
theorem mM_L_185 : Cond.methodLink RL 185 yX8_load ∈ xT := xT_7 (i := 148) rfl rfl
theorem mI_X8_load : Cond.instanceMethod yX8_load ∈ xT := xT_7 (i := 149) rfl rfl
theorem mV_X8_load : Cond.selects RX8 yX8_load yX8_load ∈ xT := xT_7 (i := 150) rfl rfl
theorem mC_X8_load : Cond.code yX8_load cX8_load 2 (some .int) ∈ xT := xT_7 (i := 151) rfl rfl
theorem mM_X8_168 : Cond.methodLink RX8 168 yX8_loads ∈ xT := xT_7 (i := 152) rfl rfl
theorem mI_X8_loads : Cond.instanceMethod yX8_loads ∈ xT := xT_7 (i := 154) rfl rfl
theorem mC_X8_loads : Cond.code yX8_loads cX8_loads 2 (some .int) ∈ xT := xT_7 (i := 155) rfl rfl
theorem mM_X8_161 : Cond.methodLink RX8 161 yX8_heightAt ∈ xT := xT_7 (i := 156) rfl rfl
theorem mS_X8_heightAt : Cond.static yX8_heightAt ∈ xT := xT_7 (i := 157) rfl rfl
theorem mC_X8_heightAt : Cond.code yX8_heightAt cX8_heightAt 2 (some .int) ∈ xT := xT_7 (i := 158) rfl rfl
theorem mM_X8_164 : Cond.methodLink RX8 164 yX8_room ∈ xT := xT_7 (i := 159) rfl rfl
theorem mI_X8_room : Cond.instanceMethod yX8_room ∈ xT := xT_7 (i := 161) rfl rfl
theorem mC_X8_room : Cond.code yX8_room cX8_room 3 (some .int) ∈ xT := xT_7 (i := 162) rfl rfl
theorem mM_L_189 : Cond.methodLink RL 189 yX8_sail ∈ xT := xT_7 (i := 163) rfl rfl
theorem mI_X8_sail : Cond.instanceMethod yX8_sail ∈ xT := xT_7 (i := 164) rfl rfl
theorem mV_X8_sail : Cond.selects RX8 yX8_sail yX8_sail ∈ xT := xT_7 (i := 165) rfl rfl
theorem mC_X8_sail : Cond.code yX8_sail cX8_sail 1 (some .int) ∈ xT := xT_7 (i := 166) rfl rfl
theorem mM_X8_174 : Cond.methodLink RX8 174 yX8_sails ∈ xT := xT_7 (i := 167) rfl rfl
theorem mI_X8_sails : Cond.instanceMethod yX8_sails ∈ xT := xT_7 (i := 169) rfl rfl
theorem mC_X8_sails : Cond.code yX8_sails cX8_sails 3 (some .int) ∈ xT := xT_7 (i := 170) rfl rfl
theorem mM_X8_171 : Cond.methodLink RX8 171 yX8_cargoOf ∈ xT := xT_7 (i := 171) rfl rfl
theorem mI_X8_cargoOf : Cond.instanceMethod yX8_cargoOf ∈ xT := xT_7 (i := 173) rfl rfl
theorem mC_X8_cargoOf : Cond.code yX8_cargoOf cX8_cargoOf 3 (some .int) ∈ xT := xT_7 (i := 174) rfl rfl
theorem mM_L_193 : Cond.methodLink RL 193 yX8_cargo ∈ xT := xT_7 (i := 175) rfl rfl
theorem mI_X8_cargo : Cond.instanceMethod yX8_cargo ∈ xT := xT_7 (i := 176) rfl rfl
theorem mV_X8_cargo : Cond.selects RX8 yX8_cargo yX8_cargo ∈ xT := xT_7 (i := 177) rfl rfl
theorem mC_X8_cargo : Cond.code yX8_cargo cX8_cargo 1 (some .int) ∈ xT := xT_7 (i := 178) rfl rfl
theorem mM_L_196 : Cond.methodLink RL 196 yX8_height ∈ xT := xT_7 (i := 179) rfl rfl
theorem mI_X8_height : Cond.instanceMethod yX8_height ∈ xT := xT_7 (i := 180) rfl rfl
theorem mV_X8_height : Cond.selects RX8 yX8_height yX8_height ∈ xT := xT_7 (i := 181) rfl rfl
theorem mC_X8_height : Cond.code yX8_height cX8_height 2 (some .int) ∈ xT := xT_7 (i := 182) rfl rfl
theorem mM_L_199 : Cond.methodLink RL 199 yX8_heightAgain ∈ xT := xT_7 (i := 183) rfl rfl
theorem mI_X8_heightAgain : Cond.instanceMethod yX8_heightAgain ∈ xT := xT_7 (i := 184) rfl rfl
theorem mV_X8_heightAgain : Cond.selects RX8 yX8_heightAgain yX8_heightAgain ∈ xT := xT_7 (i := 185) rfl rfl
theorem mC_X8_heightAgain : Cond.code yX8_heightAgain cX8_heightAgain 2 (some .int) ∈ xT := xT_7 (i := 186) rfl rfl
theorem mM_X8_177 : Cond.methodLink RX8 177 yX8_height ∈ xT := xT_7 (i := 187) rfl rfl
theorem mM_L_203 : Cond.methodLink RL 203 yX8_reachedIn ∈ xT := xT_7 (i := 188) rfl rfl
theorem mI_X8_reachedIn : Cond.instanceMethod yX8_reachedIn ∈ xT := xT_7 (i := 189) rfl rfl
theorem mV_X8_reachedIn : Cond.selects RX8 yX8_reachedIn yX8_reachedIn ∈ xT := xT_7 (i := 190) rfl rfl
theorem mC_X8_reachedIn : Cond.code yX8_reachedIn cX8_reachedIn 2 (some .int) ∈ xT := xT_7 (i := 191) rfl rfl
theorem mM_L_206 : Cond.methodLink RL 206 yX8_setHumidity ∈ xT := xT_7 (i := 192) rfl rfl
theorem mI_X8_setHumidity : Cond.instanceMethod yX8_setHumidity ∈ xT := xT_7 (i := 193) rfl rfl
theorem mV_X8_setHumidity : Cond.selects RX8 yX8_setHumidity yX8_setHumidity ∈ xT := xT_7 (i := 194) rfl rfl
theorem mC_X8_setHumidity : Cond.code yX8_setHumidity cX8_setHumidity 2 (some .int) ∈ xT := xT_7 (i := 195) rfl rfl
theorem mM_X8_180 : Cond.methodLink RX8 180 yX8_humid ∈ xT := xT_7 (i := 196) rfl rfl
theorem mI_X8_humid : Cond.instanceMethod yX8_humid ∈ xT := xT_7 (i := 198) rfl rfl
theorem mC_X8_humid : Cond.code yX8_humid cX8_humid 3 (some .int) ∈ xT := xT_7 (i := 199) rfl rfl
theorem mM_L_209 : Cond.methodLink RL 209 yX8_pass ∈ xT := xT_7 (i := 200) rfl rfl
theorem mI_X8_pass : Cond.instanceMethod yX8_pass ∈ xT := xT_7 (i := 201) rfl rfl
theorem mV_X8_pass : Cond.selects RX8 yX8_pass yX8_pass ∈ xT := xT_7 (i := 202) rfl rfl
theorem mC_X8_pass : Cond.code yX8_pass cX8_pass 2 (some .int) ∈ xT := xT_7 (i := 203) rfl rfl
theorem mM_X8_186 : Cond.methodLink RX8 186 yX8_passes ∈ xT := xT_7 (i := 204) rfl rfl
theorem mI_X8_passes : Cond.instanceMethod yX8_passes ∈ xT := xT_7 (i := 206) rfl rfl
theorem mC_X8_passes : Cond.code yX8_passes cX8_passes 3 (some .int) ∈ xT := xT_7 (i := 207) rfl rfl
theorem mM_X8_183 : Cond.methodLink RX8 183 yX8_hour ∈ xT := xT_7 (i := 208) rfl rfl
theorem mI_X8_hour : Cond.instanceMethod yX8_hour ∈ xT := xT_7 (i := 210) rfl rfl
theorem mC_X8_hour : Cond.code yX8_hour cX8_hour 2 none ∈ xT := xT_7 (i := 211) rfl rfl
theorem mM_L_214 : Cond.methodLink RL 214 yX8_isWell ∈ xT := xT_7 (i := 212) rfl rfl
theorem mI_X8_isWell : Cond.instanceMethod yX8_isWell ∈ xT := xT_7 (i := 213) rfl rfl
theorem mV_X8_isWell : Cond.selects RX8 yX8_isWell yX8_isWell ∈ xT := xT_7 (i := 214) rfl rfl
theorem mC_X8_isWell : Cond.code yX8_isWell cX8_isWell 3 (some .boolean) ∈ xT := xT_7 (i := 215) rfl rfl
theorem mM_X8_189 : Cond.methodLink RX8 189 yX8_stored ∈ xT := xT_7 (i := 216) rfl rfl
theorem mI_X8_stored : Cond.instanceMethod yX8_stored ∈ xT := xT_7 (i := 218) rfl rfl
theorem mC_X8_stored : Cond.code yX8_stored cX8_stored 3 (some .int) ∈ xT := xT_7 (i := 219) rfl rfl
theorem mM_X8_192 : Cond.methodLink RX8 192 yX8_packed ∈ xT := xT_7 (i := 220) rfl rfl
theorem mI_X8_packed : Cond.instanceMethod yX8_packed ∈ xT := xT_7 (i := 222) rfl rfl
theorem mC_X8_packed : Cond.code yX8_packed cX8_packed 3 (some .int) ∈ xT := xT_7 (i := 223) rfl rfl
theorem mM_L_218 : Cond.methodLink RL 218 yX8_meanDamp ∈ xT := xT_7 (i := 224) rfl rfl
theorem mI_X8_meanDamp : Cond.instanceMethod yX8_meanDamp ∈ xT := xT_7 (i := 225) rfl rfl
theorem mV_X8_meanDamp : Cond.selects RX8 yX8_meanDamp yX8_meanDamp ∈ xT := xT_7 (i := 226) rfl rfl
theorem mC_X8_meanDamp : Cond.code yX8_meanDamp cX8_meanDamp 4 (some .double) ∈ xT := xT_7 (i := 227) rfl rfl
theorem mM_L_221 : Cond.methodLink RL 221 yX8_sailedShare ∈ xT := xT_7 (i := 228) rfl rfl
theorem mI_X8_sailedShare : Cond.instanceMethod yX8_sailedShare ∈ xT := xT_7 (i := 229) rfl rfl
theorem mV_X8_sailedShare : Cond.selects RX8 yX8_sailedShare yX8_sailedShare ∈ xT := xT_7 (i := 230) rfl rfl
theorem mC_X8_sailedShare : Cond.code yX8_sailedShare cX8_sailedShare 1 (some .float) ∈ xT := xT_7 (i := 231) rfl rfl
theorem mM_L_225 : Cond.methodLink RL 225 yX8_reason ∈ xT := xT_7 (i := 232) rfl rfl
theorem mI_X8_reason : Cond.instanceMethod yX8_reason ∈ xT := xT_7 (i := 233) rfl rfl
theorem mV_X8_reason : Cond.selects RX8 yX8_reason yX8_reason ∈ xT := xT_7 (i := 234) rfl rfl
theorem mC_X8_reason : Cond.code yX8_reason cX8_reason 2 (some .int) ∈ xT := xT_7 (i := 235) rfl rfl
theorem mM_L_228 : Cond.methodLink RL 228 yX8_account ∈ xT := xT_7 (i := 236) rfl rfl
theorem mI_X8_account : Cond.instanceMethod yX8_account ∈ xT := xT_7 (i := 237) rfl rfl
theorem mV_X8_account : Cond.selects RX8 yX8_account yX8_account ∈ xT := xT_7 (i := 238) rfl rfl
theorem mC_X8_account : Cond.code yX8_account cX8_account 2 (some .int) ∈ xT := xT_7 (i := 239) rfl rfl
theorem mM_L_232 : Cond.methodLink RL 232 yX8_feed ∈ xT := xT_8 (i := 0) rfl rfl
theorem mI_X8_feed : Cond.instanceMethod yX8_feed ∈ xT := xT_8 (i := 1) rfl rfl
theorem mV_X8_feed : Cond.selects RX8 yX8_feed yX8_feed ∈ xT := xT_8 (i := 2) rfl rfl
theorem mC_X8_feed : Cond.code yX8_feed cX8_feed 2 (some .int) ∈ xT := xT_8 (i := 3) rfl rfl
theorem mM_L_235 : Cond.methodLink RL 235 yX8_perform ∈ xT := xT_8 (i := 4) rfl rfl
theorem mI_X8_perform : Cond.instanceMethod yX8_perform ∈ xT := xT_8 (i := 5) rfl rfl
theorem mV_X8_perform : Cond.selects RX8 yX8_perform yX8_perform ∈ xT := xT_8 (i := 6) rfl rfl
theorem mC_X8_perform : Cond.code yX8_perform cX8_perform 2 (some .int) ∈ xT := xT_8 (i := 7) rfl rfl
theorem mM_X8_226 : Cond.methodLink RX8 226 yX8_commands ∈ xT := xT_8 (i := 8) rfl rfl
theorem mI_X8_commands : Cond.instanceMethod yX8_commands ∈ xT := xT_8 (i := 10) rfl rfl
theorem mC_X8_commands : Cond.code yX8_commands cX8_commands 2 (some .int) ∈ xT := xT_8 (i := 11) rfl rfl
theorem mM_X8_223 : Cond.methodLink RX8 223 yX8_command ∈ xT := xT_8 (i := 12) rfl rfl
theorem mI_X8_command : Cond.instanceMethod yX8_command ∈ xT := xT_8 (i := 14) rfl rfl
theorem mC_X8_command : Cond.code yX8_command cX8_command 3 none ∈ xT := xT_8 (i := 15) rfl rfl
theorem mM_X8_208 : Cond.methodLink RX8 208 yX8_word ∈ xT := xT_8 (i := 16) rfl rfl
theorem mI_X8_word : Cond.instanceMethod yX8_word ∈ xT := xT_8 (i := 18) rfl rfl
theorem mC_X8_word : Cond.code yX8_word cX8_word 8 (some .int) ∈ xT := xT_8 (i := 19) rfl rfl
theorem mM_X8_201 : Cond.methodLink RX8 201 yX8_sign ∈ xT := xT_8 (i := 20) rfl rfl
theorem mI_X8_sign : Cond.instanceMethod yX8_sign ∈ xT := xT_8 (i := 22) rfl rfl
theorem mC_X8_sign : Cond.code yX8_sign cX8_sign 1 (some .int) ∈ xT := xT_8 (i := 23) rfl rfl
theorem mM_X8_211 : Cond.methodLink RX8 211 yX8_number ∈ xT := xT_8 (i := 24) rfl rfl
theorem mI_X8_number : Cond.instanceMethod yX8_number ∈ xT := xT_8 (i := 26) rfl rfl
theorem mC_X8_number : Cond.code yX8_number cX8_number 4 (some .int) ∈ xT := xT_8 (i := 27) rfl rfl
theorem mM_X8_214 : Cond.methodLink RX8 214 yX8_mark ∈ xT := xT_8 (i := 28) rfl rfl
theorem mI_X8_mark : Cond.instanceMethod yX8_mark ∈ xT := xT_8 (i := 30) rfl rfl
theorem mC_X8_mark : Cond.code yX8_mark cX8_mark 2 none ∈ xT := xT_8 (i := 31) rfl rfl
theorem mM_X8_220 : Cond.methodLink RX8 220 yX8_does ∈ xT := xT_8 (i := 32) rfl rfl
theorem mI_X8_does : Cond.instanceMethod yX8_does ∈ xT := xT_8 (i := 34) rfl rfl
theorem mC_X8_does : Cond.code yX8_does cX8_does 2 (some .int) ∈ xT := xT_8 (i := 35) rfl rfl
theorem mM_L_238 : Cond.methodLink RL 238 yX8_undo ∈ xT := xT_8 (i := 36) rfl rfl
theorem mI_X8_undo : Cond.instanceMethod yX8_undo ∈ xT := xT_8 (i := 37) rfl rfl
theorem mV_X8_undo : Cond.selects RX8 yX8_undo yX8_undo ∈ xT := xT_8 (i := 38) rfl rfl
theorem mC_X8_undo : Cond.code yX8_undo cX8_undo 2 (some .int) ∈ xT := xT_8 (i := 39) rfl rfl
theorem mM_L_242 : Cond.methodLink RL 242 yX8_save ∈ xT := xT_8 (i := 40) rfl rfl
theorem mI_X8_save : Cond.instanceMethod yX8_save ∈ xT := xT_8 (i := 41) rfl rfl
theorem mV_X8_save : Cond.selects RX8 yX8_save yX8_save ∈ xT := xT_8 (i := 42) rfl rfl
theorem mC_X8_save : Cond.code yX8_save cX8_save 1 (some .int) ∈ xT := xT_8 (i := 43) rfl rfl
theorem mM_L_245 : Cond.methodLink RL 245 yX8_restore ∈ xT := xT_8 (i := 44) rfl rfl
theorem mI_X8_restore : Cond.instanceMethod yX8_restore ∈ xT := xT_8 (i := 45) rfl rfl
theorem mV_X8_restore : Cond.selects RX8 yX8_restore yX8_restore ∈ xT := xT_8 (i := 46) rfl rfl
theorem mC_X8_restore : Cond.code yX8_restore cX8_restore 1 (some .int) ∈ xT := xT_8 (i := 47) rfl rfl
theorem mR_long : Cond.arrayClass .long ∈ xT := xT_8 (i := 48) rfl rfl
theorem mR_double : Cond.arrayClass .double ∈ xT := xT_8 (i := 49) rfl rfl
theorem mE_Throwable_Throwable_fillInStackTrace_56592 : Cond.sameMethod "java/lang/Throwable" "java/lang/Throwable" "fillInStackTrace" "(I)Ljava/lang/Throwable;" ∈ xT := xT_8 (i := 50) rfl rfl
theorem mE_J5_J5_append_13184 : Cond.sameMethod RJ5 RJ5 "append" "(I)Ljava/lang/AbstractStringBuilder;" ∈ xT := xT_8 (i := 51) rfl rfl
theorem mE_J5_J5_ensureCapacityInternal_94748 : Cond.sameMethod RJ5 RJ5 "ensureCapacityInternal" "(I)V" ∈ xT := xT_8 (i := 52) rfl rfl
theorem mE_J5_J5_newCapacity_19405 : Cond.sameMethod RJ5 RJ5 "newCapacity" "(I)I" ∈ xT := xT_8 (i := 53) rfl rfl
theorem mE_J5_J5_append_47419 : Cond.sameMethod RJ5 RJ5 "append" "(C)Ljava/lang/AbstractStringBuilder;" ∈ xT := xT_8 (i := 54) rfl rfl
theorem mE_J5_J5_inflate_32122 : Cond.sameMethod RJ5 RJ5 "inflate" "()V" ∈ xT := xT_8 (i := 55) rfl rfl
theorem mE_J5_J5_append_8130 : Cond.sameMethod RJ5 RJ5 "append" "(Ljava/lang/String;)Ljava/lang/AbstractStringBuilder;" ∈ xT := xT_8 (i := 56) rfl rfl
theorem mE_J5_J5_appendNull_94606 : Cond.sameMethod RJ5 RJ5 "appendNull" "()Ljava/lang/AbstractStringBuilder;" ∈ xT := xT_8 (i := 57) rfl rfl
theorem mE_J5_J5_putStringAt_28930 : Cond.sameMethod RJ5 RJ5 "putStringAt" "(ILjava/lang/String;)V" ∈ xT := xT_8 (i := 58) rfl rfl
theorem mE_J5_J5_inflateIfNeededFor_7532 : Cond.sameMethod RJ5 RJ5 "inflateIfNeededFor" "(Ljava/lang/String;)V" ∈ xT := xT_8 (i := 59) rfl rfl
theorem mF_X1_66 : Cond.fieldLink RX1 66 "TeaChests$Kind" "word" "Ljava/lang/String;" ∈ xT := xT_8 (i := 79) rfl rfl
theorem mF_X2_94 : Cond.fieldLink RX2 94 "TeaChests$Verb" "word" "Ljava/lang/String;" ∈ xT := xT_8 (i := 80) rfl rfl
theorem mF_Jx29ce0_7 : Cond.fieldLink RJx29ce0 7 "java/lang/Enum" "ordinal" "I" ∈ xT := xT_8 (i := 81) rfl rfl
theorem mF_X2_106 : Cond.fieldLink RX2 106 "TeaChests$Kind" "word" "Ljava/lang/String;" ∈ xT := xT_8 (i := 82) rfl rfl
theorem xT_list {ws : List Cond} (ps : List Nat) (hp : ws = ps.filterMap (fun i => lw_tbl[i]?)) (hg : ws.all goodWord = true) : ∀ w ∈ ws, w ∈ xT := fun w h => by
  have h1 := List.all_eq_true.mp hg w h
  rw [hp] at h
  obtain ⟨i, -, hi⟩ := List.mem_filterMap.mp h
  exact xT_in hi h1
theorem inX1 : ∀ w ∈ u_ws RX1 TX1 10, w ∈ xT := xT_list [161, 163, 165, 167, 169, 171, 173, 175, 177, 179] (by decide +kernel) (by decide +kernel)
theorem inX2 : ∀ w ∈ u_ws RX2 TX2 9, w ∈ xT := xT_list [280, 282, 284, 286, 288, 290, 292, 294, 296] (by decide +kernel) (by decide +kernel)
theorem inX3 : ∀ w ∈ u_ws RX3 TX3 3, w ∈ xT := xT_list [252, 254, 256] (by decide +kernel) (by decide +kernel)
theorem inX4 : ∀ w ∈ u_ws RX4 TX4 14, w ∈ xT := xT_list [210, 212, 214, 216, 218, 220, 222, 224, 226, 228, 230, 232, 234, 236] (by decide +kernel) (by decide +kernel)
theorem inX7 : ∀ w ∈ u_ws RX7 TX7 5, w ∈ xT := xT_list [305, 307, 309, 311, 313] (by decide +kernel) (by decide +kernel)
theorem inX8 : ∀ w ∈ u_ws RX8 TX8 21, w ∈ xT := xT_list [1436, 1438, 1440, 1442, 1444, 1446, 1448, 1450, 1452, 1454, 1456, 1458, 1460, 1462, 1464, 1466, 1468, 1470, 1472, 1474, 1476] (by decide +kernel) (by decide +kernel)
theorem inJ0 : ∀ w ∈ u_ws RJ0 TJ0 4, w ∈ xT := xT_list [483, 485, 1010, 1012] (by decide +kernel) (by decide +kernel)
theorem inJ4 : ∀ w ∈ u_ws RJ4 TJ4 4, w ∈ xT := xT_list [779, 781, 783, 785] (by decide +kernel) (by decide +kernel)
theorem yd_X1_init : yX1_init.cls ≠ "java/lang/invoke/MethodHandle" ∧ yX1_init.cls ≠ "java/lang/invoke/VarHandle" ∧ (parseMethodDescriptor yX1_init.desc).map (fun d => d.parameters.length) = some 1 := by decide +kernel
theorem yd_X1_copyFrom : yX1_copyFrom.cls ≠ "java/lang/invoke/MethodHandle" ∧ yX1_copyFrom.cls ≠ "java/lang/invoke/VarHandle" ∧ (parseMethodDescriptor yX1_copyFrom.desc).map (fun d => d.parameters.length) = some 1 := by decide +kernel
theorem yd_X1_room : yX1_room.cls ≠ "java/lang/invoke/MethodHandle" ∧ yX1_room.cls ≠ "java/lang/invoke/VarHandle" ∧ (parseMethodDescriptor yX1_room.desc).map (fun d => d.parameters.length) = some 0 := by decide +kernel
theorem yd_X1_isThere : yX1_isThere.cls ≠ "java/lang/invoke/MethodHandle" ∧ yX1_isThere.cls ≠ "java/lang/invoke/VarHandle" ∧ (parseMethodDescriptor yX1_isThere.desc).map (fun d => d.parameters.length) = some 0 := by decide +kernel
theorem yd_X1_isTight : yX1_isTight.cls ≠ "java/lang/invoke/MethodHandle" ∧ yX1_isTight.cls ≠ "java/lang/invoke/VarHandle" ∧ (parseMethodDescriptor yX1_isTight.desc).map (fun d => d.parameters.length) = some 0 := by decide +kernel
theorem yd_X1_hasLabel : yX1_hasLabel.cls ≠ "java/lang/invoke/MethodHandle" ∧ yX1_hasLabel.cls ≠ "java/lang/invoke/VarHandle" ∧ (parseMethodDescriptor yX1_hasLabel.desc).map (fun d => d.parameters.length) = some 0 := by decide +kernel
theorem yd_X1_coins : yX1_coins.cls ≠ "java/lang/invoke/MethodHandle" ∧ yX1_coins.cls ≠ "java/lang/invoke/VarHandle" ∧ (parseMethodDescriptor yX1_coins.desc).map (fun d => d.parameters.length) = some 0 := by decide +kernel
theorem yd_X1_putIn : yX1_putIn.cls ≠ "java/lang/invoke/MethodHandle" ∧ yX1_putIn.cls ≠ "java/lang/invoke/VarHandle" ∧ (parseMethodDescriptor yX1_putIn.desc).map (fun d => d.parameters.length) = some 3 := by decide +kernel
theorem yd_X1_takeAllOut : yX1_takeAllOut.cls ≠ "java/lang/invoke/MethodHandle" ∧ yX1_takeAllOut.cls ≠ "java/lang/invoke/VarHandle" ∧ (parseMethodDescriptor yX1_takeAllOut.desc).map (fun d => d.parameters.length) = some 0 := by decide +kernel
theorem yd_X1_writeLabel : yX1_writeLabel.cls ≠ "java/lang/invoke/MethodHandle" ∧ yX1_writeLabel.cls ≠ "java/lang/invoke/VarHandle" ∧ (parseMethodDescriptor yX1_writeLabel.desc).map (fun d => d.parameters.length) = some 0 := by decide +kernel
theorem yd_X1_becomeDamper : yX1_becomeDamper.cls ≠ "java/lang/invoke/MethodHandle" ∧ yX1_becomeDamper.cls ≠ "java/lang/invoke/VarHandle" ∧ (parseMethodDescriptor yX1_becomeDamper.desc).map (fun d => d.parameters.length) = some 0 := by decide +kernel
theorem yd_X1_ranksBefore : yX1_ranksBefore.cls ≠ "java/lang/invoke/MethodHandle" ∧ yX1_ranksBefore.cls ≠ "java/lang/invoke/VarHandle" ∧ (parseMethodDescriptor yX1_ranksBefore.desc).map (fun d => d.parameters.length) = some 1 := by decide +kernel
theorem yd_X2_init : yX2_init.cls ≠ "java/lang/invoke/MethodHandle" ∧ yX2_init.cls ≠ "java/lang/invoke/VarHandle" ∧ (parseMethodDescriptor yX2_init.desc).map (fun d => d.parameters.length) = some 0 := by decide +kernel
theorem yd_X2_append : yX2_append.cls ≠ "java/lang/invoke/MethodHandle" ∧ yX2_append.cls ≠ "java/lang/invoke/VarHandle" ∧ (parseMethodDescriptor yX2_append.desc).map (fun d => d.parameters.length) = some 1 := by decide +kernel
theorem yd_X2_clear : yX2_clear.cls ≠ "java/lang/invoke/MethodHandle" ∧ yX2_clear.cls ≠ "java/lang/invoke/VarHandle" ∧ (parseMethodDescriptor yX2_clear.desc).map (fun d => d.parameters.length) = some 0 := by decide +kernel
theorem yd_X2_rewind : yX2_rewind.cls ≠ "java/lang/invoke/MethodHandle" ∧ yX2_rewind.cls ≠ "java/lang/invoke/VarHandle" ∧ (parseMethodDescriptor yX2_rewind.desc).map (fun d => d.parameters.length) = some 0 := by decide +kernel
theorem yd_X2_countCommands : yX2_countCommands.cls ≠ "java/lang/invoke/MethodHandle" ∧ yX2_countCommands.cls ≠ "java/lang/invoke/VarHandle" ∧ (parseMethodDescriptor yX2_countCommands.desc).map (fun d => d.parameters.length) = some 0 := by decide +kernel
theorem yd_X2_readCommand : yX2_readCommand.cls ≠ "java/lang/invoke/MethodHandle" ∧ yX2_readCommand.cls ≠ "java/lang/invoke/VarHandle" ∧ (parseMethodDescriptor yX2_readCommand.desc).map (fun d => d.parameters.length) = some 0 := by decide +kernel
theorem yd_X2_readSign : yX2_readSign.cls ≠ "java/lang/invoke/MethodHandle" ∧ yX2_readSign.cls ≠ "java/lang/invoke/VarHandle" ∧ (parseMethodDescriptor yX2_readSign.desc).map (fun d => d.parameters.length) = some 1 := by decide +kernel
theorem yd_X2_signAt : yX2_signAt.cls ≠ "java/lang/invoke/MethodHandle" ∧ yX2_signAt.cls ≠ "java/lang/invoke/VarHandle" ∧ (parseMethodDescriptor yX2_signAt.desc).map (fun d => d.parameters.length) = some 1 := by decide +kernel
theorem yd_X2_readLeaf : yX2_readLeaf.cls ≠ "java/lang/invoke/MethodHandle" ∧ yX2_readLeaf.cls ≠ "java/lang/invoke/VarHandle" ∧ (parseMethodDescriptor yX2_readLeaf.desc).map (fun d => d.parameters.length) = some 0 := by decide +kernel
theorem yd_X2_readChest : yX2_readChest.cls ≠ "java/lang/invoke/MethodHandle" ∧ yX2_readChest.cls ≠ "java/lang/invoke/VarHandle" ∧ (parseMethodDescriptor yX2_readChest.desc).map (fun d => d.parameters.length) = some 0 := by decide +kernel
theorem yd_X2_readManyAsNumber : yX2_readManyAsNumber.cls ≠ "java/lang/invoke/MethodHandle" ∧ yX2_readManyAsNumber.cls ≠ "java/lang/invoke/VarHandle" ∧ (parseMethodDescriptor yX2_readManyAsNumber.desc).map (fun d => d.parameters.length) = some 0 := by decide +kernel
theorem yd_X2_readManyAsDigit : yX2_readManyAsDigit.cls ≠ "java/lang/invoke/MethodHandle" ∧ yX2_readManyAsDigit.cls ≠ "java/lang/invoke/VarHandle" ∧ (parseMethodDescriptor yX2_readManyAsDigit.desc).map (fun d => d.parameters.length) = some 0 := by decide +kernel
theorem yd_X2_readNumber : yX2_readNumber.cls ≠ "java/lang/invoke/MethodHandle" ∧ yX2_readNumber.cls ≠ "java/lang/invoke/VarHandle" ∧ (parseMethodDescriptor yX2_readNumber.desc).map (fun d => d.parameters.length) = some 0 := by decide +kernel
theorem yd_X2_readDigit : yX2_readDigit.cls ≠ "java/lang/invoke/MethodHandle" ∧ yX2_readDigit.cls ≠ "java/lang/invoke/VarHandle" ∧ (parseMethodDescriptor yX2_readDigit.desc).map (fun d => d.parameters.length) = some 0 := by decide +kernel
theorem yd_X2_readVerb : yX2_readVerb.cls ≠ "java/lang/invoke/MethodHandle" ∧ yX2_readVerb.cls ≠ "java/lang/invoke/VarHandle" ∧ (parseMethodDescriptor yX2_readVerb.desc).map (fun d => d.parameters.length) = some 0 := by decide +kernel
theorem yd_X2_readKind : yX2_readKind.cls ≠ "java/lang/invoke/MethodHandle" ∧ yX2_readKind.cls ≠ "java/lang/invoke/VarHandle" ∧ (parseMethodDescriptor yX2_readKind.desc).map (fun d => d.parameters.length) = some 0 := by decide +kernel
theorem yd_X2_readWord : yX2_readWord.cls ≠ "java/lang/invoke/MethodHandle" ∧ yX2_readWord.cls ≠ "java/lang/invoke/VarHandle" ∧ (parseMethodDescriptor yX2_readWord.desc).map (fun d => d.parameters.length) = some 1 := by decide +kernel
theorem yd_X3_init : yX3_init.cls ≠ "java/lang/invoke/MethodHandle" ∧ yX3_init.cls ≠ "java/lang/invoke/VarHandle" ∧ (parseMethodDescriptor yX3_init.desc).map (fun d => d.parameters.length) = some 0 := by decide +kernel
theorem yd_X3_spareRow : yX3_spareRow.cls ≠ "java/lang/invoke/MethodHandle" ∧ yX3_spareRow.cls ≠ "java/lang/invoke/VarHandle" ∧ (parseMethodDescriptor yX3_spareRow.desc).map (fun d => d.parameters.length) = some 0 := by decide +kernel
theorem yd_X3_prepare : yX3_prepare.cls ≠ "java/lang/invoke/MethodHandle" ∧ yX3_prepare.cls ≠ "java/lang/invoke/VarHandle" ∧ (parseMethodDescriptor yX3_prepare.desc).map (fun d => d.parameters.length) = some 1 := by decide +kernel
theorem yd_X3_commit : yX3_commit.cls ≠ "java/lang/invoke/MethodHandle" ∧ yX3_commit.cls ≠ "java/lang/invoke/VarHandle" ∧ (parseMethodDescriptor yX3_commit.desc).map (fun d => d.parameters.length) = some 0 := by decide +kernel
theorem yd_X3_dropPrepared : yX3_dropPrepared.cls ≠ "java/lang/invoke/MethodHandle" ∧ yX3_dropPrepared.cls ≠ "java/lang/invoke/VarHandle" ∧ (parseMethodDescriptor yX3_dropPrepared.desc).map (fun d => d.parameters.length) = some 1 := by decide +kernel
theorem yd_X3_takeBack : yX3_takeBack.cls ≠ "java/lang/invoke/MethodHandle" ∧ yX3_takeBack.cls ≠ "java/lang/invoke/VarHandle" ∧ (parseMethodDescriptor yX3_takeBack.desc).map (fun d => d.parameters.length) = some 1 := by decide +kernel
theorem yd_X3_forget : yX3_forget.cls ≠ "java/lang/invoke/MethodHandle" ∧ yX3_forget.cls ≠ "java/lang/invoke/VarHandle" ∧ (parseMethodDescriptor yX3_forget.desc).map (fun d => d.parameters.length) = some 0 := by decide +kernel
theorem yd_X4_init : yX4_init.cls ≠ "java/lang/invoke/MethodHandle" ∧ yX4_init.cls ≠ "java/lang/invoke/VarHandle" ∧ (parseMethodDescriptor yX4_init.desc).map (fun d => d.parameters.length) = some 0 := by decide +kernel
theorem yd_X4_copyFrom : yX4_copyFrom.cls ≠ "java/lang/invoke/MethodHandle" ∧ yX4_copyFrom.cls ≠ "java/lang/invoke/VarHandle" ∧ (parseMethodDescriptor yX4_copyFrom.desc).map (fun d => d.parameters.length) = some 1 := by decide +kernel
theorem yd_X4_isLeaf : yX4_isLeaf.cls ≠ "java/lang/invoke/MethodHandle" ∧ yX4_isLeaf.cls ≠ "java/lang/invoke/VarHandle" ∧ (parseMethodDescriptor yX4_isLeaf.desc).map (fun d => d.parameters.length) = some 2 := by decide +kernel
theorem yd_X4_stored : yX4_stored.cls ≠ "java/lang/invoke/MethodHandle" ∧ yX4_stored.cls ≠ "java/lang/invoke/VarHandle" ∧ (parseMethodDescriptor yX4_stored.desc).map (fun d => d.parameters.length) = some 2 := by decide +kernel
theorem yd_X4_addToStore : yX4_addToStore.cls ≠ "java/lang/invoke/MethodHandle" ∧ yX4_addToStore.cls ≠ "java/lang/invoke/VarHandle" ∧ (parseMethodDescriptor yX4_addToStore.desc).map (fun d => d.parameters.length) = some 3 := by decide +kernel
theorem yd_X4_storedOf : yX4_storedOf.cls ≠ "java/lang/invoke/MethodHandle" ∧ yX4_storedOf.cls ≠ "java/lang/invoke/VarHandle" ∧ (parseMethodDescriptor yX4_storedOf.desc).map (fun d => d.parameters.length) = some 1 := by decide +kernel
theorem yd_X4_isBetterGarden : yX4_isBetterGarden.cls ≠ "java/lang/invoke/MethodHandle" ∧ yX4_isBetterGarden.cls ≠ "java/lang/invoke/VarHandle" ∧ (parseMethodDescriptor yX4_isBetterGarden.desc).map (fun d => d.parameters.length) = some 2 := by decide +kernel
theorem yd_X4_poundsStored : yX4_poundsStored.cls ≠ "java/lang/invoke/MethodHandle" ∧ yX4_poundsStored.cls ≠ "java/lang/invoke/VarHandle" ∧ (parseMethodDescriptor yX4_poundsStored.desc).map (fun d => d.parameters.length) = some 0 := by decide +kernel
theorem yd_X4_tryBring : yX4_tryBring.cls ≠ "java/lang/invoke/MethodHandle" ∧ yX4_tryBring.cls ≠ "java/lang/invoke/VarHandle" ∧ (parseMethodDescriptor yX4_tryBring.desc).map (fun d => d.parameters.length) = some 3 := by decide +kernel
theorem yd_X4_addSheets : yX4_addSheets.cls ≠ "java/lang/invoke/MethodHandle" ∧ yX4_addSheets.cls ≠ "java/lang/invoke/VarHandle" ∧ (parseMethodDescriptor yX4_addSheets.desc).map (fun d => d.parameters.length) = some 1 := by decide +kernel
theorem yd_X4_addScrews : yX4_addScrews.cls ≠ "java/lang/invoke/MethodHandle" ∧ yX4_addScrews.cls ≠ "java/lang/invoke/VarHandle" ∧ (parseMethodDescriptor yX4_addScrews.desc).map (fun d => d.parameters.length) = some 1 := by decide +kernel
theorem yd_X4_refuse : yX4_refuse.cls ≠ "java/lang/invoke/MethodHandle" ∧ yX4_refuse.cls ≠ "java/lang/invoke/VarHandle" ∧ (parseMethodDescriptor yX4_refuse.desc).map (fun d => d.parameters.length) = some 2 := by decide +kernel
theorem yd_X4_isInHouse : yX4_isInHouse.cls ≠ "java/lang/invoke/MethodHandle" ∧ yX4_isInHouse.cls ≠ "java/lang/invoke/VarHandle" ∧ (parseMethodDescriptor yX4_isInHouse.desc).map (fun d => d.parameters.length) = some 1 := by decide +kernel
theorem yd_X4_isUnscrewed : yX4_isUnscrewed.cls ≠ "java/lang/invoke/MethodHandle" ∧ yX4_isUnscrewed.cls ≠ "java/lang/invoke/VarHandle" ∧ (parseMethodDescriptor yX4_isUnscrewed.desc).map (fun d => d.parameters.length) = some 1 := by decide +kernel
theorem yd_X4_isUnlined : yX4_isUnlined.cls ≠ "java/lang/invoke/MethodHandle" ∧ yX4_isUnlined.cls ≠ "java/lang/invoke/VarHandle" ∧ (parseMethodDescriptor yX4_isUnlined.desc).map (fun d => d.parameters.length) = some 1 := by decide +kernel
theorem yd_X4_hasSheets : yX4_hasSheets.cls ≠ "java/lang/invoke/MethodHandle" ∧ yX4_hasSheets.cls ≠ "java/lang/invoke/VarHandle" ∧ (parseMethodDescriptor yX4_hasSheets.desc).map (fun d => d.parameters.length) = some 1 := by decide +kernel
theorem yd_X4_hasNoOtherLeaves : yX4_hasNoOtherLeaves.cls ≠ "java/lang/invoke/MethodHandle" ∧ yX4_hasNoOtherLeaves.cls ≠ "java/lang/invoke/VarHandle" ∧ (parseMethodDescriptor yX4_hasNoOtherLeaves.desc).map (fun d => d.parameters.length) = some 3 := by decide +kernel
theorem yd_X4_hasRoom : yX4_hasRoom.cls ≠ "java/lang/invoke/MethodHandle" ∧ yX4_hasRoom.cls ≠ "java/lang/invoke/VarHandle" ∧ (parseMethodDescriptor yX4_hasRoom.desc).map (fun d => d.parameters.length) = some 2 := by decide +kernel
theorem yd_X4_hasPounds : yX4_hasPounds.cls ≠ "java/lang/invoke/MethodHandle" ∧ yX4_hasPounds.cls ≠ "java/lang/invoke/VarHandle" ∧ (parseMethodDescriptor yX4_hasPounds.desc).map (fun d => d.parameters.length) = some 3 := by decide +kernel
theorem yd_X4_isFilled : yX4_isFilled.cls ≠ "java/lang/invoke/MethodHandle" ∧ yX4_isFilled.cls ≠ "java/lang/invoke/VarHandle" ∧ (parseMethodDescriptor yX4_isFilled.desc).map (fun d => d.parameters.length) = some 1 := by decide +kernel
theorem yd_X4_hasScrews : yX4_hasScrews.cls ≠ "java/lang/invoke/MethodHandle" ∧ yX4_hasScrews.cls ≠ "java/lang/invoke/VarHandle" ∧ (parseMethodDescriptor yX4_hasScrews.desc).map (fun d => d.parameters.length) = some 1 := by decide +kernel
theorem yd_X4_takesScrews : yX4_takesScrews.cls ≠ "java/lang/invoke/MethodHandle" ∧ yX4_takesScrews.cls ≠ "java/lang/invoke/VarHandle" ∧ (parseMethodDescriptor yX4_takesScrews.desc).map (fun d => d.parameters.length) = some 2 := by decide +kernel
theorem yd_X4_isReadyForQuay : yX4_isReadyForQuay.cls ≠ "java/lang/invoke/MethodHandle" ∧ yX4_isReadyForQuay.cls ≠ "java/lang/invoke/VarHandle" ∧ (parseMethodDescriptor yX4_isReadyForQuay.desc).map (fun d => d.parameters.length) = some 1 := by decide +kernel
theorem yd_X4_isOnQuay : yX4_isOnQuay.cls ≠ "java/lang/invoke/MethodHandle" ∧ yX4_isOnQuay.cls ≠ "java/lang/invoke/VarHandle" ∧ (parseMethodDescriptor yX4_isOnQuay.desc).map (fun d => d.parameters.length) = some 1 := by decide +kernel
theorem yd_X4_isShipReached : yX4_isShipReached.cls ≠ "java/lang/invoke/MethodHandle" ∧ yX4_isShipReached.cls ≠ "java/lang/invoke/VarHandle" ∧ (parseMethodDescriptor yX4_isShipReached.desc).map (fun d => d.parameters.length) = some 0 := by decide +kernel
theorem yd_X4_hasShipRoom : yX4_hasShipRoom.cls ≠ "java/lang/invoke/MethodHandle" ∧ yX4_hasShipRoom.cls ≠ "java/lang/invoke/VarHandle" ∧ (parseMethodDescriptor yX4_hasShipRoom.desc).map (fun d => d.parameters.length) = some 1 := by decide +kernel
theorem yd_X4_isShipLoaded : yX4_isShipLoaded.cls ≠ "java/lang/invoke/MethodHandle" ∧ yX4_isShipLoaded.cls ≠ "java/lang/invoke/VarHandle" ∧ (parseMethodDescriptor yX4_isShipLoaded.desc).map (fun d => d.parameters.length) = some 0 := by decide +kernel
theorem yd_X4_find : yX4_find.cls ≠ "java/lang/invoke/MethodHandle" ∧ yX4_find.cls ≠ "java/lang/invoke/VarHandle" ∧ (parseMethodDescriptor yX4_find.desc).map (fun d => d.parameters.length) = some 1 := by decide +kernel
theorem yd_X4_tryMake : yX4_tryMake.cls ≠ "java/lang/invoke/MethodHandle" ∧ yX4_tryMake.cls ≠ "java/lang/invoke/VarHandle" ∧ (parseMethodDescriptor yX4_tryMake.desc).map (fun d => d.parameters.length) = some 1 := by decide +kernel
theorem yd_X4_tryLine : yX4_tryLine.cls ≠ "java/lang/invoke/MethodHandle" ∧ yX4_tryLine.cls ≠ "java/lang/invoke/VarHandle" ∧ (parseMethodDescriptor yX4_tryLine.desc).map (fun d => d.parameters.length) = some 1 := by decide +kernel
theorem yd_X4_tryFill : yX4_tryFill.cls ≠ "java/lang/invoke/MethodHandle" ∧ yX4_tryFill.cls ≠ "java/lang/invoke/VarHandle" ∧ (parseMethodDescriptor yX4_tryFill.desc).map (fun d => d.parameters.length) = some 4 := by decide +kernel
theorem yd_X4_tryEmpty : yX4_tryEmpty.cls ≠ "java/lang/invoke/MethodHandle" ∧ yX4_tryEmpty.cls ≠ "java/lang/invoke/VarHandle" ∧ (parseMethodDescriptor yX4_tryEmpty.desc).map (fun d => d.parameters.length) = some 1 := by decide +kernel
theorem yd_X4_tryScrew : yX4_tryScrew.cls ≠ "java/lang/invoke/MethodHandle" ∧ yX4_tryScrew.cls ≠ "java/lang/invoke/VarHandle" ∧ (parseMethodDescriptor yX4_tryScrew.desc).map (fun d => d.parameters.length) = some 2 := by decide +kernel
theorem yd_X4_tryUnscrew : yX4_tryUnscrew.cls ≠ "java/lang/invoke/MethodHandle" ∧ yX4_tryUnscrew.cls ≠ "java/lang/invoke/VarHandle" ∧ (parseMethodDescriptor yX4_tryUnscrew.desc).map (fun d => d.parameters.length) = some 1 := by decide +kernel
theorem yd_X4_tryLabel : yX4_tryLabel.cls ≠ "java/lang/invoke/MethodHandle" ∧ yX4_tryLabel.cls ≠ "java/lang/invoke/VarHandle" ∧ (parseMethodDescriptor yX4_tryLabel.desc).map (fun d => d.parameters.length) = some 1 := by decide +kernel
theorem yd_X4_chestAtPlace : yX4_chestAtPlace.cls ≠ "java/lang/invoke/MethodHandle" ∧ yX4_chestAtPlace.cls ≠ "java/lang/invoke/VarHandle" ∧ (parseMethodDescriptor yX4_chestAtPlace.desc).map (fun d => d.parameters.length) = some 1 := by decide +kernel
theorem yd_X4_placeOf : yX4_placeOf.cls ≠ "java/lang/invoke/MethodHandle" ∧ yX4_placeOf.cls ≠ "java/lang/invoke/VarHandle" ∧ (parseMethodDescriptor yX4_placeOf.desc).map (fun d => d.parameters.length) = some 1 := by decide +kernel
theorem yd_X4_chestsAt : yX4_chestsAt.cls ≠ "java/lang/invoke/MethodHandle" ∧ yX4_chestsAt.cls ≠ "java/lang/invoke/VarHandle" ∧ (parseMethodDescriptor yX4_chestsAt.desc).map (fun d => d.parameters.length) = some 1 := by decide +kernel
theorem yd_X4_poundsInChests : yX4_poundsInChests.cls ≠ "java/lang/invoke/MethodHandle" ∧ yX4_poundsInChests.cls ≠ "java/lang/invoke/VarHandle" ∧ (parseMethodDescriptor yX4_poundsInChests.desc).map (fun d => d.parameters.length) = some 0 := by decide +kernel
theorem yd_X4_filledChests : yX4_filledChests.cls ≠ "java/lang/invoke/MethodHandle" ∧ yX4_filledChests.cls ≠ "java/lang/invoke/VarHandle" ∧ (parseMethodDescriptor yX4_filledChests.desc).map (fun d => d.parameters.length) = some 0 := by decide +kernel
theorem yd_X4_sumOfDamp : yX4_sumOfDamp.cls ≠ "java/lang/invoke/MethodHandle" ∧ yX4_sumOfDamp.cls ≠ "java/lang/invoke/VarHandle" ∧ (parseMethodDescriptor yX4_sumOfDamp.desc).map (fun d => d.parameters.length) = some 0 := by decide +kernel
theorem yd_X4_tryToQuay : yX4_tryToQuay.cls ≠ "java/lang/invoke/MethodHandle" ∧ yX4_tryToQuay.cls ≠ "java/lang/invoke/VarHandle" ∧ (parseMethodDescriptor yX4_tryToQuay.desc).map (fun d => d.parameters.length) = some 1 := by decide +kernel
theorem yd_X4_tryLoad : yX4_tryLoad.cls ≠ "java/lang/invoke/MethodHandle" ∧ yX4_tryLoad.cls ≠ "java/lang/invoke/VarHandle" ∧ (parseMethodDescriptor yX4_tryLoad.desc).map (fun d => d.parameters.length) = some 1 := by decide +kernel
theorem yd_X4_trySail : yX4_trySail.cls ≠ "java/lang/invoke/MethodHandle" ∧ yX4_trySail.cls ≠ "java/lang/invoke/VarHandle" ∧ (parseMethodDescriptor yX4_trySail.desc).map (fun d => d.parameters.length) = some 0 := by decide +kernel
theorem yd_X4_shipRoom : yX4_shipRoom.cls ≠ "java/lang/invoke/MethodHandle" ∧ yX4_shipRoom.cls ≠ "java/lang/invoke/VarHandle" ∧ (parseMethodDescriptor yX4_shipRoom.desc).map (fun d => d.parameters.length) = some 0 := by decide +kernel
theorem yd_X4_shipCoins : yX4_shipCoins.cls ≠ "java/lang/invoke/MethodHandle" ∧ yX4_shipCoins.cls ≠ "java/lang/invoke/VarHandle" ∧ (parseMethodDescriptor yX4_shipCoins.desc).map (fun d => d.parameters.length) = some 0 := by decide +kernel
theorem yd_X4_isOutsideInOrder : yX4_isOutsideInOrder.cls ≠ "java/lang/invoke/MethodHandle" ∧ yX4_isOutsideInOrder.cls ≠ "java/lang/invoke/VarHandle" ∧ (parseMethodDescriptor yX4_isOutsideInOrder.desc).map (fun d => d.parameters.length) = some 0 := by decide +kernel
theorem yd_X4_heightIn : yX4_heightIn.cls ≠ "java/lang/invoke/MethodHandle" ∧ yX4_heightIn.cls ≠ "java/lang/invoke/VarHandle" ∧ (parseMethodDescriptor yX4_heightIn.desc).map (fun d => d.parameters.length) = some 1 := by decide +kernel
theorem yd_X4_letPass : yX4_letPass.cls ≠ "java/lang/invoke/MethodHandle" ∧ yX4_letPass.cls ≠ "java/lang/invoke/VarHandle" ∧ (parseMethodDescriptor yX4_letPass.desc).map (fun d => d.parameters.length) = some 1 := by decide +kernel
theorem yd_X4_letDampIn : yX4_letDampIn.cls ≠ "java/lang/invoke/MethodHandle" ∧ yX4_letDampIn.cls ≠ "java/lang/invoke/VarHandle" ∧ (parseMethodDescriptor yX4_letDampIn.desc).map (fun d => d.parameters.length) = some 0 := by decide +kernel
theorem yd_X7_init : yX7_init.cls ≠ "java/lang/invoke/MethodHandle" ∧ yX7_init.cls ≠ "java/lang/invoke/VarHandle" ∧ (parseMethodDescriptor yX7_init.desc).map (fun d => d.parameters.length) = some 0 := by decide +kernel
theorem yd_X7_bring : yX7_bring.cls ≠ "java/lang/invoke/MethodHandle" ∧ yX7_bring.cls ≠ "java/lang/invoke/VarHandle" ∧ (parseMethodDescriptor yX7_bring.desc).map (fun d => d.parameters.length) = some 3 := by decide +kernel
theorem yd_X7_leaves : yX7_leaves.cls ≠ "java/lang/invoke/MethodHandle" ∧ yX7_leaves.cls ≠ "java/lang/invoke/VarHandle" ∧ (parseMethodDescriptor yX7_leaves.desc).map (fun d => d.parameters.length) = some 2 := by decide +kernel
theorem yd_X7_bestGarden : yX7_bestGarden.cls ≠ "java/lang/invoke/MethodHandle" ∧ yX7_bestGarden.cls ≠ "java/lang/invoke/VarHandle" ∧ (parseMethodDescriptor yX7_bestGarden.desc).map (fun d => d.parameters.length) = some 0 := by decide +kernel
theorem yd_X7_buy : yX7_buy.cls ≠ "java/lang/invoke/MethodHandle" ∧ yX7_buy.cls ≠ "java/lang/invoke/VarHandle" ∧ (parseMethodDescriptor yX7_buy.desc).map (fun d => d.parameters.length) = some 2 := by decide +kernel
theorem yd_X7_make : yX7_make.cls ≠ "java/lang/invoke/MethodHandle" ∧ yX7_make.cls ≠ "java/lang/invoke/VarHandle" ∧ (parseMethodDescriptor yX7_make.desc).map (fun d => d.parameters.length) = some 1 := by decide +kernel
theorem yd_X7_line : yX7_line.cls ≠ "java/lang/invoke/MethodHandle" ∧ yX7_line.cls ≠ "java/lang/invoke/VarHandle" ∧ (parseMethodDescriptor yX7_line.desc).map (fun d => d.parameters.length) = some 1 := by decide +kernel
theorem yd_X7_fill : yX7_fill.cls ≠ "java/lang/invoke/MethodHandle" ∧ yX7_fill.cls ≠ "java/lang/invoke/VarHandle" ∧ (parseMethodDescriptor yX7_fill.desc).map (fun d => d.parameters.length) = some 4 := by decide +kernel
theorem yd_X7_empty : yX7_empty.cls ≠ "java/lang/invoke/MethodHandle" ∧ yX7_empty.cls ≠ "java/lang/invoke/VarHandle" ∧ (parseMethodDescriptor yX7_empty.desc).map (fun d => d.parameters.length) = some 1 := by decide +kernel
theorem yd_X7_screw : yX7_screw.cls ≠ "java/lang/invoke/MethodHandle" ∧ yX7_screw.cls ≠ "java/lang/invoke/VarHandle" ∧ (parseMethodDescriptor yX7_screw.desc).map (fun d => d.parameters.length) = some 2 := by decide +kernel
theorem yd_X7_unscrew : yX7_unscrew.cls ≠ "java/lang/invoke/MethodHandle" ∧ yX7_unscrew.cls ≠ "java/lang/invoke/VarHandle" ∧ (parseMethodDescriptor yX7_unscrew.desc).map (fun d => d.parameters.length) = some 1 := by decide +kernel
theorem yd_X7_label : yX7_label.cls ≠ "java/lang/invoke/MethodHandle" ∧ yX7_label.cls ≠ "java/lang/invoke/VarHandle" ∧ (parseMethodDescriptor yX7_label.desc).map (fun d => d.parameters.length) = some 1 := by decide +kernel
theorem yd_X7_labelled : yX7_labelled.cls ≠ "java/lang/invoke/MethodHandle" ∧ yX7_labelled.cls ≠ "java/lang/invoke/VarHandle" ∧ (parseMethodDescriptor yX7_labelled.desc).map (fun d => d.parameters.length) = some 2 := by decide +kernel
theorem yd_X7_chest : yX7_chest.cls ≠ "java/lang/invoke/MethodHandle" ∧ yX7_chest.cls ≠ "java/lang/invoke/VarHandle" ∧ (parseMethodDescriptor yX7_chest.desc).map (fun d => d.parameters.length) = some 2 := by decide +kernel
theorem yd_X7_worth : yX7_worth.cls ≠ "java/lang/invoke/MethodHandle" ∧ yX7_worth.cls ≠ "java/lang/invoke/VarHandle" ∧ (parseMethodDescriptor yX7_worth.desc).map (fun d => d.parameters.length) = some 1 := by decide +kernel
theorem yd_X7_ranked : yX7_ranked.cls ≠ "java/lang/invoke/MethodHandle" ∧ yX7_ranked.cls ≠ "java/lang/invoke/VarHandle" ∧ (parseMethodDescriptor yX7_ranked.desc).map (fun d => d.parameters.length) = some 1 := by decide +kernel
theorem yd_X7_toQuay : yX7_toQuay.cls ≠ "java/lang/invoke/MethodHandle" ∧ yX7_toQuay.cls ≠ "java/lang/invoke/VarHandle" ∧ (parseMethodDescriptor yX7_toQuay.desc).map (fun d => d.parameters.length) = some 1 := by decide +kernel
theorem yd_X7_load : yX7_load.cls ≠ "java/lang/invoke/MethodHandle" ∧ yX7_load.cls ≠ "java/lang/invoke/VarHandle" ∧ (parseMethodDescriptor yX7_load.desc).map (fun d => d.parameters.length) = some 1 := by decide +kernel
theorem yd_X7_sail : yX7_sail.cls ≠ "java/lang/invoke/MethodHandle" ∧ yX7_sail.cls ≠ "java/lang/invoke/VarHandle" ∧ (parseMethodDescriptor yX7_sail.desc).map (fun d => d.parameters.length) = some 0 := by decide +kernel
theorem yd_X7_cargo : yX7_cargo.cls ≠ "java/lang/invoke/MethodHandle" ∧ yX7_cargo.cls ≠ "java/lang/invoke/VarHandle" ∧ (parseMethodDescriptor yX7_cargo.desc).map (fun d => d.parameters.length) = some 0 := by decide +kernel
theorem yd_X7_height : yX7_height.cls ≠ "java/lang/invoke/MethodHandle" ∧ yX7_height.cls ≠ "java/lang/invoke/VarHandle" ∧ (parseMethodDescriptor yX7_height.desc).map (fun d => d.parameters.length) = some 1 := by decide +kernel
theorem yd_X7_heightAgain : yX7_heightAgain.cls ≠ "java/lang/invoke/MethodHandle" ∧ yX7_heightAgain.cls ≠ "java/lang/invoke/VarHandle" ∧ (parseMethodDescriptor yX7_heightAgain.desc).map (fun d => d.parameters.length) = some 1 := by decide +kernel
theorem yd_X7_reachedIn : yX7_reachedIn.cls ≠ "java/lang/invoke/MethodHandle" ∧ yX7_reachedIn.cls ≠ "java/lang/invoke/VarHandle" ∧ (parseMethodDescriptor yX7_reachedIn.desc).map (fun d => d.parameters.length) = some 0 := by decide +kernel
theorem yd_X7_setHumidity : yX7_setHumidity.cls ≠ "java/lang/invoke/MethodHandle" ∧ yX7_setHumidity.cls ≠ "java/lang/invoke/VarHandle" ∧ (parseMethodDescriptor yX7_setHumidity.desc).map (fun d => d.parameters.length) = some 1 := by decide +kernel
theorem yd_X7_pass : yX7_pass.cls ≠ "java/lang/invoke/MethodHandle" ∧ yX7_pass.cls ≠ "java/lang/invoke/VarHandle" ∧ (parseMethodDescriptor yX7_pass.desc).map (fun d => d.parameters.length) = some 1 := by decide +kernel
theorem yd_X7_isWell : yX7_isWell.cls ≠ "java/lang/invoke/MethodHandle" ∧ yX7_isWell.cls ≠ "java/lang/invoke/VarHandle" ∧ (parseMethodDescriptor yX7_isWell.desc).map (fun d => d.parameters.length) = some 0 := by decide +kernel
theorem yd_X7_meanDamp : yX7_meanDamp.cls ≠ "java/lang/invoke/MethodHandle" ∧ yX7_meanDamp.cls ≠ "java/lang/invoke/VarHandle" ∧ (parseMethodDescriptor yX7_meanDamp.desc).map (fun d => d.parameters.length) = some 0 := by decide +kernel
theorem yd_X7_sailedShare : yX7_sailedShare.cls ≠ "java/lang/invoke/MethodHandle" ∧ yX7_sailedShare.cls ≠ "java/lang/invoke/VarHandle" ∧ (parseMethodDescriptor yX7_sailedShare.desc).map (fun d => d.parameters.length) = some 0 := by decide +kernel
theorem yd_X7_reason : yX7_reason.cls ≠ "java/lang/invoke/MethodHandle" ∧ yX7_reason.cls ≠ "java/lang/invoke/VarHandle" ∧ (parseMethodDescriptor yX7_reason.desc).map (fun d => d.parameters.length) = some 1 := by decide +kernel
theorem yd_X7_account : yX7_account.cls ≠ "java/lang/invoke/MethodHandle" ∧ yX7_account.cls ≠ "java/lang/invoke/VarHandle" ∧ (parseMethodDescriptor yX7_account.desc).map (fun d => d.parameters.length) = some 1 := by decide +kernel
theorem yd_X7_feed : yX7_feed.cls ≠ "java/lang/invoke/MethodHandle" ∧ yX7_feed.cls ≠ "java/lang/invoke/VarHandle" ∧ (parseMethodDescriptor yX7_feed.desc).map (fun d => d.parameters.length) = some 1 := by decide +kernel
theorem yd_X7_perform : yX7_perform.cls ≠ "java/lang/invoke/MethodHandle" ∧ yX7_perform.cls ≠ "java/lang/invoke/VarHandle" ∧ (parseMethodDescriptor yX7_perform.desc).map (fun d => d.parameters.length) = some 0 := by decide +kernel
theorem yd_X7_undo : yX7_undo.cls ≠ "java/lang/invoke/MethodHandle" ∧ yX7_undo.cls ≠ "java/lang/invoke/VarHandle" ∧ (parseMethodDescriptor yX7_undo.desc).map (fun d => d.parameters.length) = some 0 := by decide +kernel
theorem yd_X7_save : yX7_save.cls ≠ "java/lang/invoke/MethodHandle" ∧ yX7_save.cls ≠ "java/lang/invoke/VarHandle" ∧ (parseMethodDescriptor yX7_save.desc).map (fun d => d.parameters.length) = some 0 := by decide +kernel
theorem yd_X7_restore : yX7_restore.cls ≠ "java/lang/invoke/MethodHandle" ∧ yX7_restore.cls ≠ "java/lang/invoke/VarHandle" ∧ (parseMethodDescriptor yX7_restore.desc).map (fun d => d.parameters.length) = some 0 := by decide +kernel
theorem yd_X7_isWithin : yX7_isWithin.cls ≠ "java/lang/invoke/MethodHandle" ∧ yX7_isWithin.cls ≠ "java/lang/invoke/VarHandle" ∧ (parseMethodDescriptor yX7_isWithin.desc).map (fun d => d.parameters.length) = some 3 := by decide +kernel
theorem yd_X7_needRange : yX7_needRange.cls ≠ "java/lang/invoke/MethodHandle" ∧ yX7_needRange.cls ≠ "java/lang/invoke/VarHandle" ∧ (parseMethodDescriptor yX7_needRange.desc).map (fun d => d.parameters.length) = some 3 := by decide +kernel
theorem yd_X7_needLeaf : yX7_needLeaf.cls ≠ "java/lang/invoke/MethodHandle" ∧ yX7_needLeaf.cls ≠ "java/lang/invoke/VarHandle" ∧ (parseMethodDescriptor yX7_needLeaf.desc).map (fun d => d.parameters.length) = some 2 := by decide +kernel
theorem yd_X7_needChest : yX7_needChest.cls ≠ "java/lang/invoke/MethodHandle" ∧ yX7_needChest.cls ≠ "java/lang/invoke/VarHandle" ∧ (parseMethodDescriptor yX7_needChest.desc).map (fun d => d.parameters.length) = some 1 := by decide +kernel
theorem yd_X7_keepChange : yX7_keepChange.cls ≠ "java/lang/invoke/MethodHandle" ∧ yX7_keepChange.cls ≠ "java/lang/invoke/VarHandle" ∧ (parseMethodDescriptor yX7_keepChange.desc).map (fun d => d.parameters.length) = some 0 := by decide +kernel
theorem yd_X7_conclude : yX7_conclude.cls ≠ "java/lang/invoke/MethodHandle" ∧ yX7_conclude.cls ≠ "java/lang/invoke/VarHandle" ∧ (parseMethodDescriptor yX7_conclude.desc).map (fun d => d.parameters.length) = some 1 := by decide +kernel
theorem yd_X7_carryOutAll : yX7_carryOutAll.cls ≠ "java/lang/invoke/MethodHandle" ∧ yX7_carryOutAll.cls ≠ "java/lang/invoke/VarHandle" ∧ (parseMethodDescriptor yX7_carryOutAll.desc).map (fun d => d.parameters.length) = some 1 := by decide +kernel
theorem yd_X7_carryOutRead : yX7_carryOutRead.cls ≠ "java/lang/invoke/MethodHandle" ∧ yX7_carryOutRead.cls ≠ "java/lang/invoke/VarHandle" ∧ (parseMethodDescriptor yX7_carryOutRead.desc).map (fun d => d.parameters.length) = some 0 := by decide +kernel
theorem yd_X8_init : yX8_init.cls ≠ "java/lang/invoke/MethodHandle" ∧ yX8_init.cls ≠ "java/lang/invoke/VarHandle" ∧ (parseMethodDescriptor yX8_init.desc).map (fun d => d.parameters.length) = some 0 := by decide +kernel
theorem yd_X8_thrown : yX8_thrown.cls ≠ "java/lang/invoke/MethodHandle" ∧ yX8_thrown.cls ≠ "java/lang/invoke/VarHandle" ∧ (parseMethodDescriptor yX8_thrown.desc).map (fun d => d.parameters.length) = some 0 := by decide +kernel
theorem yd_X8_no : yX8_no.cls ≠ "java/lang/invoke/MethodHandle" ∧ yX8_no.cls ≠ "java/lang/invoke/VarHandle" ∧ (parseMethodDescriptor yX8_no.desc).map (fun d => d.parameters.length) = some 1 := by decide +kernel
theorem yd_X8_fail : yX8_fail.cls ≠ "java/lang/invoke/MethodHandle" ∧ yX8_fail.cls ≠ "java/lang/invoke/VarHandle" ∧ (parseMethodDescriptor yX8_fail.desc).map (fun d => d.parameters.length) = some 1 := by decide +kernel
theorem yd_X8_refuses : yX8_refuses.cls ≠ "java/lang/invoke/MethodHandle" ∧ yX8_refuses.cls ≠ "java/lang/invoke/VarHandle" ∧ (parseMethodDescriptor yX8_refuses.desc).map (fun d => d.parameters.length) = some 2 := by decide +kernel
theorem yd_X8_isIn : yX8_isIn.cls ≠ "java/lang/invoke/MethodHandle" ∧ yX8_isIn.cls ≠ "java/lang/invoke/VarHandle" ∧ (parseMethodDescriptor yX8_isIn.desc).map (fun d => d.parameters.length) = some 3 := by decide +kernel
theorem yd_X8_lesser : yX8_lesser.cls ≠ "java/lang/invoke/MethodHandle" ∧ yX8_lesser.cls ≠ "java/lang/invoke/VarHandle" ∧ (parseMethodDescriptor yX8_lesser.desc).map (fun d => d.parameters.length) = some 2 := by decide +kernel
theorem yd_X8_lays : yX8_lays.cls ≠ "java/lang/invoke/MethodHandle" ∧ yX8_lays.cls ≠ "java/lang/invoke/VarHandle" ∧ (parseMethodDescriptor yX8_lays.desc).map (fun d => d.parameters.length) = some 2 := by decide +kernel
theorem yd_X8_begins : yX8_begins.cls ≠ "java/lang/invoke/MethodHandle" ∧ yX8_begins.cls ≠ "java/lang/invoke/VarHandle" ∧ (parseMethodDescriptor yX8_begins.desc).map (fun d => d.parameters.length) = some 0 := by decide +kernel
theorem yd_X8_ends : yX8_ends.cls ≠ "java/lang/invoke/MethodHandle" ∧ yX8_ends.cls ≠ "java/lang/invoke/VarHandle" ∧ (parseMethodDescriptor yX8_ends.desc).map (fun d => d.parameters.length) = some 4 := by decide +kernel
theorem yd_X8_at : yX8_at.cls ≠ "java/lang/invoke/MethodHandle" ∧ yX8_at.cls ≠ "java/lang/invoke/VarHandle" ∧ (parseMethodDescriptor yX8_at.desc).map (fun d => d.parameters.length) = some 2 := by decide +kernel
theorem yd_X8_isChest : yX8_isChest.cls ≠ "java/lang/invoke/MethodHandle" ∧ yX8_isChest.cls ≠ "java/lang/invoke/VarHandle" ∧ (parseMethodDescriptor yX8_isChest.desc).map (fun d => d.parameters.length) = some 1 := by decide +kernel
theorem yd_X8_isLeaf : yX8_isLeaf.cls ≠ "java/lang/invoke/MethodHandle" ∧ yX8_isLeaf.cls ≠ "java/lang/invoke/VarHandle" ∧ (parseMethodDescriptor yX8_isLeaf.desc).map (fun d => d.parameters.length) = some 2 := by decide +kernel
theorem yd_X8_leaf : yX8_leaf.cls ≠ "java/lang/invoke/MethodHandle" ∧ yX8_leaf.cls ≠ "java/lang/invoke/VarHandle" ∧ (parseMethodDescriptor yX8_leaf.desc).map (fun d => d.parameters.length) = some 2 := by decide +kernel
theorem yd_X8_isEmpty : yX8_isEmpty.cls ≠ "java/lang/invoke/MethodHandle" ∧ yX8_isEmpty.cls ≠ "java/lang/invoke/VarHandle" ∧ (parseMethodDescriptor yX8_isEmpty.desc).map (fun d => d.parameters.length) = some 1 := by decide +kernel
theorem yd_X8_isTight : yX8_isTight.cls ≠ "java/lang/invoke/MethodHandle" ∧ yX8_isTight.cls ≠ "java/lang/invoke/VarHandle" ∧ (parseMethodDescriptor yX8_isTight.desc).map (fun d => d.parameters.length) = some 1 := by decide +kernel
theorem yd_X8_brings : yX8_brings.cls ≠ "java/lang/invoke/MethodHandle" ∧ yX8_brings.cls ≠ "java/lang/invoke/VarHandle" ∧ (parseMethodDescriptor yX8_brings.desc).map (fun d => d.parameters.length) = some 3 := by decide +kernel
theorem yd_X8_bring : yX8_bring.cls ≠ "java/lang/invoke/MethodHandle" ∧ yX8_bring.cls ≠ "java/lang/invoke/VarHandle" ∧ (parseMethodDescriptor yX8_bring.desc).map (fun d => d.parameters.length) = some 3 := by decide +kernel
theorem yd_X8_leaves : yX8_leaves.cls ≠ "java/lang/invoke/MethodHandle" ∧ yX8_leaves.cls ≠ "java/lang/invoke/VarHandle" ∧ (parseMethodDescriptor yX8_leaves.desc).map (fun d => d.parameters.length) = some 2 := by decide +kernel
theorem yd_X8_allOf : yX8_allOf.cls ≠ "java/lang/invoke/MethodHandle" ∧ yX8_allOf.cls ≠ "java/lang/invoke/VarHandle" ∧ (parseMethodDescriptor yX8_allOf.desc).map (fun d => d.parameters.length) = some 1 := by decide +kernel
theorem yd_X8_bestGarden : yX8_bestGarden.cls ≠ "java/lang/invoke/MethodHandle" ∧ yX8_bestGarden.cls ≠ "java/lang/invoke/VarHandle" ∧ (parseMethodDescriptor yX8_bestGarden.desc).map (fun d => d.parameters.length) = some 0 := by decide +kernel
theorem yd_X8_buys : yX8_buys.cls ≠ "java/lang/invoke/MethodHandle" ∧ yX8_buys.cls ≠ "java/lang/invoke/VarHandle" ∧ (parseMethodDescriptor yX8_buys.desc).map (fun d => d.parameters.length) = some 2 := by decide +kernel
theorem yd_X8_buy : yX8_buy.cls ≠ "java/lang/invoke/MethodHandle" ∧ yX8_buy.cls ≠ "java/lang/invoke/VarHandle" ∧ (parseMethodDescriptor yX8_buy.desc).map (fun d => d.parameters.length) = some 2 := by decide +kernel
theorem yd_X8_makes : yX8_makes.cls ≠ "java/lang/invoke/MethodHandle" ∧ yX8_makes.cls ≠ "java/lang/invoke/VarHandle" ∧ (parseMethodDescriptor yX8_makes.desc).map (fun d => d.parameters.length) = some 1 := by decide +kernel
theorem yd_X8_make : yX8_make.cls ≠ "java/lang/invoke/MethodHandle" ∧ yX8_make.cls ≠ "java/lang/invoke/VarHandle" ∧ (parseMethodDescriptor yX8_make.desc).map (fun d => d.parameters.length) = some 1 := by decide +kernel
theorem yd_X8_isShut : yX8_isShut.cls ≠ "java/lang/invoke/MethodHandle" ∧ yX8_isShut.cls ≠ "java/lang/invoke/VarHandle" ∧ (parseMethodDescriptor yX8_isShut.desc).map (fun d => d.parameters.length) = some 1 := by decide +kernel
theorem yd_X8_linesChest : yX8_linesChest.cls ≠ "java/lang/invoke/MethodHandle" ∧ yX8_linesChest.cls ≠ "java/lang/invoke/VarHandle" ∧ (parseMethodDescriptor yX8_linesChest.desc).map (fun d => d.parameters.length) = some 1 := by decide +kernel
theorem yd_X8_line : yX8_line.cls ≠ "java/lang/invoke/MethodHandle" ∧ yX8_line.cls ≠ "java/lang/invoke/VarHandle" ∧ (parseMethodDescriptor yX8_line.desc).map (fun d => d.parameters.length) = some 1 := by decide +kernel
theorem yd_X8_fills : yX8_fills.cls ≠ "java/lang/invoke/MethodHandle" ∧ yX8_fills.cls ≠ "java/lang/invoke/VarHandle" ∧ (parseMethodDescriptor yX8_fills.desc).map (fun d => d.parameters.length) = some 4 := by decide +kernel
theorem yd_X8_fill : yX8_fill.cls ≠ "java/lang/invoke/MethodHandle" ∧ yX8_fill.cls ≠ "java/lang/invoke/VarHandle" ∧ (parseMethodDescriptor yX8_fill.desc).map (fun d => d.parameters.length) = some 4 := by decide +kernel
theorem yd_X8_empties : yX8_empties.cls ≠ "java/lang/invoke/MethodHandle" ∧ yX8_empties.cls ≠ "java/lang/invoke/VarHandle" ∧ (parseMethodDescriptor yX8_empties.desc).map (fun d => d.parameters.length) = some 1 := by decide +kernel
theorem yd_X8_empty : yX8_empty.cls ≠ "java/lang/invoke/MethodHandle" ∧ yX8_empty.cls ≠ "java/lang/invoke/VarHandle" ∧ (parseMethodDescriptor yX8_empty.desc).map (fun d => d.parameters.length) = some 1 := by decide +kernel
theorem yd_X8_screws : yX8_screws.cls ≠ "java/lang/invoke/MethodHandle" ∧ yX8_screws.cls ≠ "java/lang/invoke/VarHandle" ∧ (parseMethodDescriptor yX8_screws.desc).map (fun d => d.parameters.length) = some 2 := by decide +kernel
theorem yd_X8_screw : yX8_screw.cls ≠ "java/lang/invoke/MethodHandle" ∧ yX8_screw.cls ≠ "java/lang/invoke/VarHandle" ∧ (parseMethodDescriptor yX8_screw.desc).map (fun d => d.parameters.length) = some 2 := by decide +kernel
theorem yd_X8_unscrews : yX8_unscrews.cls ≠ "java/lang/invoke/MethodHandle" ∧ yX8_unscrews.cls ≠ "java/lang/invoke/VarHandle" ∧ (parseMethodDescriptor yX8_unscrews.desc).map (fun d => d.parameters.length) = some 1 := by decide +kernel
theorem yd_X8_unscrew : yX8_unscrew.cls ≠ "java/lang/invoke/MethodHandle" ∧ yX8_unscrew.cls ≠ "java/lang/invoke/VarHandle" ∧ (parseMethodDescriptor yX8_unscrew.desc).map (fun d => d.parameters.length) = some 1 := by decide +kernel
theorem yd_X8_writes : yX8_writes.cls ≠ "java/lang/invoke/MethodHandle" ∧ yX8_writes.cls ≠ "java/lang/invoke/VarHandle" ∧ (parseMethodDescriptor yX8_writes.desc).map (fun d => d.parameters.length) = some 1 := by decide +kernel
theorem yd_X8_writesLabel : yX8_writesLabel.cls ≠ "java/lang/invoke/MethodHandle" ∧ yX8_writesLabel.cls ≠ "java/lang/invoke/VarHandle" ∧ (parseMethodDescriptor yX8_writesLabel.desc).map (fun d => d.parameters.length) = some 1 := by decide +kernel
theorem yd_X8_labels : yX8_labels.cls ≠ "java/lang/invoke/MethodHandle" ∧ yX8_labels.cls ≠ "java/lang/invoke/VarHandle" ∧ (parseMethodDescriptor yX8_labels.desc).map (fun d => d.parameters.length) = some 1 := by decide +kernel
theorem yd_X8_label : yX8_label.cls ≠ "java/lang/invoke/MethodHandle" ∧ yX8_label.cls ≠ "java/lang/invoke/VarHandle" ∧ (parseMethodDescriptor yX8_label.desc).map (fun d => d.parameters.length) = some 1 := by decide +kernel
theorem yd_X8_labelled : yX8_labelled.cls ≠ "java/lang/invoke/MethodHandle" ∧ yX8_labelled.cls ≠ "java/lang/invoke/VarHandle" ∧ (parseMethodDescriptor yX8_labelled.desc).map (fun d => d.parameters.length) = some 2 := by decide +kernel
theorem yd_X8_chest : yX8_chest.cls ≠ "java/lang/invoke/MethodHandle" ∧ yX8_chest.cls ≠ "java/lang/invoke/VarHandle" ∧ (parseMethodDescriptor yX8_chest.desc).map (fun d => d.parameters.length) = some 2 := by decide +kernel
theorem yd_X8_worthOf : yX8_worthOf.cls ≠ "java/lang/invoke/MethodHandle" ∧ yX8_worthOf.cls ≠ "java/lang/invoke/VarHandle" ∧ (parseMethodDescriptor yX8_worthOf.desc).map (fun d => d.parameters.length) = some 1 := by decide +kernel
theorem yd_X8_worth : yX8_worth.cls ≠ "java/lang/invoke/MethodHandle" ∧ yX8_worth.cls ≠ "java/lang/invoke/VarHandle" ∧ (parseMethodDescriptor yX8_worth.desc).map (fun d => d.parameters.length) = some 1 := by decide +kernel
theorem yd_X8_isAhead : yX8_isAhead.cls ≠ "java/lang/invoke/MethodHandle" ∧ yX8_isAhead.cls ≠ "java/lang/invoke/VarHandle" ∧ (parseMethodDescriptor yX8_isAhead.desc).map (fun d => d.parameters.length) = some 2 := by decide +kernel
theorem yd_X8_ranked : yX8_ranked.cls ≠ "java/lang/invoke/MethodHandle" ∧ yX8_ranked.cls ≠ "java/lang/invoke/VarHandle" ∧ (parseMethodDescriptor yX8_ranked.desc).map (fun d => d.parameters.length) = some 1 := by decide +kernel
theorem yd_X8_withWhere : yX8_withWhere.cls ≠ "java/lang/invoke/MethodHandle" ∧ yX8_withWhere.cls ≠ "java/lang/invoke/VarHandle" ∧ (parseMethodDescriptor yX8_withWhere.desc).map (fun d => d.parameters.length) = some 1 := by decide +kernel
theorem yd_X8_goesOut : yX8_goesOut.cls ≠ "java/lang/invoke/MethodHandle" ∧ yX8_goesOut.cls ≠ "java/lang/invoke/VarHandle" ∧ (parseMethodDescriptor yX8_goesOut.desc).map (fun d => d.parameters.length) = some 1 := by decide +kernel
theorem yd_X8_toQuay : yX8_toQuay.cls ≠ "java/lang/invoke/MethodHandle" ∧ yX8_toQuay.cls ≠ "java/lang/invoke/VarHandle" ∧ (parseMethodDescriptor yX8_toQuay.desc).map (fun d => d.parameters.length) = some 1 := by decide +kernel
theorem yd_X8_room : yX8_room.cls ≠ "java/lang/invoke/MethodHandle" ∧ yX8_room.cls ≠ "java/lang/invoke/VarHandle" ∧ (parseMethodDescriptor yX8_room.desc).map (fun d => d.parameters.length) = some 0 := by decide +kernel
theorem yd_X8_heightAt : yX8_heightAt.cls ≠ "java/lang/invoke/MethodHandle" ∧ yX8_heightAt.cls ≠ "java/lang/invoke/VarHandle" ∧ (parseMethodDescriptor yX8_heightAt.desc).map (fun d => d.parameters.length) = some 1 := by decide +kernel
theorem yd_X8_loads : yX8_loads.cls ≠ "java/lang/invoke/MethodHandle" ∧ yX8_loads.cls ≠ "java/lang/invoke/VarHandle" ∧ (parseMethodDescriptor yX8_loads.desc).map (fun d => d.parameters.length) = some 1 := by decide +kernel
theorem yd_X8_load : yX8_load.cls ≠ "java/lang/invoke/MethodHandle" ∧ yX8_load.cls ≠ "java/lang/invoke/VarHandle" ∧ (parseMethodDescriptor yX8_load.desc).map (fun d => d.parameters.length) = some 1 := by decide +kernel
theorem yd_X8_cargoOf : yX8_cargoOf.cls ≠ "java/lang/invoke/MethodHandle" ∧ yX8_cargoOf.cls ≠ "java/lang/invoke/VarHandle" ∧ (parseMethodDescriptor yX8_cargoOf.desc).map (fun d => d.parameters.length) = some 0 := by decide +kernel
theorem yd_X8_sails : yX8_sails.cls ≠ "java/lang/invoke/MethodHandle" ∧ yX8_sails.cls ≠ "java/lang/invoke/VarHandle" ∧ (parseMethodDescriptor yX8_sails.desc).map (fun d => d.parameters.length) = some 0 := by decide +kernel
theorem yd_X8_sail : yX8_sail.cls ≠ "java/lang/invoke/MethodHandle" ∧ yX8_sail.cls ≠ "java/lang/invoke/VarHandle" ∧ (parseMethodDescriptor yX8_sail.desc).map (fun d => d.parameters.length) = some 0 := by decide +kernel
theorem yd_X8_cargo : yX8_cargo.cls ≠ "java/lang/invoke/MethodHandle" ∧ yX8_cargo.cls ≠ "java/lang/invoke/VarHandle" ∧ (parseMethodDescriptor yX8_cargo.desc).map (fun d => d.parameters.length) = some 0 := by decide +kernel
theorem yd_X8_height : yX8_height.cls ≠ "java/lang/invoke/MethodHandle" ∧ yX8_height.cls ≠ "java/lang/invoke/VarHandle" ∧ (parseMethodDescriptor yX8_height.desc).map (fun d => d.parameters.length) = some 1 := by decide +kernel
theorem yd_X8_heightAgain : yX8_heightAgain.cls ≠ "java/lang/invoke/MethodHandle" ∧ yX8_heightAgain.cls ≠ "java/lang/invoke/VarHandle" ∧ (parseMethodDescriptor yX8_heightAgain.desc).map (fun d => d.parameters.length) = some 1 := by decide +kernel
theorem yd_X8_reachedIn : yX8_reachedIn.cls ≠ "java/lang/invoke/MethodHandle" ∧ yX8_reachedIn.cls ≠ "java/lang/invoke/VarHandle" ∧ (parseMethodDescriptor yX8_reachedIn.desc).map (fun d => d.parameters.length) = some 0 := by decide +kernel
theorem yd_X8_humid : yX8_humid.cls ≠ "java/lang/invoke/MethodHandle" ∧ yX8_humid.cls ≠ "java/lang/invoke/VarHandle" ∧ (parseMethodDescriptor yX8_humid.desc).map (fun d => d.parameters.length) = some 1 := by decide +kernel
theorem yd_X8_setHumidity : yX8_setHumidity.cls ≠ "java/lang/invoke/MethodHandle" ∧ yX8_setHumidity.cls ≠ "java/lang/invoke/VarHandle" ∧ (parseMethodDescriptor yX8_setHumidity.desc).map (fun d => d.parameters.length) = some 1 := by decide +kernel
theorem yd_X8_hour : yX8_hour.cls ≠ "java/lang/invoke/MethodHandle" ∧ yX8_hour.cls ≠ "java/lang/invoke/VarHandle" ∧ (parseMethodDescriptor yX8_hour.desc).map (fun d => d.parameters.length) = some 0 := by decide +kernel
theorem yd_X8_passes : yX8_passes.cls ≠ "java/lang/invoke/MethodHandle" ∧ yX8_passes.cls ≠ "java/lang/invoke/VarHandle" ∧ (parseMethodDescriptor yX8_passes.desc).map (fun d => d.parameters.length) = some 1 := by decide +kernel
theorem yd_X8_pass : yX8_pass.cls ≠ "java/lang/invoke/MethodHandle" ∧ yX8_pass.cls ≠ "java/lang/invoke/VarHandle" ∧ (parseMethodDescriptor yX8_pass.desc).map (fun d => d.parameters.length) = some 1 := by decide +kernel
theorem yd_X8_stored : yX8_stored.cls ≠ "java/lang/invoke/MethodHandle" ∧ yX8_stored.cls ≠ "java/lang/invoke/VarHandle" ∧ (parseMethodDescriptor yX8_stored.desc).map (fun d => d.parameters.length) = some 0 := by decide +kernel
theorem yd_X8_packed : yX8_packed.cls ≠ "java/lang/invoke/MethodHandle" ∧ yX8_packed.cls ≠ "java/lang/invoke/VarHandle" ∧ (parseMethodDescriptor yX8_packed.desc).map (fun d => d.parameters.length) = some 0 := by decide +kernel
theorem yd_X8_isWell : yX8_isWell.cls ≠ "java/lang/invoke/MethodHandle" ∧ yX8_isWell.cls ≠ "java/lang/invoke/VarHandle" ∧ (parseMethodDescriptor yX8_isWell.desc).map (fun d => d.parameters.length) = some 0 := by decide +kernel
theorem yd_X8_meanDamp : yX8_meanDamp.cls ≠ "java/lang/invoke/MethodHandle" ∧ yX8_meanDamp.cls ≠ "java/lang/invoke/VarHandle" ∧ (parseMethodDescriptor yX8_meanDamp.desc).map (fun d => d.parameters.length) = some 0 := by decide +kernel
theorem yd_X8_sailedShare : yX8_sailedShare.cls ≠ "java/lang/invoke/MethodHandle" ∧ yX8_sailedShare.cls ≠ "java/lang/invoke/VarHandle" ∧ (parseMethodDescriptor yX8_sailedShare.desc).map (fun d => d.parameters.length) = some 0 := by decide +kernel
theorem yd_X8_reason : yX8_reason.cls ≠ "java/lang/invoke/MethodHandle" ∧ yX8_reason.cls ≠ "java/lang/invoke/VarHandle" ∧ (parseMethodDescriptor yX8_reason.desc).map (fun d => d.parameters.length) = some 1 := by decide +kernel
theorem yd_X8_account : yX8_account.cls ≠ "java/lang/invoke/MethodHandle" ∧ yX8_account.cls ≠ "java/lang/invoke/VarHandle" ∧ (parseMethodDescriptor yX8_account.desc).map (fun d => d.parameters.length) = some 1 := by decide +kernel
theorem yd_X8_feed : yX8_feed.cls ≠ "java/lang/invoke/MethodHandle" ∧ yX8_feed.cls ≠ "java/lang/invoke/VarHandle" ∧ (parseMethodDescriptor yX8_feed.desc).map (fun d => d.parameters.length) = some 1 := by decide +kernel
theorem yd_X8_sign : yX8_sign.cls ≠ "java/lang/invoke/MethodHandle" ∧ yX8_sign.cls ≠ "java/lang/invoke/VarHandle" ∧ (parseMethodDescriptor yX8_sign.desc).map (fun d => d.parameters.length) = some 0 := by decide +kernel
theorem yd_X8_word : yX8_word.cls ≠ "java/lang/invoke/MethodHandle" ∧ yX8_word.cls ≠ "java/lang/invoke/VarHandle" ∧ (parseMethodDescriptor yX8_word.desc).map (fun d => d.parameters.length) = some 2 := by decide +kernel
theorem yd_X8_number : yX8_number.cls ≠ "java/lang/invoke/MethodHandle" ∧ yX8_number.cls ≠ "java/lang/invoke/VarHandle" ∧ (parseMethodDescriptor yX8_number.desc).map (fun d => d.parameters.length) = some 1 := by decide +kernel
theorem yd_X8_mark : yX8_mark.cls ≠ "java/lang/invoke/MethodHandle" ∧ yX8_mark.cls ≠ "java/lang/invoke/VarHandle" ∧ (parseMethodDescriptor yX8_mark.desc).map (fun d => d.parameters.length) = some 1 := by decide +kernel
theorem yd_X8_does : yX8_does.cls ≠ "java/lang/invoke/MethodHandle" ∧ yX8_does.cls ≠ "java/lang/invoke/VarHandle" ∧ (parseMethodDescriptor yX8_does.desc).map (fun d => d.parameters.length) = some 1 := by decide +kernel
theorem yd_X8_command : yX8_command.cls ≠ "java/lang/invoke/MethodHandle" ∧ yX8_command.cls ≠ "java/lang/invoke/VarHandle" ∧ (parseMethodDescriptor yX8_command.desc).map (fun d => d.parameters.length) = some 0 := by decide +kernel
theorem yd_X8_commands : yX8_commands.cls ≠ "java/lang/invoke/MethodHandle" ∧ yX8_commands.cls ≠ "java/lang/invoke/VarHandle" ∧ (parseMethodDescriptor yX8_commands.desc).map (fun d => d.parameters.length) = some 0 := by decide +kernel
theorem yd_X8_perform : yX8_perform.cls ≠ "java/lang/invoke/MethodHandle" ∧ yX8_perform.cls ≠ "java/lang/invoke/VarHandle" ∧ (parseMethodDescriptor yX8_perform.desc).map (fun d => d.parameters.length) = some 0 := by decide +kernel
theorem yd_X8_undo : yX8_undo.cls ≠ "java/lang/invoke/MethodHandle" ∧ yX8_undo.cls ≠ "java/lang/invoke/VarHandle" ∧ (parseMethodDescriptor yX8_undo.desc).map (fun d => d.parameters.length) = some 0 := by decide +kernel
theorem yd_X8_save : yX8_save.cls ≠ "java/lang/invoke/MethodHandle" ∧ yX8_save.cls ≠ "java/lang/invoke/VarHandle" ∧ (parseMethodDescriptor yX8_save.desc).map (fun d => d.parameters.length) = some 0 := by decide +kernel
theorem yd_X8_restore : yX8_restore.cls ≠ "java/lang/invoke/MethodHandle" ∧ yX8_restore.cls ≠ "java/lang/invoke/VarHandle" ∧ (parseMethodDescriptor yX8_restore.desc).map (fun d => d.parameters.length) = some 0 := by decide +kernel
theorem yd_J5_init_d00df : yJ5_init_d00df.cls ≠ "java/lang/invoke/MethodHandle" ∧ yJ5_init_d00df.cls ≠ "java/lang/invoke/VarHandle" ∧ (parseMethodDescriptor yJ5_init_d00df.desc).map (fun d => d.parameters.length) = some 1 := by decide +kernel
theorem yd_J5_length_8abf5 : yJ5_length_8abf5.cls ≠ "java/lang/invoke/MethodHandle" ∧ yJ5_length_8abf5.cls ≠ "java/lang/invoke/VarHandle" ∧ (parseMethodDescriptor yJ5_length_8abf5.desc).map (fun d => d.parameters.length) = some 0 := by decide +kernel
theorem yd_J5_ensureCapacityInternal_d00df : yJ5_ensureCapacityInternal_d00df.cls ≠ "java/lang/invoke/MethodHandle" ∧ yJ5_ensureCapacityInternal_d00df.cls ≠ "java/lang/invoke/VarHandle" ∧ (parseMethodDescriptor yJ5_ensureCapacityInternal_d00df.desc).map (fun d => d.parameters.length) = some 1 := by decide +kernel
theorem yd_J5_newCapacity_0f7a4 : yJ5_newCapacity_0f7a4.cls ≠ "java/lang/invoke/MethodHandle" ∧ yJ5_newCapacity_0f7a4.cls ≠ "java/lang/invoke/VarHandle" ∧ (parseMethodDescriptor yJ5_newCapacity_0f7a4.desc).map (fun d => d.parameters.length) = some 1 := by decide +kernel
theorem yd_J5_inflate_da8c8 : yJ5_inflate_da8c8.cls ≠ "java/lang/invoke/MethodHandle" ∧ yJ5_inflate_da8c8.cls ≠ "java/lang/invoke/VarHandle" ∧ (parseMethodDescriptor yJ5_inflate_da8c8.desc).map (fun d => d.parameters.length) = some 0 := by decide +kernel
theorem yd_J5_append_cf1ce : yJ5_append_cf1ce.cls ≠ "java/lang/invoke/MethodHandle" ∧ yJ5_append_cf1ce.cls ≠ "java/lang/invoke/VarHandle" ∧ (parseMethodDescriptor yJ5_append_cf1ce.desc).map (fun d => d.parameters.length) = some 1 := by decide +kernel
theorem yd_J5_appendNull_278bc : yJ5_appendNull_278bc.cls ≠ "java/lang/invoke/MethodHandle" ∧ yJ5_appendNull_278bc.cls ≠ "java/lang/invoke/VarHandle" ∧ (parseMethodDescriptor yJ5_appendNull_278bc.desc).map (fun d => d.parameters.length) = some 0 := by decide +kernel
theorem yd_J5_append_3fe6f : yJ5_append_3fe6f.cls ≠ "java/lang/invoke/MethodHandle" ∧ yJ5_append_3fe6f.cls ≠ "java/lang/invoke/VarHandle" ∧ (parseMethodDescriptor yJ5_append_3fe6f.desc).map (fun d => d.parameters.length) = some 1 := by decide +kernel
theorem yd_J5_append_c97b9 : yJ5_append_c97b9.cls ≠ "java/lang/invoke/MethodHandle" ∧ yJ5_append_c97b9.cls ≠ "java/lang/invoke/VarHandle" ∧ (parseMethodDescriptor yJ5_append_c97b9.desc).map (fun d => d.parameters.length) = some 1 := by decide +kernel
theorem yd_J5_getValue_6d5f1 : yJ5_getValue_6d5f1.cls ≠ "java/lang/invoke/MethodHandle" ∧ yJ5_getValue_6d5f1.cls ≠ "java/lang/invoke/VarHandle" ∧ (parseMethodDescriptor yJ5_getValue_6d5f1.desc).map (fun d => d.parameters.length) = some 0 := by decide +kernel
theorem yd_J5_isLatin1_aae02 : yJ5_isLatin1_aae02.cls ≠ "java/lang/invoke/MethodHandle" ∧ yJ5_isLatin1_aae02.cls ≠ "java/lang/invoke/VarHandle" ∧ (parseMethodDescriptor yJ5_isLatin1_aae02.desc).map (fun d => d.parameters.length) = some 0 := by decide +kernel
theorem yd_J5_inflateIfNeededFor_a7421 : yJ5_inflateIfNeededFor_a7421.cls ≠ "java/lang/invoke/MethodHandle" ∧ yJ5_inflateIfNeededFor_a7421.cls ≠ "java/lang/invoke/VarHandle" ∧ (parseMethodDescriptor yJ5_inflateIfNeededFor_a7421.desc).map (fun d => d.parameters.length) = some 1 := by decide +kernel
theorem yd_J5_putStringAt_47b60 : yJ5_putStringAt_47b60.cls ≠ "java/lang/invoke/MethodHandle" ∧ yJ5_putStringAt_47b60.cls ≠ "java/lang/invoke/VarHandle" ∧ (parseMethodDescriptor yJ5_putStringAt_47b60.desc).map (fun d => d.parameters.length) = some 2 := by decide +kernel
theorem yd_Jx00060_init_a7421 : yJx00060_init_a7421.cls ≠ "java/lang/invoke/MethodHandle" ∧ yJx00060_init_a7421.cls ≠ "java/lang/invoke/VarHandle" ∧ (parseMethodDescriptor yJx00060_init_a7421.desc).map (fun d => d.parameters.length) = some 1 := by decide +kernel
theorem yd_Jx29ce0_ordinal_8abf5 : yJx29ce0_ordinal_8abf5.cls ≠ "java/lang/invoke/MethodHandle" ∧ yJx29ce0_ordinal_8abf5.cls ≠ "java/lang/invoke/VarHandle" ∧ (parseMethodDescriptor yJx29ce0_ordinal_8abf5.desc).map (fun d => d.parameters.length) = some 0 := by decide +kernel
theorem yd_J6_getChars_ba4f3 : yJ6_getChars_ba4f3.cls ≠ "java/lang/invoke/MethodHandle" ∧ yJ6_getChars_ba4f3.cls ≠ "java/lang/invoke/VarHandle" ∧ (parseMethodDescriptor yJ6_getChars_ba4f3.desc).map (fun d => d.parameters.length) = some 3 := by decide +kernel
theorem yd_J6_stringSize_0f7a4 : yJ6_stringSize_0f7a4.cls ≠ "java/lang/invoke/MethodHandle" ∧ yJ6_stringSize_0f7a4.cls ≠ "java/lang/invoke/VarHandle" ∧ (parseMethodDescriptor yJ6_stringSize_0f7a4.desc).map (fun d => d.parameters.length) = some 1 := by decide +kernel
theorem yd_J9_floorMod_7cf53 : yJ9_floorMod_7cf53.cls ≠ "java/lang/invoke/MethodHandle" ∧ yJ9_floorMod_7cf53.cls ≠ "java/lang/invoke/VarHandle" ∧ (parseMethodDescriptor yJ9_floorMod_7cf53.desc).map (fun d => d.parameters.length) = some 2 := by decide +kernel
theorem yd_J0_init_81219 : yJ0_init_81219.cls ≠ "java/lang/invoke/MethodHandle" ∧ yJ0_init_81219.cls ≠ "java/lang/invoke/VarHandle" ∧ (parseMethodDescriptor yJ0_init_81219.desc).map (fun d => d.parameters.length) = some 1 := by decide +kernel
theorem yd_J0_length_8abf5 : yJ0_length_8abf5.cls ≠ "java/lang/invoke/MethodHandle" ∧ yJ0_length_8abf5.cls ≠ "java/lang/invoke/VarHandle" ∧ (parseMethodDescriptor yJ0_length_8abf5.desc).map (fun d => d.parameters.length) = some 0 := by decide +kernel
theorem yd_J0_isEmpty_aae02 : yJ0_isEmpty_aae02.cls ≠ "java/lang/invoke/MethodHandle" ∧ yJ0_isEmpty_aae02.cls ≠ "java/lang/invoke/VarHandle" ∧ (parseMethodDescriptor yJ0_isEmpty_aae02.desc).map (fun d => d.parameters.length) = some 0 := by decide +kernel
theorem yd_J0_charAt_5068e : yJ0_charAt_5068e.cls ≠ "java/lang/invoke/MethodHandle" ∧ yJ0_charAt_5068e.cls ≠ "java/lang/invoke/VarHandle" ∧ (parseMethodDescriptor yJ0_charAt_5068e.desc).map (fun d => d.parameters.length) = some 1 := by decide +kernel
theorem yd_J0_getBytes_840e7 : yJ0_getBytes_840e7.cls ≠ "java/lang/invoke/MethodHandle" ∧ yJ0_getBytes_840e7.cls ≠ "java/lang/invoke/VarHandle" ∧ (parseMethodDescriptor yJ0_getBytes_840e7.desc).map (fun d => d.parameters.length) = some 3 := by decide +kernel
theorem yd_J0_init_db425 : yJ0_init_db425.cls ≠ "java/lang/invoke/MethodHandle" ∧ yJ0_init_db425.cls ≠ "java/lang/invoke/VarHandle" ∧ (parseMethodDescriptor yJ0_init_db425.desc).map (fun d => d.parameters.length) = some 2 := by decide +kernel
theorem yd_J0_coder_7d493 : yJ0_coder_7d493.cls ≠ "java/lang/invoke/MethodHandle" ∧ yJ0_coder_7d493.cls ≠ "java/lang/invoke/VarHandle" ∧ (parseMethodDescriptor yJ0_coder_7d493.desc).map (fun d => d.parameters.length) = some 0 := by decide +kernel
theorem yd_J0_isLatin1_aae02 : yJ0_isLatin1_aae02.cls ≠ "java/lang/invoke/MethodHandle" ∧ yJ0_isLatin1_aae02.cls ≠ "java/lang/invoke/VarHandle" ∧ (parseMethodDescriptor yJ0_isLatin1_aae02.desc).map (fun d => d.parameters.length) = some 0 := by decide +kernel
theorem yd_J0_checkIndex_df160 : yJ0_checkIndex_df160.cls ≠ "java/lang/invoke/MethodHandle" ∧ yJ0_checkIndex_df160.cls ≠ "java/lang/invoke/VarHandle" ∧ (parseMethodDescriptor yJ0_checkIndex_df160.desc).map (fun d => d.parameters.length) = some 2 := by decide +kernel
theorem yd_J0_checkBoundsOffCount_cabcc : yJ0_checkBoundsOffCount_cabcc.cls ≠ "java/lang/invoke/MethodHandle" ∧ yJ0_checkBoundsOffCount_cabcc.cls ≠ "java/lang/invoke/VarHandle" ∧ (parseMethodDescriptor yJ0_checkBoundsOffCount_cabcc.desc).map (fun d => d.parameters.length) = some 3 := by decide +kernel
theorem yd_J0_checkBoundsBeginEnd_23922 : yJ0_checkBoundsBeginEnd_23922.cls ≠ "java/lang/invoke/MethodHandle" ∧ yJ0_checkBoundsBeginEnd_23922.cls ≠ "java/lang/invoke/VarHandle" ∧ (parseMethodDescriptor yJ0_checkBoundsBeginEnd_23922.desc).map (fun d => d.parameters.length) = some 3 := by decide +kernel
theorem yd_J4_init_da8c8 : yJ4_init_da8c8.cls ≠ "java/lang/invoke/MethodHandle" ∧ yJ4_init_da8c8.cls ≠ "java/lang/invoke/VarHandle" ∧ (parseMethodDescriptor yJ4_init_da8c8.desc).map (fun d => d.parameters.length) = some 0 := by decide +kernel
theorem yd_J4_append_15ec4 : yJ4_append_15ec4.cls ≠ "java/lang/invoke/MethodHandle" ∧ yJ4_append_15ec4.cls ≠ "java/lang/invoke/VarHandle" ∧ (parseMethodDescriptor yJ4_append_15ec4.desc).map (fun d => d.parameters.length) = some 1 := by decide +kernel
theorem yd_J4_append_cf468 : yJ4_append_cf468.cls ≠ "java/lang/invoke/MethodHandle" ∧ yJ4_append_cf468.cls ≠ "java/lang/invoke/VarHandle" ∧ (parseMethodDescriptor yJ4_append_cf468.desc).map (fun d => d.parameters.length) = some 1 := by decide +kernel
theorem yd_J4_append_bf812 : yJ4_append_bf812.cls ≠ "java/lang/invoke/MethodHandle" ∧ yJ4_append_bf812.cls ≠ "java/lang/invoke/VarHandle" ∧ (parseMethodDescriptor yJ4_append_bf812.desc).map (fun d => d.parameters.length) = some 1 := by decide +kernel
theorem yd_J4_toString_0e30d : yJ4_toString_0e30d.cls ≠ "java/lang/invoke/MethodHandle" ∧ yJ4_toString_0e30d.cls ≠ "java/lang/invoke/VarHandle" ∧ (parseMethodDescriptor yJ4_toString_0e30d.desc).map (fun d => d.parameters.length) = some 0 := by decide +kernel
theorem yd_J4_length_8abf5 : yJ4_length_8abf5.cls ≠ "java/lang/invoke/MethodHandle" ∧ yJ4_length_8abf5.cls ≠ "java/lang/invoke/VarHandle" ∧ (parseMethodDescriptor yJ4_length_8abf5.desc).map (fun d => d.parameters.length) = some 0 := by decide +kernel
theorem yd_J1_charAt_3b067 : yJ1_charAt_3b067.cls ≠ "java/lang/invoke/MethodHandle" ∧ yJ1_charAt_3b067.cls ≠ "java/lang/invoke/VarHandle" ∧ (parseMethodDescriptor yJ1_charAt_3b067.desc).map (fun d => d.parameters.length) = some 2 := by decide +kernel
theorem yd_J1_canEncode_fc78d : yJ1_canEncode_fc78d.cls ≠ "java/lang/invoke/MethodHandle" ∧ yJ1_canEncode_fc78d.cls ≠ "java/lang/invoke/VarHandle" ∧ (parseMethodDescriptor yJ1_canEncode_fc78d.desc).map (fun d => d.parameters.length) = some 1 := by decide +kernel
theorem yd_J1_inflate_0e8fd : yJ1_inflate_0e8fd.cls ≠ "java/lang/invoke/MethodHandle" ∧ yJ1_inflate_0e8fd.cls ≠ "java/lang/invoke/VarHandle" ∧ (parseMethodDescriptor yJ1_inflate_0e8fd.desc).map (fun d => d.parameters.length) = some 5 := by decide +kernel
theorem yd_J2_newBytesFor_77867 : yJ2_newBytesFor_77867.cls ≠ "java/lang/invoke/MethodHandle" ∧ yJ2_newBytesFor_77867.cls ≠ "java/lang/invoke/VarHandle" ∧ (parseMethodDescriptor yJ2_newBytesFor_77867.desc).map (fun d => d.parameters.length) = some 1 := by decide +kernel
theorem yd_J2_newBytesLength_0f7a4 : yJ2_newBytesLength_0f7a4.cls ≠ "java/lang/invoke/MethodHandle" ∧ yJ2_newBytesLength_0f7a4.cls ≠ "java/lang/invoke/VarHandle" ∧ (parseMethodDescriptor yJ2_newBytesLength_0f7a4.desc).map (fun d => d.parameters.length) = some 1 := by decide +kernel
theorem yd_J2_putChar_b72d1 : yJ2_putChar_b72d1.cls ≠ "java/lang/invoke/MethodHandle" ∧ yJ2_putChar_b72d1.cls ≠ "java/lang/invoke/VarHandle" ∧ (parseMethodDescriptor yJ2_putChar_b72d1.desc).map (fun d => d.parameters.length) = some 3 := by decide +kernel
theorem yd_J2_getChar_3b067 : yJ2_getChar_3b067.cls ≠ "java/lang/invoke/MethodHandle" ∧ yJ2_getChar_3b067.cls ≠ "java/lang/invoke/VarHandle" ∧ (parseMethodDescriptor yJ2_getChar_3b067.desc).map (fun d => d.parameters.length) = some 2 := by decide +kernel
theorem yd_J2_length_9d52b : yJ2_length_9d52b.cls ≠ "java/lang/invoke/MethodHandle" ∧ yJ2_length_9d52b.cls ≠ "java/lang/invoke/VarHandle" ∧ (parseMethodDescriptor yJ2_length_9d52b.desc).map (fun d => d.parameters.length) = some 1 := by decide +kernel
theorem yd_J2_coderFromArrayLen_85cad : yJ2_coderFromArrayLen_85cad.cls ≠ "java/lang/invoke/MethodHandle" ∧ yJ2_coderFromArrayLen_85cad.cls ≠ "java/lang/invoke/VarHandle" ∧ (parseMethodDescriptor yJ2_coderFromArrayLen_85cad.desc).map (fun d => d.parameters.length) = some 2 := by decide +kernel
theorem yd_J2_compress_39247 : yJ2_compress_39247.cls ≠ "java/lang/invoke/MethodHandle" ∧ yJ2_compress_39247.cls ≠ "java/lang/invoke/VarHandle" ∧ (parseMethodDescriptor yJ2_compress_39247.desc).map (fun d => d.parameters.length) = some 3 := by decide +kernel
theorem yd_J2_compress_5af95 : yJ2_compress_5af95.cls ≠ "java/lang/invoke/MethodHandle" ∧ yJ2_compress_5af95.cls ≠ "java/lang/invoke/VarHandle" ∧ (parseMethodDescriptor yJ2_compress_5af95.desc).map (fun d => d.parameters.length) = some 5 := by decide +kernel
theorem yd_J2_putCharSB_b72d1 : yJ2_putCharSB_b72d1.cls ≠ "java/lang/invoke/MethodHandle" ∧ yJ2_putCharSB_b72d1.cls ≠ "java/lang/invoke/VarHandle" ∧ (parseMethodDescriptor yJ2_putCharSB_b72d1.desc).map (fun d => d.parameters.length) = some 3 := by decide +kernel
theorem yd_J2_getChars_46870 : yJ2_getChars_46870.cls ≠ "java/lang/invoke/MethodHandle" ∧ yJ2_getChars_46870.cls ≠ "java/lang/invoke/VarHandle" ∧ (parseMethodDescriptor yJ2_getChars_46870.desc).map (fun d => d.parameters.length) = some 4 := by decide +kernel
theorem yd_J2_putCharsAt_cd4e5 : yJ2_putCharsAt_cd4e5.cls ≠ "java/lang/invoke/MethodHandle" ∧ yJ2_putCharsAt_cd4e5.cls ≠ "java/lang/invoke/VarHandle" ∧ (parseMethodDescriptor yJ2_putCharsAt_cd4e5.desc).map (fun d => d.parameters.length) = some 6 := by decide +kernel
theorem yd_J2_charAt_3b067 : yJ2_charAt_3b067.cls ≠ "java/lang/invoke/MethodHandle" ∧ yJ2_charAt_3b067.cls ≠ "java/lang/invoke/VarHandle" ∧ (parseMethodDescriptor yJ2_charAt_3b067.desc).map (fun d => d.parameters.length) = some 2 := by decide +kernel
theorem yd_J2_inflate_0e8fd : yJ2_inflate_0e8fd.cls ≠ "java/lang/invoke/MethodHandle" ∧ yJ2_inflate_0e8fd.cls ≠ "java/lang/invoke/VarHandle" ∧ (parseMethodDescriptor yJ2_inflate_0e8fd.desc).map (fun d => d.parameters.length) = some 5 := by decide +kernel
theorem yd_J2_getChars_ba4f3 : yJ2_getChars_ba4f3.cls ≠ "java/lang/invoke/MethodHandle" ∧ yJ2_getChars_ba4f3.cls ≠ "java/lang/invoke/VarHandle" ∧ (parseMethodDescriptor yJ2_getChars_ba4f3.desc).map (fun d => d.parameters.length) = some 3 := by decide +kernel
theorem yd_J2_checkIndex_2214a : yJ2_checkIndex_2214a.cls ≠ "java/lang/invoke/MethodHandle" ∧ yJ2_checkIndex_2214a.cls ≠ "java/lang/invoke/VarHandle" ∧ (parseMethodDescriptor yJ2_checkIndex_2214a.desc).map (fun d => d.parameters.length) = some 2 := by decide +kernel
theorem yd_J2_checkBoundsBeginEnd_d044e : yJ2_checkBoundsBeginEnd_d044e.cls ≠ "java/lang/invoke/MethodHandle" ∧ yJ2_checkBoundsBeginEnd_d044e.cls ≠ "java/lang/invoke/VarHandle" ∧ (parseMethodDescriptor yJ2_checkBoundsBeginEnd_d044e.desc).map (fun d => d.parameters.length) = some 3 := by decide +kernel
theorem yd_J2_checkBoundsOffCount_d044e : yJ2_checkBoundsOffCount_d044e.cls ≠ "java/lang/invoke/MethodHandle" ∧ yJ2_checkBoundsOffCount_d044e.cls ≠ "java/lang/invoke/VarHandle" ∧ (parseMethodDescriptor yJ2_checkBoundsOffCount_d044e.desc).map (fun d => d.parameters.length) = some 3 := by decide +kernel
theorem yd_J7_copyOf_9075b : yJ7_copyOf_9075b.cls ≠ "java/lang/invoke/MethodHandle" ∧ yJ7_copyOf_9075b.cls ≠ "java/lang/invoke/VarHandle" ∧ (parseMethodDescriptor yJ7_copyOf_9075b.desc).map (fun d => d.parameters.length) = some 2 := by decide +kernel
theorem yd_J7_checkLength_df160 : yJ7_checkLength_df160.cls ≠ "java/lang/invoke/MethodHandle" ∧ yJ7_checkLength_df160.cls ≠ "java/lang/invoke/VarHandle" ∧ (parseMethodDescriptor yJ7_checkLength_df160.desc).map (fun d => d.parameters.length) = some 2 := by decide +kernel
theorem yd_J7_copyOfRange_39247 : yJ7_copyOfRange_39247.cls ≠ "java/lang/invoke/MethodHandle" ∧ yJ7_copyOfRange_39247.cls ≠ "java/lang/invoke/VarHandle" ∧ (parseMethodDescriptor yJ7_copyOfRange_39247.desc).map (fun d => d.parameters.length) = some 3 := by decide +kernel
theorem yd_J7_copyOfRangeByte_39247 : yJ7_copyOfRangeByte_39247.cls ≠ "java/lang/invoke/MethodHandle" ∧ yJ7_copyOfRangeByte_39247.cls ≠ "java/lang/invoke/VarHandle" ∧ (parseMethodDescriptor yJ7_copyOfRangeByte_39247.desc).map (fun d => d.parameters.length) = some 3 := by decide +kernel
theorem yd_J8_newLength_cabcc : yJ8_newLength_cabcc.cls ≠ "java/lang/invoke/MethodHandle" ∧ yJ8_newLength_cabcc.cls ≠ "java/lang/invoke/VarHandle" ∧ (parseMethodDescriptor yJ8_newLength_cabcc.desc).map (fun d => d.parameters.length) = some 3 := by decide +kernel
theorem yd_J8_hugeLength_7cf53 : yJ8_hugeLength_7cf53.cls ≠ "java/lang/invoke/MethodHandle" ∧ yJ8_hugeLength_7cf53.cls ≠ "java/lang/invoke/VarHandle" ∧ (parseMethodDescriptor yJ8_hugeLength_7cf53.desc).map (fun d => d.parameters.length) = some 2 := by decide +kernel
theorem yd_J3_checkIndex_8e157 : yJ3_checkIndex_8e157.cls ≠ "java/lang/invoke/MethodHandle" ∧ yJ3_checkIndex_8e157.cls ≠ "java/lang/invoke/VarHandle" ∧ (parseMethodDescriptor yJ3_checkIndex_8e157.desc).map (fun d => d.parameters.length) = some 3 := by decide +kernel
theorem yd_J3_checkFromToIndex_8c36e : yJ3_checkFromToIndex_8c36e.cls ≠ "java/lang/invoke/MethodHandle" ∧ yJ3_checkFromToIndex_8c36e.cls ≠ "java/lang/invoke/VarHandle" ∧ (parseMethodDescriptor yJ3_checkFromToIndex_8c36e.desc).map (fun d => d.parameters.length) = some 4 := by decide +kernel
theorem yd_J3_checkFromIndexSize_8c36e : yJ3_checkFromIndexSize_8c36e.cls ≠ "java/lang/invoke/MethodHandle" ∧ yJ3_checkFromIndexSize_8c36e.cls ≠ "java/lang/invoke/VarHandle" ∧ (parseMethodDescriptor yJ3_checkFromIndexSize_8c36e.desc).map (fun d => d.parameters.length) = some 4 := by decide +kernel
theorem yd_L_bring : yL_bring.cls ≠ "java/lang/invoke/MethodHandle" ∧ yL_bring.cls ≠ "java/lang/invoke/VarHandle" ∧ (parseMethodDescriptor yL_bring.desc).map (fun d => d.parameters.length) = some 5 := by decide +kernel
theorem yd_L_leaves : yL_leaves.cls ≠ "java/lang/invoke/MethodHandle" ∧ yL_leaves.cls ≠ "java/lang/invoke/VarHandle" ∧ (parseMethodDescriptor yL_leaves.desc).map (fun d => d.parameters.length) = some 4 := by decide +kernel
theorem yd_L_buy : yL_buy.cls ≠ "java/lang/invoke/MethodHandle" ∧ yL_buy.cls ≠ "java/lang/invoke/VarHandle" ∧ (parseMethodDescriptor yL_buy.desc).map (fun d => d.parameters.length) = some 4 := by decide +kernel
theorem yd_L_make : yL_make.cls ≠ "java/lang/invoke/MethodHandle" ∧ yL_make.cls ≠ "java/lang/invoke/VarHandle" ∧ (parseMethodDescriptor yL_make.desc).map (fun d => d.parameters.length) = some 3 := by decide +kernel
theorem yd_L_line : yL_line.cls ≠ "java/lang/invoke/MethodHandle" ∧ yL_line.cls ≠ "java/lang/invoke/VarHandle" ∧ (parseMethodDescriptor yL_line.desc).map (fun d => d.parameters.length) = some 3 := by decide +kernel
theorem yd_L_fill : yL_fill.cls ≠ "java/lang/invoke/MethodHandle" ∧ yL_fill.cls ≠ "java/lang/invoke/VarHandle" ∧ (parseMethodDescriptor yL_fill.desc).map (fun d => d.parameters.length) = some 6 := by decide +kernel
theorem yd_L_empty : yL_empty.cls ≠ "java/lang/invoke/MethodHandle" ∧ yL_empty.cls ≠ "java/lang/invoke/VarHandle" ∧ (parseMethodDescriptor yL_empty.desc).map (fun d => d.parameters.length) = some 3 := by decide +kernel
theorem yd_L_screw : yL_screw.cls ≠ "java/lang/invoke/MethodHandle" ∧ yL_screw.cls ≠ "java/lang/invoke/VarHandle" ∧ (parseMethodDescriptor yL_screw.desc).map (fun d => d.parameters.length) = some 4 := by decide +kernel
theorem yd_L_unscrew : yL_unscrew.cls ≠ "java/lang/invoke/MethodHandle" ∧ yL_unscrew.cls ≠ "java/lang/invoke/VarHandle" ∧ (parseMethodDescriptor yL_unscrew.desc).map (fun d => d.parameters.length) = some 3 := by decide +kernel
theorem yd_L_label : yL_label.cls ≠ "java/lang/invoke/MethodHandle" ∧ yL_label.cls ≠ "java/lang/invoke/VarHandle" ∧ (parseMethodDescriptor yL_label.desc).map (fun d => d.parameters.length) = some 3 := by decide +kernel
theorem yd_L_labelled : yL_labelled.cls ≠ "java/lang/invoke/MethodHandle" ∧ yL_labelled.cls ≠ "java/lang/invoke/VarHandle" ∧ (parseMethodDescriptor yL_labelled.desc).map (fun d => d.parameters.length) = some 4 := by decide +kernel
theorem yd_L_chest : yL_chest.cls ≠ "java/lang/invoke/MethodHandle" ∧ yL_chest.cls ≠ "java/lang/invoke/VarHandle" ∧ (parseMethodDescriptor yL_chest.desc).map (fun d => d.parameters.length) = some 4 := by decide +kernel
theorem yd_L_worth : yL_worth.cls ≠ "java/lang/invoke/MethodHandle" ∧ yL_worth.cls ≠ "java/lang/invoke/VarHandle" ∧ (parseMethodDescriptor yL_worth.desc).map (fun d => d.parameters.length) = some 3 := by decide +kernel
theorem yd_L_ranked : yL_ranked.cls ≠ "java/lang/invoke/MethodHandle" ∧ yL_ranked.cls ≠ "java/lang/invoke/VarHandle" ∧ (parseMethodDescriptor yL_ranked.desc).map (fun d => d.parameters.length) = some 3 := by decide +kernel
theorem yd_L_toQuay : yL_toQuay.cls ≠ "java/lang/invoke/MethodHandle" ∧ yL_toQuay.cls ≠ "java/lang/invoke/VarHandle" ∧ (parseMethodDescriptor yL_toQuay.desc).map (fun d => d.parameters.length) = some 3 := by decide +kernel
theorem yd_L_load : yL_load.cls ≠ "java/lang/invoke/MethodHandle" ∧ yL_load.cls ≠ "java/lang/invoke/VarHandle" ∧ (parseMethodDescriptor yL_load.desc).map (fun d => d.parameters.length) = some 3 := by decide +kernel
theorem yd_L_sail : yL_sail.cls ≠ "java/lang/invoke/MethodHandle" ∧ yL_sail.cls ≠ "java/lang/invoke/VarHandle" ∧ (parseMethodDescriptor yL_sail.desc).map (fun d => d.parameters.length) = some 2 := by decide +kernel
theorem yd_L_height : yL_height.cls ≠ "java/lang/invoke/MethodHandle" ∧ yL_height.cls ≠ "java/lang/invoke/VarHandle" ∧ (parseMethodDescriptor yL_height.desc).map (fun d => d.parameters.length) = some 3 := by decide +kernel
theorem yd_L_heightAgain : yL_heightAgain.cls ≠ "java/lang/invoke/MethodHandle" ∧ yL_heightAgain.cls ≠ "java/lang/invoke/VarHandle" ∧ (parseMethodDescriptor yL_heightAgain.desc).map (fun d => d.parameters.length) = some 3 := by decide +kernel
theorem yd_L_setHumidity : yL_setHumidity.cls ≠ "java/lang/invoke/MethodHandle" ∧ yL_setHumidity.cls ≠ "java/lang/invoke/VarHandle" ∧ (parseMethodDescriptor yL_setHumidity.desc).map (fun d => d.parameters.length) = some 3 := by decide +kernel
theorem yd_L_pass : yL_pass.cls ≠ "java/lang/invoke/MethodHandle" ∧ yL_pass.cls ≠ "java/lang/invoke/VarHandle" ∧ (parseMethodDescriptor yL_pass.desc).map (fun d => d.parameters.length) = some 3 := by decide +kernel
theorem yd_L_meanDamp : yL_meanDamp.cls ≠ "java/lang/invoke/MethodHandle" ∧ yL_meanDamp.cls ≠ "java/lang/invoke/VarHandle" ∧ (parseMethodDescriptor yL_meanDamp.desc).map (fun d => d.parameters.length) = some 2 := by decide +kernel
theorem yd_L_sailedShare : yL_sailedShare.cls ≠ "java/lang/invoke/MethodHandle" ∧ yL_sailedShare.cls ≠ "java/lang/invoke/VarHandle" ∧ (parseMethodDescriptor yL_sailedShare.desc).map (fun d => d.parameters.length) = some 2 := by decide +kernel
theorem yd_L_reason : yL_reason.cls ≠ "java/lang/invoke/MethodHandle" ∧ yL_reason.cls ≠ "java/lang/invoke/VarHandle" ∧ (parseMethodDescriptor yL_reason.desc).map (fun d => d.parameters.length) = some 3 := by decide +kernel
theorem yd_L_account : yL_account.cls ≠ "java/lang/invoke/MethodHandle" ∧ yL_account.cls ≠ "java/lang/invoke/VarHandle" ∧ (parseMethodDescriptor yL_account.desc).map (fun d => d.parameters.length) = some 3 := by decide +kernel
theorem yd_L_feed : yL_feed.cls ≠ "java/lang/invoke/MethodHandle" ∧ yL_feed.cls ≠ "java/lang/invoke/VarHandle" ∧ (parseMethodDescriptor yL_feed.desc).map (fun d => d.parameters.length) = some 3 := by decide +kernel
theorem yd_L_perform : yL_perform.cls ≠ "java/lang/invoke/MethodHandle" ∧ yL_perform.cls ≠ "java/lang/invoke/VarHandle" ∧ (parseMethodDescriptor yL_perform.desc).map (fun d => d.parameters.length) = some 2 := by decide +kernel
theorem yd_L_undo : yL_undo.cls ≠ "java/lang/invoke/MethodHandle" ∧ yL_undo.cls ≠ "java/lang/invoke/VarHandle" ∧ (parseMethodDescriptor yL_undo.desc).map (fun d => d.parameters.length) = some 2 := by decide +kernel
theorem yd_L_restore : yL_restore.cls ≠ "java/lang/invoke/MethodHandle" ∧ yL_restore.cls ≠ "java/lang/invoke/VarHandle" ∧ (parseMethodDescriptor yL_restore.desc).map (fun d => d.parameters.length) = some 2 := by decide +kernel
