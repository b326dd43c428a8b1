set_option maxRecDepth 20000 in
theorem ggX0_init_X3_init : GoodIn wsX0_init wsX3_init := goodIn_r _ [9, 10, 2, 3, 11, 12, 13, 14] (by decide +kernel) (by decide +kernel)
set_option maxRecDepth 20000 in
theorem gX0_init_X3_init_n11 : GoodIn wsX0_init (wsX3_init) := ggX0_init_X3_init
set_option maxRecDepth 20000 in
theorem ggX0_findFault_X0_start : GoodIn wsX0_findFault wsX0_start := goodIn_r _ [9, 1, 45, 46, 47, 48, 49, 50] (by decide +kernel) (by decide +kernel)
set_option maxRecDepth 20000 in
theorem gX0_findFault_X0_start : GoodIn wsX0_findFault (wsV RX0 22 RX0 yX0_start wsX0_start) := goodIn_app (goodIn_of _ (by decide +kernel)) ggX0_findFault_X0_start
set_option maxRecDepth 20000 in
theorem ggX0_findFault_X0_readDeed : GoodIn wsX0_findFault wsX0_readDeed := goodIn_r _ [13, 14, 15, 16, 17, 18, 8, 19, 2, 1, 20, 21, 22, 23, 24, 25, 26, 27, 28, 29, 30, 31, 32, 33, 34, 35, 36, 37, 38, 39, 40, 41, 42, 43, 44, 45, 46, 47, 48, 49, 50, 51, 52] (by decide +kernel) (by decide +kernel)
set_option maxRecDepth 20000 in
theorem gX0_findFault_X0_readDeed : GoodIn wsX0_findFault (wsV RX0 25 RX0 yX0_readDeed wsX0_readDeed) := goodIn_app (goodIn_of _ (by decide +kernel)) ggX0_findFault_X0_readDeed
set_option maxRecDepth 20000 in
theorem ggX0_findFault_X0_readSign : GoodIn wsX0_findFault wsX0_readSign := goodIn_r _ [19, 2, 1, 20, 21, 22, 23, 24, 25, 26, 45, 46, 47, 48, 49, 50, 51, 52] (by decide +kernel) (by decide +kernel)
set_option maxRecDepth 20000 in
theorem gX0_findFault_X0_readSign : GoodIn wsX0_findFault (wsV RX0 29 RX0 yX0_readSign wsX0_readSign) := goodIn_app (goodIn_of _ (by decide +kernel)) ggX0_findFault_X0_readSign
set_option maxRecDepth 20000 in
theorem ggX0_readSign_X3_signAt : GoodIn wsX0_readSign wsX3_signAt := goodIn_r _ [7, 8, 9, 16, 17] (by decide +kernel) (by decide +kernel)
set_option maxRecDepth 20000 in
theorem gX0_readSign_X3_signAt : GoodIn wsX0_readSign (wsV RX0 37 RX3 yX3_signAt wsX3_signAt) := goodIn_app (goodIn_of _ (by decide +kernel)) ggX0_readSign_X3_signAt
set_option maxRecDepth 20000 in
theorem ggX0_readDeed_X0_readSign : GoodIn wsX0_readDeed wsX0_readSign := goodIn_r _ [7, 8, 9, 10, 11, 12, 13, 14, 15, 16, 35, 36, 37, 38, 39, 40, 41, 42] (by decide +kernel) (by decide +kernel)
set_option maxRecDepth 20000 in
theorem gX0_readDeed_X0_readSign : GoodIn wsX0_readDeed (wsV RX0 29 RX0 yX0_readSign wsX0_readSign) := goodIn_app (goodIn_of _ (by decide +kernel)) ggX0_readDeed_X0_readSign
set_option maxRecDepth 20000 in
theorem ggX0_readDeed_X0_readNumber : GoodIn wsX0_readDeed wsX0_readNumber := goodIn_r _ [20, 9, 21, 22, 23, 6, 24, 8, 10, 11, 12, 13, 14, 15, 16, 35, 36, 37, 38, 39, 40, 41, 42] (by decide +kernel) (by decide +kernel)
set_option maxRecDepth 20000 in
theorem gX0_readDeed_X0_readNumber : GoodIn wsX0_readDeed (wsV RX0 44 RX0 yX0_readNumber wsX0_readNumber) := goodIn_app (goodIn_of _ (by decide +kernel)) ggX0_readDeed_X0_readNumber
set_option maxRecDepth 20000 in
theorem ggX0_readDeed_X0_readSector : GoodIn wsX0_readDeed wsX0_readSector := goodIn_r _ [28, 29, 30, 3, 4, 5, 6, 7, 8, 9, 10, 11, 12, 13, 14, 15, 16, 17, 18, 19, 20, 21, 22, 23, 24, 35, 36, 37, 38, 39, 40, 41, 42] (by decide +kernel) (by decide +kernel)
set_option maxRecDepth 20000 in
theorem gX0_readDeed_X0_readSector : GoodIn wsX0_readDeed (wsV RX0 51 RX0 yX0_readSector wsX0_readSector) := goodIn_app (goodIn_of _ (by decide +kernel)) ggX0_readDeed_X0_readSector
set_option maxRecDepth 20000 in
theorem ggX0_readDeed_X0_readCharge : GoodIn wsX0_readDeed wsX0_readCharge := goodIn_r _ [34, 2, 3, 4, 5, 6, 7, 8, 9, 10, 11, 12, 13, 14, 15, 16, 17, 18, 19, 20, 21, 22, 23, 24, 35, 36, 37, 38, 39, 40, 41, 42] (by decide +kernel) (by decide +kernel)
set_option maxRecDepth 20000 in
theorem gX0_readDeed_X0_readCharge : GoodIn wsX0_readDeed (wsV RX0 54 RX0 yX0_readCharge wsX0_readCharge) := goodIn_app (goodIn_of _ (by decide +kernel)) ggX0_readDeed_X0_readCharge
set_option maxRecDepth 20000 in
theorem ggX0_readSector_X0_readSign : GoodIn wsX0_readSector wsX0_readSign := goodIn_r _ [7, 8, 9, 10, 11, 12, 13, 14, 15, 16, 25, 26, 27, 28, 29, 30, 31, 32] (by decide +kernel) (by decide +kernel)
set_option maxRecDepth 20000 in
theorem gX0_readSector_X0_readSign : GoodIn wsX0_readSector (wsV RX0 29 RX0 yX0_readSign wsX0_readSign) := goodIn_app (goodIn_of _ (by decide +kernel)) ggX0_readSector_X0_readSign
set_option maxRecDepth 20000 in
theorem ggX0_readSector_X0_readNumber : GoodIn wsX0_readSector wsX0_readNumber := goodIn_r _ [20, 9, 21, 22, 23, 6, 24, 8, 10, 11, 12, 13, 14, 15, 16, 25, 26, 27, 28, 29, 30, 31, 32] (by decide +kernel) (by decide +kernel)
set_option maxRecDepth 20000 in
theorem gX0_readSector_X0_readNumber : GoodIn wsX0_readSector (wsV RX0 44 RX0 yX0_readNumber wsX0_readNumber) := goodIn_app (goodIn_of _ (by decide +kernel)) ggX0_readSector_X0_readNumber
set_option maxRecDepth 20000 in
theorem ggX0_readCharge_X0_readSign : GoodIn wsX0_readCharge wsX0_readSign := goodIn_r _ [6, 7, 8, 9, 10, 11, 12, 13, 14, 15, 24, 25, 26, 27, 28, 29, 30, 31] (by decide +kernel) (by decide +kernel)
set_option maxRecDepth 20000 in
theorem gX0_readCharge_X0_readSign : GoodIn wsX0_readCharge (wsV RX0 29 RX0 yX0_readSign wsX0_readSign) := goodIn_app (goodIn_of _ (by decide +kernel)) ggX0_readCharge_X0_readSign
set_option maxRecDepth 20000 in
theorem ggX0_readCharge_X0_readNumber : GoodIn wsX0_readCharge wsX0_readNumber := goodIn_r _ [19, 8, 20, 21, 22, 5, 23, 7, 9, 10, 11, 12, 13, 14, 15, 24, 25, 26, 27, 28, 29, 30, 31] (by decide +kernel) (by decide +kernel)
set_option maxRecDepth 20000 in
theorem gX0_readCharge_X0_readNumber : GoodIn wsX0_readCharge (wsV RX0 44 RX0 yX0_readNumber wsX0_readNumber) := goodIn_app (goodIn_of _ (by decide +kernel)) ggX0_readCharge_X0_readNumber
set_option maxRecDepth 20000 in
theorem ggX0_readNumber_X0_digitAt : GoodIn wsX0_readNumber wsX0_digitAt := goodIn_r _ [6, 7, 8, 9, 10, 11, 12, 13, 14, 15, 16, 17, 18, 19, 20, 21, 22] (by decide +kernel) (by decide +kernel)
set_option maxRecDepth 20000 in
theorem gX0_readNumber_X0_digitAt : GoodIn wsX0_readNumber (wsV RX0 63 RX0 yX0_digitAt wsX0_digitAt) := goodIn_app (goodIn_of _ (by decide +kernel)) ggX0_readNumber_X0_digitAt
set_option maxRecDepth 20000 in
theorem ggX0_digitAt_X3_signAt : GoodIn wsX0_digitAt wsX3_signAt := goodIn_r _ [6, 7, 8, 15, 16] (by decide +kernel) (by decide +kernel)
set_option maxRecDepth 20000 in
theorem gX0_digitAt_X3_signAt : GoodIn wsX0_digitAt (wsV RX0 37 RX3 yX3_signAt wsX3_signAt) := goodIn_app (goodIn_of _ (by decide +kernel)) ggX0_digitAt_X3_signAt
set_option maxRecDepth 20000 in
theorem ggX1_record_J9_floorMod_7cf53 : GoodIn wsX1_record wsJ9_floorMod_7cf53 := goodIn_r _ [10] (by decide +kernel) (by decide +kernel)
set_option maxRecDepth 20000 in
theorem gX1_record_J9_floorMod_7cf53 : GoodIn wsX1_record (va_wsS RX1 24 yJ9_floorMod_7cf53 wsJ9_floorMod_7cf53) := goodIn_app (goodIn_of _ (by decide +kernel)) ggX1_record_J9_floorMod_7cf53
set_option maxRecDepth 20000 in
theorem ggX1_record_X2_init : GoodIn wsX1_record wsX2_init := goodIn_r _ [12, 13, 14, 15, 16, 17, 18, 19, 20, 21, 22, 48, 49, 50, 51, 52, 53, 54, 55, 56, 57, 58, 59, 60] (by decide +kernel) (by decide +kernel)
set_option maxRecDepth 20000 in
theorem gX1_record_X2_init_n30 : GoodIn wsX1_record (wsX2_init) := ggX1_record_X2_init
set_option maxRecDepth 20000 in
theorem ggX1_record_X2_become : GoodIn wsX1_record wsX2_become := goodIn_r _ [26, 17, 18, 19, 20, 21, 22, 27, 28, 29, 30, 31, 32, 33, 34, 35, 36, 37, 38, 39, 40, 41, 42, 43, 44, 48, 49, 50, 51, 52, 53, 54, 55, 56, 57, 58, 59, 60] (by decide +kernel) (by decide +kernel)
set_option maxRecDepth 20000 in
theorem gX1_record_X2_become : GoodIn wsX1_record (wsV RX1 31 RX2 yX2_become wsX2_become) := goodIn_app (goodIn_of _ (by decide +kernel)) ggX1_record_X2_become
set_option maxRecDepth 20000 in
theorem ggX1_takeBack_J9_floorMod_7cf53 : GoodIn wsX1_takeBack wsJ9_floorMod_7cf53 := goodIn_r _ [7] (by decide +kernel) (by decide +kernel)
set_option maxRecDepth 20000 in
theorem gX1_takeBack_J9_floorMod_7cf53 : GoodIn wsX1_takeBack (va_wsS RX1 24 yJ9_floorMod_7cf53 wsJ9_floorMod_7cf53) := goodIn_app (goodIn_of _ (by decide +kernel)) ggX1_takeBack_J9_floorMod_7cf53
set_option maxRecDepth 20000 in
theorem ggX1_takeBack_X2_become : GoodIn wsX1_takeBack wsX2_become := goodIn_r _ [12, 13, 14, 15, 16, 17, 18, 19, 20, 21, 22, 23, 24, 25, 26, 27, 28, 29, 30, 31, 32, 33, 34, 35, 36, 40, 41, 42, 43, 44, 45, 46, 47, 48, 49, 50, 51, 52] (by decide +kernel) (by decide +kernel)
set_option maxRecDepth 20000 in
theorem gX1_takeBack_X2_become : GoodIn wsX1_takeBack (wsV RX1 31 RX2 yX2_become wsX2_become) := goodIn_app (goodIn_of _ (by decide +kernel)) ggX1_takeBack_X2_become
set_option maxRecDepth 20000 in
theorem ggX2_become_X4_copyNumbers : GoodIn wsX2_become wsX4_copyNumbers := goodIn_r _ [16, 17, 18, 19, 20, 21, 22, 23, 24] (by decide +kernel) (by decide +kernel)
set_option maxRecDepth 20000 in
theorem gX2_become_X4_copyNumbers_n30 : GoodIn wsX2_become (wsX4_copyNumbers) := ggX2_become_X4_copyNumbers
set_option maxRecDepth 20000 in
theorem ggX2_indexOf_J9_floorMod_7cf53 : GoodIn wsX2_indexOf wsJ9_floorMod_7cf53 := goodIn_r _ [4] (by decide +kernel) (by decide +kernel)
set_option maxRecDepth 20000 in
theorem gX2_indexOf_J9_floorMod_7cf53 : GoodIn wsX2_indexOf (va_wsS RX2 56 yJ9_floorMod_7cf53 wsJ9_floorMod_7cf53) := goodIn_app (goodIn_of _ (by decide +kernel)) ggX2_indexOf_J9_floorMod_7cf53
set_option maxRecDepth 20000 in
theorem ggX2_logIndexOf_J9_floorMod_7cf53 : GoodIn wsX2_logIndexOf wsJ9_floorMod_7cf53 := goodIn_r _ [4] (by decide +kernel) (by decide +kernel)
set_option maxRecDepth 20000 in
theorem gX2_logIndexOf_J9_floorMod_7cf53 : GoodIn wsX2_logIndexOf (va_wsS RX2 56 yJ9_floorMod_7cf53 wsJ9_floorMod_7cf53) := goodIn_app (goodIn_of _ (by decide +kernel)) ggX2_logIndexOf_J9_floorMod_7cf53
set_option maxRecDepth 20000 in
theorem ggX2_sumOfDisc_X2_firstIndexOf : GoodIn wsX2_sumOfDisc wsX2_firstIndexOf := goodIn_r _ [5] (by decide +kernel) (by decide +kernel)
set_option maxRecDepth 20000 in
theorem gX2_sumOfDisc_X2_firstIndexOf : GoodIn wsX2_sumOfDisc (va_wsS RX2 62 yX2_firstIndexOf wsX2_firstIndexOf) := goodIn_app (goodIn_of _ (by decide +kernel)) ggX2_sumOfDisc_X2_firstIndexOf
set_option maxRecDepth 20000 in
theorem ggX2_sectorsWithSign_X2_firstIndexOf : GoodIn wsX2_sectorsWithSign wsX2_firstIndexOf := goodIn_r _ [5] (by decide +kernel) (by decide +kernel)
set_option maxRecDepth 20000 in
theorem gX2_sectorsWithSign_X2_firstIndexOf : GoodIn wsX2_sectorsWithSign (va_wsS RX2 62 yX2_firstIndexOf wsX2_firstIndexOf) := goodIn_app (goodIn_of _ (by decide +kernel)) ggX2_sectorsWithSign_X2_firstIndexOf
set_option maxRecDepth 20000 in
theorem ggX2_sectorsWithSign_J6_signum_0f7a4 : GoodIn wsX2_sectorsWithSign wsJ6_signum_0f7a4 := goodIn_r _ [9] (by decide +kernel) (by decide +kernel)
set_option maxRecDepth 20000 in
theorem gX2_sectorsWithSign_J6_signum_0f7a4 : GoodIn wsX2_sectorsWithSign (va_wsS RX2 66 yJ6_signum_0f7a4 wsJ6_signum_0f7a4) := goodIn_app (goodIn_of _ (by decide +kernel)) ggX2_sectorsWithSign_J6_signum_0f7a4
set_option maxRecDepth 20000 in
theorem ggX2_greatestOfDisc_X2_firstIndexOf : GoodIn wsX2_greatestOfDisc wsX2_firstIndexOf := goodIn_r _ [9] (by decide +kernel) (by decide +kernel)
set_option maxRecDepth 20000 in
theorem gX2_greatestOfDisc_X2_firstIndexOf : GoodIn wsX2_greatestOfDisc (va_wsS RX2 62 yX2_firstIndexOf wsX2_firstIndexOf) := goodIn_app (goodIn_of _ (by decide +kernel)) ggX2_greatestOfDisc_X2_firstIndexOf
set_option maxRecDepth 20000 in
theorem ggX2_leastOfDisc_X2_firstIndexOf : GoodIn wsX2_leastOfDisc wsX2_firstIndexOf := goodIn_r _ [9] (by decide +kernel) (by decide +kernel)
set_option maxRecDepth 20000 in
theorem gX2_leastOfDisc_X2_firstIndexOf : GoodIn wsX2_leastOfDisc (va_wsS RX2 62 yX2_firstIndexOf wsX2_firstIndexOf) := goodIn_app (goodIn_of _ (by decide +kernel)) ggX2_leastOfDisc_X2_firstIndexOf
set_option maxRecDepth 20000 in
theorem ggX2_chargeOfAll_X2_sumOfDisc : GoodIn wsX2_chargeOfAll wsX2_sumOfDisc := goodIn_r _ [6, 7, 8, 9, 5, 10, 11, 12, 13, 14, 15, 16, 17, 18, 19, 20, 21, 22, 23] (by decide +kernel) (by decide +kernel)
set_option maxRecDepth 20000 in
theorem gX2_chargeOfAll_X2_sumOfDisc : GoodIn wsX2_chargeOfAll (wsV RX2 77 RX2 yX2_sumOfDisc wsX2_sumOfDisc) := goodIn_app (goodIn_of _ (by decide +kernel)) ggX2_chargeOfAll_X2_sumOfDisc
set_option maxRecDepth 20000 in
theorem ggX2_sign_J6_signum_0f7a4 : GoodIn wsX2_sign wsJ6_signum_0f7a4 := goodIn_r _ [5] (by decide +kernel) (by decide +kernel)
set_option maxRecDepth 20000 in
theorem gX2_sign_J6_signum_0f7a4 : GoodIn wsX2_sign (va_wsS RX2 66 yJ6_signum_0f7a4 wsJ6_signum_0f7a4) := goodIn_app (goodIn_of _ (by decide +kernel)) ggX2_sign_J6_signum_0f7a4
set_option maxRecDepth 20000 in
theorem ggX2_putCharge_X2_indexOf : GoodIn wsX2_putCharge wsX2_indexOf := goodIn_r _ [7, 8, 9, 10, 11] (by decide +kernel) (by decide +kernel)
set_option maxRecDepth 20000 in
theorem gX2_putCharge_X2_indexOf : GoodIn wsX2_putCharge (va_wsS RX2 84 yX2_indexOf wsX2_indexOf) := goodIn_app (goodIn_of _ (by decide +kernel)) ggX2_putCharge_X2_indexOf
set_option maxRecDepth 20000 in
theorem ggX2_emptyJars_X2_difference : GoodIn wsX2_emptyJars wsX2_difference := goodIn_r _ [7, 2, 8, 9, 10, 11, 12, 13, 14, 15, 16, 17, 18, 19, 20, 21, 22, 23, 24] (by decide +kernel) (by decide +kernel)
set_option maxRecDepth 20000 in
theorem gX2_emptyJars_X2_difference : GoodIn wsX2_emptyJars (wsV RX2 88 RX2 yX2_difference wsX2_difference) := goodIn_app (goodIn_of _ (by decide +kernel)) ggX2_emptyJars_X2_difference
set_option maxRecDepth 20000 in
theorem ggX2_emptySectors_X2_sectorsWithSign : GoodIn wsX2_emptySectors wsX2_sectorsWithSign := goodIn_r _ [7, 2, 8, 9, 6, 10, 11, 12, 13, 14, 19, 20, 21, 22, 23, 24, 25, 26, 27, 28, 29, 30, 31] (by decide +kernel) (by decide +kernel)
set_option maxRecDepth 20000 in
theorem gX2_emptySectors_X2_sectorsWithSign : GoodIn wsX2_emptySectors (wsV RX2 92 RX2 yX2_sectorsWithSign wsX2_sectorsWithSign) := goodIn_app (goodIn_of _ (by decide +kernel)) ggX2_emptySectors_X2_sectorsWithSign
set_option maxRecDepth 20000 in
theorem ggX2_emptySectors_X2_sumOfDisc : GoodIn wsX2_emptySectors wsX2_sumOfDisc := goodIn_r _ [18, 2, 8, 9, 6, 10, 19, 20, 21, 22, 23, 24, 25, 26, 27, 28, 29, 30, 31] (by decide +kernel) (by decide +kernel)
set_option maxRecDepth 20000 in
theorem gX2_emptySectors_X2_sumOfDisc : GoodIn wsX2_emptySectors (wsV RX2 77 RX2 yX2_sumOfDisc wsX2_sumOfDisc) := goodIn_app (goodIn_of _ (by decide +kernel)) ggX2_emptySectors_X2_sumOfDisc
set_option maxRecDepth 20000 in
theorem ggX2_emptySectors_X2_firstIndexOf : GoodIn wsX2_emptySectors wsX2_firstIndexOf := goodIn_r _ [10] (by decide +kernel) (by decide +kernel)
set_option maxRecDepth 20000 in
theorem gX2_emptySectors_X2_firstIndexOf : GoodIn wsX2_emptySectors (va_wsS RX2 62 yX2_firstIndexOf wsX2_firstIndexOf) := goodIn_app (goodIn_of _ (by decide +kernel)) ggX2_emptySectors_X2_firstIndexOf
set_option maxRecDepth 20000 in
theorem ggX2_turnHandle_X2_turnOnce : GoodIn wsX2_turnHandle wsX2_turnOnce := goodIn_r _ [6, 7, 8, 9, 5, 10, 11, 12, 13, 14, 15, 16, 17, 18, 19, 20, 21, 22, 23, 24, 25, 26, 27, 28, 29, 30, 31, 32, 33, 34, 35, 36, 37, 38, 39, 40, 41, 42, 43, 44, 45, 46, 47, 48, 49, 50, 51, 52, 53, 54, 55, 56, 57, 58, 59, 60, 61, 62, 63, 64, 65, 66, 67, 1, 68, 69, 70, 71, 72, 73, 74, 75, 76, 77, 78, 79, 80, 81, 82, 83, 84, 85, 86, 87, 88, 89, 90, 91, 92, 93, 94, 95, 96, 97, 98] (by decide +kernel) (by decide +kernel)
set_option maxRecDepth 20000 in
theorem gX2_turnHandle_X2_turnOnce : GoodIn wsX2_turnHandle (wsV RX2 95 RX2 yX2_turnOnce wsX2_turnOnce) := goodIn_app (goodIn_of _ (by decide +kernel)) ggX2_turnHandle_X2_turnOnce
set_option maxRecDepth 20000 in
theorem ggX2_turnToGreatestDifference_X2_turnOnce : GoodIn wsX2_turnToGreatestDifference wsX2_turnOnce := goodIn_r _ [9, 10, 11, 12, 8, 13, 14, 15, 16, 17, 18, 19, 20, 1, 2, 3, 4, 21, 22, 23, 24, 25, 26, 27, 28, 29, 30, 31, 32, 33, 34, 35, 36, 37, 38, 39, 40, 41, 42, 43, 44, 45, 46, 47, 48, 49, 50, 51, 52, 53, 54, 55, 56, 57, 58, 59, 60, 61, 62, 63, 64, 65, 66, 67, 68, 69, 70, 71, 72, 73, 74, 75, 76, 77, 78, 79, 80, 81, 82, 83, 84, 85, 86, 87, 88, 89, 90, 91, 92, 93, 94, 95, 96, 97, 98] (by decide +kernel) (by decide +kernel)
set_option maxRecDepth 20000 in
theorem gX2_turnToGreatestDifference_X2_turnOnce : GoodIn wsX2_turnToGreatestDifference (wsV RX2 95 RX2 yX2_turnOnce wsX2_turnOnce) := goodIn_app (goodIn_of _ (by decide +kernel)) ggX2_turnToGreatestDifference_X2_turnOnce
set_option maxRecDepth 20000 in
theorem ggX2_turnToGreatestDifference_X2_difference : GoodIn wsX2_turnToGreatestDifference wsX2_difference := goodIn_r _ [59, 40, 60, 61, 3, 62, 86, 87, 88, 89, 90, 91, 92, 93, 94, 95, 96, 97, 98] (by decide +kernel) (by decide +kernel)
set_option maxRecDepth 20000 in
theorem gX2_turnToGreatestDifference_X2_difference : GoodIn wsX2_turnToGreatestDifference (wsV RX2 88 RX2 yX2_difference wsX2_difference) := goodIn_app (goodIn_of _ (by decide +kernel)) ggX2_turnToGreatestDifference_X2_difference
set_option maxRecDepth 20000 in
theorem ggX2_turnToSpark_X2_turnAheadOfSpark : GoodIn wsX2_turnToSpark wsX2_turnAheadOfSpark := goodIn_r _ [6, 7, 8, 9, 10, 5, 11, 12, 13, 14, 15, 16, 17, 18, 19, 20, 21, 22, 23, 24, 25, 26, 27, 28, 29, 30, 31, 32, 33, 34, 35, 36, 37, 38, 39, 40, 41, 42, 43, 44, 45, 46, 47, 48, 60, 61, 62, 63, 64, 65, 66, 67, 68, 69, 70, 71, 72] (by decide +kernel) (by decide +kernel)
set_option maxRecDepth 20000 in
theorem gX2_turnToSpark_X2_turnAheadOfSpark : GoodIn wsX2_turnToSpark (wsV RX2 98 RX2 yX2_turnAheadOfSpark wsX2_turnAheadOfSpark) := goodIn_app (goodIn_of _ (by decide +kernel)) ggX2_turnToSpark_X2_turnAheadOfSpark
set_option maxRecDepth 20000 in
theorem ggX2_turnToSpark_X2_isSparkDue : GoodIn wsX2_turnToSpark wsX2_isSparkDue := goodIn_r _ [52, 13, 53, 54, 55, 5, 56, 37, 57, 58, 16, 59, 60, 61, 62, 63, 64, 65, 66, 67, 68, 69, 70, 71, 72] (by decide +kernel) (by decide +kernel)
set_option maxRecDepth 20000 in
theorem gX2_turnToSpark_X2_isSparkDue : GoodIn wsX2_turnToSpark (wsV RX2 101 RX2 yX2_isSparkDue wsX2_isSparkDue) := goodIn_app (goodIn_of _ (by decide +kernel)) ggX2_turnToSpark_X2_isSparkDue
set_option maxRecDepth 20000 in
theorem ggX2_turnOnce_X2_turnAheadOfSpark : GoodIn wsX2_turnOnce wsX2_turnAheadOfSpark := goodIn_r _ [5, 6, 7, 8, 9, 4, 10, 11, 12, 13, 14, 15, 16, 17, 18, 19, 20, 21, 22, 23, 24, 25, 26, 27, 28, 29, 30, 31, 32, 33, 34, 35, 36, 37, 38, 39, 40, 41, 42, 43, 44, 45, 46, 47, 82, 83, 84, 85, 86, 87, 88, 89, 90, 91, 92, 93, 94] (by decide +kernel) (by decide +kernel)
set_option maxRecDepth 20000 in
theorem gX2_turnOnce_X2_turnAheadOfSpark : GoodIn wsX2_turnOnce (wsV RX2 98 RX2 yX2_turnAheadOfSpark wsX2_turnAheadOfSpark) := goodIn_app (goodIn_of _ (by decide +kernel)) ggX2_turnOnce_X2_turnAheadOfSpark
set_option maxRecDepth 20000 in
theorem ggX2_turnOnce_X2_isSparkDue : GoodIn wsX2_turnOnce wsX2_isSparkDue := goodIn_r _ [51, 12, 52, 53, 54, 4, 55, 36, 56, 57, 15, 58, 82, 83, 84, 85, 86, 87, 88, 89, 90, 91, 92, 93, 94] (by decide +kernel) (by decide +kernel)
set_option maxRecDepth 20000 in
theorem gX2_turnOnce_X2_isSparkDue : GoodIn wsX2_turnOnce (wsV RX2 101 RX2 yX2_isSparkDue wsX2_isSparkDue) := goodIn_app (goodIn_of _ (by decide +kernel)) ggX2_turnOnce_X2_isSparkDue
set_option maxRecDepth 20000 in
theorem ggX2_turnOnce_X2_letJump : GoodIn wsX2_turnOnce wsX2_letJump := goodIn_r _ [62, 63, 64, 6, 36, 12, 65, 66, 4, 67, 23, 24, 25, 26, 82, 83, 84, 85, 86, 87, 88, 89, 90, 91, 92, 93, 94] (by decide +kernel) (by decide +kernel)
set_option maxRecDepth 20000 in
theorem gX2_turnOnce_X2_letJump : GoodIn wsX2_turnOnce (wsV RX2 106 RX2 yX2_letJump wsX2_letJump) := goodIn_app (goodIn_of _ (by decide +kernel)) ggX2_turnOnce_X2_letJump
set_option maxRecDepth 20000 in
theorem ggX2_turnOnce_X2_noteSign : GoodIn wsX2_turnOnce wsX2_noteSign := goodIn_r _ [71, 72, 73, 74, 75, 76, 4, 77, 36, 78, 79, 80, 81, 82, 83, 84, 85, 86, 87, 88, 89, 90, 91, 92, 93, 94] (by decide +kernel) (by decide +kernel)
set_option maxRecDepth 20000 in
theorem gX2_turnOnce_X2_noteSign : GoodIn wsX2_turnOnce (wsV RX2 109 RX2 yX2_noteSign wsX2_noteSign) := goodIn_app (goodIn_of _ (by decide +kernel)) ggX2_turnOnce_X2_noteSign
set_option maxRecDepth 20000 in
theorem ggX2_turnAheadOfSpark_X2_join : GoodIn wsX2_turnAheadOfSpark wsX2_join := goodIn_r _ [6, 1, 7, 8, 9, 10, 11, 12, 13, 14, 15, 16, 17, 5, 18, 19, 20, 21, 22, 23, 24, 25, 26, 27, 44, 45, 46, 47, 48, 49, 50, 51, 52, 53, 54, 55, 56] (by decide +kernel) (by decide +kernel)
set_option maxRecDepth 20000 in
theorem gX2_turnAheadOfSpark_X2_join : GoodIn wsX2_turnAheadOfSpark (wsV RX2 112 RX2 yX2_join wsX2_join) := goodIn_app (goodIn_of _ (by decide +kernel)) ggX2_turnAheadOfSpark_X2_join
set_option maxRecDepth 20000 in
theorem ggX2_turnAheadOfSpark_X2_gather : GoodIn wsX2_turnAheadOfSpark wsX2_gather := goodIn_r _ [31, 1, 8, 7, 32, 33, 16, 17, 5, 18, 19, 20, 21, 22, 23, 24, 25, 26, 14, 11, 15, 27, 10, 12, 44, 45, 46, 47, 48, 49, 50, 51, 52, 53, 54, 55, 56] (by decide +kernel) (by decide +kernel)
set_option maxRecDepth 20000 in
theorem gX2_turnAheadOfSpark_X2_gather : GoodIn wsX2_turnAheadOfSpark (wsV RX2 116 RX2 yX2_gather wsX2_gather) := goodIn_app (goodIn_of _ (by decide +kernel)) ggX2_turnAheadOfSpark_X2_gather
set_option maxRecDepth 20000 in
theorem ggX2_turnAheadOfSpark_X2_leakFromSectors : GoodIn wsX2_turnAheadOfSpark wsX2_leakFromSectors := goodIn_r _ [37, 7, 8, 38, 44, 45, 46, 47, 48, 49, 50, 51, 52, 53, 54, 55, 56] (by decide +kernel) (by decide +kernel)
set_option maxRecDepth 20000 in
theorem gX2_turnAheadOfSpark_X2_leakFromSectors : GoodIn wsX2_turnAheadOfSpark (wsV RX2 120 RX2 yX2_leakFromSectors wsX2_leakFromSectors) := goodIn_app (goodIn_of _ (by decide +kernel)) ggX2_turnAheadOfSpark_X2_leakFromSectors
set_option maxRecDepth 20000 in
theorem ggX2_turnAheadOfSpark_X2_leakFromJar : GoodIn wsX2_turnAheadOfSpark wsX2_leakFromJar := goodIn_r _ [42, 32, 8, 43, 38, 44, 45, 46, 47, 48, 49, 50, 51, 52, 53, 54, 55, 56] (by decide +kernel) (by decide +kernel)
set_option maxRecDepth 20000 in
theorem gX2_turnAheadOfSpark_X2_leakFromJar : GoodIn wsX2_turnAheadOfSpark (wsV RX2 123 RX2 yX2_leakFromJar wsX2_leakFromJar) := goodIn_app (goodIn_of _ (by decide +kernel)) ggX2_turnAheadOfSpark_X2_leakFromJar
set_option maxRecDepth 20000 in
theorem ggX2_join_X2_indexOf : GoodIn wsX2_join wsX2_indexOf := goodIn_r _ [14, 15, 16, 17, 18] (by decide +kernel) (by decide +kernel)
set_option maxRecDepth 20000 in
theorem gX2_join_X2_indexOf : GoodIn wsX2_join (va_wsS RX2 84 yX2_indexOf wsX2_indexOf) := goodIn_app (goodIn_of _ (by decide +kernel)) ggX2_join_X2_indexOf
set_option maxRecDepth 20000 in
theorem ggX2_join_X4_limited : GoodIn wsX2_join wsX4_limited := goodIn_r _ [21, 22, 9, 6, 10, 23, 5, 7] (by decide +kernel) (by decide +kernel)
set_option maxRecDepth 20000 in
theorem gX2_join_X4_limited_n127 : GoodIn wsX2_join (wsX4_limited) := ggX2_join_X4_limited
set_option maxRecDepth 20000 in
theorem ggX2_gather_X2_indexOf : GoodIn wsX2_gather wsX2_indexOf := goodIn_r _ [9, 10, 11, 12, 13] (by decide +kernel) (by decide +kernel)
set_option maxRecDepth 20000 in
theorem gX2_gather_X2_indexOf : GoodIn wsX2_gather (va_wsS RX2 84 yX2_indexOf wsX2_indexOf) := goodIn_app (goodIn_of _ (by decide +kernel)) ggX2_gather_X2_indexOf
set_option maxRecDepth 20000 in
theorem ggX2_gather_X4_limited : GoodIn wsX2_gather wsX4_limited := goodIn_r _ [16, 17, 18, 19, 20, 21, 22, 23] (by decide +kernel) (by decide +kernel)
set_option maxRecDepth 20000 in
theorem gX2_gather_X4_limited_n127 : GoodIn wsX2_gather (wsX4_limited) := ggX2_gather_X4_limited
set_option maxRecDepth 20000 in
theorem ggX2_isSparkDue_X2_difference : GoodIn wsX2_isSparkDue wsX2_difference := goodIn_r _ [6, 7, 8, 9, 10, 11, 12, 13, 14, 15, 16, 17, 18, 19, 20, 21, 22, 23, 24] (by decide +kernel) (by decide +kernel)
set_option maxRecDepth 20000 in
theorem gX2_isSparkDue_X2_difference : GoodIn wsX2_isSparkDue (wsV RX2 88 RX2 yX2_difference wsX2_difference) := goodIn_app (goodIn_of _ (by decide +kernel)) ggX2_isSparkDue_X2_difference
set_option maxRecDepth 20000 in
theorem ggX2_letJump_X2_logIndexOf : GoodIn wsX2_letJump wsX2_logIndexOf := goodIn_r _ [9, 10, 11, 12, 13] (by decide +kernel) (by decide +kernel)
set_option maxRecDepth 20000 in
theorem gX2_letJump_X2_logIndexOf : GoodIn wsX2_letJump (va_wsS RX2 130 yX2_logIndexOf wsX2_logIndexOf) := goodIn_app (goodIn_of _ (by decide +kernel)) ggX2_letJump_X2_logIndexOf
set_option maxRecDepth 20000 in
theorem ggX2_noteSign_X2_sign : GoodIn wsX2_noteSign wsX2_sign := goodIn_r _ [7, 8, 9, 10, 11, 12, 13, 14, 15, 16, 17, 18, 19, 20, 21, 22, 23, 24, 25] (by decide +kernel) (by decide +kernel)
set_option maxRecDepth 20000 in
theorem gX2_noteSign_X2_sign : GoodIn wsX2_noteSign (wsV RX2 133 RX2 yX2_sign wsX2_sign) := goodIn_app (goodIn_of _ (by decide +kernel)) ggX2_noteSign_X2_sign
set_option maxRecDepth 20000 in
theorem ggX4_init_X2_init : GoodIn wsX4_init wsX2_init := goodIn_r _ [21, 22, 2, 3, 23, 24, 25, 26, 27, 28, 29, 47, 48, 49, 50, 51, 52, 53, 54, 55, 56, 57, 58, 59] (by decide +kernel) (by decide +kernel)
set_option maxRecDepth 20000 in
theorem gX4_init_X2_init_n9 : GoodIn wsX4_init (wsX2_init) := ggX4_init_X2_init
set_option maxRecDepth 20000 in
theorem ggX4_init_X1_init : GoodIn wsX4_init wsX1_init := goodIn_r _ [31, 32, 2, 3, 33, 34, 66, 67, 68] (by decide +kernel) (by decide +kernel)
set_option maxRecDepth 20000 in
theorem gX4_init_X1_init_n21 : GoodIn wsX4_init (wsX1_init) := ggX4_init_X1_init
set_option maxRecDepth 20000 in
theorem ggX4_init_X0_init : GoodIn wsX4_init wsX0_init := goodIn_r _ [36, 37, 2, 3, 38, 39, 40, 41, 42, 43, 44, 45, 46, 75, 76, 69, 70, 71, 72, 73, 74] (by decide +kernel) (by decide +kernel)
set_option maxRecDepth 20000 in
theorem gX4_init_X0_init_n32 : GoodIn wsX4_init (wsX0_init) := ggX4_init_X0_init
set_option maxRecDepth 20000 in
theorem ggX4_set_X2_fullestJar : GoodIn wsX4_set wsX2_fullestJar := goodIn_r _ [12, 13, 14, 15, 16, 17, 18, 19, 20, 73, 74, 75, 76, 77, 78, 79, 80, 81, 82, 83, 84, 85] (by decide +kernel) (by decide +kernel)
set_option maxRecDepth 20000 in
theorem gX4_set_X2_fullestJar : GoodIn wsX4_set (wsV RX4 50 RX2 yX2_fullestJar wsX2_fullestJar) := goodIn_app (goodIn_of _ (by decide +kernel)) ggX4_set_X2_fullestJar
set_option maxRecDepth 20000 in
theorem ggX4_set_X1_record : GoodIn wsX4_set wsX1_record := goodIn_r _ [25, 26, 27, 28, 29, 30, 11, 31, 32, 33, 34, 35, 36, 37, 38, 39, 40, 41, 42, 13, 43, 44, 45, 46, 47, 48, 49, 50, 51, 52, 53, 54, 55, 56, 57, 58, 59, 60, 61, 16, 62, 63, 64, 65, 66, 86, 87, 88, 73, 74, 75, 76, 77, 78, 79, 80, 81, 82, 83, 84, 85] (by decide +kernel) (by decide +kernel)
set_option maxRecDepth 20000 in
theorem gX4_set_X1_record : GoodIn wsX4_set (wsV RX4 55 RX1 yX1_record wsX1_record) := goodIn_app (goodIn_of _ (by decide +kernel)) ggX4_set_X1_record
set_option maxRecDepth 20000 in
theorem ggX4_touch_X4_isNoDisc : GoodIn wsX4_touch wsX4_isNoDisc := goodIn_r _ [8] (by decide +kernel) (by decide +kernel)
set_option maxRecDepth 20000 in
theorem gX4_touch_X4_isNoDisc : GoodIn wsX4_touch (va_wsS RX4 62 yX4_isNoDisc wsX4_isNoDisc) := goodIn_app (goodIn_of _ (by decide +kernel)) ggX4_touch_X4_isNoDisc
set_option maxRecDepth 20000 in
theorem ggX4_touch_X4_isNoPlace : GoodIn wsX4_touch wsX4_isNoPlace := goodIn_r _ [11] (by decide +kernel) (by decide +kernel)
set_option maxRecDepth 20000 in
theorem gX4_touch_X4_isNoPlace : GoodIn wsX4_touch (va_wsS RX4 66 yX4_isNoPlace wsX4_isNoPlace) := goodIn_app (goodIn_of _ (by decide +kernel)) ggX4_touch_X4_isNoPlace
set_option maxRecDepth 20000 in
theorem ggX4_touch_X1_record : GoodIn wsX4_touch wsX1_record := goodIn_r _ [16, 17, 18, 19, 20, 21, 22, 23, 24, 25, 26, 27, 28, 29, 30, 31, 32, 33, 34, 35, 36, 37, 38, 39, 40, 41, 42, 43, 44, 45, 46, 47, 48, 49, 50, 7, 51, 52, 53, 54, 55, 56, 57, 58, 59, 74, 75, 76, 77, 78, 79, 80, 81, 82, 83, 84, 85, 86, 87, 88, 89] (by decide +kernel) (by decide +kernel)
set_option maxRecDepth 20000 in
theorem gX4_touch_X1_record : GoodIn wsX4_touch (wsV RX4 55 RX1 yX1_record wsX1_record) := goodIn_app (goodIn_of _ (by decide +kernel)) ggX4_touch_X1_record
set_option maxRecDepth 20000 in
theorem ggX4_touch_X2_putCharge : GoodIn wsX4_touch wsX2_putCharge := goodIn_r _ [63, 43, 34, 48, 64, 65, 22, 66, 67, 24, 25, 26, 77, 78, 79, 80, 81, 82, 83, 84, 85, 86, 87, 88, 89] (by decide +kernel) (by decide +kernel)
set_option maxRecDepth 20000 in
theorem gX4_touch_X2_putCharge : GoodIn wsX4_touch (wsV RX4 70 RX2 yX2_putCharge wsX2_putCharge) := goodIn_app (goodIn_of _ (by decide +kernel)) ggX4_touch_X2_putCharge
set_option maxRecDepth 20000 in
theorem ggX4_turn_X2_hasTurnsLeft : GoodIn wsX4_turn wsX2_hasTurnsLeft := goodIn_r _ [9, 10, 11, 134, 135, 136, 137, 138, 139, 140, 141, 142, 143, 144, 145, 146] (by decide +kernel) (by decide +kernel)
set_option maxRecDepth 20000 in
theorem gX4_turn_X2_hasTurnsLeft : GoodIn wsX4_turn (wsV RX4 74 RX2 yX2_hasTurnsLeft wsX2_hasTurnsLeft) := goodIn_app (goodIn_of _ (by decide +kernel)) ggX4_turn_X2_hasTurnsLeft
set_option maxRecDepth 20000 in
theorem ggX4_turn_X1_record : GoodIn wsX4_turn wsX1_record := goodIn_r _ [16, 17, 18, 19, 20, 21, 8, 22, 23, 24, 25, 26, 27, 28, 29, 30, 31, 32, 33, 34, 35, 36, 37, 38, 39, 40, 41, 10, 42, 43, 44, 45, 46, 47, 48, 49, 50, 51, 52, 53, 54, 55, 56, 57, 58, 147, 148, 149, 134, 135, 136, 137, 138, 139, 140, 141, 142, 143, 144, 145, 146] (by decide +kernel) (by decide +kernel)
set_option maxRecDepth 20000 in
theorem gX4_turn_X1_record : GoodIn wsX4_turn (wsV RX4 55 RX1 yX1_record wsX1_record) := goodIn_app (goodIn_of _ (by decide +kernel)) ggX4_turn_X1_record
set_option maxRecDepth 20000 in
theorem ggX4_turn_X2_turnHandle : GoodIn wsX4_turn wsX2_turnHandle := goodIn_r _ [62, 42, 63, 64, 65, 8, 66, 67, 68, 69, 70, 10, 71, 72, 73, 74, 33, 32, 75, 76, 53, 77, 78, 52, 54, 79, 80, 81, 82, 23, 24, 25, 83, 49, 84, 51, 85, 86, 87, 88, 89, 34, 35, 90, 91, 92, 93, 45, 94, 95, 96, 97, 36, 98, 99, 100, 101, 102, 103, 104, 105, 106, 107, 108, 109, 110, 111, 112, 37, 113, 114, 115, 116, 117, 118, 119, 44, 43, 120, 121, 122, 123, 124, 125, 126, 127, 134, 135, 136, 137, 138, 139, 140, 141, 142, 143, 144, 145, 146] (by decide +kernel) (by decide +kernel)
set_option maxRecDepth 20000 in
theorem gX4_turn_X2_turnHandle : GoodIn wsX4_turn (wsV RX4 78 RX2 yX2_turnHandle wsX2_turnHandle) := goodIn_app (goodIn_of _ (by decide +kernel)) ggX4_turn_X2_turnHandle
set_option maxRecDepth 20000 in
theorem ggX4_discharge_X1_record : GoodIn wsX4_discharge wsX1_record := goodIn_r _ [7, 8, 9, 10, 11, 12, 13, 14, 15, 16, 17, 18, 19, 20, 21, 22, 23, 24, 25, 26, 27, 28, 29, 30, 31, 32, 33, 34, 35, 36, 37, 38, 39, 40, 41, 42, 43, 44, 45, 46, 47, 48, 49, 50, 51, 69, 70, 71, 72, 73, 74, 75, 76, 77, 78, 79, 80, 81, 82, 83, 84] (by decide +kernel) (by decide +kernel)
set_option maxRecDepth 20000 in
theorem gX4_discharge_X1_record : GoodIn wsX4_discharge (wsV RX4 55 RX1 yX1_record wsX1_record) := goodIn_app (goodIn_of _ (by decide +kernel)) ggX4_discharge_X1_record
set_option maxRecDepth 20000 in
theorem ggX4_discharge_X2_emptyJars : GoodIn wsX4_discharge wsX2_emptyJars := goodIn_r _ [55, 40, 26, 56, 57, 58, 13, 59, 60, 61, 46, 62, 72, 73, 74, 75, 76, 77, 78, 79, 80, 81, 82, 83, 84] (by decide +kernel) (by decide +kernel)
set_option maxRecDepth 20000 in
theorem gX4_discharge_X2_emptyJars : GoodIn wsX4_discharge (wsV RX4 82 RX2 yX2_emptyJars wsX2_emptyJars) := goodIn_app (goodIn_of _ (by decide +kernel)) ggX4_discharge_X2_emptyJars
set_option maxRecDepth 20000 in
theorem ggX4_wipeDisc_X4_isNoDisc : GoodIn wsX4_wipeDisc wsX4_isNoDisc := goodIn_r _ [7] (by decide +kernel) (by decide +kernel)
set_option maxRecDepth 20000 in
theorem gX4_wipeDisc_X4_isNoDisc : GoodIn wsX4_wipeDisc (va_wsS RX4 62 yX4_isNoDisc wsX4_isNoDisc) := goodIn_app (goodIn_of _ (by decide +kernel)) ggX4_wipeDisc_X4_isNoDisc
set_option maxRecDepth 20000 in
theorem ggX4_wipeDisc_X1_record : GoodIn wsX4_wipeDisc wsX1_record := goodIn_r _ [12, 13, 14, 15, 16, 17, 18, 19, 20, 21, 22, 23, 24, 25, 26, 27, 28, 29, 30, 31, 32, 33, 34, 35, 36, 37, 38, 39, 40, 41, 42, 43, 44, 45, 46, 6, 47, 48, 49, 50, 51, 52, 53, 54, 55, 81, 82, 83, 84, 85, 86, 87, 88, 89, 90, 91, 92, 93, 94, 95, 96] (by decide +kernel) (by decide +kernel)
set_option maxRecDepth 20000 in
theorem gX4_wipeDisc_X1_record : GoodIn wsX4_wipeDisc (wsV RX4 55 RX1 yX1_record wsX1_record) := goodIn_app (goodIn_of _ (by decide +kernel)) ggX4_wipeDisc_X1_record
set_option maxRecDepth 20000 in
theorem ggX4_wipeDisc_X2_emptySectors : GoodIn wsX4_wipeDisc wsX2_emptySectors := goodIn_r _ [59, 45, 30, 60, 61, 62, 18, 63, 64, 65, 66, 67, 68, 69, 70, 71, 72, 73, 74, 84, 85, 86, 87, 88, 89, 90, 91, 92, 93, 94, 95, 96] (by decide +kernel) (by decide +kernel)
set_option maxRecDepth 20000 in
theorem gX4_wipeDisc_X2_emptySectors : GoodIn wsX4_wipeDisc (wsV RX4 85 RX2 yX2_emptySectors wsX2_emptySectors) := goodIn_app (goodIn_of _ (by decide +kernel)) ggX4_wipeDisc_X2_emptySectors
set_option maxRecDepth 20000 in
theorem ggX4_run_X0_findFault : GoodIn wsX4_run wsX0_findFault := goodIn_r _ [12, 13, 14, 15, 16, 17, 18, 19, 11, 20, 21, 22, 23, 24, 25, 26, 27, 28, 29, 30, 31, 32, 33, 34, 35, 36, 37, 38, 39, 40, 41, 42, 43, 44, 45, 46, 47, 48, 49, 50, 51, 52, 53, 54, 55, 221, 222, 223, 224, 225, 226, 227, 228] (by decide +kernel) (by decide +kernel)
set_option maxRecDepth 20000 in
theorem gX4_run_X0_findFault : GoodIn wsX4_run (wsV RX4 88 RX0 yX0_findFault wsX0_findFault) := goodIn_app (goodIn_of _ (by decide +kernel)) ggX4_run_X0_findFault
set_option maxRecDepth 20000 in
theorem ggX4_run_X1_record : GoodIn wsX4_run wsX1_record := goodIn_r _ [60, 61, 62, 63, 64, 65, 66, 67, 68, 69, 70, 71, 72, 73, 74, 75, 76, 77, 78, 79, 80, 81, 82, 83, 84, 85, 86, 87, 88, 89, 90, 91, 92, 93, 94, 95, 96, 97, 98, 99, 100, 101, 102, 103, 104, 229, 230, 231, 208, 209, 210, 211, 212, 213, 214, 215, 216, 217, 218, 219, 220] (by decide +kernel) (by decide +kernel)
set_option maxRecDepth 20000 in
theorem gX4_run_X1_record : GoodIn wsX4_run (wsV RX4 55 RX1 yX1_record wsX1_record) := goodIn_app (goodIn_of _ (by decide +kernel)) ggX4_run_X1_record
set_option maxRecDepth 20000 in
theorem ggX4_run_X0_start : GoodIn wsX4_run wsX0_start := goodIn_r _ [20, 13, 221, 222, 223, 224, 225, 226] (by decide +kernel) (by decide +kernel)
set_option maxRecDepth 20000 in
theorem gX4_run_X0_start : GoodIn wsX4_run (wsV RX4 97 RX0 yX0_start wsX0_start) := goodIn_app (goodIn_of _ (by decide +kernel)) ggX4_run_X0_start
set_option maxRecDepth 20000 in
theorem ggX4_run_X0_readDeed : GoodIn wsX4_run wsX0_readDeed := goodIn_r _ [24, 25, 26, 27, 28, 29, 11, 30, 14, 13, 31, 32, 33, 34, 35, 36, 37, 38, 39, 40, 41, 42, 43, 44, 45, 46, 47, 48, 49, 50, 51, 52, 53, 54, 55, 221, 222, 223, 224, 225, 226, 227, 228] (by decide +kernel) (by decide +kernel)
set_option maxRecDepth 20000 in
theorem gX4_run_X0_readDeed : GoodIn wsX4_run (wsV RX4 100 RX0 yX0_readDeed wsX0_readDeed) := goodIn_app (goodIn_of _ (by decide +kernel)) ggX4_run_X0_readDeed
set_option maxRecDepth 20000 in
theorem ggX4_run_X4_doReadDeed : GoodIn wsX4_run wsX4_doReadDeed := goodIn_r _ [110, 1, 111, 5, 112, 113, 114, 115, 116, 117, 66, 118, 87, 78, 92, 119, 120, 121, 122, 68, 69, 70, 123, 124, 125, 126, 93, 79, 127, 128, 129, 130, 131, 132, 99, 133, 134, 135, 136, 137, 138, 139, 140, 141, 142, 88, 143, 144, 145, 146, 147, 148, 149, 150, 151, 152, 153, 154, 77, 155, 156, 157, 158, 98, 100, 159, 95, 160, 97, 161, 162, 163, 164, 165, 80, 166, 167, 168, 169, 91, 170, 171, 172, 173, 81, 174, 175, 176, 177, 178, 179, 180, 181, 82, 182, 183, 184, 185, 186, 187, 188, 90, 89, 189, 190, 191, 192, 193, 194, 195, 196, 202, 203, 204, 205, 206, 207, 221, 222, 223, 224, 225, 226, 208, 209, 210, 211, 212, 213, 214, 215, 216, 217, 218, 219, 220] (by decide +kernel) (by decide +kernel)
set_option maxRecDepth 20000 in
theorem gX4_run_X4_doReadDeed : GoodIn wsX4_run (wsV RX4 104 RX4 yX4_doReadDeed wsX4_doReadDeed) := goodIn_app (goodIn_of _ (by decide +kernel)) ggX4_run_X4_doReadDeed
set_option maxRecDepth 20000 in
theorem ggX4_run_X0_readSign : GoodIn wsX4_run wsX0_readSign := goodIn_r _ [30, 14, 13, 31, 32, 33, 34, 35, 36, 37, 221, 222, 223, 224, 225, 226, 227, 228] (by decide +kernel) (by decide +kernel)
set_option maxRecDepth 20000 in
theorem gX4_run_X0_readSign : GoodIn wsX4_run (wsV RX4 107 RX0 yX0_readSign wsX0_readSign) := goodIn_app (goodIn_of _ (by decide +kernel)) ggX4_run_X0_readSign
set_option maxRecDepth 20000 in
theorem ggX4_run_X3_clear : GoodIn wsX4_run wsX3_clear := goodIn_r _ [201, 36, 227, 228] (by decide +kernel) (by decide +kernel)
set_option maxRecDepth 20000 in
theorem gX4_run_X3_clear : GoodIn wsX4_run (wsV RX4 111 RX3 yX3_clear wsX3_clear) := goodIn_app (goodIn_of _ (by decide +kernel)) ggX4_run_X3_clear
set_option maxRecDepth 20000 in
theorem ggX4_doReadDeed_X2_putCharge : GoodIn wsX4_doReadDeed wsX2_putCharge := goodIn_r _ [11, 12, 13, 14, 15, 16, 10, 17, 18, 19, 20, 21, 123, 124, 125, 126, 127, 128, 129, 130, 131, 132, 133, 134, 135] (by decide +kernel) (by decide +kernel)
set_option maxRecDepth 20000 in
theorem gX4_doReadDeed_X2_putCharge : GoodIn wsX4_doReadDeed (wsV RX4 70 RX2 yX2_putCharge wsX2_putCharge) := goodIn_app (goodIn_of _ (by decide +kernel)) ggX4_doReadDeed_X2_putCharge
set_option maxRecDepth 20000 in
theorem ggX4_doReadDeed_X2_emptyJars : GoodIn wsX4_doReadDeed wsX2_emptyJars := goodIn_r _ [25, 26, 27, 28, 29, 30, 10, 31, 32, 33, 34, 35, 123, 124, 125, 126, 127, 128, 129, 130, 131, 132, 133, 134, 135] (by decide +kernel) (by decide +kernel)
set_option maxRecDepth 20000 in
theorem gX4_doReadDeed_X2_emptyJars : GoodIn wsX4_doReadDeed (wsV RX4 82 RX2 yX2_emptyJars wsX2_emptyJars) := goodIn_app (goodIn_of _ (by decide +kernel)) ggX4_doReadDeed_X2_emptyJars
set_option maxRecDepth 20000 in
theorem ggX4_doReadDeed_X2_hasTurnsLeft : GoodIn wsX4_doReadDeed wsX2_hasTurnsLeft := goodIn_r _ [39, 12, 40, 123, 124, 125, 126, 127, 128, 129, 130, 131, 132, 133, 134, 135] (by decide +kernel) (by decide +kernel)
set_option maxRecDepth 20000 in
theorem gX4_doReadDeed_X2_hasTurnsLeft : GoodIn wsX4_doReadDeed (wsV RX4 74 RX2 yX2_hasTurnsLeft wsX2_hasTurnsLeft) := goodIn_app (goodIn_of _ (by decide +kernel)) ggX4_doReadDeed_X2_hasTurnsLeft
set_option maxRecDepth 20000 in
theorem ggX4_doReadDeed_X2_turnHandle : GoodIn wsX4_doReadDeed wsX2_turnHandle := goodIn_r _ [44, 45, 46, 47, 48, 10, 49, 50, 51, 52, 53, 12, 54, 55, 56, 57, 13, 58, 59, 60, 34, 61, 62, 63, 64, 15, 16, 17, 18, 19, 20, 21, 65, 66, 67, 68, 69, 70, 71, 72, 73, 27, 74, 75, 76, 77, 78, 79, 80, 81, 82, 83, 84, 85, 86, 87, 88, 28, 29, 30, 31, 32, 33, 35, 89, 90, 91, 92, 93, 94, 95, 96, 97, 98, 99, 100, 101, 102, 103, 104, 105, 106, 107, 108, 109, 110, 123, 124, 125, 126, 127, 128, 129, 130, 131, 132, 133, 134, 135] (by decide +kernel) (by decide +kernel)
set_option maxRecDepth 20000 in
theorem gX4_doReadDeed_X2_turnHandle : GoodIn wsX4_doReadDeed (wsV RX4 78 RX2 yX2_turnHandle wsX2_turnHandle) := goodIn_app (goodIn_of _ (by decide +kernel)) ggX4_doReadDeed_X2_turnHandle
set_option maxRecDepth 20000 in
theorem ggX4_sector_X4_isNoDisc : GoodIn wsX4_sector wsX4_isNoDisc := goodIn_r _ [8] (by decide +kernel) (by decide +kernel)
set_option maxRecDepth 20000 in
theorem gX4_sector_X4_isNoDisc : GoodIn wsX4_sector (va_wsS RX4 62 yX4_isNoDisc wsX4_isNoDisc) := goodIn_app (goodIn_of _ (by decide +kernel)) ggX4_sector_X4_isNoDisc
set_option maxRecDepth 20000 in
theorem ggX4_sector_X4_isNoPlace : GoodIn wsX4_sector wsX4_isNoPlace := goodIn_r _ [11] (by decide +kernel) (by decide +kernel)
set_option maxRecDepth 20000 in
theorem gX4_sector_X4_isNoPlace : GoodIn wsX4_sector (va_wsS RX4 66 yX4_isNoPlace wsX4_isNoPlace) := goodIn_app (goodIn_of _ (by decide +kernel)) ggX4_sector_X4_isNoPlace
set_option maxRecDepth 20000 in
theorem ggX4_sector_X2_indexOf : GoodIn wsX4_sector wsX2_indexOf := goodIn_r _ [15, 16, 17, 18, 19] (by decide +kernel) (by decide +kernel)
set_option maxRecDepth 20000 in
theorem gX4_sector_X2_indexOf : GoodIn wsX4_sector (va_wsS RX4 134 yX2_indexOf wsX2_indexOf) := goodIn_app (goodIn_of _ (by decide +kernel)) ggX4_sector_X2_indexOf
set_option maxRecDepth 20000 in
theorem ggX4_disc_X4_isNoDisc : GoodIn wsX4_disc wsX4_isNoDisc := goodIn_r _ [7] (by decide +kernel) (by decide +kernel)
set_option maxRecDepth 20000 in
theorem gX4_disc_X4_isNoDisc : GoodIn wsX4_disc (va_wsS RX4 62 yX4_isNoDisc wsX4_isNoDisc) := goodIn_app (goodIn_of _ (by decide +kernel)) ggX4_disc_X4_isNoDisc
set_option maxRecDepth 20000 in
theorem ggX4_disc_X2_sumOfDisc : GoodIn wsX4_disc wsX2_sumOfDisc := goodIn_r _ [12, 13, 14, 15, 11, 16, 46, 47, 48, 49, 50, 51, 52, 53, 54, 55, 56, 57, 58] (by decide +kernel) (by decide +kernel)
set_option maxRecDepth 20000 in
theorem gX4_disc_X2_sumOfDisc : GoodIn wsX4_disc (wsV RX4 137 RX2 yX2_sumOfDisc wsX2_sumOfDisc) := goodIn_app (goodIn_of _ (by decide +kernel)) ggX4_disc_X2_sumOfDisc
set_option maxRecDepth 20000 in
theorem ggX4_disc_X2_sectorsWithSign : GoodIn wsX4_disc wsX2_sectorsWithSign := goodIn_r _ [20, 13, 14, 15, 11, 16, 21, 22, 23, 24, 46, 47, 48, 49, 50, 51, 52, 53, 54, 55, 56, 57, 58] (by decide +kernel) (by decide +kernel)
set_option maxRecDepth 20000 in
theorem gX4_disc_X2_sectorsWithSign : GoodIn wsX4_disc (wsV RX4 140 RX2 yX2_sectorsWithSign wsX2_sectorsWithSign) := goodIn_app (goodIn_of _ (by decide +kernel)) ggX4_disc_X2_sectorsWithSign
set_option maxRecDepth 20000 in
theorem ggX4_disc_X2_greatestOfDisc : GoodIn wsX4_disc wsX2_greatestOfDisc := goodIn_r _ [28, 13, 29, 30, 31, 32, 14, 15, 11, 16, 46, 47, 48, 49, 50, 51, 52, 53, 54, 55, 56, 57, 58] (by decide +kernel) (by decide +kernel)
set_option maxRecDepth 20000 in
theorem gX4_disc_X2_greatestOfDisc : GoodIn wsX4_disc (wsV RX4 144 RX2 yX2_greatestOfDisc wsX2_greatestOfDisc) := goodIn_app (goodIn_of _ (by decide +kernel)) ggX4_disc_X2_greatestOfDisc
set_option maxRecDepth 20000 in
theorem ggX4_disc_X2_leastOfDisc : GoodIn wsX4_disc wsX2_leastOfDisc := goodIn_r _ [36, 13, 37, 38, 31, 39, 14, 15, 11, 16, 46, 47, 48, 49, 50, 51, 52, 53, 54, 55, 56, 57, 58] (by decide +kernel) (by decide +kernel)
set_option maxRecDepth 20000 in
theorem gX4_disc_X2_leastOfDisc : GoodIn wsX4_disc (wsV RX4 147 RX2 yX2_leastOfDisc wsX2_leastOfDisc) := goodIn_app (goodIn_of _ (by decide +kernel)) ggX4_disc_X2_leastOfDisc
set_option maxRecDepth 20000 in
theorem ggX4_spark_X2_logIndexOf : GoodIn wsX4_spark wsX2_logIndexOf := goodIn_r _ [9, 10, 11, 12, 13] (by decide +kernel) (by decide +kernel)
set_option maxRecDepth 20000 in
theorem gX4_spark_X2_logIndexOf : GoodIn wsX4_spark (va_wsS RX4 162 yX2_logIndexOf wsX2_logIndexOf) := goodIn_app (goodIn_of _ (by decide +kernel)) ggX4_spark_X2_logIndexOf
set_option maxRecDepth 20000 in
theorem ggX4_count_X2_sign : GoodIn wsX4_count wsX2_sign := goodIn_r _ [18, 19, 20, 21, 22, 23, 42, 43, 44, 45, 46, 47, 48, 49, 50, 51, 52, 53, 54] (by decide +kernel) (by decide +kernel)
set_option maxRecDepth 20000 in
theorem gX4_count_X2_sign : GoodIn wsX4_count (wsV RX4 168 RX2 yX2_sign wsX2_sign) := goodIn_app (goodIn_of _ (by decide +kernel)) ggX4_count_X2_sign
set_option maxRecDepth 20000 in
theorem ggX4_count_X2_chargeOfAll : GoodIn wsX4_count wsX2_chargeOfAll := goodIn_r _ [27, 19, 28, 29, 30, 17, 31, 32, 33, 34, 35, 42, 43, 44, 45, 46, 47, 48, 49, 50, 51, 52, 53, 54] (by decide +kernel) (by decide +kernel)
set_option maxRecDepth 20000 in
theorem gX4_count_X2_chargeOfAll : GoodIn wsX4_count (wsV RX4 171 RX2 yX2_chargeOfAll wsX2_chargeOfAll) := goodIn_app (goodIn_of _ (by decide +kernel)) ggX4_count_X2_chargeOfAll
set_option maxRecDepth 20000 in
theorem ggX4_untilSpark_X2_become : GoodIn wsX4_untilSpark wsX2_become := goodIn_r _ [7, 8, 9, 10, 11, 12, 13, 14, 15, 16, 17, 18, 19, 20, 21, 22, 23, 24, 25, 26, 27, 28, 29, 30, 31, 88, 89, 90, 91, 92, 93, 94, 95, 96, 97, 98, 99, 100] (by decide +kernel) (by decide +kernel)
set_option maxRecDepth 20000 in
theorem gX4_untilSpark_X2_become : GoodIn wsX4_untilSpark (wsV RX4 189 RX2 yX2_become wsX2_become) := goodIn_app (goodIn_of _ (by decide +kernel)) ggX4_untilSpark_X2_become
set_option maxRecDepth 20000 in
theorem ggX4_untilSpark_X2_turnToSpark : GoodIn wsX4_untilSpark wsX2_turnToSpark := goodIn_r _ [35, 36, 37, 38, 39, 6, 40, 14, 41, 42, 43, 44, 9, 8, 45, 46, 26, 47, 48, 25, 27, 49, 50, 51, 52, 53, 54, 55, 56, 22, 57, 24, 58, 59, 60, 61, 62, 10, 11, 63, 64, 65, 66, 18, 67, 68, 69, 70, 12, 71, 72, 73, 74, 75, 76, 77, 78, 79, 80, 81, 88, 89, 90, 91, 92, 93, 94, 95, 96, 97, 98, 99, 100] (by decide +kernel) (by decide +kernel)
set_option maxRecDepth 20000 in
theorem gX4_untilSpark_X2_turnToSpark : GoodIn wsX4_untilSpark (wsV RX4 192 RX2 yX2_turnToSpark wsX2_turnToSpark) := goodIn_app (goodIn_of _ (by decide +kernel)) ggX4_untilSpark_X2_turnToSpark
set_option maxRecDepth 20000 in
theorem ggX4_ifTurned_X2_become : GoodIn wsX4_ifTurned wsX2_become := goodIn_r _ [11, 12, 13, 14, 15, 16, 17, 18, 19, 20, 21, 22, 23, 24, 25, 26, 27, 28, 29, 30, 31, 32, 33, 34, 35, 125, 126, 127, 128, 129, 130, 131, 132, 133, 134, 135, 136, 137] (by decide +kernel) (by decide +kernel)
set_option maxRecDepth 20000 in
theorem gX4_ifTurned_X2_become : GoodIn wsX4_ifTurned (wsV RX4 189 RX2 yX2_become wsX2_become) := goodIn_app (goodIn_of _ (by decide +kernel)) ggX4_ifTurned_X2_become
set_option maxRecDepth 20000 in
theorem ggX4_ifTurned_X2_turnToGreatestDifference : GoodIn wsX4_ifTurned wsX2_turnToGreatestDifference := goodIn_r _ [39, 40, 41, 30, 42, 43, 44, 45, 10, 46, 47, 48, 49, 50, 18, 51, 52, 53, 54, 13, 12, 55, 29, 31, 56, 57, 58, 59, 60, 61, 62, 63, 26, 64, 28, 65, 66, 67, 68, 69, 14, 15, 70, 71, 72, 73, 22, 74, 75, 76, 77, 16, 78, 79, 80, 81, 82, 83, 84, 85, 86, 87, 88, 89, 90, 91, 92, 19, 17, 93, 94, 95, 96, 97, 98, 99, 21, 20, 100, 101, 102, 103, 104, 105, 106, 107, 125, 126, 127, 128, 129, 130, 131, 132, 133, 134, 135, 136, 137] (by decide +kernel) (by decide +kernel)
set_option maxRecDepth 20000 in
theorem gX4_ifTurned_X2_turnToGreatestDifference : GoodIn wsX4_ifTurned (wsV RX4 195 RX2 yX2_turnToGreatestDifference wsX2_turnToGreatestDifference) := goodIn_app (goodIn_of _ (by decide +kernel)) ggX4_ifTurned_X2_turnToGreatestDifference
set_option maxRecDepth 20000 in
theorem ggX4_ifTurned_X2_chargeOfAll : GoodIn wsX4_ifTurned wsX2_chargeOfAll := goodIn_r _ [111, 14, 112, 113, 114, 10, 115, 13, 116, 117, 118, 125, 126, 127, 128, 129, 130, 131, 132, 133, 134, 135, 136, 137] (by decide +kernel) (by decide +kernel)
set_option maxRecDepth 20000 in
theorem gX4_ifTurned_X2_chargeOfAll : GoodIn wsX4_ifTurned (wsV RX4 171 RX2 yX2_chargeOfAll wsX2_chargeOfAll) := goodIn_app (goodIn_of _ (by decide +kernel)) ggX4_ifTurned_X2_chargeOfAll
set_option maxRecDepth 20000 in
theorem ggX4_widestGap_X2_become : GoodIn wsX4_widestGap wsX2_become := goodIn_r _ [17, 18, 19, 20, 21, 22, 23, 24, 25, 26, 27, 28, 29, 30, 31, 32, 33, 8, 9, 5, 10, 34, 35, 36, 37, 82, 83, 84, 85, 86, 87, 88, 89, 90, 91, 92, 93, 94] (by decide +kernel) (by decide +kernel)
set_option maxRecDepth 20000 in
theorem gX4_widestGap_X2_become : GoodIn wsX4_widestGap (wsV RX4 189 RX2 yX2_become wsX2_become) := goodIn_app (goodIn_of _ (by decide +kernel)) ggX4_widestGap_X2_become
set_option maxRecDepth 20000 in
theorem ggX4_widestGap_X2_turnAheadOfSpark : GoodIn wsX4_widestGap wsX2_turnAheadOfSpark := goodIn_r _ [41, 24, 42, 43, 44, 16, 45, 19, 18, 46, 4, 5, 6, 47, 9, 10, 48, 49, 50, 51, 52, 53, 54, 55, 32, 56, 8, 3, 57, 58, 59, 60, 20, 21, 61, 62, 63, 64, 28, 65, 66, 67, 68, 22, 82, 83, 84, 85, 86, 87, 88, 89, 90, 91, 92, 93, 94] (by decide +kernel) (by decide +kernel)
set_option maxRecDepth 20000 in
theorem gX4_widestGap_X2_turnAheadOfSpark : GoodIn wsX4_widestGap (wsV RX4 198 RX2 yX2_turnAheadOfSpark wsX2_turnAheadOfSpark) := goodIn_app (goodIn_of _ (by decide +kernel)) ggX4_widestGap_X2_turnAheadOfSpark
set_option maxRecDepth 20000 in
theorem ggX4_widestGap_X2_difference : GoodIn wsX4_widestGap wsX2_difference := goodIn_r _ [72, 20, 73, 74, 5, 75, 82, 83, 84, 85, 86, 87, 88, 89, 90, 91, 92, 93, 94] (by decide +kernel) (by decide +kernel)
set_option maxRecDepth 20000 in
theorem gX4_widestGap_X2_difference : GoodIn wsX4_widestGap (wsV RX4 201 RX2 yX2_difference wsX2_difference) := goodIn_app (goodIn_of _ (by decide +kernel)) ggX4_widestGap_X2_difference
set_option maxRecDepth 20000 in
theorem ggX4_mostDamp_X2_become : GoodIn wsX4_mostDamp wsX2_become := goodIn_r _ [11, 12, 13, 14, 15, 16, 17, 18, 19, 20, 21, 22, 23, 24, 25, 26, 27, 28, 29, 30, 31, 32, 33, 34, 35, 92, 93, 94, 95, 96, 97, 98, 99, 100, 101, 102, 103, 104] (by decide +kernel) (by decide +kernel)
set_option maxRecDepth 20000 in
theorem gX4_mostDamp_X2_become : GoodIn wsX4_mostDamp (wsV RX4 189 RX2 yX2_become wsX2_become) := goodIn_app (goodIn_of _ (by decide +kernel)) ggX4_mostDamp_X2_become
set_option maxRecDepth 20000 in
theorem ggX4_mostDamp_X2_turnToSpark : GoodIn wsX4_mostDamp wsX2_turnToSpark := goodIn_r _ [39, 40, 41, 42, 43, 10, 44, 18, 45, 46, 47, 48, 13, 12, 49, 50, 30, 51, 52, 29, 31, 53, 54, 55, 56, 57, 58, 59, 60, 26, 61, 28, 62, 63, 64, 65, 66, 14, 15, 67, 68, 69, 70, 22, 71, 72, 73, 74, 16, 75, 76, 77, 78, 79, 80, 81, 82, 83, 84, 85, 92, 93, 94, 95, 96, 97, 98, 99, 100, 101, 102, 103, 104] (by decide +kernel) (by decide +kernel)
set_option maxRecDepth 20000 in
theorem gX4_mostDamp_X2_turnToSpark : GoodIn wsX4_mostDamp (wsV RX4 192 RX2 yX2_turnToSpark wsX2_turnToSpark) := goodIn_app (goodIn_of _ (by decide +kernel)) ggX4_mostDamp_X2_turnToSpark
set_option maxRecDepth 20000 in
theorem ggX4_put_X4_charactersIn : GoodIn wsX4_put wsX4_charactersIn := goodIn_r _ [8, 9] (by decide +kernel) (by decide +kernel)
set_option maxRecDepth 20000 in
theorem gX4_put_X4_charactersIn : GoodIn wsX4_put (va_wsS RX4 212 yX4_charactersIn wsX4_charactersIn) := goodIn_app (goodIn_of _ (by decide +kernel)) ggX4_put_X4_charactersIn
set_option maxRecDepth 20000 in
theorem ggX4_put_X3_append : GoodIn wsX4_put wsX3_append := goodIn_r _ [14, 15, 16, 17, 24, 25] (by decide +kernel) (by decide +kernel)
set_option maxRecDepth 20000 in
theorem gX4_put_X3_append : GoodIn wsX4_put (wsV RX4 216 RX3 yX3_append wsX3_append) := goodIn_app (goodIn_of _ (by decide +kernel)) ggX4_put_X3_append
set_option maxRecDepth 20000 in
theorem ggX4_wipe_X3_clear : GoodIn wsX4_wipe wsX3_clear := goodIn_r _ [7, 8, 15, 16] (by decide +kernel) (by decide +kernel)
set_option maxRecDepth 20000 in
theorem gX4_wipe_X3_clear : GoodIn wsX4_wipe (wsV RX4 111 RX3 yX3_clear wsX3_clear) := goodIn_app (goodIn_of _ (by decide +kernel)) ggX4_wipe_X3_clear
set_option maxRecDepth 20000 in
theorem ggX4_undo_X1_takeBack : GoodIn wsX4_undo wsX1_takeBack := goodIn_r _ [9, 10, 11, 12, 13, 14, 15, 16, 17, 18, 19, 20, 21, 22, 23, 24, 25, 26, 27, 28, 29, 30, 31, 32, 33, 34, 35, 36, 37, 38, 39, 40, 41, 42, 43, 44, 45, 52, 53, 54, 55, 56, 57, 58, 59, 60, 61, 62, 63, 64, 65, 66, 67] (by decide +kernel) (by decide +kernel)
set_option maxRecDepth 20000 in
theorem gX4_undo_X1_takeBack : GoodIn wsX4_undo (wsV RX4 220 RX1 yX1_takeBack wsX1_takeBack) := goodIn_app (goodIn_of _ (by decide +kernel)) ggX4_undo_X1_takeBack
set_option maxRecDepth 20000 in
theorem ggX4_save_X2_init : GoodIn wsX4_save wsX2_init := goodIn_r _ [9, 10, 11, 12, 13, 14, 15, 16, 17, 18, 19, 48, 49, 50, 51, 52, 53, 54, 55, 56, 57, 58, 59, 60] (by decide +kernel) (by decide +kernel)
set_option maxRecDepth 20000 in
theorem gX4_save_X2_init_n9 : GoodIn wsX4_save (wsX2_init) := ggX4_save_X2_init
set_option maxRecDepth 20000 in
theorem ggX4_save_X2_become : GoodIn wsX4_save wsX2_become := goodIn_r _ [23, 14, 15, 16, 17, 18, 19, 24, 25, 26, 27, 28, 29, 30, 31, 32, 33, 34, 35, 36, 37, 38, 39, 40, 41, 48, 49, 50, 51, 52, 53, 54, 55, 56, 57, 58, 59, 60] (by decide +kernel) (by decide +kernel)
set_option maxRecDepth 20000 in
theorem gX4_save_X2_become : GoodIn wsX4_save (wsV RX4 189 RX2 yX2_become wsX2_become) := goodIn_app (goodIn_of _ (by decide +kernel)) ggX4_save_X2_become
set_option maxRecDepth 20000 in
theorem ggX4_restore_X1_record : GoodIn wsX4_restore wsX1_record := goodIn_r _ [11, 12, 13, 14, 15, 16, 17, 18, 19, 20, 21, 22, 23, 24, 25, 26, 27, 28, 29, 30, 31, 32, 33, 34, 35, 36, 37, 38, 39, 40, 41, 42, 43, 44, 45, 46, 47, 48, 49, 50, 51, 52, 53, 54, 55, 76, 77, 78, 63, 64, 65, 66, 67, 68, 69, 70, 71, 72, 73, 74, 75] (by decide +kernel) (by decide +kernel)
set_option maxRecDepth 20000 in
theorem gX4_restore_X1_record : GoodIn wsX4_restore (wsV RX4 55 RX1 yX1_record wsX1_record) := goodIn_app (goodIn_of _ (by decide +kernel)) ggX4_restore_X1_record
set_option maxRecDepth 20000 in
theorem ggX4_restore_X2_become : GoodIn wsX4_restore wsX2_become := goodIn_r _ [37, 28, 29, 30, 31, 32, 33, 38, 39, 40, 41, 42, 43, 44, 45, 46, 47, 48, 49, 50, 51, 52, 53, 54, 55, 63, 64, 65, 66, 67, 68, 69, 70, 71, 72, 73, 74, 75] (by decide +kernel) (by decide +kernel)
set_option maxRecDepth 20000 in
theorem gX4_restore_X2_become : GoodIn wsX4_restore (wsV RX4 189 RX2 yX2_become wsX2_become) := goodIn_app (goodIn_of _ (by decide +kernel)) ggX4_restore_X2_become
