set_option maxRecDepth 20000 in
theorem ggX0_init_X3_init : GoodIn wsX0_init wsX3_init := goodIn_r _ [9, 10, 2, 3, 11, 12, 13, 14] (by decide +kernel) (by decide +kernel)
set_option maxRecDepth 20000 in
theorem gX0_init_X3_init_n11 : GoodIn wsX0_init (wsX3_init) := ggX0_init_X3_init
set_option maxRecDepth 20000 in
theorem ggX0_findFault_X0_start : GoodIn wsX0_findFault wsX0_start := goodIn_r _ [9, 1, 45, 46, 47, 48, 49, 50] (by decide +kernel) (by decide +kernel)
set_option maxRecDepth 20000 in
theorem gX0_findFault_X0_start : GoodIn wsX0_findFault (wsV RX0 22 RX0 yX0_start wsX0_start) := goodIn_app (goodIn_of _ (by decide +kernel)) ggX0_findFault_X0_start
set_option maxRecDepth 20000 in
theorem ggX0_findFault_X0_readDeed : GoodIn wsX0_findFault wsX0_readDeed := goodIn_r _ [13, 14, 15, 16, 17, 18, 8, 19, 2, 1, 20, 21, 22, 23, 24, 25, 26, 27, 28, 29, 30, 31, 32, 33, 34, 35, 36, 37, 38, 39, 40, 41, 42, 43, 44, 45, 46, 47, 48, 49, 50, 51, 52] (by decide +kernel) (by decide +kernel)
set_option maxRecDepth 20000 in
theorem gX0_findFault_X0_readDeed : GoodIn wsX0_findFault (wsV RX0 25 RX0 yX0_readDeed wsX0_readDeed) := goodIn_app (goodIn_of _ (by decide +kernel)) ggX0_findFault_X0_readDeed
set_option maxRecDepth 20000 in
theorem ggX0_findFault_X0_readSign : GoodIn wsX0_findFault wsX0_readSign := goodIn_r _ [19, 2, 1, 20, 21, 22, 23, 24, 25, 26, 45, 46, 47, 48, 49, 50, 51, 52] (by decide +kernel) (by decide +kernel)
set_option maxRecDepth 20000 in
theorem gX0_findFault_X0_readSign : GoodIn wsX0_findFault (wsV RX0 29 RX0 yX0_readSign wsX0_readSign) := goodIn_app (goodIn_of _ (by decide +kernel)) ggX0_findFault_X0_readSign
set_option maxRecDepth 20000 in
theorem ggX0_readSign_X3_signAt : GoodIn wsX0_readSign wsX3_signAt := goodIn_r _ [7, 8, 9, 16, 17] (by decide +kernel) (by decide +kernel)
set_option maxRecDepth 20000 in
theorem gX0_readSign_X3_signAt : GoodIn wsX0_readSign (wsV RX0 37 RX3 yX3_signAt wsX3_signAt) := goodIn_app (goodIn_of _ (by decide +kernel)) ggX0_readSign_X3_signAt
set_option maxRecDepth 20000 in
theorem ggX0_readDeed_X0_readSign : GoodIn wsX0_readDeed wsX0_readSign := goodIn_r _ [7, 8, 9, 10, 11, 12, 13, 14, 15, 16, 35, 36, 37, 38, 39, 40, 41, 42] (by decide +kernel) (by decide +kernel)
set_option maxRecDepth 20000 in
theorem gX0_readDeed_X0_readSign : GoodIn wsX0_readDeed (wsV RX0 29 RX0 yX0_readSign wsX0_readSign) := goodIn_app (goodIn_of _ (by decide +kernel)) ggX0_readDeed_X0_readSign
set_option maxRecDepth 20000 in
theorem ggX0_readDeed_X0_readNumber : GoodIn wsX0_readDeed wsX0_readNumber := goodIn_r _ [20, 9, 21, 22, 23, 6, 24, 8, 10, 11, 12, 13, 14, 15, 16, 35, 36, 37, 38, 39, 40, 41, 42] (by decide +kernel) (by decide +kernel)
set_option maxRecDepth 20000 in
theorem gX0_readDeed_X0_readNumber : GoodIn wsX0_readDeed (wsV RX0 44 RX0 yX0_readNumber wsX0_readNumber) := goodIn_app (goodIn_of _ (by decide +kernel)) ggX0_readDeed_X0_readNumber
set_option maxRecDepth 20000 in
theorem ggX0_readDeed_X0_readSector : GoodIn wsX0_readDeed wsX0_readSector := goodIn_r _ [28, 29, 30, 3, 4, 5, 6, 7, 8, 9, 10, 11, 12, 13, 14, 15, 16, 17, 18, 19, 20, 21, 22, 23, 24, 35, 36, 37, 38, 39, 40, 41, 42] (by decide +kernel) (by decide +kernel)
set_option maxRecDepth 20000 in
theorem gX0_readDeed_X0_readSector : GoodIn wsX0_readDeed (wsV RX0 51 RX0 yX0_readSector wsX0_readSector) := goodIn_app (goodIn_of _ (by decide +kernel)) ggX0_readDeed_X0_readSector
set_option maxRecDepth 20000 in
theorem ggX0_readDeed_X0_readCharge : GoodIn wsX0_readDeed wsX0_readCharge := goodIn_r _ [34, 2, 3, 4, 5, 6, 7, 8, 9, 10, 11, 12, 13, 14, 15, 16, 17, 18, 19, 20, 21, 22, 23, 24, 35, 36, 37, 38, 39, 40, 41, 42] (by decide +kernel) (by decide +kernel)
set_option maxRecDepth 20000 in
theorem gX0_readDeed_X0_readCharge : GoodIn wsX0_readDeed (wsV RX0 54 RX0 yX0_readCharge wsX0_readCharge) := goodIn_app (goodIn_of _ (by decide +kernel)) ggX0_readDeed_X0_readCharge
set_option maxRecDepth 20000 in
theorem ggX0_readSector_X0_readSign : GoodIn wsX0_readSector wsX0_readSign := goodIn_r _ [7, 8, 9, 10, 11, 12, 13, 14, 15, 16, 25, 26, 27, 28, 29, 30, 31, 32] (by decide +kernel) (by decide +kernel)
set_option maxRecDepth 20000 in
theorem gX0_readSector_X0_readSign : GoodIn wsX0_readSector (wsV RX0 29 RX0 yX0_readSign wsX0_readSign) := goodIn_app (goodIn_of _ (by decide +kernel)) ggX0_readSector_X0_readSign
set_option maxRecDepth 20000 in
theorem ggX0_readSector_X0_readNumber : GoodIn wsX0_readSector wsX0_readNumber := goodIn_r _ [20, 9, 21, 22, 23, 6, 24, 8, 10, 11, 12, 13, 14, 15, 16, 25, 26, 27, 28, 29, 30, 31, 32] (by decide +kernel) (by decide +kernel)
set_option maxRecDepth 20000 in
theorem gX0_readSector_X0_readNumber : GoodIn wsX0_readSector (wsV RX0 44 RX0 yX0_readNumber wsX0_readNumber) := goodIn_app (goodIn_of _ (by decide +kernel)) ggX0_readSector_X0_readNumber
set_option maxRecDepth 20000 in
theorem ggX0_readCharge_X0_readSign : GoodIn wsX0_readCharge wsX0_readSign := goodIn_r _ [6, 7, 8, 9, 10, 11, 12, 13, 14, 15, 24, 25, 26, 27, 28, 29, 30, 31] (by decide +kernel) (by decide +kernel)
set_option maxRecDepth 20000 in
theorem gX0_readCharge_X0_readSign : GoodIn wsX0_readCharge (wsV RX0 29 RX0 yX0_readSign wsX0_readSign) := goodIn_app (goodIn_of _ (by decide +kernel)) ggX0_readCharge_X0_readSign
set_option maxRecDepth 20000 in
theorem ggX0_readCharge_X0_readNumber : GoodIn wsX0_readCharge wsX0_readNumber := goodIn_r _ [19, 8, 20, 21, 22, 5, 23, 7, 9, 10, 11, 12, 13, 14, 15, 24, 25, 26, 27, 28, 29, 30, 31] (by decide +kernel) (by decide +kernel)
set_option maxRecDepth 20000 in
theorem gX0_readCharge_X0_readNumber : GoodIn wsX0_readCharge (wsV RX0 44 RX0 yX0_readNumber wsX0_readNumber) := goodIn_app (goodIn_of _ (by decide +kernel)) ggX0_readCharge_X0_readNumber
set_option maxRecDepth 20000 in
theorem ggX0_readNumber_X0_digitAt : GoodIn wsX0_readNumber wsX0_digitAt := goodIn_r _ [6, 7, 8, 9, 10, 11, 12, 13, 14, 15, 16, 17, 18, 19, 20, 21, 22] (by decide +kernel) (by decide +kernel)
set_option maxRecDepth 20000 in
theorem gX0_readNumber_X0_digitAt : GoodIn wsX0_readNumber (wsV RX0 63 RX0 yX0_digitAt wsX0_digitAt) := goodIn_app (goodIn_of _ (by decide +kernel)) ggX0_readNumber_X0_digitAt
set_option maxRecDepth 20000 in
theorem ggX0_digitAt_X3_signAt : GoodIn wsX0_digitAt wsX3_signAt := goodIn_r _ [6, 7, 8, 15, 16] (by decide +kernel) (by decide +kernel)
set_option maxRecDepth 20000 in
theorem gX0_digitAt_X3_signAt : GoodIn wsX0_digitAt (wsV RX0 37 RX3 yX3_signAt wsX3_signAt) := goodIn_app (goodIn_of _ (by decide +kernel)) ggX0_digitAt_X3_signAt
set_option maxRecDepth 20000 in
theorem ggX1_record_J9_floorMod_7cf53 : GoodIn wsX1_record wsJ9_floorMod_7cf53 := goodIn_r _ [10] (by decide +kernel) (by decide +kernel)
set_option maxRecDepth 20000 in
theorem gX1_record_J9_floorMod_7cf53 : GoodIn wsX1_record (va_wsS RX1 24 yJ9_floorMod_7cf53 wsJ9_floorMod_7cf53) := goodIn_app (goodIn_of _ (by decide +kernel)) ggX1_record_J9_floorMod_7cf53
set_option maxRecDepth 20000 in
theorem ggX1_record_X2_init : GoodIn wsX1_record wsX2_init := goodIn_r _ [12, 13, 14, 15, 16, 17, 18, 19, 20, 21, 22, 48, 49, 50, 51, 52, 53, 54, 55, 56, 57, 58, 59, 60] (by decide +kernel) (by decide +kernel)
set_option maxRecDepth 20000 in
theorem gX1_record_X2_init_n30 : GoodIn wsX1_record (wsX2_init) := ggX1_record_X2_init
set_option maxRecDepth 20000 in
theorem ggX1_record_X2_become : GoodIn wsX1_record wsX2_become := goodIn_r _ [26, 17, 18, 19, 20, 21, 22, 27, 28, 29, 30, 31, 32, 33, 34, 35, 36, 37, 38, 39, 40, 41, 42, 43, 44, 48, 49, 50, 51, 52, 53, 54, 55, 56, 57, 58, 59, 60] (by decide +kernel) (by decide +kernel)
set_option maxRecDepth 20000 in
theorem gX1_record_X2_become : GoodIn wsX1_record (wsV RX1 31 RX2 yX2_become wsX2_become) := goodIn_app (goodIn_of _ (by decide +kernel)) ggX1_record_X2_become
set_option maxRecDepth 20000 in
theorem ggX1_takeBack_J9_floorMod_7cf53 : GoodIn wsX1_takeBack wsJ9_floorMod_7cf53 := goodIn_r _ [7] (by decide +kernel) (by decide +kernel)
set_option maxRecDepth 20000 in
theorem gX1_takeBack_J9_floorMod_7cf53 : GoodIn wsX1_takeBack (va_wsS RX1 24 yJ9_floorMod_7cf53 wsJ9_floorMod_7cf53) := goodIn_app (goodIn_of _ (by decide +kernel)) ggX1_takeBack_J9_floorMod_7cf53
set_option maxRecDepth 20000 in
theorem ggX1_takeBack_X2_become : GoodIn wsX1_takeBack wsX2_become := goodIn_r _ [12, 13, 14, 15, 16, 17, 18, 19, 20, 21, 22, 23, 24, 25, 26, 27, 28, 29, 30, 31, 32, 33, 34, 35, 36, 40, 41, 42, 43, 44, 45, 46, 47, 48, 49, 50, 51, 52] (by decide +kernel) (by decide +kernel)
set_option maxRecDepth 20000 in
theorem gX1_takeBack_X2_become : GoodIn wsX1_takeBack (wsV RX1 31 RX2 yX2_become wsX2_become) := goodIn_app (goodIn_of _ (by decide +kernel)) ggX1_takeBack_X2_become
set_option maxRecDepth 20000 in
theorem ggX2_become_X4_copyNumbers : GoodIn wsX2_become wsX4_copyNumbers := goodIn_r _ [16, 17, 18, 19, 20, 21, 22, 23, 24] (by decide +kernel) (by decide +kernel)
set_option maxRecDepth 20000 in
theorem gX2_become_X4_copyNumbers_n30 : GoodIn wsX2_become (wsX4_copyNumbers) := ggX2_become_X4_copyNumbers
set_option maxRecDepth 20000 in
theorem ggX2_indexOf_J9_floorMod_7cf53 : GoodIn wsX2_indexOf wsJ9_floorMod_7cf53 := goodIn_r _ [4] (by decide +kernel) (by decide +kernel)
set_option maxRecDepth 20000 in
theorem gX2_indexOf_J9_floorMod_7cf53 : GoodIn wsX2_indexOf (va_wsS RX2 56 yJ9_floorMod_7cf53 wsJ9_floorMod_7cf53) := goodIn_app (goodIn_of _ (by decide +kernel)) ggX2_indexOf_J9_floorMod_7cf53
set_option maxRecDepth 20000 in
theorem ggX2_logIndexOf_J9_floorMod_7cf53 : GoodIn wsX2_logIndexOf wsJ9_floorMod_7cf53 := goodIn_r _ [4] (by decide +kernel) (by decide +kernel)
set_option maxRecDepth 20000 in
theorem gX2_logIndexOf_J9_floorMod_7cf53 : GoodIn wsX2_logIndexOf (va_wsS RX2 56 yJ9_floorMod_7cf53 wsJ9_floorMod_7cf53) := goodIn_app (goodIn_of _ (by decide +kernel)) ggX2_logIndexOf_J9_floorMod_7cf53
set_option maxRecDepth 20000 in
theorem ggX2_sumOfDisc_X2_firstIndexOf : GoodIn wsX2_sumOfDisc wsX2_firstIndexOf := goodIn_r _ [5] (by decide +kernel) (by decide +kernel)
set_option maxRecDepth 20000 in
theorem gX2_sumOfDisc_X2_firstIndexOf : GoodIn wsX2_sumOfDisc (va_wsS RX2 62 yX2_firstIndexOf wsX2_firstIndexOf) := goodIn_app (goodIn_of _ (by decide +kernel)) ggX2_sumOfDisc_X2_firstIndexOf
set_option maxRecDepth 20000 in
theorem ggX2_sectorsWithSign_X2_firstIndexOf : GoodIn wsX2_sectorsWithSign wsX2_firstIndexOf := goodIn_r _ [5] (by decide +kernel) (by decide +kernel)
set_option maxRecDepth 20000 in
theorem gX2_sectorsWithSign_X2_firstIndexOf : GoodIn wsX2_sectorsWithSign (va_wsS RX2 62 yX2_firstIndexOf wsX2_firstIndexOf) := goodIn_app (goodIn_of _ (by decide +kernel)) ggX2_sectorsWithSign_X2_firstIndexOf
set_option maxRecDepth 20000 in
theorem ggX2_sectorsWithSign_J6_signum_0f7a4 : GoodIn wsX2_sectorsWithSign wsJ6_signum_0f7a4 := goodIn_r _ [9] (by decide +kernel) (by decide +kernel)
set_option maxRecDepth 20000 in
theorem gX2_sectorsWithSign_J6_signum_0f7a4 : GoodIn wsX2_sectorsWithSign (va_wsS RX2 66 yJ6_signum_0f7a4 wsJ6_signum_0f7a4) := goodIn_app (goodIn_of _ (by decide +kernel)) ggX2_sectorsWithSign_J6_signum_0f7a4
set_option maxRecDepth 20000 in
theorem ggX2_greatestOfDisc_X2_firstIndexOf : GoodIn wsX2_greatestOfDisc wsX2_firstIndexOf := goodIn_r _ [9] (by decide +kernel) (by decide +kernel)
set_option maxRecDepth 20000 in
theorem gX2_greatestOfDisc_X2_firstIndexOf : GoodIn wsX2_greatestOfDisc (va_wsS RX2 62 yX2_firstIndexOf wsX2_firstIndexOf) := goodIn_app (goodIn_of _ (by decide +kernel)) ggX2_greatestOfDisc_X2_firstIndexOf
set_option maxRecDepth 20000 in
theorem ggX2_leastOfDisc_X2_firstIndexOf : GoodIn wsX2_leastOfDisc wsX2_firstIndexOf := goodIn_r _ [9] (by decide +kernel) (by decide +kernel)
set_option maxRecDepth 20000 in
theorem gX2_leastOfDisc_X2_firstIndexOf : GoodIn wsX2_leastOfDisc (va_wsS RX2 62 yX2_firstIndexOf wsX2_firstIndexOf) := goodIn_app (goodIn_of _ (by decide +kernel)) ggX2_leastOfDisc_X2_firstIndexOf
set_option maxRecDepth 20000 in
theorem ggX2_chargeOfAll_X2_sumOfDisc : GoodIn wsX2_chargeOfAll wsX2_sumOfDisc := goodIn_r _ [6, 7, 8, 9, 5, 10, 11, 12, 13, 14, 15, 16, 17, 18, 19, 20, 21, 22, 23] (by decide +kernel) (by decide +kernel)
set_option maxRecDepth 20000 in
theorem gX2_chargeOfAll_X2_sumOfDisc : GoodIn wsX2_chargeOfAll (wsV RX2 77 RX2 yX2_sumOfDisc wsX2_sumOfDisc) := goodIn_app (goodIn_of _ (by decide +kernel)) ggX2_chargeOfAll_X2_sumOfDisc
set_option maxRecDepth 20000 in
theorem ggX2_sign_J6_signum_0f7a4 : GoodIn wsX2_sign wsJ6_signum_0f7a4 := goodIn_r _ [5] (by decide +kernel) (by decide +kernel)
set_option maxRecDepth 20000 in
theorem gX2_sign_J6_signum_0f7a4 : GoodIn wsX2_sign (va_wsS RX2 66 yJ6_signum_0f7a4 wsJ6_signum_0f7a4) := goodIn_app (goodIn_of _ (by decide +kernel)) ggX2_sign_J6_signum_0f7a4
set_option maxRecDepth 20000 in
theorem ggX2_putCharge_X2_indexOf : GoodIn wsX2_putCharge wsX2_indexOf := goodIn_r _ [7, 8, 9, 10, 11] (by decide +kernel) (by decide +kernel)
set_option maxRecDepth 20000 in
theorem gX2_putCharge_X2_indexOf : GoodIn wsX2_putCharge (va_wsS RX2 84 yX2_indexOf wsX2_indexOf) := goodIn_app (goodIn_of _ (by decide +kernel)) ggX2_putCharge_X2_indexOf
set_option maxRecDepth 20000 in
theorem ggX2_emptyJars_X2_difference : GoodIn wsX2_emptyJars wsX2_difference := goodIn_r _ [7, 2, 8, 9, 10, 11, 12, 13, 14, 15, 16, 17, 18, 19, 20, 21, 22, 23, 24] (by decide +kernel) (by decide +kernel)
set_option maxRecDepth 20000 in
theorem gX2_emptyJars_X2_difference : GoodIn wsX2_emptyJars (wsV RX2 88 RX2 yX2_difference wsX2_difference) := goodIn_app (goodIn_of _ (by decide +kernel)) ggX2_emptyJars_X2_difference
set_option maxRecDepth 20000 in
theorem ggX2_emptySectors_X2_sectorsWithSign : GoodIn wsX2_emptySectors wsX2_sectorsWithSign := goodIn_r _ [7, 2, 8, 9, 6, 10, 11, 12, 13, 14, 19, 20, 21, 22, 23, 24, 25, 26, 27, 28, 29, 30, 31] (by decide +kernel) (by decide +kernel)
set_option maxRecDepth 20000 in
theorem gX2_emptySectors_X2_sectorsWithSign : GoodIn wsX2_emptySectors (wsV RX2 92 RX2 yX2_sectorsWithSign wsX2_sectorsWithSign) := goodIn_app (goodIn_of _ (by decide +kernel)) ggX2_emptySectors_X2_sectorsWithSign
set_option maxRecDepth 20000 in
theorem ggX2_emptySectors_X2_sumOfDisc : GoodIn wsX2_emptySectors wsX2_sumOfDisc := goodIn_r _ [18, 2, 8, 9, 6, 10, 19, 20, 21, 22, 23, 24, 25, 26, 27, 28, 29, 30, 31] (by decide +kernel) (by decide +kernel)
set_option maxRecDepth 20000 in
theorem gX2_emptySectors_X2_sumOfDisc : GoodIn wsX2_emptySectors (wsV RX2 77 RX2 yX2_sumOfDisc wsX2_sumOfDisc) := goodIn_app (goodIn_of _ (by decide +kernel)) ggX2_emptySectors_X2_sumOfDisc
set_option maxRecDepth 20000 in
theorem ggX2_emptySectors_X2_firstIndexOf : GoodIn wsX2_emptySectors wsX2_firstIndexOf := goodIn_r _ [10] (by decide +kernel) (by decide +kernel)
set_option maxRecDepth 20000 in
theorem gX2_emptySectors_X2_firstIndexOf : GoodIn wsX2_emptySectors (va_wsS RX2 62 yX2_firstIndexOf wsX2_firstIndexOf) := goodIn_app (goodIn_of _ (by decide +kernel)) ggX2_emptySectors_X2_firstIndexOf
set_option maxRecDepth 20000 in
theorem ggX2_turnHandle_X2_turnOnce : GoodIn wsX2_turnHandle wsX2_turnOnce := goodIn_r _ [6, 7, 8, 9, 5, 10, 11, 12, 13, 14, 15, 16, 17, 18, 19, 20, 21, 22, 23, 24, 25, 26, 27, 28, 29, 30, 31, 32, 33, 34, 35, 36, 37, 38, 39, 40, 41, 42, 43, 44, 45, 46, 47, 48, 49, 50, 51, 52, 53, 54, 55, 56, 57, 58, 59, 60, 61, 62, 63, 64, 65, 66, 67, 1, 68, 69, 70, 71, 72, 73, 74, 75, 76, 77, 78, 79, 80, 81, 82, 83, 84, 85, 86, 87, 88, 89, 90, 91, 92, 93, 94, 95, 96, 97, 98] (by decide +kernel) (by decide +kernel)
set_option maxRecDepth 20000 in
theorem gX2_turnHandle_X2_turnOnce : GoodIn wsX2_turnHandle (wsV RX2 95 RX2 yX2_turnOnce wsX2_turnOnce) := goodIn_app (goodIn_of _ (by decide +kernel)) ggX2_turnHandle_X2_turnOnce
set_option maxRecDepth 20000 in
theorem ggX2_turnToGreatestDifference_X2_turnOnce : GoodIn wsX2_turnToGreatestDifference wsX2_turnOnce := goodIn_r _ [9, 10, 11, 12, 8, 13, 14, 15, 16, 17, 18, 19, 20, 1, 2, 3, 4, 21, 22, 23, 24, 25, 26, 27, 28, 29, 30, 31, 32, 33, 34, 35, 36, 37, 38, 39, 40, 41, 42, 43, 44, 45, 46, 47, 48, 49, 50, 51, 52, 53, 54, 55, 56, 57, 58, 59, 60, 61, 62, 63, 64, 65, 66, 67, 68, 69, 70, 71, 72, 73, 74, 75, 76, 77, 78, 79, 80, 81, 82, 83, 84, 85, 86, 87, 88, 89, 90, 91, 92, 93, 94, 95, 96, 97, 98] (by decide +kernel) (by decide +kernel)
set_option maxRecDepth 20000 in
theorem gX2_turnToGreatestDifference_X2_turnOnce : GoodIn wsX2_turnToGreatestDifference (wsV RX2 95 RX2 yX2_turnOnce wsX2_turnOnce) := goodIn_app (goodIn_of _ (by decide +kernel)) ggX2_turnToGreatestDifference_X2_turnOnce
set_option maxRecDepth 20000 in
theorem ggX2_turnToGreatestDifference_X2_difference : GoodIn wsX2_turnToGreatestDifference wsX2_difference := goodIn_r _ [59, 40, 60, 61, 3, 62, 86, 87, 88, 89, 90, 91, 92, 93, 94, 95, 96, 97, 98] (by decide +kernel) (by decide +kernel)
set_option maxRecDepth 20000 in
theorem gX2_turnToGreatestDifference_X2_difference : GoodIn wsX2_turnToGreatestDifference (wsV RX2 88 RX2 yX2_difference wsX2_difference) := goodIn_app (goodIn_of _ (by decide +kernel)) ggX2_turnToGreatestDifference_X2_difference
set_option maxRecDepth 20000 in
theorem ggX2_turnToSpark_X2_turnAheadOfSpark : GoodIn wsX2_turnToSpark wsX2_turnAheadOfSpark := goodIn_r _ [6, 7, 8, 9, 10, 5, 11, 12, 13, 14, 15, 16, 17, 18, 19, 20, 21, 22, 23, 24, 25, 26, 27, 28, 29, 30, 31, 32, 33, 34, 35, 36, 37, 38, 39, 40, 41, 42, 43, 44, 45, 46, 47, 48, 60, 61, 62, 63, 64, 65, 66, 67, 68, 69, 70, 71, 72] (by decide +kernel) (by decide +kernel)
set_option maxRecDepth 20000 in
theorem gX2_turnToSpark_X2_turnAheadOfSpark : GoodIn wsX2_turnToSpark (wsV RX2 98 RX2 yX2_turnAheadOfSpark wsX2_turnAheadOfSpark) := goodIn_app (goodIn_of _ (by decide +kernel)) ggX2_turnToSpark_X2_turnAheadOfSpark
set_option maxRecDepth 20000 in
theorem ggX2_turnToSpark_X2_isSparkDue : GoodIn wsX2_turnToSpark wsX2_isSparkDue := goodIn_r _ [52, 13, 53, 54, 55, 5, 56, 37, 57, 58, 16, 59, 60, 61, 62, 63, 64, 65, 66, 67, 68, 69, 70, 71, 72] (by decide +kernel) (by decide +kernel)
set_option maxRecDepth 20000 in
theorem gX2_turnToSpark_X2_isSparkDue : GoodIn wsX2_turnToSpark (wsV RX2 101 RX2 yX2_isSparkDue wsX2_isSparkDue) := goodIn_app (goodIn_of _ (by decide +kernel)) ggX2_turnToSpark_X2_isSparkDue
set_option maxRecDepth 20000 in
theorem ggX2_turnOnce_X2_turnAheadOfSpark : GoodIn wsX2_turnOnce wsX2_turnAheadOfSpark := goodIn_r _ [5, 6, 7, 8, 9, 4, 10, 11, 12, 13, 14, 15, 16, 17, 18, 19, 20, 21, 22, 23, 24, 25, 26, 27, 28, 29, 30, 31, 32, 33, 34, 35, 36, 37, 38, 39, 40, 41, 42, 43, 44, 45, 46, 47, 82, 83, 84, 85, 86, 87, 88, 89, 90, 91, 92, 93, 94] (by decide +kernel) (by decide +kernel)
set_option maxRecDepth 20000 in
theorem gX2_turnOnce_X2_turnAheadOfSpark : GoodIn wsX2_turnOnce (wsV RX2 98 RX2 yX2_turnAheadOfSpark wsX2_turnAheadOfSpark) := goodIn_app (goodIn_of _ (by decide +kernel)) ggX2_turnOnce_X2_turnAheadOfSpark
set_option maxRecDepth 20000 in
theorem ggX2_turnOnce_X2_isSparkDue : GoodIn wsX2_turnOnce wsX2_isSparkDue := goodIn_r _ [51, 12, 52, 53, 54, 4, 55, 36, 56, 57, 15, 58, 82, 83, 84, 85, 86, 87, 88, 89, 90, 91, 92, 93, 94] (by decide +kernel) (by decide +kernel)
set_option maxRecDepth 20000 in
theorem gX2_turnOnce_X2_isSparkDue : GoodIn wsX2_turnOnce (wsV RX2 101 RX2 yX2_isSparkDue wsX2_isSparkDue) := goodIn_app (goodIn_of _ (by decide +kernel)) ggX2_turnOnce_X2_isSparkDue
set_option maxRecDepth 20000 in
theorem ggX2_turnOnce_X2_letJump : GoodIn wsX2_turnOnce wsX2_letJump := goodIn_r _ [62, 63, 64, 6, 36, 12, 65, 66, 4, 67, 23, 24, 25, 26, 82, 83, 84, 85, 86, 87, 88, 89, 90, 91, 92, 93, 94] (by decide +kernel) (by decide +kernel)
set_option maxRecDepth 20000 in
theorem gX2_turnOnce_X2_letJump : GoodIn wsX2_turnOnce (wsV RX2 106 RX2 yX2_letJump wsX2_letJump) := goodIn_app (goodIn_of _ (by decide +kernel)) ggX2_turnOnce_X2_letJump
set_option maxRecDepth 20000 in
theorem ggX2_turnOnce_X2_noteSign : GoodIn wsX2_turnOnce wsX2_noteSign := goodIn_r _ [71, 72, 73, 74, 75, 76, 4, 77, 36, 78, 79, 80, 81, 82, 83, 84, 85, 86, 87, 88, 89, 90, 91, 92, 93, 94] (by decide +kernel) (by decide +kernel)
set_option maxRecDepth 20000 in
theorem gX2_turnOnce_X2_noteSign : GoodIn wsX2_turnOnce (wsV RX2 109 RX2 yX2_noteSign wsX2_noteSign) := goodIn_app (goodIn_of _ (by decide +kernel)) ggX2_turnOnce_X2_noteSign
set_option maxRecDepth 20000 in
theorem ggX2_turnAheadOfSpark_X2_join : GoodIn wsX2_turnAheadOfSpark wsX2_join := goodIn_r _ [6, 1, 7, 8, 9, 10, 11, 12, 13, 14, 15, 16, 17, 5, 18, 19, 20, 21, 22, 23, 24, 25, 26, 27, 44, 45, 46, 47, 48, 49, 50, 51, 52, 53, 54, 55, 56] (by decide +kernel) (by decide +kernel)
set_option maxRecDepth 20000 in
theorem gX2_turnAheadOfSpark_X2_join : GoodIn wsX2_turnAheadOfSpark (wsV RX2 112 RX2 yX2_join wsX2_join) := goodIn_app (goodIn_of _ (by decide +kernel)) ggX2_turnAheadOfSpark_X2_join
set_option maxRecDepth 20000 in
theorem ggX2_turnAheadOfSpark_X2_gather : GoodIn wsX2_turnAheadOfSpark wsX2_gather := goodIn_r _ [31, 1, 8, 7, 32, 33, 16, 17, 5, 18, 19, 20, 21, 22, 23, 24, 25, 26, 14, 11, 15, 27, 10, 12, 44, 45, 46, 47, 48, 49, 50, 51, 52, 53, 54, 55, 56] (by decide +kernel) (by decide +kernel)
set_option maxRecDepth 20000 in
theorem gX2_turnAheadOfSpark_X2_gather : GoodIn wsX2_turnAheadOfSpark (wsV RX2 116 RX2 yX2_gather wsX2_gather) := goodIn_app (goodIn_of _ (by decide +kernel)) ggX2_turnAheadOfSpark_X2_gather
set_option maxRecDepth 20000 in
theorem ggX2_turnAheadOfSpark_X2_leakFromSectors : GoodIn wsX2_turnAheadOfSpark wsX2_leakFromSectors := goodIn_r _ [37, 7, 8, 38, 44, 45, 46, 47, 48, 49, 50, 51, 52, 53, 54, 55, 56] (by decide +kernel) (by decide +kernel)
set_option maxRecDepth 20000 in
theorem gX2_turnAheadOfSpark_X2_leakFromSectors : GoodIn wsX2_turnAheadOfSpark (wsV RX2 120 RX2 yX2_leakFromSectors wsX2_leakFromSectors) := goodIn_app (goodIn_of _ (by decide +kernel)) ggX2_turnAheadOfSpark_X2_leakFromSectors
set_option maxRecDepth 20000 in
theorem ggX2_turnAheadOfSpark_X2_leakFromJar : GoodIn wsX2_turnAheadOfSpark wsX2_leakFromJar := goodIn_r _ [42, 32, 8, 43, 38, 44, 45, 46, 47, 48, 49, 50, 51, 52, 53, 54, 55, 56] (by decide +kernel) (by decide +kernel)
set_option maxRecDepth 20000 in
theorem gX2_turnAheadOfSpark_X2_leakFromJar : GoodIn wsX2_turnAheadOfSpark (wsV RX2 123 RX2 yX2_leakFromJar wsX2_leakFromJar) := goodIn_app (goodIn_of _ (by decide +kernel)) ggX2_turnAheadOfSpark_X2_leakFromJar
set_option maxRecDepth 20000 in
theorem ggX2_join_X2_indexOf : GoodIn wsX2_join wsX2_indexOf := goodIn_r _ [14, 15, 16, 17, 18] (by decide +kernel) (by decide +kernel)
set_option maxRecDepth 20000 in
theorem gX2_join_X2_indexOf : GoodIn wsX2_join (va_wsS RX2 84 yX2_indexOf wsX2_indexOf) := goodIn_app (goodIn_of _ (by decide +kernel)) ggX2_join_X2_indexOf
set_option maxRecDepth 20000 in
theorem ggX2_join_X4_limited : GoodIn wsX2_join wsX4_limited := goodIn_r _ [21, 22, 9, 6, 10, 23, 5, 7] (by decide +kernel) (by decide +kernel)
set_option maxRecDepth 20000 in
theorem gX2_join_X4_limited_n127 : GoodIn wsX2_join (wsX4_limited) := ggX2_join_X4_limited
set_option maxRecDepth 20000 in
theorem ggX2_gather_X2_indexOf : GoodIn wsX2_gather wsX2_indexOf := goodIn_r _ [9, 10, 11, 12, 13] (by decide +kernel) (by decide +kernel)
set_option maxRecDepth 20000 in
theorem gX2_gather_X2_indexOf : GoodIn wsX2_gather (va_wsS RX2 84 yX2_indexOf wsX2_indexOf) := goodIn_app (goodIn_of _ (by decide +kernel)) ggX2_gather_X2_indexOf
set_option maxRecDepth 20000 in
theorem ggX2_gather_X4_limited : GoodIn wsX2_gather wsX4_limited := goodIn_r _ [16, 17, 18, 19, 20, 21, 22, 23] (by decide +kernel) (by decide +kernel)
set_option maxRecDepth 20000 in
theorem gX2_gather_X4_limited_n127 : GoodIn wsX2_gather (wsX4_limited) := ggX2_gather_X4_limited
set_option maxRecDepth 20000 in
theorem ggX2_isSparkDue_X2_difference : GoodIn wsX2_isSparkDue wsX2_difference := goodIn_r _ [6, 7, 8, 9, 10, 11, 12, 13, 14, 15, 16, 17, 18, 19, 20, 21, 22, 23, 24] (by decide +kernel) (by decide +kernel)
set_option maxRecDepth 20000 in
theorem gX2_isSparkDue_X2_difference : GoodIn wsX2_isSparkDue (wsV RX2 88 RX2 yX2_difference wsX2_difference) := goodIn_app (goodIn_of _ (by decide +kernel)) ggX2_isSparkDue_X2_difference
set_option maxRecDepth 20000 in
theorem ggX2_letJump_X2_logIndexOf : GoodIn wsX2_letJump wsX2_logIndexOf := goodIn_r _ [9, 10, 11, 12, 13] (by decide +kernel) (by decide +kernel)
set_option maxRecDepth 20000 in
theorem gX2_letJump_X2_logIndexOf : GoodIn wsX2_letJump (va_wsS RX2 130 yX2_logIndexOf wsX2_logIndexOf) := goodIn_app (goodIn_of _ (by decide +kernel)) ggX2_letJump_X2_logIndexOf
set_option maxRecDepth 20000 in
theorem ggX2_noteSign_X2_sign : GoodIn wsX2_noteSign wsX2_sign := goodIn_r _ [7, 8, 9, 10, 11, 12, 13, 14, 15, 16, 17, 18, 19, 20, 21, 22, 23, 24, 25] (by decide +kernel) (by decide +kernel)
set_option maxRecDepth 20000 in
theorem gX2_noteSign_X2_sign : GoodIn wsX2_noteSign (wsV RX2 133 RX2 yX2_sign wsX2_sign) := goodIn_app (goodIn_of _ (by decide +kernel)) ggX2_noteSign_X2_sign
set_option maxRecDepth 20000 in
theorem ggX4_init_X2_init : GoodIn wsX4_init wsX2_init := goodIn_r _ [21, 22, 2, 3, 23, 24, 25, 26, 27, 28, 29, 47, 48, 49, 50, 51, 52, 53, 54, 55, 56, 57, 58, 59] (by decide +kernel) (by decide +kernel)
set_option maxRecDepth 20000 in
theorem gX4_init_X2_init_n9 : GoodIn wsX4_init (wsX2_init) := ggX4_init_X2_init
set_option maxRecDepth 20000 in
theorem ggX4_init_X1_init : GoodIn wsX4_init wsX1_init := goodIn_r _ [31, 32, 2, 3, 33, 34, 66, 67, 68] (by decide +kernel) (by decide +kernel)
set_option maxRecDepth 20000 in
theorem gX4_init_X1_init_n21 : GoodIn wsX4_init (wsX1_init) := ggX4_init_X1_init
set_option maxRecDepth 20000 in
theorem ggX4_init_X0_init : GoodIn wsX4_init wsX0_init := goodIn_r _ [36, 37, 2, 3, 38, 39, 40, 41, 42, 43, 44, 45, 46, 75, 76, 69, 70, 71, 72, 73, 74] (by decide +kernel) (by decide +kernel)
set_option maxRecDepth 20000 in
theorem gX4_init_X0_init_n32 : GoodIn wsX4_init (wsX0_init) := ggX4_init_X0_init
set_option maxRecDepth 20000 in
theorem ggX4_set_X2_fullestJar : GoodIn wsX4_set wsX2_fullestJar := goodIn_r _ [12, 13, 14, 15, 16, 17, 18, 19, 20, 73, 74, 75, 76, 77, 78, 79, 80, 81, 82, 83, 84, 85] (by decide +kernel) (by decide +kernel)
set_option maxRecDepth 20000 in
theorem gX4_set_X2_fullestJar : GoodIn wsX4_set (wsV RX4 50 RX2 yX2_fullestJar wsX2_fullestJar) := goodIn_app (goodIn_of _ (by decide +kernel)) ggX4_set_X2_fullestJar
set_option maxRecDepth 20000 in
theorem ggX4_set_X1_record : GoodIn wsX4_set wsX1_record := goodIn_r _ [25, 26, 27, 28, 29, 30, 11, 31, 32, 33, 34, 35, 36, 37, 38, 39, 40, 41, 42, 13, 43, 44, 45, 46, 47, 48, 49, 50, 51, 52, 53, 54, 55, 56, 57, 58, 59, 60, 61, 16, 62, 63, 64, 65, 66, 86, 87, 88, 73, 74, 75, 76, 77, 78, 79, 80, 81, 82, 83, 84, 85] (by decide +kernel) (by decide +kernel)
set_option maxRecDepth 20000 in
theorem gX4_set_X1_record : GoodIn wsX4_set (wsV RX4 55 RX1 yX1_record wsX1_record) := goodIn_app (goodIn_of _ (by decide +kernel)) ggX4_set_X1_record
set_option maxRecDepth 20000 in
theorem ggX4_touch_X4_isNoDisc : GoodIn wsX4_touch wsX4_isNoDisc := goodIn_r _ [8] (by decide +kernel) (by decide +kernel)
set_option maxRecDepth 20000 in
theorem gX4_touch_X4_isNoDisc : GoodIn wsX4_touch (va_wsS RX4 62 yX4_isNoDisc wsX4_isNoDisc) := goodIn_app (goodIn_of _ (by decide +kernel)) ggX4_touch_X4_isNoDisc
set_option maxRecDepth 20000 in
theorem ggX4_touch_X4_isNoPlace : GoodIn wsX4_touch wsX4_isNoPlace := goodIn_r _ [11] (by decide +kernel) (by decide +kernel)
set_option maxRecDepth 20000 in
theorem gX4_touch_X4_isNoPlace : GoodIn wsX4_touch (va_wsS RX4 66 yX4_isNoPlace wsX4_isNoPlace) := goodIn_app (goodIn_of _ (by decide +kernel)) ggX4_touch_X4_isNoPlace
set_option maxRecDepth 20000 in
theorem ggX4_touch_X1_record : GoodIn wsX4_touch wsX1_record := goodIn_r _ [16, 17, 18, 19, 20, 21, 22, 23, 24, 25, 26, 27, 28, 29, 30, 31, 32, 33, 34, 35, 36, 37, 38, 39, 40, 41, 42, 43, 44, 45, 46, 47, 48, 49, 50, 7, 51, 52, 53, 54, 55, 56, 57, 58, 59, 74, 75, 76, 77, 78, 79, 80, 81, 82, 83, 84, 85, 86, 87, 88, 89] (by decide +kernel) (by decide +kernel)
set_option maxRecDepth 20000 in
theorem gX4_touch_X1_record : GoodIn wsX4_touch (wsV RX4 55 RX1 yX1_record wsX1_record) := goodIn_app (goodIn_of _ (by decide +kernel)) ggX4_touch_X1_record
set_option maxRecDepth 20000 in
theorem ggX4_touch_X2_putCharge : GoodIn wsX4_touch wsX2_putCharge := goodIn_r _ [63, 43, 34, 48, 64, 65, 22, 66, 67, 24, 25, 26, 77, 78, 79, 80, 81, 82, 83, 84, 85, 86, 87, 88, 89] (by decide +kernel) (by decide +kernel)
set_option maxRecDepth 20000 in
theorem gX4_touch_X2_putCharge : GoodIn wsX4_touch (wsV RX4 70 RX2 yX2_putCharge wsX2_putCharge) := goodIn_app (goodIn_of _ (by decide +kernel)) ggX4_touch_X2_putCharge
set_option maxRecDepth 20000 in
theorem ggX4_turn_X2_hasTurnsLeft : GoodIn wsX4_turn wsX2_hasTurnsLeft := goodIn_r _ [9, 10, 11, 134, 135, 136, 137, 138, 139, 140, 141, 142, 143, 144, 145, 146] (by decide +kernel) (by decide +kernel)
set_option maxRecDepth 20000 in
theorem gX4_turn_X2_hasTurnsLeft : GoodIn wsX4_turn (wsV RX4 74 RX2 yX2_hasTurnsLeft wsX2_hasTurnsLeft) := goodIn_app (goodIn_of _ (by decide +kernel)) ggX4_turn_X2_hasTurnsLeft
set_option maxRecDepth 20000 in
theorem ggX4_turn_X1_record : GoodIn wsX4_turn wsX1_record := goodIn_r _ [16, 17, 18, 19, 20, 21, 8, 22, 23, 24, 25, 26, 27, 28, 29, 30, 31, 32, 33, 34, 35, 36, 37, 38, 39, 40, 41, 10, 42, 43, 44, 45, 46, 47, 48, 49, 50, 51, 52, 53, 54, 55, 56, 57, 58, 147, 148, 149, 134, 135, 136, 137, 138, 139, 140, 141, 142, 143, 144, 145, 146] (by decide +kernel) (by decide +kernel)
set_option maxRecDepth 20000 in
theorem gX4_turn_X1_record : GoodIn wsX4_turn (wsV RX4 55 RX1 yX1_record wsX1_record) := goodIn_app (goodIn_of _ (by decide +kernel)) ggX4_turn_X1_record
set_option maxRecDepth 20000 in
theorem ggX4_turn_X2_turnHandle : GoodIn wsX4_turn wsX2_turnHandle := goodIn_r _ [62, 42, 63, 64, 65, 8, 66, 67, 68, 69, 70, 10, 71, 72, 73, 74, 33, 32, 75, 76, 53, 77, 78, 52, 54, 79, 80, 81, 82, 23, 24, 25, 83, 49, 84, 51, 85, 86, 87, 88, 89, 34, 35, 90, 91, 92, 93, 45, 94, 95, 96, 97, 36, 98, 99, 100, 101, 102, 103, 104, 105, 106, 107, 108, 109, 110, 111, 112, 37, 113, 114, 115, 116, 117, 118, 119, 44, 43, 120, 121, 122, 123, 124, 125, 126, 127, 134, 135, 136, 137, 138, 139, 140, 141, 142, 143, 144, 145, 146] (by decide +kernel) (by decide +kernel)
set_option maxRecDepth 20000 in
theorem gX4_turn_X2_turnHandle : GoodIn wsX4_turn (wsV RX4 78 RX2 yX2_turnHandle wsX2_turnHandle) := goodIn_app (goodIn_of _ (by decide +kernel)) ggX4_turn_X2_turnHandle
set_option maxRecDepth 20000 in
theorem ggX4_discharge_X1_record : GoodIn wsX4_discharge wsX1_record := goodIn_r _ [7, 8, 9, 10, 11, 12, 13, 14, 15, 16, 17, 18, 19, 20, 21, 22, 23, 24, 25, 26, 27, 28, 29, 30, 31, 32, 33, 34, 35, 36, 37, 38, 39, 40, 41, 42, 43, 44, 45, 46, 47, 48, 49, 50, 51, 69, 70, 71, 72, 73, 74, 75, 76, 77, 78, 79, 80, 81, 82, 83, 84] (by decide +kernel) (by decide +kernel)
set_option maxRecDepth 20000 in
theorem gX4_discharge_X1_record : GoodIn wsX4_discharge (wsV RX4 55 RX1 yX1_record wsX1_record) := goodIn_app (goodIn_of _ (by decide +kernel)) ggX4_discharge_X1_record
set_option maxRecDepth 20000 in
theorem ggX4_discharge_X2_emptyJars : GoodIn wsX4_discharge wsX2_emptyJars := goodIn_r _ [55, 40, 26, 56, 57, 58, 13, 59, 60, 61, 46, 62, 72, 73, 74, 75, 76, 77, 78, 79, 80, 81, 82, 83, 84] (by decide +kernel) (by decide +kernel)
set_option maxRecDepth 20000 in
theorem gX4_discharge_X2_emptyJars : GoodIn wsX4_discharge (wsV RX4 82 RX2 yX2_emptyJars wsX2_emptyJars) := goodIn_app (goodIn_of _ (by decide +kernel)) ggX4_discharge_X2_emptyJars
set_option maxRecDepth 20000 in
theorem ggX4_wipeDisc_X4_isNoDisc : GoodIn wsX4_wipeDisc wsX4_isNoDisc := goodIn_r _ [7] (by decide +kernel) (by decide +kernel)
set_option maxRecDepth 20000 in
theorem gX4_wipeDisc_X4_isNoDisc : GoodIn wsX4_wipeDisc (va_wsS RX4 62 yX4_isNoDisc wsX4_isNoDisc) := goodIn_app (goodIn_of _ (by decide +kernel)) ggX4_wipeDisc_X4_isNoDisc
set_option maxRecDepth 20000 in
theorem ggX4_wipeDisc_X1_record : GoodIn wsX4_wipeDisc wsX1_record := goodIn_r _ [12, 13, 14, 15, 16, 17, 18, 19, 20, 21, 22, 23, 24, 25, 26, 27, 28, 29, 30, 31, 32, 33, 34, 35, 36, 37, 38, 39, 40, 41, 42, 43, 44, 45, 46, 6, 47, 48, 49, 50, 51, 52, 53, 54, 55, 81, 82, 83, 84, 85, 86, 87, 88, 89, 90, 91, 92, 93, 94, 95, 96] (by decide +kernel) (by decide +kernel)
set_option maxRecDepth 20000 in
theorem gX4_wipeDisc_X1_record : GoodIn wsX4_wipeDisc (wsV RX4 55 RX1 yX1_record wsX1_record) := goodIn_app (goodIn_of _ (by decide +kernel)) ggX4_wipeDisc_X1_record
set_option maxRecDepth 20000 in
theorem ggX4_wipeDisc_X2_emptySectors : GoodIn wsX4_wipeDisc wsX2_emptySectors := goodIn_r _ [59, 45, 30, 60, 61, 62, 18, 63, 64, 65, 66, 67, 68, 69, 70, 71, 72, 73, 74, 84, 85, 86, 87, 88, 89, 90, 91, 92, 93, 94, 95, 96] (by decide +kernel) (by decide +kernel)
set_option maxRecDepth 20000 in
theorem gX4_wipeDisc_X2_emptySectors : GoodIn wsX4_wipeDisc (wsV RX4 85 RX2 yX2_emptySectors wsX2_emptySectors) := goodIn_app (goodIn_of _ (by decide +kernel)) ggX4_wipeDisc_X2_emptySectors
set_option maxRecDepth 20000 in
theorem ggX4_run_X0_findFault : GoodIn wsX4_run wsX0_findFault := goodIn_r _ [12, 13, 14, 15, 16, 17, 18, 19, 11, 20, 21, 22, 23, 24, 25, 26, 27, 28, 29, 30, 31, 32, 33, 34, 35, 36, 37, 38, 39, 40, 41, 42, 43, 44, 45, 46, 47, 48, 49, 50, 51, 52, 53, 54, 55, 221, 222, 223, 224, 225, 226, 227, 228] (by decide +kernel) (by decide +kernel)
set_option maxRecDepth 20000 in
theorem gX4_run_X0_findFault : GoodIn wsX4_run (wsV RX4 88 RX0 yX0_findFault wsX0_findFault) := goodIn_app (goodIn_of _ (by decide +kernel)) ggX4_run_X0_findFault
set_option maxRecDepth 20000 in
theorem ggX4_run_X1_record : GoodIn wsX4_run wsX1_record := goodIn_r _ [60, 61, 62, 63, 64, 65, 66, 67, 68, 69, 70, 71, 72, 73, 74, 75, 76, 77, 78, 79, 80, 81, 82, 83, 84, 85, 86, 87, 88, 89, 90, 91, 92, 93, 94, 95, 96, 97, 98, 99, 100, 101, 102, 103, 104, 229, 230, 231, 208, 209, 210, 211, 212, 213, 214, 215, 216, 217, 218, 219, 220] (by decide +kernel) (by decide +kernel)
set_option maxRecDepth 20000 in
theorem gX4_run_X1_record : GoodIn wsX4_run (wsV RX4 55 RX1 yX1_record wsX1_record) := goodIn_app (goodIn_of _ (by decide +kernel)) ggX4_run_X1_record
set_option maxRecDepth 20000 in
theorem ggX4_run_X0_start : GoodIn wsX4_run wsX0_start := goodIn_r _ [20, 13, 221, 222, 223, 224, 225, 226] (by decide +kernel) (by decide +kernel)
set_option maxRecDepth 20000 in
theorem gX4_run_X0_start : GoodIn wsX4_run (wsV RX4 97 RX0 yX0_start wsX0_start) := goodIn_app (goodIn_of _ (by decide +kernel)) ggX4_run_X0_start
set_option maxRecDepth 20000 in
theorem ggX4_run_X0_readDeed : GoodIn wsX4_run wsX0_readDeed := goodIn_r _ [24, 25, 26, 27, 28, 29, 11, 30, 14, 13, 31, 32, 33, 34, 35, 36, 37, 38, 39, 40, 41, 42, 43, 44, 45, 46, 47, 48, 49, 50, 51, 52, 53, 54, 55, 221, 222, 223, 224, 225, 226, 227, 228] (by decide +kernel) (by decide +kernel)
set_option maxRecDepth 20000 in
theorem gX4_run_X0_readDeed : GoodIn wsX4_run (wsV RX4 100 RX0 yX0_readDeed wsX0_readDeed) := goodIn_app (goodIn_of _ (by decide +kernel)) ggX4_run_X0_readDeed
set_option maxRecDepth 20000 in
theorem ggX4_run_X4_doReadDeed : GoodIn wsX4_run wsX4_doReadDeed := goodIn_r _ [110, 1, 111, 5, 112, 113, 114, 115, 116, 117, 66, 118, 87, 78, 92, 119, 120, 121, 122, 68, 69, 70, 123, 124, 125, 126, 93, 79, 127, 128, 129, 130, 131, 132, 99, 133, 134, 135, 136, 137, 138, 139, 140, 141, 142, 88, 143, 144, 145, 146, 147, 148, 149, 150, 151, 152, 153, 154, 77, 155, 156, 157, 158, 98, 100, 159, 95, 160, 97, 161, 162, 163, 164, 165, 80, 166, 167, 168, 169, 91, 170, 171, 172, 173, 81, 174, 175, 176, 177, 178, 179, 180, 181, 82, 182, 183, 184, 185, 186, 187, 188, 90, 89, 189, 190, 191, 192, 193, 194, 195, 196, 202, 203, 204, 205, 206, 207, 221, 222, 223, 224, 225, 226, 208, 209, 210, 211, 212, 213, 214, 215, 216, 217, 218, 219, 220] (by decide +kernel) (by decide +kernel)
set_option maxRecDepth 20000 in
theorem gX4_run_X4_doReadDeed : GoodIn wsX4_run (wsV RX4 104 RX4 yX4_doReadDeed wsX4_doReadDeed) := goodIn_app (goodIn_of _ (by decide +kernel)) ggX4_run_X4_doReadDeed
set_option maxRecDepth 20000 in
theorem ggX4_run_X0_readSign : GoodIn wsX4_run wsX0_readSign := goodIn_r _ [30, 14, 13, 31, 32, 33, 34, 35, 36, 37, 221, 222, 223, 224, 225, 226, 227, 228] (by decide +kernel) (by decide +kernel)
set_option maxRecDepth 20000 in
theorem gX4_run_X0_readSign : GoodIn wsX4_run (wsV RX4 107 RX0 yX0_readSign wsX0_readSign) := goodIn_app (goodIn_of _ (by decide +kernel)) ggX4_run_X0_readSign
set_option maxRecDepth 20000 in
theorem ggX4_run_X3_clear : GoodIn wsX4_run wsX3_clear := goodIn_r _ [201, 36, 227, 228] (by decide +kernel) (by decide +kernel)
set_option maxRecDepth 20000 in
theorem gX4_run_X3_clear : GoodIn wsX4_run (wsV RX4 111 RX3 yX3_clear wsX3_clear) := goodIn_app (goodIn_of _ (by decide +kernel)) ggX4_run_X3_clear
set_option maxRecDepth 20000 in
theorem ggX4_doReadDeed_X2_putCharge : GoodIn wsX4_doReadDeed wsX2_putCharge := goodIn_r _ [11, 12, 13, 14, 15, 16, 10, 17, 18, 19, 20, 21, 123, 124, 125, 126, 127, 128, 129, 130, 131, 132, 133, 134, 135] (by decide +kernel) (by decide +kernel)
set_option maxRecDepth 20000 in
theorem gX4_doReadDeed_X2_putCharge : GoodIn wsX4_doReadDeed (wsV RX4 70 RX2 yX2_putCharge wsX2_putCharge) := goodIn_app (goodIn_of _ (by decide +kernel)) ggX4_doReadDeed_X2_putCharge
set_option maxRecDepth 20000 in
theorem ggX4_doReadDeed_X2_emptyJars : GoodIn wsX4_doReadDeed wsX2_emptyJars := goodIn_r _ [25, 26, 27, 28, 29, 30, 10, 31, 32, 33, 34, 35, 123, 124, 125, 126, 127, 128, 129, 130, 131, 132, 133, 134, 135] (by decide +kernel) (by decide +kernel)
set_option maxRecDepth 20000 in
theorem gX4_doReadDeed_X2_emptyJars : GoodIn wsX4_doReadDeed (wsV RX4 82 RX2 yX2_emptyJars wsX2_emptyJars) := goodIn_app (goodIn_of _ (by decide +kernel)) ggX4_doReadDeed_X2_emptyJars
set_option maxRecDepth 20000 in
theorem ggX4_doReadDeed_X2_hasTurnsLeft : GoodIn wsX4_doReadDeed wsX2_hasTurnsLeft := goodIn_r _ [39, 12, 40, 123, 124, 125, 126, 127, 128, 129, 130, 131, 132, 133, 134, 135] (by decide +kernel) (by decide +kernel)
set_option maxRecDepth 20000 in
theorem gX4_doReadDeed_X2_hasTurnsLeft : GoodIn wsX4_doReadDeed (wsV RX4 74 RX2 yX2_hasTurnsLeft wsX2_hasTurnsLeft) := goodIn_app (goodIn_of _ (by decide +kernel)) ggX4_doReadDeed_X2_hasTurnsLeft
set_option maxRecDepth 20000 in
theorem ggX4_doReadDeed_X2_turnHandle : GoodIn wsX4_doReadDeed wsX2_turnHandle := goodIn_r _ [44, 45, 46, 47, 48, 10, 49, 50, 51, 52, 53, 12, 54, 55, 56, 57, 13, 58, 59, 60, 34, 61, 62, 63, 64, 15, 16, 17, 18, 19, 20, 21, 65, 66, 67, 68, 69, 70, 71, 72, 73, 27, 74, 75, 76, 77, 78, 79, 80, 81, 82, 83, 84, 85, 86, 87, 88, 28, 29, 30, 31, 32, 33, 35, 89, 90, 91, 92, 93, 94, 95, 96, 97, 98, 99, 100, 101, 102, 103, 104, 105, 106, 107, 108, 109, 110, 123, 124, 125, 126, 127, 128, 129, 130, 131, 132, 133, 134, 135] (by decide +kernel) (by decide +kernel)
set_option maxRecDepth 20000 in
theorem gX4_doReadDeed_X2_turnHandle : GoodIn wsX4_doReadDeed (wsV RX4 78 RX2 yX2_turnHandle wsX2_turnHandle) := goodIn_app (goodIn_of _ (by decide +kernel)) ggX4_doReadDeed_X2_turnHandle
set_option maxRecDepth 20000 in
theorem ggX4_sector_X4_isNoDisc : GoodIn wsX4_sector wsX4_isNoDisc := goodIn_r _ [8] (by decide +kernel) (by decide +kernel)
set_option maxRecDepth 20000 in
theorem gX4_sector_X4_isNoDisc : GoodIn wsX4_sector (va_wsS RX4 62 yX4_isNoDisc wsX4_isNoDisc) := goodIn_app (goodIn_of _ (by decide +kernel)) ggX4_sector_X4_isNoDisc
set_option maxRecDepth 20000 in
theorem ggX4_sector_X4_isNoPlace : GoodIn wsX4_sector wsX4_isNoPlace := goodIn_r _ [11] (by decide +kernel) (by decide +kernel)
set_option maxRecDepth 20000 in
theorem gX4_sector_X4_isNoPlace : GoodIn wsX4_sector (va_wsS RX4 66 yX4_isNoPlace wsX4_isNoPlace) := goodIn_app (goodIn_of _ (by decide +kernel)) ggX4_sector_X4_isNoPlace
set_option maxRecDepth 20000 in
theorem ggX4_sector_X2_indexOf : GoodIn wsX4_sector wsX2_indexOf := goodIn_r _ [15, 16, 17, 18, 19] (by decide +kernel) (by decide +kernel)
set_option maxRecDepth 20000 in
theorem gX4_sector_X2_indexOf : GoodIn wsX4_sector (va_wsS RX4 134 yX2_indexOf wsX2_indexOf) := goodIn_app (goodIn_of _ (by decide +kernel)) ggX4_sector_X2_indexOf
set_option maxRecDepth 20000 in
theorem ggX4_disc_X4_isNoDisc : GoodIn wsX4_disc wsX4_isNoDisc := goodIn_r _ [7] (by decide +kernel) (by decide +kernel)
set_option maxRecDepth 20000 in
theorem gX4_disc_X4_isNoDisc : GoodIn wsX4_disc (va_wsS RX4 62 yX4_isNoDisc wsX4_isNoDisc) := goodIn_app (goodIn_of _ (by decide +kernel)) ggX4_disc_X4_isNoDisc
set_option maxRecDepth 20000 in
theorem ggX4_disc_X2_sumOfDisc : GoodIn wsX4_disc wsX2_sumOfDisc := goodIn_r _ [12, 13, 14, 15, 11, 16, 46, 47, 48, 49, 50, 51, 52, 53, 54, 55, 56, 57, 58] (by decide +kernel) (by decide +kernel)
set_option maxRecDepth 20000 in
theorem gX4_disc_X2_sumOfDisc : GoodIn wsX4_disc (wsV RX4 137 RX2 yX2_sumOfDisc wsX2_sumOfDisc) := goodIn_app (goodIn_of _ (by decide +kernel)) ggX4_disc_X2_sumOfDisc
set_option maxRecDepth 20000 in
theorem ggX4_disc_X2_sectorsWithSign : GoodIn wsX4_disc wsX2_sectorsWithSign := goodIn_r _ [20, 13, 14, 15, 11, 16, 21, 22, 23, 24, 46, 47, 48, 49, 50, 51, 52, 53, 54, 55, 56, 57, 58] (by decide +kernel) (by decide +kernel)
set_option maxRecDepth 20000 in
theorem gX4_disc_X2_sectorsWithSign : GoodIn wsX4_disc (wsV RX4 140 RX2 yX2_sectorsWithSign wsX2_sectorsWithSign) := goodIn_app (goodIn_of _ (by decide +kernel)) ggX4_disc_X2_sectorsWithSign
set_option maxRecDepth 20000 in
theorem ggX4_disc_X2_greatestOfDisc : GoodIn wsX4_disc wsX2_greatestOfDisc := goodIn_r _ [28, 13, 29, 30, 31, 32, 14, 15, 11, 16, 46, 47, 48, 49, 50, 51, 52, 53, 54, 55, 56, 57, 58] (by decide +kernel) (by decide +kernel)
set_option maxRecDepth 20000 in
theorem gX4_disc_X2_greatestOfDisc : GoodIn wsX4_disc (wsV RX4 144 RX2 yX2_greatestOfDisc wsX2_greatestOfDisc) := goodIn_app (goodIn_of _ (by decide +kernel)) ggX4_disc_X2_greatestOfDisc
set_option maxRecDepth 20000 in
theorem ggX4_disc_X2_leastOfDisc : GoodIn wsX4_disc wsX2_leastOfDisc := goodIn_r _ [36, 13, 37, 38, 31, 39, 14, 15, 11, 16, 46, 47, 48, 49, 50, 51, 52, 53, 54, 55, 56, 57, 58] (by decide +kernel) (by decide +kernel)
set_option maxRecDepth 20000 in
theorem gX4_disc_X2_leastOfDisc : GoodIn wsX4_disc (wsV RX4 147 RX2 yX2_leastOfDisc wsX2_leastOfDisc) := goodIn_app (goodIn_of _ (by decide +kernel)) ggX4_disc_X2_leastOfDisc
set_option maxRecDepth 20000 in
theorem ggX4_spark_X2_logIndexOf : GoodIn wsX4_spark wsX2_logIndexOf := goodIn_r _ [9, 10, 11, 12, 13] (by decide +kernel) (by decide +kernel)
set_option maxRecDepth 20000 in
theorem gX4_spark_X2_logIndexOf : GoodIn wsX4_spark (va_wsS RX4 162 yX2_logIndexOf wsX2_logIndexOf) := goodIn_app (goodIn_of _ (by decide +kernel)) ggX4_spark_X2_logIndexOf
set_option maxRecDepth 20000 in
theorem ggX4_count_X2_sign : GoodIn wsX4_count wsX2_sign := goodIn_r _ [18, 19, 20, 21, 22, 23, 42, 43, 44, 45, 46, 47, 48, 49, 50, 51, 52, 53, 54] (by decide +kernel) (by decide +kernel)
set_option maxRecDepth 20000 in
theorem gX4_count_X2_sign : GoodIn wsX4_count (wsV RX4 168 RX2 yX2_sign wsX2_sign) := goodIn_app (goodIn_of _ (by decide +kernel)) ggX4_count_X2_sign
set_option maxRecDepth 20000 in
theorem ggX4_count_X2_chargeOfAll : GoodIn wsX4_count wsX2_chargeOfAll := goodIn_r _ [27, 19, 28, 29, 30, 17, 31, 32, 33, 34, 35, 42, 43, 44, 45, 46, 47, 48, 49, 50, 51, 52, 53, 54] (by decide +kernel) (by decide +kernel)
set_option maxRecDepth 20000 in
theorem gX4_count_X2_chargeOfAll : GoodIn wsX4_count (wsV RX4 171 RX2 yX2_chargeOfAll wsX2_chargeOfAll) := goodIn_app (goodIn_of _ (by decide +kernel)) ggX4_count_X2_chargeOfAll
set_option maxRecDepth 20000 in
theorem ggX4_untilSpark_X2_become : GoodIn wsX4_untilSpark wsX2_become := goodIn_r _ [7, 8, 9, 10, 11, 12, 13, 14, 15, 16, 17, 18, 19, 20, 21, 22, 23, 24, 25, 26, 27, 28, 29, 30, 31, 88, 89, 90, 91, 92, 93, 94, 95, 96, 97, 98, 99, 100] (by decide +kernel) (by decide +kernel)
set_option maxRecDepth 20000 in
theorem gX4_untilSpark_X2_become : GoodIn wsX4_untilSpark (wsV RX4 189 RX2 yX2_become wsX2_become) := goodIn_app (goodIn_of _ (by decide +kernel)) ggX4_untilSpark_X2_become
set_option maxRecDepth 20000 in
theorem ggX4_untilSpark_X2_turnToSpark : GoodIn wsX4_untilSpark wsX2_turnToSpark := goodIn_r _ [35, 36, 37, 38, 39, 6, 40, 14, 41, 42, 43, 44, 9, 8, 45, 46, 26, 47, 48, 25, 27, 49, 50, 51, 52, 53, 54, 55, 56, 22, 57, 24, 58, 59, 60, 61, 62, 10, 11, 63, 64, 65, 66, 18, 67, 68, 69, 70, 12, 71, 72, 73, 74, 75, 76, 77, 78, 79, 80, 81, 88, 89, 90, 91, 92, 93, 94, 95, 96, 97, 98, 99, 100] (by decide +kernel) (by decide +kernel)
set_option maxRecDepth 20000 in
theorem gX4_untilSpark_X2_turnToSpark : GoodIn wsX4_untilSpark (wsV RX4 192 RX2 yX2_turnToSpark wsX2_turnToSpark) := goodIn_app (goodIn_of _ (by decide +kernel)) ggX4_untilSpark_X2_turnToSpark
set_option maxRecDepth 20000 in
theorem ggX4_ifTurned_X2_become : GoodIn wsX4_ifTurned wsX2_become := goodIn_r _ [11, 12, 13, 14, 15, 16, 17, 18, 19, 20, 21, 22, 23, 24, 25, 26, 27, 28, 29, 30, 31, 32, 33, 34, 35, 125, 126, 127, 128, 129, 130, 131, 132, 133, 134, 135, 136, 137] (by decide +kernel) (by decide +kernel)
set_option maxRecDepth 20000 in
theorem gX4_ifTurned_X2_become : GoodIn wsX4_ifTurned (wsV RX4 189 RX2 yX2_become wsX2_become) := goodIn_app (goodIn_of _ (by decide +kernel)) ggX4_ifTurned_X2_become
set_option maxRecDepth 20000 in
theorem ggX4_ifTurned_X2_turnToGreatestDifference : GoodIn wsX4_ifTurned wsX2_turnToGreatestDifference := goodIn_r _ [39, 40, 41, 30, 42, 43, 44, 45, 10, 46, 47, 48, 49, 50, 18, 51, 52, 53, 54, 13, 12, 55, 29, 31, 56, 57, 58, 59, 60, 61, 62, 63, 26, 64, 28, 65, 66, 67, 68, 69, 14, 15, 70, 71, 72, 73, 22, 74, 75, 76, 77, 16, 78, 79, 80, 81, 82, 83, 84, 85, 86, 87, 88, 89, 90, 91, 92, 19, 17, 93, 94, 95, 96, 97, 98, 99, 21, 20, 100, 101, 102, 103, 104, 105, 106, 107, 125, 126, 127, 128, 129, 130, 131, 132, 133, 134, 135, 136, 137] (by decide +kernel) (by decide +kernel)
set_option maxRecDepth 20000 in
theorem gX4_ifTurned_X2_turnToGreatestDifference : GoodIn wsX4_ifTurned (wsV RX4 195 RX2 yX2_turnToGreatestDifference wsX2_turnToGreatestDifference) := goodIn_app (goodIn_of _ (by decide +kernel)) ggX4_ifTurned_X2_turnToGreatestDifference
set_option maxRecDepth 20000 in
theorem ggX4_ifTurned_X2_chargeOfAll : GoodIn wsX4_ifTurned wsX2_chargeOfAll := goodIn_r _ [111, 14, 112, 113, 114, 10, 115, 13, 116, 117, 118, 125, 126, 127, 128, 129, 130, 131, 132, 133, 134, 135, 136, 137] (by decide +kernel) (by decide +kernel)
set_option maxRecDepth 20000 in
theorem gX4_ifTurned_X2_chargeOfAll : GoodIn wsX4_ifTurned (wsV RX4 171 RX2 yX2_chargeOfAll wsX2_chargeOfAll) := goodIn_app (goodIn_of _ (by decide +kernel)) ggX4_ifTurned_X2_chargeOfAll
set_option maxRecDepth 20000 in
theorem ggX4_widestGap_X2_become : GoodIn wsX4_widestGap wsX2_become := goodIn_r _ [17, 18, 19, 20, 21, 22, 23, 24, 25, 26, 27, 28, 29, 30, 31, 32, 33, 8, 9, 5, 10, 34, 35, 36, 37, 82, 83, 84, 85, 86, 87, 88, 89, 90, 91, 92, 93, 94] (by decide +kernel) (by decide +kernel)
set_option maxRecDepth 20000 in
theorem gX4_widestGap_X2_become : GoodIn wsX4_widestGap (wsV RX4 189 RX2 yX2_become wsX2_become) := goodIn_app (goodIn_of _ (by decide +kernel)) ggX4_widestGap_X2_become
set_option maxRecDepth 20000 in
theorem ggX4_widestGap_X2_turnAheadOfSpark : GoodIn wsX4_widestGap wsX2_turnAheadOfSpark := goodIn_r _ [41, 24, 42, 43, 44, 16, 45, 19, 18, 46, 4, 5, 6, 47, 9, 10, 48, 49, 50, 51, 52, 53, 54, 55, 32, 56, 8, 3, 57, 58, 59, 60, 20, 21, 61, 62, 63, 64, 28, 65, 66, 67, 68, 22, 82, 83, 84, 85, 86, 87, 88, 89, 90, 91, 92, 93, 94] (by decide +kernel) (by decide +kernel)
set_option maxRecDepth 20000 in
theorem gX4_widestGap_X2_turnAheadOfSpark : GoodIn wsX4_widestGap (wsV RX4 198 RX2 yX2_turnAheadOfSpark wsX2_turnAheadOfSpark) := goodIn_app (goodIn_of _ (by decide +kernel)) ggX4_widestGap_X2_turnAheadOfSpark
set_option maxRecDepth 20000 in
theorem ggX4_widestGap_X2_difference : GoodIn wsX4_widestGap wsX2_difference := goodIn_r _ [72, 20, 73, 74, 5, 75, 82, 83, 84, 85, 86, 87, 88, 89, 90, 91, 92, 93, 94] (by decide +kernel) (by decide +kernel)
set_option maxRecDepth 20000 in
theorem gX4_widestGap_X2_difference : GoodIn wsX4_widestGap (wsV RX4 201 RX2 yX2_difference wsX2_difference) := goodIn_app (goodIn_of _ (by decide +kernel)) ggX4_widestGap_X2_difference
set_option maxRecDepth 20000 in
theorem ggX4_mostDamp_X2_become : GoodIn wsX4_mostDamp wsX2_become := goodIn_r _ [11, 12, 13, 14, 15, 16, 17, 18, 19, 20, 21, 22, 23, 24, 25, 26, 27, 28, 29, 30, 31, 32, 33, 34, 35, 92, 93, 94, 95, 96, 97, 98, 99, 100, 101, 102, 103, 104] (by decide +kernel) (by decide +kernel)
set_option maxRecDepth 20000 in
theorem gX4_mostDamp_X2_become : GoodIn wsX4_mostDamp (wsV RX4 189 RX2 yX2_become wsX2_become) := goodIn_app (goodIn_of _ (by decide +kernel)) ggX4_mostDamp_X2_become
set_option maxRecDepth 20000 in
theorem ggX4_mostDamp_X2_turnToSpark : GoodIn wsX4_mostDamp wsX2_turnToSpark := goodIn_r _ [39, 40, 41, 42, 43, 10, 44, 18, 45, 46, 47, 48, 13, 12, 49, 50, 30, 51, 52, 29, 31, 53, 54, 55, 56, 57, 58, 59, 60, 26, 61, 28, 62, 63, 64, 65, 66, 14, 15, 67, 68, 69, 70, 22, 71, 72, 73, 74, 16, 75, 76, 77, 78, 79, 80, 81, 82, 83, 84, 85, 92, 93, 94, 95, 96, 97, 98, 99, 100, 101, 102, 103, 104] (by decide +kernel) (by decide +kernel)
set_option maxRecDepth 20000 in
theorem gX4_mostDamp_X2_turnToSpark : GoodIn wsX4_mostDamp (wsV RX4 192 RX2 yX2_turnToSpark wsX2_turnToSpark) := goodIn_app (goodIn_of _ (by decide +kernel)) ggX4_mostDamp_X2_turnToSpark
set_option maxRecDepth 20000 in
theorem ggX4_put_X4_charactersIn : GoodIn wsX4_put wsX4_charactersIn := goodIn_r _ [8, 9] (by decide +kernel) (by decide +kernel)
set_option maxRecDepth 20000 in
theorem gX4_put_X4_charactersIn : GoodIn wsX4_put (va_wsS RX4 212 yX4_charactersIn wsX4_charactersIn) := goodIn_app (goodIn_of _ (by decide +kernel)) ggX4_put_X4_charactersIn
set_option maxRecDepth 20000 in
theorem ggX4_put_X3_append : GoodIn wsX4_put wsX3_append := goodIn_r _ [14, 15, 16, 17, 24, 25] (by decide +kernel) (by decide +kernel)
set_option maxRecDepth 20000 in
theorem gX4_put_X3_append : GoodIn wsX4_put (wsV RX4 216 RX3 yX3_append wsX3_append) := goodIn_app (goodIn_of _ (by decide +kernel)) ggX4_put_X3_append
set_option maxRecDepth 20000 in
theorem ggX4_wipe_X3_clear : GoodIn wsX4_wipe wsX3_clear := goodIn_r _ [7, 8, 15, 16] (by decide +kernel) (by decide +kernel)
set_option maxRecDepth 20000 in
theorem gX4_wipe_X3_clear : GoodIn wsX4_wipe (wsV RX4 111 RX3 yX3_clear wsX3_clear) := goodIn_app (goodIn_of _ (by decide +kernel)) ggX4_wipe_X3_clear
set_option maxRecDepth 20000 in
theorem ggX4_fault_X0_findFault : GoodIn wsX4_fault wsX0_findFault := goodIn_r _ [6, 7, 8, 9, 10, 11, 12, 13, 5, 14, 15, 16, 17, 18, 19, 20, 21, 22, 23, 24, 25, 26, 27, 28, 29, 30, 31, 32, 33, 34, 35, 36, 37, 38, 39, 40, 41, 42, 43, 44, 45, 46, 47, 48, 49, 56, 57, 58, 59, 60, 61, 62, 63] (by decide +kernel) (by decide +kernel)
set_option maxRecDepth 20000 in
theorem gX4_fault_X0_findFault : GoodIn wsX4_fault (wsV RX4 88 RX0 yX0_findFault wsX0_findFault) := goodIn_app (goodIn_of _ (by decide +kernel)) ggX4_fault_X0_findFault
set_option maxRecDepth 20000 in
theorem ggX4_undo_X1_takeBack : GoodIn wsX4_undo wsX1_takeBack := goodIn_r _ [9, 10, 11, 12, 13, 14, 15, 16, 17, 18, 19, 20, 21, 22, 23, 24, 25, 26, 27, 28, 29, 30, 31, 32, 33, 34, 35, 36, 37, 38, 39, 40, 41, 42, 43, 44, 45, 52, 53, 54, 55, 56, 57, 58, 59, 60, 61, 62, 63, 64, 65, 66, 67] (by decide +kernel) (by decide +kernel)
set_option maxRecDepth 20000 in
theorem gX4_undo_X1_takeBack : GoodIn wsX4_undo (wsV RX4 220 RX1 yX1_takeBack wsX1_takeBack) := goodIn_app (goodIn_of _ (by decide +kernel)) ggX4_undo_X1_takeBack
set_option maxRecDepth 20000 in
theorem ggX4_save_X2_init : GoodIn wsX4_save wsX2_init := goodIn_r _ [9, 10, 11, 12, 13, 14, 15, 16, 17, 18, 19, 48, 49, 50, 51, 52, 53, 54, 55, 56, 57, 58, 59, 60] (by decide +kernel) (by decide +kernel)
set_option maxRecDepth 20000 in
theorem gX4_save_X2_init_n9 : GoodIn wsX4_save (wsX2_init) := ggX4_save_X2_init
set_option maxRecDepth 20000 in
theorem ggX4_save_X2_become : GoodIn wsX4_save wsX2_become := goodIn_r _ [23, 14, 15, 16, 17, 18, 19, 24, 25, 26, 27, 28, 29, 30, 31, 32, 33, 34, 35, 36, 37, 38, 39, 40, 41, 48, 49, 50, 51, 52, 53, 54, 55, 56, 57, 58, 59, 60] (by decide +kernel) (by decide +kernel)
set_option maxRecDepth 20000 in
theorem gX4_save_X2_become : GoodIn wsX4_save (wsV RX4 189 RX2 yX2_become wsX2_become) := goodIn_app (goodIn_of _ (by decide +kernel)) ggX4_save_X2_become
set_option maxRecDepth 20000 in
theorem ggX4_restore_X1_record : GoodIn wsX4_restore wsX1_record := goodIn_r _ [11, 12, 13, 14, 15, 16, 17, 18, 19, 20, 21, 22, 23, 24, 25, 26, 27, 28, 29, 30, 31, 32, 33, 34, 35, 36, 37, 38, 39, 40, 41, 42, 43, 44, 45, 46, 47, 48, 49, 50, 51, 52, 53, 54, 55, 76, 77, 78, 63, 64, 65, 66, 67, 68, 69, 70, 71, 72, 73, 74, 75] (by decide +kernel) (by decide +kernel)
set_option maxRecDepth 20000 in
theorem gX4_restore_X1_record : GoodIn wsX4_restore (wsV RX4 55 RX1 yX1_record wsX1_record) := goodIn_app (goodIn_of _ (by decide +kernel)) ggX4_restore_X1_record
set_option maxRecDepth 20000 in
theorem ggX4_restore_X2_become : GoodIn wsX4_restore wsX2_become := goodIn_r _ [37, 28, 29, 30, 31, 32, 33, 38, 39, 40, 41, 42, 43, 44, 45, 46, 47, 48, 49, 50, 51, 52, 53, 54, 55, 63, 64, 65, 66, 67, 68, 69, 70, 71, 72, 73, 74, 75] (by decide +kernel) (by decide +kernel)
set_option maxRecDepth 20000 in
theorem gX4_restore_X2_become : GoodIn wsX4_restore (wsV RX4 189 RX2 yX2_become wsX2_become) := goodIn_app (goodIn_of _ (by decide +kernel)) ggX4_restore_X2_become
set_option maxRecDepth 20000 in
theorem ggX5_discsTurn_X5_cell : GoodIn wsX5_discsTurn wsX5_cell := goodIn_r _ [5] (by decide +kernel) (by decide +kernel)
set_option maxRecDepth 20000 in
theorem gX5_discsTurn_X5_cell : GoodIn wsX5_discsTurn (va_wsS RX5 32 yX5_cell wsX5_cell) := goodIn_app (goodIn_of _ (by decide +kernel)) ggX5_discsTurn_X5_cell
set_option maxRecDepth 20000 in
theorem ggX5_joins_X5_cell : GoodIn wsX5_joins wsX5_cell := goodIn_r _ [5] (by decide +kernel) (by decide +kernel)
set_option maxRecDepth 20000 in
theorem gX5_joins_X5_cell : GoodIn wsX5_joins (va_wsS RX5 32 yX5_cell wsX5_cell) := goodIn_app (goodIn_of _ (by decide +kernel)) ggX5_joins_X5_cell
set_option maxRecDepth 20000 in
theorem ggX5_joins_X5_cut : GoodIn wsX5_joins wsX5_cut := goodIn_r _ [8] (by decide +kernel) (by decide +kernel)
set_option maxRecDepth 20000 in
theorem gX5_joins_X5_cut : GoodIn wsX5_joins (va_wsS RX5 36 yX5_cut wsX5_cut) := goodIn_app (goodIn_of _ (by decide +kernel)) ggX5_joins_X5_cut
set_option maxRecDepth 20000 in
theorem ggX5_takes_X5_cell : GoodIn wsX5_takes wsX5_cell := goodIn_r _ [5] (by decide +kernel) (by decide +kernel)
set_option maxRecDepth 20000 in
theorem gX5_takes_X5_cell : GoodIn wsX5_takes (va_wsS RX5 32 yX5_cell wsX5_cell) := goodIn_app (goodIn_of _ (by decide +kernel)) ggX5_takes_X5_cell
set_option maxRecDepth 20000 in
theorem ggX5_takes_X5_cut : GoodIn wsX5_takes wsX5_cut := goodIn_r _ [8] (by decide +kernel) (by decide +kernel)
set_option maxRecDepth 20000 in
theorem gX5_takes_X5_cut : GoodIn wsX5_takes (va_wsS RX5 36 yX5_cut wsX5_cut) := goodIn_app (goodIn_of _ (by decide +kernel)) ggX5_takes_X5_cut
set_option maxRecDepth 20000 in
theorem ggX5_sparks_X5_difference : GoodIn wsX5_sparks wsX5_difference := goodIn_r _ [6, 1, 11, 12, 13, 14, 15, 16, 17, 18, 19, 20, 21, 22, 23] (by decide +kernel) (by decide +kernel)
set_option maxRecDepth 20000 in
theorem gX5_sparks_X5_difference : GoodIn wsX5_sparks (wsV RX5 40 RX5 yX5_difference wsX5_difference) := goodIn_app (goodIn_of _ (by decide +kernel)) ggX5_sparks_X5_difference
set_option maxRecDepth 20000 in
theorem ggX5_sparks_X5_logs : GoodIn wsX5_sparks wsX5_logs := goodIn_r _ [10, 1, 11, 12, 13, 14, 15, 16, 17, 18, 19, 20, 21, 22, 23] (by decide +kernel) (by decide +kernel)
set_option maxRecDepth 20000 in
theorem gX5_sparks_X5_logs : GoodIn wsX5_sparks (wsV RX5 44 RX5 yX5_logs wsX5_logs) := goodIn_app (goodIn_of _ (by decide +kernel)) ggX5_sparks_X5_logs
set_option maxRecDepth 20000 in
theorem ggX5_charges_X5_discsTurn : GoodIn wsX5_charges wsX5_discsTurn := goodIn_r _ [6, 1, 7, 8, 5, 9, 25, 26, 27, 28, 29, 30, 31, 32, 33, 34, 35, 36, 37] (by decide +kernel) (by decide +kernel)
set_option maxRecDepth 20000 in
theorem gX5_charges_X5_discsTurn : GoodIn wsX5_charges (wsV RX5 47 RX5 yX5_discsTurn wsX5_discsTurn) := goodIn_app (goodIn_of _ (by decide +kernel)) ggX5_charges_X5_discsTurn
set_option maxRecDepth 20000 in
theorem ggX5_charges_X5_joins : GoodIn wsX5_charges wsX5_joins := goodIn_r _ [13, 1, 7, 8, 5, 9, 14, 15, 16, 25, 26, 27, 28, 29, 30, 31, 32, 33, 34, 35, 36, 37] (by decide +kernel) (by decide +kernel)
set_option maxRecDepth 20000 in
theorem gX5_charges_X5_joins : GoodIn wsX5_charges (wsV RX5 50 RX5 yX5_joins wsX5_joins) := goodIn_app (goodIn_of _ (by decide +kernel)) ggX5_charges_X5_joins
set_option maxRecDepth 20000 in
theorem ggX5_charges_X5_takes : GoodIn wsX5_charges wsX5_takes := goodIn_r _ [20, 1, 7, 8, 5, 9, 14, 15, 16, 25, 26, 27, 28, 29, 30, 31, 32, 33, 34, 35, 36, 37] (by decide +kernel) (by decide +kernel)
set_option maxRecDepth 20000 in
theorem gX5_charges_X5_takes : GoodIn wsX5_charges (wsV RX5 54 RX5 yX5_takes wsX5_takes) := goodIn_app (goodIn_of _ (by decide +kernel)) ggX5_charges_X5_takes
set_option maxRecDepth 20000 in
theorem ggX5_charges_X5_leaks : GoodIn wsX5_charges wsX5_leaks := goodIn_r _ [24, 1, 25, 26, 27, 28, 29, 30, 31, 32, 33, 34, 35, 36, 37] (by decide +kernel) (by decide +kernel)
set_option maxRecDepth 20000 in
theorem gX5_charges_X5_leaks : GoodIn wsX5_charges (wsV RX5 58 RX5 yX5_leaks wsX5_leaks) := goodIn_app (goodIn_of _ (by decide +kernel)) ggX5_charges_X5_leaks
set_option maxRecDepth 20000 in
theorem ggX5_turns_X5_charges : GoodIn wsX5_turns wsX5_charges := goodIn_r _ [6, 1, 7, 8, 9, 5, 10, 11, 12, 13, 14, 15, 16, 17, 18, 19, 20, 21, 22, 23, 24, 25, 26, 27, 28, 45, 46, 47, 48, 49, 50, 51, 52, 53, 54, 55, 56, 57] (by decide +kernel) (by decide +kernel)
set_option maxRecDepth 20000 in
theorem gX5_turns_X5_charges : GoodIn wsX5_turns (wsV RX5 61 RX5 yX5_charges wsX5_charges) := goodIn_app (goodIn_of _ (by decide +kernel)) ggX5_turns_X5_charges
set_option maxRecDepth 20000 in
theorem ggX5_turns_X5_sparks : GoodIn wsX5_turns wsX5_sparks := goodIn_r _ [32, 1, 33, 34, 35, 5, 36, 37, 38, 39, 40, 45, 46, 47, 48, 49, 50, 51, 52, 53, 54, 55, 56, 57] (by decide +kernel) (by decide +kernel)
set_option maxRecDepth 20000 in
theorem gX5_turns_X5_sparks : GoodIn wsX5_turns (wsV RX5 64 RX5 yX5_sparks wsX5_sparks) := goodIn_app (goodIn_of _ (by decide +kernel)) ggX5_turns_X5_sparks
set_option maxRecDepth 20000 in
theorem ggX5_turns_X5_sign : GoodIn wsX5_turns wsX5_sign := goodIn_r _ [44, 1, 45, 46, 47, 48, 49, 50, 51, 52, 53, 54, 55, 56, 57] (by decide +kernel) (by decide +kernel)
set_option maxRecDepth 20000 in
theorem gX5_turns_X5_sign : GoodIn wsX5_turns (wsV RX5 67 RX5 yX5_sign wsX5_sign) := goodIn_app (goodIn_of _ (by decide +kernel)) ggX5_turns_X5_sign
set_option maxRecDepth 20000 in
theorem ggX5_turned_X5_turns : GoodIn wsX5_turned wsX5_turns := goodIn_r _ [6, 1, 7, 8, 9, 5, 10, 11, 12, 13, 14, 15, 16, 17, 18, 19, 20, 21, 22, 23, 24, 25, 26, 27, 28, 29, 30, 31, 32, 33, 34, 35, 36, 37, 38, 39, 40, 41, 42, 43, 44, 45, 46, 47, 48, 49, 50, 51, 52, 53, 54, 55, 56, 57, 58, 59, 60, 61] (by decide +kernel) (by decide +kernel)
set_option maxRecDepth 20000 in
theorem gX5_turned_X5_turns : GoodIn wsX5_turned (wsV RX5 70 RX5 yX5_turns wsX5_turns) := goodIn_app (goodIn_of _ (by decide +kernel)) ggX5_turned_X5_turns
set_option maxRecDepth 20000 in
theorem ggX5_isSetting_X5_in : GoodIn wsX5_isSetting wsX5_in := goodIn_r _ [9] (by decide +kernel) (by decide +kernel)
set_option maxRecDepth 20000 in
theorem gX5_isSetting_X5_in : GoodIn wsX5_isSetting (va_wsS RX5 75 yX5_in wsX5_in) := goodIn_app (goodIn_of _ (by decide +kernel)) ggX5_isSetting_X5_in
set_option maxRecDepth 20000 in
theorem ggX5_set_X5_isSetting : GoodIn wsX5_set wsX5_isSetting := goodIn_r _ [8, 9, 10, 11, 12, 13, 14, 15, 7, 16] (by decide +kernel) (by decide +kernel)
set_option maxRecDepth 20000 in
theorem gX5_set_X5_isSetting : GoodIn wsX5_set (wsV RX5 87 RX5 yX5_isSetting wsX5_isSetting) := goodIn_app (goodIn_of _ (by decide +kernel)) ggX5_set_X5_isSetting
set_option maxRecDepth 20000 in
theorem ggX5_set_X5_in : GoodIn wsX5_set wsX5_in := goodIn_r _ [16] (by decide +kernel) (by decide +kernel)
set_option maxRecDepth 20000 in
theorem gX5_set_X5_in : GoodIn wsX5_set (va_wsS RX5 75 yX5_in wsX5_in) := goodIn_app (goodIn_of _ (by decide +kernel)) ggX5_set_X5_in
set_option maxRecDepth 20000 in
theorem ggX5_set_X5_changes : GoodIn wsX5_set wsX5_changes := goodIn_r _ [20, 21, 22, 2, 23, 24, 25, 26, 27, 28, 29, 30, 31, 32, 33, 34, 35] (by decide +kernel) (by decide +kernel)
set_option maxRecDepth 20000 in
theorem gX5_set_X5_changes : GoodIn wsX5_set (wsV RX5 93 RX5 yX5_changes wsX5_changes) := goodIn_app (goodIn_of _ (by decide +kernel)) ggX5_set_X5_changes
set_option maxRecDepth 20000 in
theorem ggX5_isPlace_X5_in : GoodIn wsX5_isPlace wsX5_in := goodIn_r _ [5] (by decide +kernel) (by decide +kernel)
set_option maxRecDepth 20000 in
theorem gX5_isPlace_X5_in : GoodIn wsX5_isPlace (va_wsS RX5 75 yX5_in wsX5_in) := goodIn_app (goodIn_of _ (by decide +kernel)) ggX5_isPlace_X5_in
set_option maxRecDepth 20000 in
theorem ggX5_touches_X5_cell : GoodIn wsX5_touches wsX5_cell := goodIn_r _ [5] (by decide +kernel) (by decide +kernel)
set_option maxRecDepth 20000 in
theorem gX5_touches_X5_cell : GoodIn wsX5_touches (va_wsS RX5 32 yX5_cell wsX5_cell) := goodIn_app (goodIn_of _ (by decide +kernel)) ggX5_touches_X5_cell
set_option maxRecDepth 20000 in
theorem ggX5_touch_X5_isDisc : GoodIn wsX5_touch wsX5_isDisc := goodIn_r _ [9] (by decide +kernel) (by decide +kernel)
set_option maxRecDepth 20000 in
theorem gX5_touch_X5_isDisc : GoodIn wsX5_touch (va_wsS RX5 98 yX5_isDisc wsX5_isDisc) := goodIn_app (goodIn_of _ (by decide +kernel)) ggX5_touch_X5_isDisc
set_option maxRecDepth 20000 in
theorem ggX5_touch_X5_isPlace : GoodIn wsX5_touch wsX5_isPlace := goodIn_r _ [12, 13, 14, 15, 8, 16] (by decide +kernel) (by decide +kernel)
set_option maxRecDepth 20000 in
theorem gX5_touch_X5_isPlace : GoodIn wsX5_touch (va_wsS RX5 102 yX5_isPlace wsX5_isPlace) := goodIn_app (goodIn_of _ (by decide +kernel)) ggX5_touch_X5_isPlace
set_option maxRecDepth 20000 in
theorem ggX5_touch_X5_in : GoodIn wsX5_touch wsX5_in := goodIn_r _ [16] (by decide +kernel) (by decide +kernel)
set_option maxRecDepth 20000 in
theorem gX5_touch_X5_in : GoodIn wsX5_touch (va_wsS RX5 75 yX5_in wsX5_in) := goodIn_app (goodIn_of _ (by decide +kernel)) ggX5_touch_X5_in
set_option maxRecDepth 20000 in
theorem ggX5_touch_X5_changes : GoodIn wsX5_touch wsX5_changes := goodIn_r _ [20, 21, 22, 5, 30, 31, 32, 33, 34, 35, 36, 37, 38, 39, 40, 41, 42] (by decide +kernel) (by decide +kernel)
set_option maxRecDepth 20000 in
theorem gX5_touch_X5_changes : GoodIn wsX5_touch (wsV RX5 93 RX5 yX5_changes wsX5_changes) := goodIn_app (goodIn_of _ (by decide +kernel)) ggX5_touch_X5_changes
set_option maxRecDepth 20000 in
theorem ggX5_touch_X5_cell : GoodIn wsX5_touch wsX5_cell := goodIn_r _ [25] (by decide +kernel) (by decide +kernel)
set_option maxRecDepth 20000 in
theorem gX5_touch_X5_cell : GoodIn wsX5_touch (va_wsS RX5 32 yX5_cell wsX5_cell) := goodIn_app (goodIn_of _ (by decide +kernel)) ggX5_touch_X5_cell
set_option maxRecDepth 20000 in
theorem ggX5_touch_X5_touches : GoodIn wsX5_touch wsX5_touches := goodIn_r _ [29, 5, 23, 24, 8, 25, 30, 31, 32, 33, 34, 35, 36, 37, 38, 39, 40, 41, 42] (by decide +kernel) (by decide +kernel)
set_option maxRecDepth 20000 in
theorem gX5_touch_X5_touches : GoodIn wsX5_touch (wsV RX5 110 RX5 yX5_touches wsX5_touches) := goodIn_app (goodIn_of _ (by decide +kernel)) ggX5_touch_X5_touches
set_option maxRecDepth 20000 in
theorem ggX5_turn_X5_in : GoodIn wsX5_turn wsX5_in := goodIn_r _ [9] (by decide +kernel) (by decide +kernel)
set_option maxRecDepth 20000 in
theorem gX5_turn_X5_in : GoodIn wsX5_turn (va_wsS RX5 75 yX5_in wsX5_in) := goodIn_app (goodIn_of _ (by decide +kernel)) ggX5_turn_X5_in
set_option maxRecDepth 20000 in
theorem ggX5_turn_X5_changes : GoodIn wsX5_turn wsX5_changes := goodIn_r _ [13, 14, 15, 3, 66, 67, 68, 69, 70, 71, 72, 73, 74, 75, 76, 77, 78] (by decide +kernel) (by decide +kernel)
set_option maxRecDepth 20000 in
theorem gX5_turn_X5_changes : GoodIn wsX5_turn (wsV RX5 93 RX5 yX5_changes wsX5_changes) := goodIn_app (goodIn_of _ (by decide +kernel)) ggX5_turn_X5_changes
set_option maxRecDepth 20000 in
theorem ggX5_turn_X5_turned : GoodIn wsX5_turn wsX5_turned := goodIn_r _ [19, 3, 20, 21, 22, 8, 23, 24, 25, 26, 27, 28, 29, 30, 31, 32, 33, 34, 35, 36, 37, 38, 39, 40, 41, 42, 43, 44, 45, 46, 47, 48, 49, 50, 51, 52, 53, 54, 55, 56, 57, 58, 59, 60, 61, 62, 63, 64, 65, 66, 67, 68, 69, 70, 71, 72, 73, 74, 75, 76, 77, 78] (by decide +kernel) (by decide +kernel)
set_option maxRecDepth 20000 in
theorem gX5_turn_X5_turned : GoodIn wsX5_turn (wsV RX5 115 RX5 yX5_turned wsX5_turned) := goodIn_app (goodIn_of _ (by decide +kernel)) ggX5_turn_X5_turned
set_option maxRecDepth 20000 in
theorem ggX5_discharges_X5_difference : GoodIn wsX5_discharges wsX5_difference := goodIn_r _ [6, 1, 7, 8, 9, 10, 11, 12, 13, 14, 15, 16, 17, 18, 19] (by decide +kernel) (by decide +kernel)
set_option maxRecDepth 20000 in
theorem gX5_discharges_X5_difference : GoodIn wsX5_discharges (wsV RX5 40 RX5 yX5_difference wsX5_difference) := goodIn_app (goodIn_of _ (by decide +kernel)) ggX5_discharges_X5_difference
set_option maxRecDepth 20000 in
theorem ggX5_discharge_X5_changes : GoodIn wsX5_discharge wsX5_changes := goodIn_r _ [5, 6, 7, 8, 17, 18, 19, 20, 21, 22, 23, 24, 25, 26, 27, 28, 29] (by decide +kernel) (by decide +kernel)
set_option maxRecDepth 20000 in
theorem gX5_discharge_X5_changes : GoodIn wsX5_discharge (wsV RX5 93 RX5 yX5_changes wsX5_changes) := goodIn_app (goodIn_of _ (by decide +kernel)) ggX5_discharge_X5_changes
set_option maxRecDepth 20000 in
theorem ggX5_discharge_X5_discharges : GoodIn wsX5_discharge wsX5_discharges := goodIn_r _ [12, 8, 13, 14, 15, 4, 16, 17, 18, 19, 20, 21, 22, 23, 24, 25, 26, 27, 28, 29] (by decide +kernel) (by decide +kernel)
set_option maxRecDepth 20000 in
theorem gX5_discharge_X5_discharges : GoodIn wsX5_discharge (wsV RX5 119 RX5 yX5_discharges wsX5_discharges) := goodIn_app (goodIn_of _ (by decide +kernel)) ggX5_discharge_X5_discharges
set_option maxRecDepth 20000 in
theorem ggX5_wipeDisc_X5_isDisc : GoodIn wsX5_wipeDisc wsX5_isDisc := goodIn_r _ [6] (by decide +kernel) (by decide +kernel)
set_option maxRecDepth 20000 in
theorem gX5_wipeDisc_X5_isDisc : GoodIn wsX5_wipeDisc (va_wsS RX5 98 yX5_isDisc wsX5_isDisc) := goodIn_app (goodIn_of _ (by decide +kernel)) ggX5_wipeDisc_X5_isDisc
set_option maxRecDepth 20000 in
theorem ggX5_wipeDisc_X5_changes : GoodIn wsX5_wipeDisc wsX5_changes := goodIn_r _ [10, 11, 12, 2, 16, 17, 18, 19, 20, 21, 22, 23, 24, 25, 26, 27, 28] (by decide +kernel) (by decide +kernel)
set_option maxRecDepth 20000 in
theorem gX5_wipeDisc_X5_changes : GoodIn wsX5_wipeDisc (wsV RX5 93 RX5 yX5_changes wsX5_changes) := goodIn_app (goodIn_of _ (by decide +kernel)) ggX5_wipeDisc_X5_changes
set_option maxRecDepth 20000 in
theorem ggX5_wipeDisc_X5_cell : GoodIn wsX5_wipeDisc wsX5_cell := goodIn_r _ [15] (by decide +kernel) (by decide +kernel)
set_option maxRecDepth 20000 in
theorem gX5_wipeDisc_X5_cell : GoodIn wsX5_wipeDisc (va_wsS RX5 32 yX5_cell wsX5_cell) := goodIn_app (goodIn_of _ (by decide +kernel)) ggX5_wipeDisc_X5_cell
set_option maxRecDepth 20000 in
theorem ggX5_sector_X5_isDisc : GoodIn wsX5_sector wsX5_isDisc := goodIn_r _ [6] (by decide +kernel) (by decide +kernel)
set_option maxRecDepth 20000 in
theorem gX5_sector_X5_isDisc : GoodIn wsX5_sector (va_wsS RX5 98 yX5_isDisc wsX5_isDisc) := goodIn_app (goodIn_of _ (by decide +kernel)) ggX5_sector_X5_isDisc
set_option maxRecDepth 20000 in
theorem ggX5_sector_X5_isPlace : GoodIn wsX5_sector wsX5_isPlace := goodIn_r _ [9, 10, 11, 12, 5, 13] (by decide +kernel) (by decide +kernel)
set_option maxRecDepth 20000 in
theorem gX5_sector_X5_isPlace : GoodIn wsX5_sector (va_wsS RX5 102 yX5_isPlace wsX5_isPlace) := goodIn_app (goodIn_of _ (by decide +kernel)) ggX5_sector_X5_isPlace
set_option maxRecDepth 20000 in
theorem ggX5_sector_X5_cell : GoodIn wsX5_sector wsX5_cell := goodIn_r _ [16] (by decide +kernel) (by decide +kernel)
set_option maxRecDepth 20000 in
theorem gX5_sector_X5_cell : GoodIn wsX5_sector (va_wsS RX5 32 yX5_cell wsX5_cell) := goodIn_app (goodIn_of _ (by decide +kernel)) ggX5_sector_X5_cell
set_option maxRecDepth 20000 in
theorem ggX5_disc_X5_isDisc : GoodIn wsX5_disc wsX5_isDisc := goodIn_r _ [7] (by decide +kernel) (by decide +kernel)
set_option maxRecDepth 20000 in
theorem gX5_disc_X5_isDisc : GoodIn wsX5_disc (va_wsS RX5 98 yX5_isDisc wsX5_isDisc) := goodIn_app (goodIn_of _ (by decide +kernel)) ggX5_disc_X5_isDisc
set_option maxRecDepth 20000 in
theorem ggX5_disc_X5_cell : GoodIn wsX5_disc wsX5_cell := goodIn_r _ [10] (by decide +kernel) (by decide +kernel)
set_option maxRecDepth 20000 in
theorem gX5_disc_X5_cell : GoodIn wsX5_disc (va_wsS RX5 32 yX5_cell wsX5_cell) := goodIn_app (goodIn_of _ (by decide +kernel)) ggX5_disc_X5_cell
set_option maxRecDepth 20000 in
theorem ggX5_jar_X5_isDisc : GoodIn wsX5_jar wsX5_isDisc := goodIn_r _ [8] (by decide +kernel) (by decide +kernel)
set_option maxRecDepth 20000 in
theorem gX5_jar_X5_isDisc : GoodIn wsX5_jar (va_wsS RX5 98 yX5_isDisc wsX5_isDisc) := goodIn_app (goodIn_of _ (by decide +kernel)) ggX5_jar_X5_isDisc
set_option maxRecDepth 20000 in
theorem ggX5_jar_X5_in : GoodIn wsX5_jar wsX5_in := goodIn_r _ [11] (by decide +kernel) (by decide +kernel)
set_option maxRecDepth 20000 in
theorem gX5_jar_X5_in : GoodIn wsX5_jar (va_wsS RX5 75 yX5_in wsX5_in) := goodIn_app (goodIn_of _ (by decide +kernel)) ggX5_jar_X5_in
set_option maxRecDepth 20000 in
theorem ggX5_spark_X5_in : GoodIn wsX5_spark wsX5_in := goodIn_r _ [8] (by decide +kernel) (by decide +kernel)
set_option maxRecDepth 20000 in
theorem gX5_spark_X5_in : GoodIn wsX5_spark (va_wsS RX5 75 yX5_in wsX5_in) := goodIn_app (goodIn_of _ (by decide +kernel)) ggX5_spark_X5_in
set_option maxRecDepth 20000 in
theorem ggX5_count_X5_sign : GoodIn wsX5_count wsX5_sign := goodIn_r _ [10, 1, 18, 19, 20, 21, 22, 23, 24, 25, 26, 27, 28, 29, 30] (by decide +kernel) (by decide +kernel)
set_option maxRecDepth 20000 in
theorem gX5_count_X5_sign : GoodIn wsX5_count (wsV RX5 67 RX5 yX5_sign wsX5_sign) := goodIn_app (goodIn_of _ (by decide +kernel)) ggX5_count_X5_sign
set_option maxRecDepth 20000 in
theorem ggX5_count_X5_allCharge : GoodIn wsX5_count wsX5_allCharge := goodIn_r _ [14, 1, 18, 19, 20, 21, 22, 23, 24, 25, 26, 27, 28, 29, 30] (by decide +kernel) (by decide +kernel)
set_option maxRecDepth 20000 in
theorem gX5_count_X5_allCharge : GoodIn wsX5_count (wsV RX5 125 RX5 yX5_allCharge wsX5_allCharge) := goodIn_app (goodIn_of _ (by decide +kernel)) ggX5_count_X5_allCharge
set_option maxRecDepth 20000 in
theorem ggX5_count_X5_in : GoodIn wsX5_count wsX5_in := goodIn_r _ [17] (by decide +kernel) (by decide +kernel)
set_option maxRecDepth 20000 in
theorem gX5_count_X5_in : GoodIn wsX5_count (va_wsS RX5 75 yX5_in wsX5_in) := goodIn_app (goodIn_of _ (by decide +kernel)) ggX5_count_X5_in
set_option maxRecDepth 20000 in
theorem ggX5_nextSpark_X5_keeps : GoodIn wsX5_nextSpark wsX5_keeps := goodIn_r _ [7, 8, 1, 59, 60, 61, 62, 63, 64, 65, 66, 67, 68, 69, 70, 71] (by decide +kernel) (by decide +kernel)
set_option maxRecDepth 20000 in
theorem gX5_nextSpark_X5_keeps : GoodIn wsX5_nextSpark (wsV RX5 133 RX5 yX5_keeps wsX5_keeps) := goodIn_app (goodIn_of _ (by decide +kernel)) ggX5_nextSpark_X5_keeps
set_option maxRecDepth 20000 in
theorem ggX5_nextSpark_X5_turns : GoodIn wsX5_nextSpark wsX5_turns := goodIn_r _ [12, 1, 13, 14, 15, 6, 16, 17, 18, 19, 20, 21, 22, 23, 24, 25, 26, 27, 28, 29, 30, 31, 32, 33, 34, 35, 36, 37, 38, 39, 40, 41, 42, 43, 44, 45, 46, 47, 48, 49, 50, 51, 52, 53, 54, 59, 60, 61, 62, 63, 64, 65, 66, 67, 68, 69, 70, 71] (by decide +kernel) (by decide +kernel)
set_option maxRecDepth 20000 in
theorem gX5_nextSpark_X5_turns : GoodIn wsX5_nextSpark (wsV RX5 70 RX5 yX5_turns wsX5_turns) := goodIn_app (goodIn_of _ (by decide +kernel)) ggX5_nextSpark_X5_turns
set_option maxRecDepth 20000 in
theorem ggX5_nextSpark_X5_comesBack : GoodIn wsX5_nextSpark wsX5_comesBack := goodIn_r _ [58, 1, 8, 59, 60, 61, 62, 63, 64, 65, 66, 67, 68, 69, 70, 71] (by decide +kernel) (by decide +kernel)
set_option maxRecDepth 20000 in
theorem gX5_nextSpark_X5_comesBack : GoodIn wsX5_nextSpark (wsV RX5 136 RX5 yX5_comesBack wsX5_comesBack) := goodIn_app (goodIn_of _ (by decide +kernel)) ggX5_nextSpark_X5_comesBack
set_option maxRecDepth 20000 in
theorem ggX5_untilSpark_X5_nextSpark : GoodIn wsX5_untilSpark wsX5_nextSpark := goodIn_r _ [5, 6, 7, 8, 9, 10, 4, 11, 12, 13, 14, 15, 16, 17, 18, 19, 20, 21, 22, 23, 24, 25, 26, 27, 28, 29, 30, 31, 32, 33, 34, 35, 36, 37, 38, 39, 40, 41, 42, 43, 44, 45, 46, 47, 48, 49, 50, 51, 52, 53, 54, 55, 56, 57, 58, 59, 60, 61, 62, 63, 64, 65, 66, 67, 68, 69, 70, 71, 72, 73, 74, 75] (by decide +kernel) (by decide +kernel)
set_option maxRecDepth 20000 in
theorem gX5_untilSpark_X5_nextSpark : GoodIn wsX5_untilSpark (wsV RX5 139 RX5 yX5_nextSpark wsX5_nextSpark) := goodIn_app (goodIn_of _ (by decide +kernel)) ggX5_untilSpark_X5_nextSpark
set_option maxRecDepth 20000 in
theorem ggX5_ifTurned_X5_in : GoodIn wsX5_ifTurned wsX5_in := goodIn_r _ [8] (by decide +kernel) (by decide +kernel)
set_option maxRecDepth 20000 in
theorem gX5_ifTurned_X5_in : GoodIn wsX5_ifTurned (va_wsS RX5 75 yX5_in wsX5_in) := goodIn_app (goodIn_of _ (by decide +kernel)) ggX5_ifTurned_X5_in
set_option maxRecDepth 20000 in
theorem ggX5_ifTurned_X5_keeps : GoodIn wsX5_ifTurned wsX5_keeps := goodIn_r _ [12, 13, 4, 72, 73, 74, 75, 76, 77, 78, 79, 80, 81, 82, 83, 84] (by decide +kernel) (by decide +kernel)
set_option maxRecDepth 20000 in
theorem gX5_ifTurned_X5_keeps : GoodIn wsX5_ifTurned (wsV RX5 133 RX5 yX5_keeps wsX5_keeps) := goodIn_app (goodIn_of _ (by decide +kernel)) ggX5_ifTurned_X5_keeps
set_option maxRecDepth 20000 in
theorem ggX5_ifTurned_X5_turned : GoodIn wsX5_ifTurned wsX5_turned := goodIn_r _ [17, 4, 18, 19, 20, 7, 21, 22, 23, 24, 25, 26, 27, 28, 29, 30, 31, 32, 33, 34, 35, 36, 37, 38, 39, 40, 41, 42, 43, 44, 45, 46, 47, 48, 49, 50, 51, 52, 53, 54, 55, 56, 57, 58, 59, 60, 61, 62, 63, 72, 73, 74, 75, 76, 77, 78, 79, 80, 81, 82, 83, 84] (by decide +kernel) (by decide +kernel)
set_option maxRecDepth 20000 in
theorem gX5_ifTurned_X5_turned : GoodIn wsX5_ifTurned (wsV RX5 115 RX5 yX5_turned wsX5_turned) := goodIn_app (goodIn_of _ (by decide +kernel)) ggX5_ifTurned_X5_turned
set_option maxRecDepth 20000 in
theorem ggX5_ifTurned_X5_difference : GoodIn wsX5_ifTurned wsX5_difference := goodIn_r _ [55, 4, 72, 73, 74, 75, 76, 77, 78, 79, 80, 81, 82, 83, 84] (by decide +kernel) (by decide +kernel)
set_option maxRecDepth 20000 in
theorem gX5_ifTurned_X5_difference : GoodIn wsX5_ifTurned (wsV RX5 40 RX5 yX5_difference wsX5_difference) := goodIn_app (goodIn_of _ (by decide +kernel)) ggX5_ifTurned_X5_difference
set_option maxRecDepth 20000 in
theorem ggX5_ifTurned_X5_allCharge : GoodIn wsX5_ifTurned wsX5_allCharge := goodIn_r _ [67, 4, 72, 73, 74, 75, 76, 77, 78, 79, 80, 81, 82, 83, 84] (by decide +kernel) (by decide +kernel)
set_option maxRecDepth 20000 in
theorem gX5_ifTurned_X5_allCharge : GoodIn wsX5_ifTurned (wsV RX5 125 RX5 yX5_allCharge wsX5_allCharge) := goodIn_app (goodIn_of _ (by decide +kernel)) ggX5_ifTurned_X5_allCharge
set_option maxRecDepth 20000 in
theorem ggX5_ifTurned_X5_comesBack : GoodIn wsX5_ifTurned wsX5_comesBack := goodIn_r _ [71, 4, 13, 72, 73, 74, 75, 76, 77, 78, 79, 80, 81, 82, 83, 84] (by decide +kernel) (by decide +kernel)
set_option maxRecDepth 20000 in
theorem gX5_ifTurned_X5_comesBack : GoodIn wsX5_ifTurned (wsV RX5 136 RX5 yX5_comesBack wsX5_comesBack) := goodIn_app (goodIn_of _ (by decide +kernel)) ggX5_ifTurned_X5_comesBack
set_option maxRecDepth 20000 in
theorem ggX5_widestGap_X5_keeps : GoodIn wsX5_widestGap wsX5_keeps := goodIn_r _ [6, 7, 8, 43, 44, 45, 46, 47, 48, 49, 50, 51, 52, 53, 54, 55] (by decide +kernel) (by decide +kernel)
set_option maxRecDepth 20000 in
theorem gX5_widestGap_X5_keeps : GoodIn wsX5_widestGap (wsV RX5 133 RX5 yX5_keeps wsX5_keeps) := goodIn_app (goodIn_of _ (by decide +kernel)) ggX5_widestGap_X5_keeps
set_option maxRecDepth 20000 in
theorem ggX5_widestGap_X5_charges : GoodIn wsX5_widestGap wsX5_charges := goodIn_r _ [12, 8, 13, 14, 15, 5, 16, 17, 18, 19, 20, 21, 22, 23, 24, 25, 26, 27, 28, 29, 30, 31, 32, 33, 34, 43, 44, 45, 46, 47, 48, 49, 50, 51, 52, 53, 54, 55] (by decide +kernel) (by decide +kernel)
set_option maxRecDepth 20000 in
theorem gX5_widestGap_X5_charges : GoodIn wsX5_widestGap (wsV RX5 61 RX5 yX5_charges wsX5_charges) := goodIn_app (goodIn_of _ (by decide +kernel)) ggX5_widestGap_X5_charges
set_option maxRecDepth 20000 in
theorem ggX5_widestGap_X5_difference : GoodIn wsX5_widestGap wsX5_difference := goodIn_r _ [38, 8, 43, 44, 45, 46, 47, 48, 49, 50, 51, 52, 53, 54, 55] (by decide +kernel) (by decide +kernel)
set_option maxRecDepth 20000 in
theorem gX5_widestGap_X5_difference : GoodIn wsX5_widestGap (wsV RX5 40 RX5 yX5_difference wsX5_difference) := goodIn_app (goodIn_of _ (by decide +kernel)) ggX5_widestGap_X5_difference
set_option maxRecDepth 20000 in
theorem ggX5_widestGap_X5_comesBack : GoodIn wsX5_widestGap wsX5_comesBack := goodIn_r _ [42, 8, 7, 43, 44, 45, 46, 47, 48, 49, 50, 51, 52, 53, 54, 55] (by decide +kernel) (by decide +kernel)
set_option maxRecDepth 20000 in
theorem gX5_widestGap_X5_comesBack : GoodIn wsX5_widestGap (wsV RX5 136 RX5 yX5_comesBack wsX5_comesBack) := goodIn_app (goodIn_of _ (by decide +kernel)) ggX5_widestGap_X5_comesBack
set_option maxRecDepth 20000 in
theorem ggX5_mostDamp_X5_nextSpark : GoodIn wsX5_mostDamp wsX5_nextSpark := goodIn_r _ [7, 1, 2, 8, 9, 10, 6, 11, 12, 13, 14, 15, 16, 17, 18, 19, 20, 21, 22, 23, 24, 25, 26, 27, 28, 29, 30, 31, 32, 33, 34, 35, 36, 37, 38, 39, 40, 41, 42, 43, 44, 45, 46, 47, 48, 49, 50, 51, 52, 53, 54, 55, 56, 57, 58, 59, 60, 61, 62, 63, 64, 65, 66, 67, 68, 69, 70, 71, 72, 73, 74, 75] (by decide +kernel) (by decide +kernel)
set_option maxRecDepth 20000 in
theorem gX5_mostDamp_X5_nextSpark : GoodIn wsX5_mostDamp (wsV RX5 139 RX5 yX5_nextSpark wsX5_nextSpark) := goodIn_app (goodIn_of _ (by decide +kernel)) ggX5_mostDamp_X5_nextSpark
set_option maxRecDepth 20000 in
theorem ggX5_charactersOf_X5_in : GoodIn wsX5_charactersOf wsX5_in := goodIn_r _ [7] (by decide +kernel) (by decide +kernel)
set_option maxRecDepth 20000 in
theorem gX5_charactersOf_X5_in : GoodIn wsX5_charactersOf (va_wsS RX5 75 yX5_in wsX5_in) := goodIn_app (goodIn_of _ (by decide +kernel)) ggX5_charactersOf_X5_in
set_option maxRecDepth 20000 in
theorem ggX5_put_X5_charactersOf : GoodIn wsX5_put wsX5_charactersOf := goodIn_r _ [9, 5, 10, 11, 12, 13, 8, 14] (by decide +kernel) (by decide +kernel)
set_option maxRecDepth 20000 in
theorem gX5_put_X5_charactersOf : GoodIn wsX5_put (va_wsS RX5 152 yX5_charactersOf wsX5_charactersOf) := goodIn_app (goodIn_of _ (by decide +kernel)) ggX5_put_X5_charactersOf
set_option maxRecDepth 20000 in
theorem ggX5_isHere_X5_in : GoodIn wsX5_isHere wsX5_in := goodIn_r _ [7] (by decide +kernel) (by decide +kernel)
set_option maxRecDepth 20000 in
theorem gX5_isHere_X5_in : GoodIn wsX5_isHere (va_wsS RX5 75 yX5_in wsX5_in) := goodIn_app (goodIn_of _ (by decide +kernel)) ggX5_isHere_X5_in
set_option maxRecDepth 20000 in
theorem ggX5_takesOne_X5_isHere : GoodIn wsX5_takesOne wsX5_isHere := goodIn_r _ [6, 1, 7, 8, 9, 10, 5, 11, 12, 13, 14, 15, 16, 17, 18, 19, 20, 21, 22, 23, 24] (by decide +kernel) (by decide +kernel)
set_option maxRecDepth 20000 in
theorem gX5_takesOne_X5_isHere : GoodIn wsX5_takesOne (wsV RX5 159 RX5 yX5_isHere wsX5_isHere) := goodIn_app (goodIn_of _ (by decide +kernel)) ggX5_takesOne_X5_isHere
set_option maxRecDepth 20000 in
theorem ggX5_readsNumber_X5_isHere : GoodIn wsX5_readsNumber wsX5_isHere := goodIn_r _ [8, 2, 9, 1, 10, 11, 7, 12, 13, 14, 15, 16, 17, 18, 19, 20, 21, 22, 23, 24, 25] (by decide +kernel) (by decide +kernel)
set_option maxRecDepth 20000 in
theorem gX5_readsNumber_X5_isHere : GoodIn wsX5_readsNumber (wsV RX5 159 RX5 yX5_isHere wsX5_isHere) := goodIn_app (goodIn_of _ (by decide +kernel)) ggX5_readsNumber_X5_isHere
set_option maxRecDepth 20000 in
theorem ggX5_readsTouch_X5_readsNumber : GoodIn wsX5_readsTouch wsX5_readsNumber := goodIn_r _ [8, 9, 10, 1, 11, 12, 13, 7, 14, 15, 16, 17, 18, 23, 24, 25, 26, 27, 28, 29, 30, 31, 32, 33, 34, 35] (by decide +kernel) (by decide +kernel)
set_option maxRecDepth 20000 in
theorem gX5_readsTouch_X5_readsNumber : GoodIn wsX5_readsTouch (wsV RX5 165 RX5 yX5_readsNumber wsX5_readsNumber) := goodIn_app (goodIn_of _ (by decide +kernel)) ggX5_readsTouch_X5_readsNumber
set_option maxRecDepth 20000 in
theorem ggX5_readsTouch_X5_takesOne : GoodIn wsX5_readsTouch wsX5_takesOne := goodIn_r _ [22, 10, 11, 12, 13, 7, 14, 15, 9, 16, 17, 18, 23, 24, 25, 26, 27, 28, 29, 30, 31, 32, 33, 34, 35] (by decide +kernel) (by decide +kernel)
set_option maxRecDepth 20000 in
theorem gX5_readsTouch_X5_takesOne : GoodIn wsX5_readsTouch (wsV RX5 171 RX5 yX5_takesOne wsX5_takesOne) := goodIn_app (goodIn_of _ (by decide +kernel)) ggX5_readsTouch_X5_takesOne
set_option maxRecDepth 20000 in
theorem ggX5_readsDeed_X5_takesOne : GoodIn wsX5_readsDeed wsX5_takesOne := goodIn_r _ [9, 1, 10, 11, 12, 8, 13, 2, 3, 14, 15, 16, 28, 29, 30, 31, 32, 33, 34, 35, 36, 37, 38, 39, 40] (by decide +kernel) (by decide +kernel)
set_option maxRecDepth 20000 in
theorem gX5_readsDeed_X5_takesOne : GoodIn wsX5_readsDeed (wsV RX5 171 RX5 yX5_takesOne wsX5_takesOne) := goodIn_app (goodIn_of _ (by decide +kernel)) ggX5_readsDeed_X5_takesOne
set_option maxRecDepth 20000 in
theorem ggX5_readsDeed_X5_readsNumber : GoodIn wsX5_readsDeed wsX5_readsNumber := goodIn_r _ [20, 3, 1, 21, 10, 11, 12, 8, 13, 2, 14, 15, 16, 28, 29, 30, 31, 32, 33, 34, 35, 36, 37, 38, 39, 40] (by decide +kernel) (by decide +kernel)
set_option maxRecDepth 20000 in
theorem gX5_readsDeed_X5_readsNumber : GoodIn wsX5_readsDeed (wsV RX5 165 RX5 yX5_readsNumber wsX5_readsNumber) := goodIn_app (goodIn_of _ (by decide +kernel)) ggX5_readsDeed_X5_readsNumber
set_option maxRecDepth 20000 in
theorem ggX5_readsDeed_X5_readsTouch : GoodIn wsX5_readsDeed wsX5_readsTouch := goodIn_r _ [25, 21, 26, 27, 17, 18, 19, 8, 20, 3, 1, 10, 11, 12, 13, 2, 14, 15, 16, 5, 6, 7, 9, 28, 29, 30, 31, 32, 33, 34, 35, 36, 37, 38, 39, 40] (by decide +kernel) (by decide +kernel)
set_option maxRecDepth 20000 in
theorem gX5_readsDeed_X5_readsTouch : GoodIn wsX5_readsDeed (wsV RX5 180 RX5 yX5_readsTouch wsX5_readsTouch) := goodIn_app (goodIn_of _ (by decide +kernel)) ggX5_readsDeed_X5_readsTouch
set_option maxRecDepth 20000 in
theorem ggX5_fault_X5_readsDeed : GoodIn wsX5_fault wsX5_readsDeed := goodIn_r _ [8, 1, 2, 9, 10, 11, 12, 13, 7, 14, 15, 16, 17, 18, 19, 20, 21, 22, 23, 24, 25, 26, 27, 28, 29, 30, 31, 32, 33, 34, 35, 36, 37, 38, 39, 40, 41, 42, 43, 44, 45] (by decide +kernel) (by decide +kernel)
set_option maxRecDepth 20000 in
theorem gX5_fault_X5_readsDeed : GoodIn wsX5_fault (wsV RX5 184 RX5 yX5_readsDeed wsX5_readsDeed) := goodIn_app (goodIn_of _ (by decide +kernel)) ggX5_fault_X5_readsDeed
set_option maxRecDepth 20000 in
theorem ggX5_fault_X5_takesOne : GoodIn wsX5_fault wsX5_takesOne := goodIn_r _ [14, 1, 15, 16, 17, 7, 18, 2, 9, 19, 20, 21, 33, 34, 35, 36, 37, 38, 39, 40, 41, 42, 43, 44, 45] (by decide +kernel) (by decide +kernel)
set_option maxRecDepth 20000 in
theorem gX5_fault_X5_takesOne : GoodIn wsX5_fault (wsV RX5 171 RX5 yX5_takesOne wsX5_takesOne) := goodIn_app (goodIn_of _ (by decide +kernel)) ggX5_fault_X5_takesOne
set_option maxRecDepth 20000 in
theorem ggX5_does_X5_turned : GoodIn wsX5_does wsX5_turned := goodIn_r _ [11, 2, 12, 13, 14, 10, 15, 16, 17, 18, 19, 20, 21, 22, 23, 24, 25, 26, 27, 28, 29, 30, 31, 32, 33, 34, 35, 36, 37, 38, 39, 40, 41, 42, 43, 44, 45, 46, 47, 48, 49, 50, 51, 52, 53, 54, 55, 56, 57, 66, 67, 68, 69, 70, 71, 72, 73, 74, 75, 76, 77, 78] (by decide +kernel) (by decide +kernel)
set_option maxRecDepth 20000 in
theorem gX5_does_X5_turned : GoodIn wsX5_does (wsV RX5 115 RX5 yX5_turned wsX5_turned) := goodIn_app (goodIn_of _ (by decide +kernel)) ggX5_does_X5_turned
set_option maxRecDepth 20000 in
theorem ggX5_does_X5_discharges : GoodIn wsX5_does wsX5_discharges := goodIn_r _ [61, 2, 46, 47, 48, 10, 49, 66, 67, 68, 69, 70, 71, 72, 73, 74, 75, 76, 77, 78] (by decide +kernel) (by decide +kernel)
set_option maxRecDepth 20000 in
theorem gX5_does_X5_discharges : GoodIn wsX5_does (wsV RX5 119 RX5 yX5_discharges wsX5_discharges) := goodIn_app (goodIn_of _ (by decide +kernel)) ggX5_does_X5_discharges
set_option maxRecDepth 20000 in
theorem ggX5_does_X5_touches : GoodIn wsX5_does wsX5_touches := goodIn_r _ [65, 2, 24, 25, 10, 26, 66, 67, 68, 69, 70, 71, 72, 73, 74, 75, 76, 77, 78] (by decide +kernel) (by decide +kernel)
set_option maxRecDepth 20000 in
theorem gX5_does_X5_touches : GoodIn wsX5_does (wsV RX5 110 RX5 yX5_touches wsX5_touches) := goodIn_app (goodIn_of _ (by decide +kernel)) ggX5_does_X5_touches
set_option maxRecDepth 20000 in
theorem ggX5_run_X5_fault : GoodIn wsX5_run wsX5_fault := goodIn_r _ [9, 3, 4, 1, 10, 11, 12, 8, 13, 14, 15, 16, 17, 18, 19, 20, 21, 22, 23, 24, 25, 26, 27, 28, 29, 30, 31, 32, 33, 34, 35, 36, 37, 108, 109, 110, 111, 112, 113, 114, 115, 116, 117, 118, 119, 120] (by decide +kernel) (by decide +kernel)
set_option maxRecDepth 20000 in
theorem gX5_run_X5_fault : GoodIn wsX5_run (wsV RX5 187 RX5 yX5_fault wsX5_fault) := goodIn_app (goodIn_of _ (by decide +kernel)) ggX5_run_X5_fault
set_option maxRecDepth 20000 in
theorem ggX5_run_X5_changes : GoodIn wsX5_run wsX5_changes := goodIn_r _ [41, 42, 43, 44, 108, 109, 110, 111, 112, 113, 114, 115, 116, 117, 118, 119, 120] (by decide +kernel) (by decide +kernel)
set_option maxRecDepth 20000 in
theorem gX5_run_X5_changes : GoodIn wsX5_run (wsV RX5 93 RX5 yX5_changes wsX5_changes) := goodIn_app (goodIn_of _ (by decide +kernel)) ggX5_run_X5_changes
set_option maxRecDepth 20000 in
theorem ggX5_run_X5_readsDeed : GoodIn wsX5_run wsX5_readsDeed := goodIn_r _ [13, 3, 4, 14, 15, 16, 17, 18, 8, 19, 20, 21, 22, 23, 24, 25, 26, 27, 28, 29, 30, 31, 32, 33, 34, 35, 36, 37, 108, 109, 110, 111, 112, 113, 114, 115, 116, 117, 118, 119, 120] (by decide +kernel) (by decide +kernel)
set_option maxRecDepth 20000 in
theorem gX5_run_X5_readsDeed : GoodIn wsX5_run (wsV RX5 184 RX5 yX5_readsDeed wsX5_readsDeed) := goodIn_app (goodIn_of _ (by decide +kernel)) ggX5_run_X5_readsDeed
set_option maxRecDepth 20000 in
theorem ggX5_run_X5_does : GoodIn wsX5_run wsX5_does := goodIn_r _ [48, 15, 44, 31, 49, 36, 37, 50, 51, 52, 8, 53, 54, 55, 56, 57, 58, 59, 60, 61, 62, 63, 64, 65, 66, 67, 68, 69, 70, 71, 72, 73, 74, 75, 76, 77, 78, 79, 80, 81, 82, 83, 84, 85, 86, 87, 88, 89, 90, 91, 92, 93, 94, 95, 96, 97, 98, 99, 100, 101, 102, 103, 104, 105, 106, 107, 108, 109, 110, 111, 112, 113, 114, 115, 116, 117, 118, 119, 120] (by decide +kernel) (by decide +kernel)
set_option maxRecDepth 20000 in
theorem gX5_run_X5_does : GoodIn wsX5_run (wsV RX5 191 RX5 yX5_does wsX5_does) := goodIn_app (goodIn_of _ (by decide +kernel)) ggX5_run_X5_does
set_option maxRecDepth 20000 in
theorem ggX5_run_X5_takesOne : GoodIn wsX5_run wsX5_takesOne := goodIn_r _ [19, 3, 20, 21, 22, 8, 23, 4, 14, 24, 25, 26, 108, 109, 110, 111, 112, 113, 114, 115, 116, 117, 118, 119, 120] (by decide +kernel) (by decide +kernel)
set_option maxRecDepth 20000 in
theorem gX5_run_X5_takesOne : GoodIn wsX5_run (wsV RX5 171 RX5 yX5_takesOne wsX5_takesOne) := goodIn_app (goodIn_of _ (by decide +kernel)) ggX5_run_X5_takesOne
set_option maxRecDepth 20000 in
theorem ggX5_save_X5_isDisc : GoodIn wsX5_save wsX5_isDisc := goodIn_r _ [8] (by decide +kernel) (by decide +kernel)
set_option maxRecDepth 20000 in
theorem gX5_save_X5_isDisc : GoodIn wsX5_save (va_wsS RX5 98 yX5_isDisc wsX5_isDisc) := goodIn_app (goodIn_of _ (by decide +kernel)) ggX5_save_X5_isDisc
set_option maxRecDepth 20000 in
theorem ggX5_restore_X5_isDisc : GoodIn wsX5_restore wsX5_isDisc := goodIn_r _ [9] (by decide +kernel) (by decide +kernel)
set_option maxRecDepth 20000 in
theorem gX5_restore_X5_isDisc : GoodIn wsX5_restore (va_wsS RX5 98 yX5_isDisc wsX5_isDisc) := goodIn_app (goodIn_of _ (by decide +kernel)) ggX5_restore_X5_isDisc
set_option maxRecDepth 20000 in
theorem ggX5_restore_X5_changes : GoodIn wsX5_restore wsX5_changes := goodIn_r _ [13, 14, 15, 4, 16, 17, 18, 19, 20, 21, 22, 23, 24, 25, 26, 27, 28] (by decide +kernel) (by decide +kernel)
set_option maxRecDepth 20000 in
theorem gX5_restore_X5_changes : GoodIn wsX5_restore (wsV RX5 93 RX5 yX5_changes wsX5_changes) := goodIn_app (goodIn_of _ (by decide +kernel)) ggX5_restore_X5_changes
set_option maxRecDepth 20000 in
theorem ggL_law_X4_init : GoodIn wsL_law wsX4_init := goodIn_r _ [9, 10, 11, 12, 13, 14, 15, 16, 17, 18, 19, 20, 21, 22, 23, 24, 25, 26, 27, 28, 29, 30, 31, 32, 33, 34, 35, 36, 37, 38, 39, 40, 41, 42, 43, 44, 45, 46, 47, 48, 49, 50, 51, 52, 53, 54, 55, 662, 663, 664, 665, 666, 667, 668, 669, 670, 671, 672, 673, 674, 643, 644, 645, 646, 647, 648, 675, 676, 677, 678, 679, 680, 681, 682, 683, 684, 685] (by decide +kernel) (by decide +kernel)
set_option maxRecDepth 20000 in
theorem gL_law_X4_init : GoodIn wsL_law (wsX4_init) := ggL_law_X4_init
set_option maxRecDepth 20000 in
theorem ggL_law_X5_init : GoodIn wsL_law wsX5_init := goodIn_r _ [58, 59, 11, 12, 32, 60, 61, 62, 63, 64, 65, 649, 650, 651, 652, 653, 654, 655, 656, 657, 658, 659, 660, 661] (by decide +kernel) (by decide +kernel)
set_option maxRecDepth 20000 in
theorem gL_law_X5_init : GoodIn wsL_law (wsX5_init) := ggL_law_X5_init
set_option maxRecDepth 20000 in
theorem ggL_law_X4_set : GoodIn wsL_law wsX4_set := goodIn_r _ [69, 70, 71, 72, 16, 73, 21, 74, 75, 76, 77, 15, 78, 35, 79, 80, 81, 82, 83, 84, 85, 86, 87, 88, 20, 89, 90, 91, 43, 42, 14, 92, 93, 94, 95, 29, 30, 31, 11, 12, 32, 33, 34, 36, 37, 38, 96, 97, 98, 99, 100, 101, 102, 103, 104, 105, 106, 107, 2, 108, 109, 110, 111, 112, 113, 114, 115, 643, 644, 645, 646, 647, 648, 662, 663, 664, 665, 666, 667, 668, 669, 670, 671, 672, 673, 674, 675, 676, 677] (by decide +kernel) (by decide +kernel)
set_option maxRecDepth 20000 in
theorem gL_law_X4_set : GoodIn wsL_law (wsV RL 13 RX4 yX4_set wsX4_set) := goodIn_app (goodIn_of _ (by decide +kernel)) ggL_law_X4_set
set_option maxRecDepth 20000 in
theorem ggL_law_X5_set : GoodIn wsL_law wsX5_set := goodIn_r _ [119, 120, 60, 121, 122, 123, 124, 5, 125, 126, 127, 128, 129, 130, 131, 132, 133, 134, 135, 136, 137, 138, 62, 649, 650, 651, 652, 653, 654, 655, 656, 657, 658, 659, 660, 661] (by decide +kernel) (by decide +kernel)
set_option maxRecDepth 20000 in
theorem gL_law_X5_set : GoodIn wsL_law (wsV RL 17 RX5 yX5_set wsX5_set) := goodIn_app (goodIn_of _ (by decide +kernel)) ggL_law_X5_set
set_option maxRecDepth 20000 in
theorem ggL_law_X4_touch : GoodIn wsL_law wsX4_touch := goodIn_r _ [142, 143, 70, 21, 16, 144, 145, 2, 146, 147, 148, 149, 86, 87, 88, 20, 89, 90, 91, 43, 42, 14, 15, 92, 93, 94, 95, 29, 30, 31, 11, 12, 32, 33, 34, 35, 36, 37, 38, 96, 97, 98, 99, 100, 101, 102, 103, 104, 105, 106, 107, 108, 109, 110, 81, 111, 112, 113, 114, 115, 150, 151, 152, 153, 154, 155, 156, 157, 643, 644, 645, 646, 647, 648, 675, 676, 677, 662, 663, 664, 665, 666, 667, 668, 669, 670, 671, 672, 673, 674] (by decide +kernel) (by decide +kernel)
set_option maxRecDepth 20000 in
theorem gL_law_X4_touch : GoodIn wsL_law (wsV RL 18 RX4 yX4_touch wsX4_touch) := goodIn_app (goodIn_of _ (by decide +kernel)) ggL_law_X4_touch
set_option maxRecDepth 20000 in
theorem ggL_law_X5_touch : GoodIn wsL_law wsX5_touch := goodIn_r _ [161, 162, 163, 164, 120, 60, 165, 166, 5, 167, 168, 169, 170, 171, 131, 132, 133, 134, 135, 136, 137, 138, 62, 172, 173, 174, 175, 176, 177, 178, 649, 650, 651, 652, 653, 654, 655, 656, 657, 658, 659, 660, 661] (by decide +kernel) (by decide +kernel)
set_option maxRecDepth 20000 in
theorem gL_law_X5_touch : GoodIn wsL_law (wsV RL 22 RX5 yX5_touch wsX5_touch) := goodIn_app (goodIn_of _ (by decide +kernel)) ggL_law_X5_touch
set_option maxRecDepth 20000 in
theorem ggL_law_X4_turn : GoodIn wsL_law wsX4_turn := goodIn_r _ [182, 70, 16, 183, 21, 184, 185, 186, 15, 187, 100, 188, 86, 87, 88, 20, 89, 90, 91, 43, 42, 14, 92, 93, 94, 95, 29, 30, 31, 11, 12, 32, 33, 34, 35, 36, 37, 38, 96, 97, 98, 99, 101, 102, 103, 104, 105, 106, 107, 2, 108, 109, 110, 81, 111, 112, 113, 114, 115, 189, 190, 191, 192, 193, 194, 195, 196, 197, 198, 199, 200, 201, 202, 203, 204, 83, 84, 85, 205, 154, 155, 156, 157, 206, 207, 208, 209, 210, 211, 212, 213, 214, 215, 216, 217, 218, 219, 220, 221, 222, 223, 224, 225, 226, 227, 228, 79, 80, 82, 229, 230, 231, 232, 233, 234, 235, 236, 237, 238, 239, 240, 241, 242, 243, 244, 245, 246, 247, 643, 644, 645, 646, 647, 648, 662, 663, 664, 665, 666, 667, 668, 669, 670, 671, 672, 673, 674, 675, 676, 677] (by decide +kernel) (by decide +kernel)
set_option maxRecDepth 20000 in
theorem gL_law_X4_turn : GoodIn wsL_law (wsV RL 23 RX4 yX4_turn wsX4_turn) := goodIn_app (goodIn_of _ (by decide +kernel)) ggL_law_X4_turn
set_option maxRecDepth 20000 in
theorem ggL_law_X5_turn : GoodIn wsL_law wsX5_turn := goodIn_r _ [251, 164, 120, 60, 252, 253, 131, 132, 5, 133, 134, 135, 136, 137, 138, 62, 254, 255, 256, 257, 258, 259, 260, 261, 262, 263, 264, 265, 266, 267, 268, 269, 172, 173, 174, 270, 271, 272, 273, 274, 275, 276, 277, 278, 279, 280, 281, 282, 283, 284, 285, 286, 287, 288, 289, 290, 291, 292, 293, 294, 295, 296, 297, 298, 299, 300, 649, 650, 651, 652, 653, 654, 655, 656, 657, 658, 659, 660, 661] (by decide +kernel) (by decide +kernel)
set_option maxRecDepth 20000 in
theorem gL_law_X5_turn : GoodIn wsL_law (wsV RL 27 RX5 yX5_turn wsX5_turn) := goodIn_app (goodIn_of _ (by decide +kernel)) ggL_law_X5_turn
set_option maxRecDepth 20000 in
theorem ggL_law_X4_discharge : GoodIn wsL_law wsX4_discharge := goodIn_r _ [304, 21, 16, 86, 87, 88, 20, 89, 90, 91, 43, 42, 14, 15, 92, 93, 94, 95, 29, 30, 31, 11, 12, 32, 33, 34, 35, 36, 37, 38, 96, 97, 98, 99, 100, 101, 102, 103, 104, 105, 106, 107, 2, 108, 109, 110, 81, 111, 112, 113, 114, 115, 305, 306, 307, 308, 225, 226, 227, 228, 79, 80, 82, 643, 644, 645, 646, 647, 648, 675, 676, 677, 662, 663, 664, 665, 666, 667, 668, 669, 670, 671, 672, 673, 674] (by decide +kernel) (by decide +kernel)
set_option maxRecDepth 20000 in
theorem gL_law_X4_discharge : GoodIn wsL_law (wsV RL 28 RX4 yX4_discharge wsX4_discharge) := goodIn_app (goodIn_of _ (by decide +kernel)) ggL_law_X4_discharge
set_option maxRecDepth 20000 in
theorem ggL_law_X5_discharge : GoodIn wsL_law wsX5_discharge := goodIn_r _ [312, 134, 135, 136, 5, 137, 138, 62, 60, 313, 314, 315, 316, 289, 290, 291, 292, 649, 650, 651, 652, 653, 654, 655, 656, 657, 658, 659, 660, 661] (by decide +kernel) (by decide +kernel)
set_option maxRecDepth 20000 in
theorem gL_law_X5_discharge : GoodIn wsL_law (wsV RL 32 RX5 yX5_discharge wsX5_discharge) := goodIn_app (goodIn_of _ (by decide +kernel)) ggL_law_X5_discharge
set_option maxRecDepth 20000 in
theorem ggL_law_X4_wipeDisc : GoodIn wsL_law wsX4_wipeDisc := goodIn_r _ [320, 143, 21, 16, 144, 145, 2, 146, 86, 87, 88, 20, 89, 90, 91, 43, 42, 14, 15, 92, 93, 94, 95, 29, 30, 31, 11, 12, 32, 33, 34, 35, 36, 37, 38, 96, 97, 98, 99, 100, 101, 102, 103, 104, 105, 106, 107, 108, 109, 110, 81, 111, 112, 113, 114, 115, 321, 322, 323, 324, 325, 326, 327, 328, 329, 330, 331, 244, 245, 246, 247, 332, 333, 334, 335, 643, 644, 645, 646, 647, 648, 675, 676, 677, 662, 663, 664, 665, 666, 667, 668, 669, 670, 671, 672, 673, 674] (by decide +kernel) (by decide +kernel)
set_option maxRecDepth 20000 in
theorem gL_law_X4_wipeDisc : GoodIn wsL_law (wsV RL 33 RX4 yX4_wipeDisc wsX4_wipeDisc) := goodIn_app (goodIn_of _ (by decide +kernel)) ggL_law_X4_wipeDisc
set_option maxRecDepth 20000 in
theorem ggL_law_X5_wipeDisc : GoodIn wsL_law wsX5_wipeDisc := goodIn_r _ [339, 162, 60, 165, 166, 5, 167, 134, 135, 136, 137, 138, 62, 172, 173, 174, 649, 650, 651, 652, 653, 654, 655, 656, 657, 658, 659, 660, 661] (by decide +kernel) (by decide +kernel)
set_option maxRecDepth 20000 in
theorem gL_law_X5_wipeDisc : GoodIn wsL_law (wsV RL 36 RX5 yX5_wipeDisc wsX5_wipeDisc) := goodIn_app (goodIn_of _ (by decide +kernel)) ggL_law_X5_wipeDisc
set_option maxRecDepth 20000 in
theorem ggL_law_X4_run : GoodIn wsL_law wsX4_run := goodIn_r _ [343, 26, 344, 345, 21, 16, 346, 28, 347, 348, 349, 25, 350, 351, 50, 352, 353, 354, 355, 356, 357, 358, 359, 360, 361, 362, 363, 364, 365, 366, 367, 368, 369, 370, 49, 371, 372, 55, 373, 374, 375, 376, 377, 378, 379, 380, 381, 382, 383, 384, 385, 386, 387, 388, 389, 390, 86, 87, 88, 20, 89, 90, 91, 43, 42, 14, 15, 92, 93, 94, 95, 29, 30, 31, 11, 12, 32, 33, 34, 35, 36, 37, 38, 96, 97, 98, 99, 100, 101, 102, 103, 104, 105, 106, 107, 2, 108, 109, 110, 81, 111, 112, 113, 114, 115, 391, 392, 393, 394, 395, 396, 397, 398, 399, 400, 150, 151, 152, 153, 154, 155, 156, 157, 305, 306, 307, 308, 225, 226, 227, 228, 79, 80, 82, 184, 185, 186, 187, 188, 189, 190, 191, 192, 193, 194, 195, 196, 197, 198, 199, 200, 201, 202, 203, 204, 83, 84, 85, 205, 206, 207, 208, 209, 210, 211, 212, 213, 214, 215, 216, 217, 218, 219, 220, 221, 222, 223, 224, 229, 230, 231, 232, 233, 234, 235, 236, 237, 238, 239, 240, 241, 242, 243, 244, 245, 246, 247, 401, 402, 403, 404, 405, 643, 644, 645, 646, 647, 648, 662, 663, 664, 665, 666, 667, 668, 669, 670, 671, 672, 673, 674, 678, 679, 680, 681, 682, 683, 684, 685, 675, 676, 677] (by decide +kernel) (by decide +kernel)
set_option maxRecDepth 20000 in
theorem gL_law_X4_run : GoodIn wsL_law (wsV RL 37 RX4 yX4_run wsX4_run) := goodIn_app (goodIn_of _ (by decide +kernel)) ggL_law_X4_run
set_option maxRecDepth 20000 in
theorem ggL_law_X5_run : GoodIn wsL_law wsX5_run := goodIn_r _ [409, 410, 411, 412, 413, 414, 415, 416, 5, 417, 418, 419, 420, 421, 65, 422, 423, 424, 425, 426, 427, 428, 429, 430, 131, 132, 133, 431, 432, 433, 434, 435, 436, 437, 438, 439, 440, 441, 134, 135, 136, 137, 138, 62, 60, 442, 443, 444, 445, 252, 254, 255, 256, 257, 258, 259, 260, 261, 262, 263, 264, 265, 266, 267, 268, 269, 172, 173, 174, 270, 271, 272, 273, 274, 275, 276, 277, 278, 279, 280, 281, 282, 283, 284, 285, 286, 287, 288, 289, 290, 291, 292, 293, 294, 295, 296, 297, 298, 299, 300, 313, 314, 315, 316, 175, 176, 177, 178, 649, 650, 651, 652, 653, 654, 655, 656, 657, 658, 659, 660, 661] (by decide +kernel) (by decide +kernel)
set_option maxRecDepth 20000 in
theorem gL_law_X5_run : GoodIn wsL_law (wsV RL 40 RX5 yX5_run wsX5_run) := goodIn_app (goodIn_of _ (by decide +kernel)) ggL_law_X5_run
set_option maxRecDepth 20000 in
theorem ggL_law_X4_sector : GoodIn wsL_law wsX4_sector := goodIn_r _ [449, 143, 16, 450, 451, 144, 145, 2, 146, 147, 148, 149, 452, 155, 15, 156, 157, 93, 94, 95, 643, 644, 645, 646, 647, 648, 662, 663, 664, 665, 666, 667, 668, 669, 670, 671, 672, 673, 674] (by decide +kernel) (by decide +kernel)
set_option maxRecDepth 20000 in
theorem gL_law_X4_sector : GoodIn wsL_law (wsV RL 41 RX4 yX4_sector wsX4_sector) := goodIn_app (goodIn_of _ (by decide +kernel)) ggL_law_X4_sector
set_option maxRecDepth 20000 in
theorem ggL_law_X5_sector : GoodIn wsL_law wsX5_sector := goodIn_r _ [456, 60, 162, 165, 166, 5, 167, 168, 169, 170, 171, 131, 132, 133, 172, 173, 174, 649, 650, 651, 652, 653, 654, 655, 656, 657, 658, 659, 660, 661] (by decide +kernel) (by decide +kernel)
set_option maxRecDepth 20000 in
theorem gL_law_X5_sector : GoodIn wsL_law (wsV RL 44 RX5 yX5_sector wsX5_sector) := goodIn_app (goodIn_of _ (by decide +kernel)) ggL_law_X5_sector
set_option maxRecDepth 20000 in
theorem ggL_law_X4_disc : GoodIn wsL_law wsX4_disc := goodIn_r _ [460, 143, 16, 70, 144, 145, 2, 146, 461, 333, 334, 15, 335, 34, 329, 330, 331, 462, 326, 327, 328, 244, 245, 246, 247, 463, 464, 465, 466, 83, 84, 81, 85, 467, 468, 469, 470, 205, 110, 111, 643, 644, 645, 646, 647, 648, 662, 663, 664, 665, 666, 667, 668, 669, 670, 671, 672, 673, 674] (by decide +kernel) (by decide +kernel)
set_option maxRecDepth 20000 in
theorem gL_law_X4_disc : GoodIn wsL_law (wsV RL 45 RX4 yX4_disc wsX4_disc) := goodIn_app (goodIn_of _ (by decide +kernel)) ggL_law_X4_disc
set_option maxRecDepth 20000 in
theorem ggL_law_X5_disc : GoodIn wsL_law wsX5_disc := goodIn_r _ [474, 162, 60, 120, 165, 166, 5, 167, 172, 173, 174, 649, 650, 651, 652, 653, 654, 655, 656, 657, 658, 659, 660, 661] (by decide +kernel) (by decide +kernel)
set_option maxRecDepth 20000 in
theorem gL_law_X5_disc : GoodIn wsL_law (wsV RL 48 RX5 yX5_disc wsX5_disc) := goodIn_app (goodIn_of _ (by decide +kernel)) ggL_law_X5_disc
set_option maxRecDepth 20000 in
theorem ggL_law_X4_jar : GoodIn wsL_law wsX4_jar := goodIn_r _ [478, 143, 16, 479, 480, 481, 70, 643, 644, 645, 646, 647, 648, 662, 663, 664, 665, 666, 667, 668, 669, 670, 671, 672, 673, 674] (by decide +kernel) (by decide +kernel)
set_option maxRecDepth 20000 in
theorem gL_law_X4_jar : GoodIn wsL_law (wsV RL 49 RX4 yX4_jar wsX4_jar) := goodIn_app (goodIn_of _ (by decide +kernel)) ggL_law_X4_jar
set_option maxRecDepth 20000 in
theorem ggL_law_X5_jar : GoodIn wsL_law wsX5_jar := goodIn_r _ [485, 162, 486, 60, 120, 165, 166, 5, 167, 131, 132, 133, 649, 650, 651, 652, 653, 654, 655, 656, 657, 658, 659, 660, 661] (by decide +kernel) (by decide +kernel)
set_option maxRecDepth 20000 in
theorem gL_law_X5_jar : GoodIn wsL_law (wsV RL 52 RX5 yX5_jar wsX5_jar) := goodIn_app (goodIn_of _ (by decide +kernel)) ggL_law_X5_jar
set_option maxRecDepth 20000 in
theorem ggL_law_X4_spark : GoodIn wsL_law wsX4_spark := goodIn_r _ [490, 70, 16, 346, 344, 491, 492, 234, 15, 235, 157, 93, 94, 95, 643, 644, 645, 646, 647, 648, 662, 663, 664, 665, 666, 667, 668, 669, 670, 671, 672, 673, 674] (by decide +kernel) (by decide +kernel)
set_option maxRecDepth 20000 in
theorem gL_law_X4_spark : GoodIn wsL_law (wsV RL 53 RX4 yX4_spark wsX4_spark) := goodIn_app (goodIn_of _ (by decide +kernel)) ggL_law_X4_spark
set_option maxRecDepth 20000 in
theorem ggL_law_X5_spark : GoodIn wsL_law wsX5_spark := goodIn_r _ [496, 486, 120, 60, 410, 131, 132, 5, 133, 649, 650, 651, 652, 653, 654, 655, 656, 657, 658, 659, 660, 661] (by decide +kernel) (by decide +kernel)
set_option maxRecDepth 20000 in
theorem gL_law_X5_spark : GoodIn wsL_law (wsV RL 56 RX5 yX5_spark wsX5_spark) := goodIn_app (goodIn_of _ (by decide +kernel)) ggL_law_X5_spark
set_option maxRecDepth 20000 in
theorem ggL_law_X4_count : GoodIn wsL_law wsX4_count := goodIn_r _ [500, 16, 74, 451, 346, 501, 502, 503, 504, 28, 505, 21, 506, 70, 507, 241, 242, 15, 243, 35, 244, 245, 246, 247, 508, 509, 510, 511, 332, 333, 334, 335, 34, 329, 330, 331, 643, 644, 645, 646, 647, 648, 662, 663, 664, 665, 666, 667, 668, 669, 670, 671, 672, 673, 674, 684, 685, 675, 676, 677] (by decide +kernel) (by decide +kernel)
set_option maxRecDepth 20000 in
theorem gL_law_X4_count : GoodIn wsL_law (wsV RL 57 RX4 yX4_count wsX4_count) := goodIn_app (goodIn_of _ (by decide +kernel)) ggL_law_X4_count
set_option maxRecDepth 20000 in
theorem ggL_law_X5_count : GoodIn wsL_law wsX5_count := goodIn_r _ [515, 60, 413, 138, 516, 120, 297, 298, 299, 5, 300, 517, 518, 519, 520, 131, 132, 133, 649, 650, 651, 652, 653, 654, 655, 656, 657, 658, 659, 660, 661] (by decide +kernel) (by decide +kernel)
set_option maxRecDepth 20000 in
theorem gL_law_X5_count : GoodIn wsL_law (wsV RL 60 RX5 yX5_count wsX5_count) := goodIn_app (goodIn_of _ (by decide +kernel)) ggL_law_X5_count
set_option maxRecDepth 20000 in
theorem ggL_law_X4_untilSpark : GoodIn wsL_law wsX4_untilSpark := goodIn_r _ [524, 17, 16, 525, 97, 98, 15, 99, 33, 34, 35, 36, 37, 38, 100, 101, 102, 103, 104, 105, 106, 107, 2, 108, 109, 110, 81, 111, 112, 113, 114, 115, 526, 527, 528, 529, 530, 197, 198, 199, 200, 201, 202, 203, 204, 83, 84, 85, 205, 154, 155, 156, 157, 93, 94, 95, 206, 207, 208, 209, 210, 211, 212, 213, 214, 215, 216, 217, 218, 219, 220, 221, 222, 223, 224, 225, 226, 227, 228, 79, 80, 82, 643, 644, 645, 646, 647, 648, 662, 663, 664, 665, 666, 667, 668, 669, 670, 671, 672, 673, 674] (by decide +kernel) (by decide +kernel)
set_option maxRecDepth 20000 in
theorem gL_law_X4_untilSpark : GoodIn wsL_law (wsV RL 61 RX4 yX4_untilSpark wsX4_untilSpark) := goodIn_app (goodIn_of _ (by decide +kernel)) ggL_law_X4_untilSpark
set_option maxRecDepth 20000 in
theorem ggL_law_X5_untilSpark : GoodIn wsL_law wsX5_untilSpark := goodIn_r _ [534, 535, 536, 537, 5, 538, 60, 410, 539, 540, 541, 542, 61, 258, 259, 260, 261, 262, 263, 264, 265, 266, 267, 268, 269, 172, 173, 174, 270, 271, 272, 273, 274, 275, 276, 277, 278, 279, 280, 281, 282, 283, 284, 285, 286, 287, 288, 289, 290, 291, 292, 293, 294, 295, 296, 297, 298, 299, 300, 543, 544, 545, 546, 649, 650, 651, 652, 653, 654, 655, 656, 657, 658, 659, 660, 661] (by decide +kernel) (by decide +kernel)
set_option maxRecDepth 20000 in
theorem gL_law_X5_untilSpark : GoodIn wsL_law (wsV RL 64 RX5 yX5_untilSpark wsX5_untilSpark) := goodIn_app (goodIn_of _ (by decide +kernel)) ggL_law_X5_untilSpark
set_option maxRecDepth 20000 in
theorem ggL_law_X4_ifTurned : GoodIn wsL_law wsX4_ifTurned := goodIn_r _ [550, 70, 17, 16, 346, 501, 479, 525, 97, 98, 15, 99, 33, 34, 35, 36, 37, 38, 100, 101, 102, 103, 104, 105, 106, 107, 2, 108, 109, 110, 81, 111, 112, 113, 114, 115, 551, 552, 553, 554, 83, 84, 85, 193, 194, 195, 196, 197, 198, 199, 200, 201, 202, 203, 204, 205, 154, 155, 156, 157, 93, 94, 95, 206, 207, 208, 209, 210, 211, 212, 213, 214, 215, 216, 217, 218, 219, 220, 221, 222, 223, 224, 225, 226, 227, 228, 79, 80, 82, 229, 230, 231, 232, 233, 234, 235, 236, 237, 238, 239, 240, 241, 242, 243, 244, 245, 246, 247, 508, 509, 510, 511, 332, 333, 334, 335, 329, 330, 331, 643, 644, 645, 646, 647, 648, 662, 663, 664, 665, 666, 667, 668, 669, 670, 671, 672, 673, 674] (by decide +kernel) (by decide +kernel)
set_option maxRecDepth 20000 in
theorem gL_law_X4_ifTurned : GoodIn wsL_law (wsV RL 65 RX4 yX4_ifTurned wsX4_ifTurned) := goodIn_app (goodIn_of _ (by decide +kernel)) ggL_law_X4_ifTurned
set_option maxRecDepth 20000 in
theorem ggL_law_X5_ifTurned : GoodIn wsL_law wsX5_ifTurned := goodIn_r _ [558, 559, 560, 120, 60, 131, 132, 5, 133, 539, 540, 541, 542, 61, 254, 255, 256, 257, 258, 259, 260, 261, 262, 263, 264, 265, 266, 267, 268, 269, 172, 173, 174, 270, 271, 272, 273, 274, 275, 276, 277, 278, 279, 280, 281, 282, 283, 284, 285, 286, 287, 288, 289, 290, 291, 292, 293, 294, 295, 296, 297, 298, 299, 300, 517, 518, 519, 520, 543, 544, 545, 546, 649, 650, 651, 652, 653, 654, 655, 656, 657, 658, 659, 660, 661] (by decide +kernel) (by decide +kernel)
set_option maxRecDepth 20000 in
theorem gL_law_X5_ifTurned : GoodIn wsL_law (wsV RL 68 RX5 yX5_ifTurned wsX5_ifTurned) := goodIn_app (goodIn_of _ (by decide +kernel)) ggL_law_X5_ifTurned
set_option maxRecDepth 20000 in
theorem ggL_law_X4_widestGap : GoodIn wsL_law wsX4_widestGap := goodIn_r _ [564, 17, 16, 208, 84, 81, 85, 72, 109, 110, 111, 71, 344, 525, 97, 98, 15, 99, 33, 34, 35, 36, 37, 38, 100, 101, 102, 103, 104, 105, 106, 107, 2, 108, 112, 113, 114, 115, 565, 198, 199, 200, 201, 202, 203, 204, 83, 205, 154, 155, 156, 157, 93, 94, 95, 206, 207, 209, 210, 211, 212, 213, 214, 215, 216, 217, 218, 219, 220, 566, 226, 227, 228, 79, 80, 82, 643, 644, 645, 646, 647, 648, 662, 663, 664, 665, 666, 667, 668, 669, 670, 671, 672, 673, 674] (by decide +kernel) (by decide +kernel)
set_option maxRecDepth 20000 in
theorem gL_law_X4_widestGap : GoodIn wsL_law (wsV RL 69 RX4 yX4_widestGap wsX4_widestGap) := goodIn_app (goodIn_of _ (by decide +kernel)) ggL_law_X4_widestGap
set_option maxRecDepth 20000 in
theorem ggL_law_X5_widestGap : GoodIn wsL_law wsX5_widestGap := goodIn_r _ [570, 410, 539, 540, 541, 5, 542, 61, 60, 262, 263, 264, 265, 266, 267, 268, 269, 172, 173, 174, 270, 271, 272, 273, 274, 275, 276, 277, 278, 279, 280, 281, 282, 283, 284, 289, 290, 291, 292, 543, 544, 545, 546, 649, 650, 651, 652, 653, 654, 655, 656, 657, 658, 659, 660, 661] (by decide +kernel) (by decide +kernel)
set_option maxRecDepth 20000 in
theorem gL_law_X5_widestGap : GoodIn wsL_law (wsV RL 72 RX5 yX5_widestGap wsX5_widestGap) := goodIn_app (goodIn_of _ (by decide +kernel)) ggL_law_X5_widestGap
set_option maxRecDepth 20000 in
theorem ggL_law_X4_mostDamp : GoodIn wsL_law wsX4_mostDamp := goodIn_r _ [574, 72, 71, 17, 16, 74, 344, 525, 97, 98, 15, 99, 33, 34, 35, 36, 37, 38, 100, 101, 102, 103, 104, 105, 106, 107, 2, 108, 109, 110, 81, 111, 112, 113, 114, 115, 526, 527, 528, 529, 530, 197, 198, 199, 200, 201, 202, 203, 204, 83, 84, 85, 205, 154, 155, 156, 157, 93, 94, 95, 206, 207, 208, 209, 210, 211, 212, 213, 214, 215, 216, 217, 218, 219, 220, 221, 222, 223, 224, 225, 226, 227, 228, 79, 80, 82, 643, 644, 645, 646, 647, 648, 662, 663, 664, 665, 666, 667, 668, 669, 670, 671, 672, 673, 674] (by decide +kernel) (by decide +kernel)
set_option maxRecDepth 20000 in
theorem gL_law_X4_mostDamp : GoodIn wsL_law (wsV RL 73 RX4 yX4_mostDamp wsX4_mostDamp) := goodIn_app (goodIn_of _ (by decide +kernel)) ggL_law_X4_mostDamp
set_option maxRecDepth 20000 in
theorem ggL_law_X5_mostDamp : GoodIn wsL_law wsX5_mostDamp := goodIn_r _ [578, 60, 410, 535, 536, 537, 5, 538, 539, 540, 541, 542, 61, 258, 259, 260, 261, 262, 263, 264, 265, 266, 267, 268, 269, 172, 173, 174, 270, 271, 272, 273, 274, 275, 276, 277, 278, 279, 280, 281, 282, 283, 284, 285, 286, 287, 288, 289, 290, 291, 292, 293, 294, 295, 296, 297, 298, 299, 300, 543, 544, 545, 546, 649, 650, 651, 652, 653, 654, 655, 656, 657, 658, 659, 660, 661] (by decide +kernel) (by decide +kernel)
set_option maxRecDepth 20000 in
theorem gL_law_X5_mostDamp : GoodIn wsL_law (wsV RL 76 RX5 yX5_mostDamp wsX5_mostDamp) := goodIn_app (goodIn_of _ (by decide +kernel)) ggL_law_X5_mostDamp
set_option maxRecDepth 20000 in
theorem ggL_law_X4_put : GoodIn wsL_law wsX4_put := goodIn_r _ [582, 70, 28, 505, 183, 583, 584, 2, 585, 586, 587, 588, 589, 49, 590, 372, 55, 591, 643, 644, 645, 646, 647, 648, 684, 685] (by decide +kernel) (by decide +kernel)
set_option maxRecDepth 20000 in
theorem gL_law_X4_put : GoodIn wsL_law (wsV RL 79 RX4 yX4_put wsX4_put) := goodIn_app (goodIn_of _ (by decide +kernel)) ggL_law_X4_put
set_option maxRecDepth 20000 in
theorem ggL_law_X5_put : GoodIn wsL_law wsX5_put := goodIn_r _ [595, 120, 413, 253, 65, 596, 597, 598, 5, 599, 600, 601, 131, 132, 133, 649, 650, 651, 652, 653, 654, 655, 656, 657, 658, 659, 660, 661] (by decide +kernel) (by decide +kernel)
set_option maxRecDepth 20000 in
theorem gL_law_X5_put : GoodIn wsL_law (wsV RL 83 RX5 yX5_put wsX5_put) := goodIn_app (goodIn_of _ (by decide +kernel)) ggL_law_X5_put
set_option maxRecDepth 20000 in
theorem ggL_law_X4_wipe : GoodIn wsL_law wsX4_wipe := goodIn_r _ [605, 28, 505, 402, 403, 404, 49, 405, 372, 643, 644, 645, 646, 647, 648, 684, 685] (by decide +kernel) (by decide +kernel)
set_option maxRecDepth 20000 in
theorem gL_law_X4_wipe : GoodIn wsL_law (wsV RL 84 RX4 yX4_wipe wsX4_wipe) := goodIn_app (goodIn_of _ (by decide +kernel)) ggL_law_X4_wipe
set_option maxRecDepth 20000 in
theorem ggL_law_X5_wipe : GoodIn wsL_law wsX5_wipe := goodIn_r _ [609, 413, 649, 650, 651, 652, 653, 654, 655, 656, 657, 658, 659, 660, 661] (by decide +kernel) (by decide +kernel)
set_option maxRecDepth 20000 in
theorem gL_law_X5_wipe : GoodIn wsL_law (wsV RL 87 RX5 yX5_wipe wsX5_wipe) := goodIn_app (goodIn_of _ (by decide +kernel)) ggL_law_X5_wipe
set_option maxRecDepth 20000 in
theorem ggL_law_X4_fault : GoodIn wsL_law wsX4_fault := goodIn_r _ [613, 26, 347, 348, 349, 25, 350, 351, 50, 352, 353, 354, 355, 356, 357, 358, 359, 360, 361, 362, 363, 364, 365, 366, 367, 368, 369, 370, 49, 371, 372, 55, 373, 374, 375, 376, 377, 378, 379, 380, 381, 382, 383, 384, 385, 386, 387, 388, 389, 390, 643, 644, 645, 646, 647, 648, 678, 679, 680, 681, 682, 683, 684, 685] (by decide +kernel) (by decide +kernel)
set_option maxRecDepth 20000 in
theorem gL_law_X4_fault : GoodIn wsL_law (wsV RL 88 RX4 yX4_fault wsX4_fault) := goodIn_app (goodIn_of _ (by decide +kernel)) ggL_law_X4_fault
set_option maxRecDepth 20000 in
theorem ggL_law_X5_fault : GoodIn wsL_law wsX5_fault := goodIn_r _ [417, 412, 413, 410, 418, 419, 420, 5, 421, 65, 422, 423, 424, 425, 426, 427, 428, 429, 430, 131, 132, 133, 431, 432, 433, 434, 435, 436, 437, 438, 439, 440, 441, 649, 650, 651, 652, 653, 654, 655, 656, 657, 658, 659, 660, 661] (by decide +kernel) (by decide +kernel)
set_option maxRecDepth 20000 in
theorem gL_law_X5_fault : GoodIn wsL_law (wsV RL 91 RX5 yX5_fault wsX5_fault) := goodIn_app (goodIn_of _ (by decide +kernel)) ggL_law_X5_fault
set_option maxRecDepth 20000 in
theorem ggL_law_X4_undo : GoodIn wsL_law wsX4_undo := goodIn_r _ [618, 21, 16, 73, 506, 619, 620, 621, 20, 622, 90, 43, 91, 92, 93, 94, 95, 96, 97, 98, 15, 99, 33, 34, 35, 36, 37, 38, 100, 101, 102, 103, 104, 105, 106, 107, 2, 108, 109, 110, 81, 111, 112, 113, 114, 115, 643, 644, 645, 646, 647, 648, 675, 676, 677, 662, 663, 664, 665, 666, 667, 668, 669, 670, 671, 672, 673, 674] (by decide +kernel) (by decide +kernel)
set_option maxRecDepth 20000 in
theorem gL_law_X4_undo : GoodIn wsL_law (wsV RL 92 RX4 yX4_undo wsX4_undo) := goodIn_app (goodIn_of _ (by decide +kernel)) ggL_law_X4_undo
set_option maxRecDepth 20000 in
theorem ggL_law_X5_undo : GoodIn wsL_law wsX5_undo := goodIn_r _ [626, 138, 121, 60, 62, 649, 650, 651, 652, 653, 654, 655, 656, 657, 658, 659, 660, 661] (by decide +kernel) (by decide +kernel)
set_option maxRecDepth 20000 in
theorem gL_law_X5_undo : GoodIn wsL_law (wsV RL 95 RX5 yX5_undo wsX5_undo) := goodIn_app (goodIn_of _ (by decide +kernel)) ggL_law_X5_undo
set_option maxRecDepth 20000 in
theorem ggL_law_X4_save : GoodIn wsL_law wsX4_save := goodIn_r _ [630, 70, 22, 13, 14, 15, 16, 451, 29, 30, 31, 11, 12, 32, 33, 34, 35, 36, 37, 38, 525, 97, 98, 99, 100, 101, 102, 103, 104, 105, 106, 107, 2, 108, 109, 110, 81, 111, 112, 113, 114, 115, 643, 644, 645, 646, 647, 648, 662, 663, 664, 665, 666, 667, 668, 669, 670, 671, 672, 673, 674] (by decide +kernel) (by decide +kernel)
set_option maxRecDepth 20000 in
theorem gL_law_X4_save : GoodIn wsL_law (wsV RL 96 RX4 yX4_save wsX4_save) := goodIn_app (goodIn_of _ (by decide +kernel)) ggL_law_X4_save
set_option maxRecDepth 20000 in
theorem ggL_law_X5_save : GoodIn wsL_law wsX5_save := goodIn_r _ [634, 120, 63, 60, 64, 165, 166, 5, 167, 649, 650, 651, 652, 653, 654, 655, 656, 657, 658, 659, 660, 661] (by decide +kernel) (by decide +kernel)
set_option maxRecDepth 20000 in
theorem gL_law_X5_save : GoodIn wsL_law (wsV RL 99 RX5 yX5_save wsX5_save) := goodIn_app (goodIn_of _ (by decide +kernel)) ggL_law_X5_save
set_option maxRecDepth 20000 in
theorem ggL_law_X4_restore : GoodIn wsL_law wsX4_restore := goodIn_r _ [638, 70, 22, 73, 21, 16, 451, 86, 87, 88, 20, 89, 90, 91, 43, 42, 14, 15, 92, 93, 94, 95, 29, 30, 31, 11, 12, 32, 33, 34, 35, 36, 37, 38, 96, 97, 98, 99, 100, 101, 102, 103, 104, 105, 106, 107, 2, 108, 109, 110, 81, 111, 112, 113, 114, 115, 525, 643, 644, 645, 646, 647, 648, 662, 663, 664, 665, 666, 667, 668, 669, 670, 671, 672, 673, 674, 675, 676, 677] (by decide +kernel) (by decide +kernel)
set_option maxRecDepth 20000 in
theorem gL_law_X4_restore : GoodIn wsL_law (wsV RL 100 RX4 yX4_restore wsX4_restore) := goodIn_app (goodIn_of _ (by decide +kernel)) ggL_law_X4_restore
set_option maxRecDepth 20000 in
theorem ggL_law_X5_restore : GoodIn wsL_law wsX5_restore := goodIn_r _ [642, 120, 64, 121, 60, 63, 165, 166, 5, 167, 134, 135, 136, 137, 138, 62, 649, 650, 651, 652, 653, 654, 655, 656, 657, 658, 659, 660, 661] (by decide +kernel) (by decide +kernel)
set_option maxRecDepth 20000 in
theorem gL_law_X5_restore : GoodIn wsL_law (wsV RL 103 RX5 yX5_restore wsX5_restore) := goodIn_app (goodIn_of _ (by decide +kernel)) ggL_law_X5_restore
