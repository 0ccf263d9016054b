/-! each method by its number -/
theorem jb_X0_init : jx_B 0 jk_X0_init 0 (jx_isi 0) none 2 := ⟨rfl, rfl, rfl, rfl, rfl⟩
theorem jb_X0_kind : jx_B 1 jk_X0_kind 0 (jx_isi 1) (some .int) 1 := ⟨rfl, rfl, rfl, rfl, rfl⟩
theorem jb_X0_spell : jx_B 2 jk_X0_spell 0 (jx_isi 2) none 2 := ⟨rfl, rfl, rfl, rfl, rfl⟩
theorem jb_X1_init : jx_B 3 jk_X1_init 1 (jx_isi 3) none 2 := ⟨rfl, rfl, rfl, rfl, rfl⟩
theorem jb_X1_kind : jx_B 4 jk_X1_kind 1 (jx_isi 4) (some .int) 1 := ⟨rfl, rfl, rfl, rfl, rfl⟩
theorem jb_X1_spell : jx_B 5 jk_X1_spell 1 (jx_isi 5) none 2 := ⟨rfl, rfl, rfl, rfl, rfl⟩
theorem jb_X2_init : jx_B 6 jk_X2_init 2 (jx_isi 6) none 2 := ⟨rfl, rfl, rfl, rfl, rfl⟩
theorem jb_X2_kind : jx_B 7 jk_X2_kind 2 (jx_isi 7) (some .int) 1 := ⟨rfl, rfl, rfl, rfl, rfl⟩
theorem jb_X2_spell : jx_B 8 jk_X2_spell 2 (jx_isi 8) none 2 := ⟨rfl, rfl, rfl, rfl, rfl⟩
theorem jb_X3_init : jx_B 9 jk_X3_init 3 (jx_isi 9) none 2 := ⟨rfl, rfl, rfl, rfl, rfl⟩
theorem jb_X3_clear : jx_B 10 jk_X3_clear 3 (jx_isi 10) none 1 := ⟨rfl, rfl, rfl, rfl, rfl⟩
theorem jb_X3_add : jx_B 11 jk_X3_add 3 (jx_isi 11) (some .boolean) 2 := ⟨rfl, rfl, rfl, rfl, rfl⟩
theorem jb_X3_addMany : jx_B 12 jk_X3_addMany 3 (jx_isi 12) none 4 := ⟨rfl, rfl, rfl, rfl, rfl⟩
theorem jb_X3_addOnce : jx_B 13 jk_X3_addOnce 3 (jx_isi 13) none 3 := ⟨rfl, rfl, rfl, rfl, rfl⟩
theorem jb_X3_has : jx_B 14 jk_X3_has 3 (jx_isi 14) (some .boolean) 2 := ⟨rfl, rfl, rfl, rfl, rfl⟩
theorem jb_X3_at : jx_B 15 jk_X3_at 3 (jx_isi 15) (some .int) 2 := ⟨rfl, rfl, rfl, rfl, rfl⟩
theorem jb_X3_set : jx_B 16 jk_X3_set 3 (jx_isi 16) none 3 := ⟨rfl, rfl, rfl, rfl, rfl⟩
theorem jb_X3_howMany : jx_B 17 jk_X3_howMany 3 (jx_isi 17) (some .int) 4 := ⟨rfl, rfl, rfl, rfl, rfl⟩
theorem jb_X4_init : jx_B 18 jk_X4_init 4 (jx_isi 18) none 3 := ⟨rfl, rfl, rfl, rfl, rfl⟩
theorem jb_X4_walkAt : jx_B 19 jk_X4_walkAt 4 (jx_isi 19) (some (.object "LampsAlongStreets$Walk")) 3 := ⟨rfl, rfl, rfl, rfl, rfl⟩
theorem jb_X4_freeWalk : jx_B 20 jk_X4_freeWalk 4 (jx_isi 20) (some (.object "LampsAlongStreets$Walk")) 1 := ⟨rfl, rfl, rfl, rfl, rfl⟩
theorem jb_X4_keepFreeWalk : jx_B 21 jk_X4_keepFreeWalk 4 (jx_isi 21) (some .int) 1 := ⟨rfl, rfl, rfl, rfl, rfl⟩
theorem jb_X4_helperAt : jx_B 22 jk_X4_helperAt 4 (jx_isi 22) (some (.object "LampsAlongStreets$Turner")) 3 := ⟨rfl, rfl, rfl, rfl, rfl⟩
theorem jb_X4_addHelper : jx_B 23 jk_X4_addHelper 4 (jx_isi 23) (some .int) 2 := ⟨rfl, rfl, rfl, rfl, rfl⟩
theorem jb_X4_copyFrom : jx_B 24 jk_X4_copyFrom 4 (jx_isi 24) none 5 := ⟨rfl, rfl, rfl, rfl, rfl⟩
theorem jb_X5_init : jx_B 25 jk_X5_init 5 (jx_isi 25) none 1 := ⟨rfl, rfl, rfl, rfl, rfl⟩
theorem jb_X5_become : jx_B 26 jk_X5_become 5 (jx_isi 26) none 4 := ⟨rfl, rfl, rfl, rfl, rfl⟩
theorem jb_X5_copyFrom : jx_B 27 jk_X5_copyFrom 5 (jx_isi 27) none 2 := ⟨rfl, rfl, rfl, rfl, rfl⟩
theorem jb_X5_isLine : jx_B 28 jk_X5_isLine 5 (jx_isi 28) (some .boolean) 1 := ⟨rfl, rfl, rfl, rfl, rfl⟩
theorem jb_X5_least : jx_B 29 jk_X5_least 5 (jx_isi 29) (some .int) 1 := ⟨rfl, rfl, rfl, rfl, rfl⟩
theorem jb_X5_has : jx_B 30 jk_X5_has 5 (jx_isi 30) (some .boolean) 2 := ⟨rfl, rfl, rfl, rfl, rfl⟩
theorem jb_X5_placeOf : jx_B 31 jk_X5_placeOf 5 (jx_isi 31) (some .int) 2 := ⟨rfl, rfl, rfl, rfl, rfl⟩
theorem jb_X5_reach : jx_B 32 jk_X5_reach 5 (jx_isi 32) (some .int) 3 := ⟨rfl, rfl, rfl, rfl, rfl⟩
theorem jb_X6_init : jx_B 33 jk_X6_init 6 (jx_isi 33) none 2 := ⟨rfl, rfl, rfl, rfl, rfl⟩
theorem jb_X6_kind : jx_B 34 jk_X6_kind 6 (jx_isi 34) (some .int) 1 := ⟨rfl, rfl, rfl, rfl, rfl⟩
theorem jb_X6_spell : jx_B 35 jk_X6_spell 6 (jx_isi 35) none 2 := ⟨rfl, rfl, rfl, rfl, rfl⟩
theorem jb_X7_init : jx_B 36 jk_X7_init 7 (jx_isi 36) none 2 := ⟨rfl, rfl, rfl, rfl, rfl⟩
theorem jb_X7_kind : jx_B 37 jk_X7_kind 7 (jx_isi 37) (some .int) 1 := ⟨rfl, rfl, rfl, rfl, rfl⟩
theorem jb_X7_spell : jx_B 38 jk_X7_spell 7 (jx_isi 38) none 2 := ⟨rfl, rfl, rfl, rfl, rfl⟩
theorem jb_X8_init : jx_B 39 jk_X8_init 8 (jx_isi 39) none 2 := ⟨rfl, rfl, rfl, rfl, rfl⟩
theorem jb_X8_clear : jx_B 40 jk_X8_clear 8 (jx_isi 40) none 2 := ⟨rfl, rfl, rfl, rfl, rfl⟩
theorem jb_X8_copyFrom : jx_B 41 jk_X8_copyFrom 8 (jx_isi 41) none 3 := ⟨rfl, rfl, rfl, rfl, rfl⟩
theorem jb_X8_showsAtPlace : jx_B 42 jk_X8_showsAtPlace 8 (jx_isi 42) (some .int) 2 := ⟨rfl, rfl, rfl, rfl, rfl⟩
theorem jb_X8_shows : jx_B 43 jk_X8_shows 8 (jx_isi 43) (some .int) 2 := ⟨rfl, rfl, rfl, rfl, rfl⟩
theorem jb_X8_turn : jx_B 44 jk_X8_turn 8 (jx_isi 44) none 4 := ⟨rfl, rfl, rfl, rfl, rfl⟩
theorem jb_X8_goOn : jx_B 45 jk_X8_goOn 8 (jx_isi 45) (some .boolean) 2 := ⟨rfl, rfl, rfl, rfl, rfl⟩
theorem jb_X8_moveEnd : jx_B 46 jk_X8_moveEnd 8 (jx_isi 46) (some .boolean) 3 := ⟨rfl, rfl, rfl, rfl, rfl⟩
theorem jb_X8_multiplyBy : jx_B 47 jk_X8_multiplyBy 8 (jx_isi 47) (some .boolean) 5 := ⟨rfl, rfl, rfl, rfl, rfl⟩
theorem jb_X8_fitsMoved : jx_B 48 jk_X8_fitsMoved 8 (jx_isi 48) (some .boolean) 3 := ⟨rfl, rfl, rfl, rfl, rfl⟩
theorem jb_X8_becomeInverseOf : jx_B 49 jk_X8_becomeInverseOf 8 (jx_isi 49) (some .boolean) 4 := ⟨rfl, rfl, rfl, rfl, rfl⟩
theorem jb_X8_becomePowerOf : jx_B 50 jk_X8_becomePowerOf 8 (jx_isi 50) (some .boolean) 4 := ⟨rfl, rfl, rfl, rfl, rfl⟩
theorem jb_X8_becomeDifference : jx_B 51 jk_X8_becomeDifference 8 (jx_isi 51) none 5 := ⟨rfl, rfl, rfl, rfl, rfl⟩
theorem jb_X8_becomeTold : jx_B 52 jk_X8_becomeTold 8 (jx_isi 52) (some .boolean) 4 := ⟨rfl, rfl, rfl, rfl, rfl⟩
theorem jb_X8_litLamps : jx_B 53 jk_X8_litLamps 8 (jx_isi 53) (some .int) 3 := ⟨rfl, rfl, rfl, rfl, rfl⟩
theorem jb_X8_turns : jx_B 54 jk_X8_turns 8 (jx_isi 54) (some .int) 3 := ⟨rfl, rfl, rfl, rfl, rfl⟩
theorem jb_X8_length : jx_B 55 jk_X8_length 8 (jx_isi 55) (some .int) 1 := ⟨rfl, rfl, rfl, rfl, rfl⟩
theorem jb_X8_tourFrom : jx_B 56 jk_X8_tourFrom 8 (jx_isi 56) (some .int) 10 := ⟨rfl, rfl, rfl, rfl, rfl⟩
theorem jb_X8_lowFrom : jx_B 57 jk_X8_lowFrom 8 (jx_isi 57) (some .int) 4 := ⟨rfl, rfl, rfl, rfl, rfl⟩
theorem jb_X8_highFrom : jx_B 58 jk_X8_highFrom 8 (jx_isi 58) (some .int) 4 := ⟨rfl, rfl, rfl, rfl, rfl⟩
theorem jb_X8_isDead : jx_B 59 jk_X8_isDead 8 (jx_isi 59) (some .boolean) 1 := ⟨rfl, rfl, rfl, rfl, rfl⟩
theorem jb_X8_depth : jx_B 60 jk_X8_depth 8 (jx_isi 60) (some .int) 3 := ⟨rfl, rfl, rfl, rfl, rfl⟩
theorem jb_X8_growsBy : jx_B 61 jk_X8_growsBy 8 (jx_isi 61) (some .boolean) 5 := ⟨rfl, rfl, rfl, rfl, rfl⟩
theorem jb_X8_sumsCount : jx_B 62 jk_X8_sumsCount 8 (jx_isi 62) (some .int) 1 := ⟨rfl, rfl, rfl, rfl, rfl⟩
theorem jb_X8_sumAt : jx_B 63 jk_X8_sumAt 8 (jx_isi 63) (some .int) 5 := ⟨rfl, rfl, rfl, rfl, rfl⟩
theorem jb_X8_isLike : jx_B 64 jk_X8_isLike 8 (jx_isi 64) (some .boolean) 3 := ⟨rfl, rfl, rfl, rfl, rfl⟩
theorem jb_X8_isMovedLike : jx_B 65 jk_X8_isMovedLike 8 (jx_isi 65) (some .boolean) 5 := ⟨rfl, rfl, rfl, rfl, rfl⟩
theorem jb_X8_firstLit : jx_B 66 jk_X8_firstLit 8 (jx_isi 66) (some .int) 2 := ⟨rfl, rfl, rfl, rfl, rfl⟩
theorem jb_X8_isSummedLike : jx_B 67 jk_X8_isSummedLike 8 (jx_isi 67) (some .boolean) 5 := ⟨rfl, rfl, rfl, rfl, rfl⟩
theorem jb_X8_order : jx_B 68 jk_X8_order 8 (jx_isi 68) (some .int) 4 := ⟨rfl, rfl, rfl, rfl, rfl⟩
theorem jb_X8_vanishes : jx_B 69 jk_X8_vanishes 8 (jx_isi 69) (some .boolean) 4 := ⟨rfl, rfl, rfl, rfl, rfl⟩
theorem jb_X8_nearCode : jx_B 70 jk_X8_nearCode 8 (jx_isi 70) (some .int) 5 := ⟨rfl, rfl, rfl, rfl, rfl⟩
theorem jb_X9_init : jx_B 71 jk_X9_init 9 (jx_isi 71) none 2 := ⟨rfl, rfl, rfl, rfl, rfl⟩
theorem jb_X9_kind : jx_B 72 jk_X9_kind 9 (jx_isi 72) (some .int) 1 := ⟨rfl, rfl, rfl, rfl, rfl⟩
theorem jb_X9_spell : jx_B 73 jk_X9_spell 9 (jx_isi 73) none 2 := ⟨rfl, rfl, rfl, rfl, rfl⟩
theorem jb_X10_init : jx_B 74 jk_X10_init 10 (jx_isi 74) none 3 := ⟨rfl, rfl, rfl, rfl, rfl⟩
theorem jb_X10_writeWhole : jx_B 75 jk_X10_writeWhole 10 (jx_isi 75) none 6 := ⟨rfl, rfl, rfl, rfl, rfl⟩
theorem jb_X10_goTo : jx_B 76 jk_X10_goTo 10 (jx_isi 76) none 5 := ⟨rfl, rfl, rfl, rfl, rfl⟩
theorem jb_X10_turnLamp : jx_B 77 jk_X10_turnLamp 10 (jx_isi 77) none 3 := ⟨rfl, rfl, rfl, rfl, rfl⟩
theorem jb_X11_init : jx_B 78 jk_X11_init 11 (jx_isi 78) none 1 := ⟨rfl, rfl, rfl, rfl, rfl⟩
theorem jb_X11_letter : jx_B 79 jk_X11_letter 11 (jx_isi 79) (some .int) 2 := ⟨rfl, rfl, rfl, rfl, rfl⟩
theorem jb_X11_word : jx_B 80 jk_X11_word 11 (jx_isi 80) (some .int) 3 := ⟨rfl, rfl, rfl, rfl, rfl⟩
theorem jb_X11_street : jx_B 81 jk_X11_street 11 (jx_isi 81) (some .int) 4 := ⟨rfl, rfl, rfl, rfl, rfl⟩
theorem jb_X11_drop : jx_B 82 jk_X11_drop 11 (jx_isi 82) (some .int) 1 := ⟨rfl, rfl, rfl, rfl, rfl⟩
theorem jb_X11_of : jx_B 83 jk_X11_of 11 (jx_isi 83) (some .int) 4 := ⟨rfl, rfl, rfl, rfl, rfl⟩
theorem jb_X11_lamp : jx_B 84 jk_X11_lamp 11 (jx_isi 84) (some .int) 4 := ⟨rfl, rfl, rfl, rfl, rfl⟩
theorem jb_X11_times : jx_B 85 jk_X11_times 11 (jx_isi 85) (some .int) 6 := ⟨rfl, rfl, rfl, rfl, rfl⟩
theorem jb_X11_inverse : jx_B 86 jk_X11_inverse 11 (jx_isi 86) (some .int) 4 := ⟨rfl, rfl, rfl, rfl, rfl⟩
theorem jb_X11_power : jx_B 87 jk_X11_power 11 (jx_isi 87) (some .int) 5 := ⟨rfl, rfl, rfl, rfl, rfl⟩
theorem jb_X11_conjugate : jx_B 88 jk_X11_conjugate 11 (jx_isi 88) (some .int) 7 := ⟨rfl, rfl, rfl, rfl, rfl⟩
theorem jb_X11_distance : jx_B 89 jk_X11_distance 11 (jx_isi 89) (some .int) 6 := ⟨rfl, rfl, rfl, rfl, rfl⟩
theorem jb_X11_like : jx_B 90 jk_X11_like 11 (jx_isi 90) (some .int) 5 := ⟨rfl, rfl, rfl, rfl, rfl⟩
theorem jb_X11_sums : jx_B 91 jk_X11_sums 11 (jx_isi 91) (some .int) 5 := ⟨rfl, rfl, rfl, rfl, rfl⟩
theorem jb_X11_sphere : jx_B 92 jk_X11_sphere 11 (jx_isi 92) (some .int) 3 := ⟨rfl, rfl, rfl, rfl, rfl⟩
theorem jb_X11_written : jx_B 93 jk_X11_written 11 (jx_isi 93) (some .int) 4 := ⟨rfl, rfl, rfl, rfl, rfl⟩
theorem jb_X11_odds : jx_B 94 jk_X11_odds 11 (jx_isi 94) (some .long) 7 := ⟨rfl, rfl, rfl, rfl, rfl⟩
theorem jb_X11_lots : jx_B 95 jk_X11_lots 11 (jx_isi 95) (some .int) 11 := ⟨rfl, rfl, rfl, rfl, rfl⟩
theorem jb_X11_helper : jx_B 96 jk_X11_helper 11 (jx_isi 96) (some .int) 3 := ⟨rfl, rfl, rfl, rfl, rfl⟩
theorem jb_X11_helps : jx_B 97 jk_X11_helps 11 (jx_isi 97) (some .int) 4 := ⟨rfl, rfl, rfl, rfl, rfl⟩
theorem jb_X11_taken : jx_B 98 jk_X11_taken 11 (jx_isi 98) (some .int) 4 := ⟨rfl, rfl, rfl, rfl, rfl⟩
theorem jb_X11_done : jx_B 99 jk_X11_done 11 (jx_isi 99) (some .int) 7 := ⟨rfl, rfl, rfl, rfl, rfl⟩
theorem jb_X11_step : jx_B 100 jk_X11_step 11 (jx_isi 100) (some .int) 4 := ⟨rfl, rfl, rfl, rfl, rfl⟩
theorem jb_X11_list : jx_B 101 jk_X11_list 11 (jx_isi 101) (some .int) 4 := ⟨rfl, rfl, rfl, rfl, rfl⟩
theorem jb_X11_put : jx_B 102 jk_X11_put 11 (jx_isi 102) (some .int) 5 := ⟨rfl, rfl, rfl, rfl, rfl⟩
theorem jb_X11_look : jx_B 103 jk_X11_look 11 (jx_isi 103) (some .long) 4 := ⟨rfl, rfl, rfl, rfl, rfl⟩
theorem jb_X11_lays : jx_B 104 jk_X11_lays 11 (jx_isi 104) (some .int) 8 := ⟨rfl, rfl, rfl, rfl, rfl⟩
theorem jb_X11_from : jx_B 105 jk_X11_from 11 (jx_isi 105) (some .int) 5 := ⟨rfl, rfl, rfl, rfl, rfl⟩
theorem jb_X11_judge : jx_B 106 jk_X11_judge 11 (jx_isi 106) (some .int) 6 := ⟨rfl, rfl, rfl, rfl, rfl⟩
theorem jb_X11_image : jx_B 107 jk_X11_image 11 (jx_isi 107) (some .int) 1 := ⟨rfl, rfl, rfl, rfl, rfl⟩
theorem jb_X11_on : jx_B 108 jk_X11_on 11 (jx_isi 108) (some .int) 1 := ⟨rfl, rfl, rfl, rfl, rfl⟩
theorem jb_X11_count : jx_B 109 jk_X11_count 11 (jx_isi 109) (some .int) 4 := ⟨rfl, rfl, rfl, rfl, rfl⟩
theorem jb_X11_refuse : jx_B 110 jk_X11_refuse 11 (jx_isi 110) (some .int) 3 := ⟨rfl, rfl, rfl, rfl, rfl⟩
theorem jb_X11_refuseFar : jx_B 111 jk_X11_refuseFar 11 (jx_isi 111) (some .int) 2 := ⟨rfl, rfl, rfl, rfl, rfl⟩
theorem jb_X11_refuseFarLong : jx_B 112 jk_X11_refuseFarLong 11 (jx_isi 112) (some .long) 2 := ⟨rfl, rfl, rfl, rfl, rfl⟩
theorem jb_X11_isList : jx_B 113 jk_X11_isList 11 (jx_isi 113) (some .boolean) 2 := ⟨rfl, rfl, rfl, rfl, rfl⟩
theorem jb_X11_listAt : jx_B 114 jk_X11_listAt 11 (jx_isi 114) (some (.object "LampsAlongStreets$Row")) 2 := ⟨rfl, rfl, rfl, rfl, rfl⟩
theorem jb_X11_makeTold : jx_B 115 jk_X11_makeTold 11 (jx_isi 115) (some .int) 7 := ⟨rfl, rfl, rfl, rfl, rfl⟩
theorem jb_X11_firstStranger : jx_B 116 jk_X11_firstStranger 11 (jx_isi 116) (some .int) 4 := ⟨rfl, rfl, rfl, rfl, rfl⟩
theorem jb_X11_gatherShell : jx_B 117 jk_X11_gatherShell 11 (jx_isi 117) none 5 := ⟨rfl, rfl, rfl, rfl, rfl⟩
theorem jb_X11_letterOf : jx_B 118 jk_X11_letterOf 11 (jx_isi 118) (some .int) 2 := ⟨rfl, rfl, rfl, rfl, rfl⟩
theorem jb_X11_signOf : jx_B 119 jk_X11_signOf 11 (jx_isi 119) (some .int) 1 := ⟨rfl, rfl, rfl, rfl, rfl⟩
theorem jb_X11_isDigit : jx_B 120 jk_X11_isDigit 11 (jx_isi 120) (some .boolean) 1 := ⟨rfl, rfl, rfl, rfl, rfl⟩
theorem jb_X11_around : jx_B 121 jk_X11_around 11 (jx_isi 121) (some .int) 2 := ⟨rfl, rfl, rfl, rfl, rfl⟩
theorem jb_X11_greatestDivisor : jx_B 122 jk_X11_greatestDivisor 11 (jx_isi 122) (some .int) 3 := ⟨rfl, rfl, rfl, rfl, rfl⟩
theorem jb_X11_nextSeed : jx_B 123 jk_X11_nextSeed 11 (jx_isi 123) (some .int) 1 := ⟨rfl, rfl, rfl, rfl, rfl⟩
theorem jb_X11_drawn : jx_B 124 jk_X11_drawn 11 (jx_isi 124) (some .int) 2 := ⟨rfl, rfl, rfl, rfl, rfl⟩
theorem jb_X11_isKind : jx_B 125 jk_X11_isKind 11 (jx_isi 125) (some .boolean) 1 := ⟨rfl, rfl, rfl, rfl, rfl⟩
theorem jb_X11_newHelper : jx_B 126 jk_X11_newHelper 11 (jx_isi 126) (some (.object "LampsAlongStreets$Turner")) 2 := ⟨rfl, rfl, rfl, rfl, rfl⟩
theorem jb_X11_isOfKind : jx_B 127 jk_X11_isOfKind 11 (jx_isi 127) (some .boolean) 2 := ⟨rfl, rfl, rfl, rfl, rfl⟩
theorem jb_X11_trip : jx_B 128 jk_X11_trip 11 (jx_isi 128) (some .int) 4 := ⟨rfl, rfl, rfl, rfl, rfl⟩
theorem jb_X11_shorterTrip : jx_B 129 jk_X11_shorterTrip 11 (jx_isi 129) (some .int) 3 := ⟨rfl, rfl, rfl, rfl, rfl⟩
theorem jb_X12_refused : jx_B 130 jk_X12_refused 12 (jx_isi 130) (some .int) 2 := ⟨rfl, rfl, rfl, rfl, rfl⟩
theorem jb_X12_refusedFar : jx_B 131 jk_X12_refusedFar 12 (jx_isi 131) (some .int) 2 := ⟨rfl, rfl, rfl, rfl, rfl⟩
theorem jb_X12_isIn : jx_B 132 jk_X12_isIn 12 (jx_isi 132) (some .boolean) 3 := ⟨rfl, rfl, rfl, rfl, rfl⟩
theorem jb_X12_init : jx_B 133 jk_X12_init 12 (jx_isi 133) none 1 := ⟨rfl, rfl, rfl, rfl, rfl⟩
theorem jb_X12_isCorner : jx_B 134 jk_X12_isCorner 12 (jx_isi 134) (some .boolean) 2 := ⟨rfl, rfl, rfl, rfl, rfl⟩
theorem jb_X12_isWalk : jx_B 135 jk_X12_isWalk 12 (jx_isi 135) (some .boolean) 2 := ⟨rfl, rfl, rfl, rfl, rfl⟩
theorem jb_X12_round : jx_B 136 jk_X12_round 12 (jx_isi 136) (some .int) 2 := ⟨rfl, rfl, rfl, rfl, rfl⟩
theorem jb_X12_at : jx_B 137 jk_X12_at 12 (jx_isi 137) (some .int) 3 := ⟨rfl, rfl, rfl, rfl, rfl⟩
theorem jb_X12_shows : jx_B 138 jk_X12_shows 12 (jx_isi 138) none 4 := ⟨rfl, rfl, rfl, rfl, rfl⟩
theorem jb_X12_bares : jx_B 139 jk_X12_bares 12 (jx_isi 139) none 3 := ⟨rfl, rfl, rfl, rfl, rfl⟩
theorem jb_X12_likens : jx_B 140 jk_X12_likens 12 (jx_isi 140) none 4 := ⟨rfl, rfl, rfl, rfl, rfl⟩
theorem jb_X12_does : jx_B 141 jk_X12_does 12 (jx_isi 141) (some .boolean) 4 := ⟨rfl, rfl, rfl, rfl, rfl⟩
theorem jb_X12_comes : jx_B 142 jk_X12_comes 12 (jx_isi 142) (some .int) 2 := ⟨rfl, rfl, rfl, rfl, rfl⟩
theorem jb_X12_street : jx_B 143 jk_X12_street 12 (jx_isi 143) (some .int) 4 := ⟨rfl, rfl, rfl, rfl, rfl⟩
theorem jb_X12_drop : jx_B 144 jk_X12_drop 12 (jx_isi 144) (some .int) 1 := ⟨rfl, rfl, rfl, rfl, rfl⟩
theorem jb_X12_lamp : jx_B 145 jk_X12_lamp 12 (jx_isi 145) (some .int) 3 := ⟨rfl, rfl, rfl, rfl, rfl⟩
theorem jb_X12_isTimes : jx_B 146 jk_X12_isTimes 12 (jx_isi 146) (some .boolean) 7 := ⟨rfl, rfl, rfl, rfl, rfl⟩
theorem jb_X12_isInverse : jx_B 147 jk_X12_isInverse 12 (jx_isi 147) (some .boolean) 5 := ⟨rfl, rfl, rfl, rfl, rfl⟩
theorem jb_X12_times : jx_B 148 jk_X12_times 12 (jx_isi 148) (some .int) 3 := ⟨rfl, rfl, rfl, rfl, rfl⟩
theorem jb_X12_inverse : jx_B 149 jk_X12_inverse 12 (jx_isi 149) (some .int) 2 := ⟨rfl, rfl, rfl, rfl, rfl⟩
theorem jb_X12_isPower : jx_B 150 jk_X12_isPower 12 (jx_isi 150) (some .boolean) 5 := ⟨rfl, rfl, rfl, rfl, rfl⟩
theorem jb_X12_power : jx_B 151 jk_X12_power 12 (jx_isi 151) (some .int) 3 := ⟨rfl, rfl, rfl, rfl, rfl⟩
theorem jb_X12_conjugate : jx_B 152 jk_X12_conjugate 12 (jx_isi 152) (some .int) 4 := ⟨rfl, rfl, rfl, rfl, rfl⟩
theorem jb_X12_isBare : jx_B 153 jk_X12_isBare 12 (jx_isi 153) (some .boolean) 4 := ⟨rfl, rfl, rfl, rfl, rfl⟩
theorem jb_X12_order : jx_B 154 jk_X12_order 12 (jx_isi 154) (some .int) 3 := ⟨rfl, rfl, rfl, rfl, rfl⟩
theorem jb_X12_turns : jx_B 155 jk_X12_turns 12 (jx_isi 155) (some .int) 3 := ⟨rfl, rfl, rfl, rfl, rfl⟩
theorem jb_X12_tour : jx_B 156 jk_X12_tour 12 (jx_isi 156) (some .int) 3 := ⟨rfl, rfl, rfl, rfl, rfl⟩
theorem jb_X12_lineTour : jx_B 157 jk_X12_lineTour 12 (jx_isi 157) (some .int) 7 := ⟨rfl, rfl, rfl, rfl, rfl⟩
theorem jb_X12_ringTour : jx_B 158 jk_X12_ringTour 12 (jx_isi 158) (some .int) 11 := ⟨rfl, rfl, rfl, rfl, rfl⟩
theorem jb_X12_dues : jx_B 159 jk_X12_dues 12 (jx_isi 159) none 3 := ⟨rfl, rfl, rfl, rfl, rfl⟩
theorem jb_X12_length : jx_B 160 jk_X12_length 12 (jx_isi 160) (some .int) 2 := ⟨rfl, rfl, rfl, rfl, rfl⟩
theorem jb_X12_isLonger : jx_B 161 jk_X12_isLonger 12 (jx_isi 161) (some .boolean) 6 := ⟨rfl, rfl, rfl, rfl, rfl⟩
theorem jb_X12_isDead : jx_B 162 jk_X12_isDead 12 (jx_isi 162) (some .boolean) 2 := ⟨rfl, rfl, rfl, rfl, rfl⟩
theorem jb_X12_depth : jx_B 163 jk_X12_depth 12 (jx_isi 163) (some .int) 4 := ⟨rfl, rfl, rfl, rfl, rfl⟩
theorem jb_X12_lit : jx_B 164 jk_X12_lit 12 (jx_isi 164) (some .int) 4 := ⟨rfl, rfl, rfl, rfl, rfl⟩
theorem jb_X12_of : jx_B 165 jk_X12_of 12 (jx_isi 165) (some .int) 3 := ⟨rfl, rfl, rfl, rfl, rfl⟩
theorem jb_X12_distance : jx_B 166 jk_X12_distance 12 (jx_isi 166) (some .int) 4 := ⟨rfl, rfl, rfl, rfl, rfl⟩
theorem jb_X12_divisor : jx_B 167 jk_X12_divisor 12 (jx_isi 167) (some .int) 5 := ⟨rfl, rfl, rfl, rfl, rfl⟩
theorem jb_X12_sumMany : jx_B 168 jk_X12_sumMany 12 (jx_isi 168) (some .int) 2 := ⟨rfl, rfl, rfl, rfl, rfl⟩
theorem jb_X12_sum : jx_B 169 jk_X12_sum 12 (jx_isi 169) (some .int) 6 := ⟨rfl, rfl, rfl, rfl, rfl⟩
theorem jb_X12_sums : jx_B 170 jk_X12_sums 12 (jx_isi 170) (some .int) 4 := ⟨rfl, rfl, rfl, rfl, rfl⟩
theorem jb_X12_isTurned : jx_B 171 jk_X12_isTurned 12 (jx_isi 171) (some .boolean) 7 := ⟨rfl, rfl, rfl, rfl, rfl⟩
theorem jb_X12_isMoved : jx_B 172 jk_X12_isMoved 12 (jx_isi 172) (some .boolean) 8 := ⟨rfl, rfl, rfl, rfl, rfl⟩
theorem jb_X12_isLike : jx_B 173 jk_X12_isLike 12 (jx_isi 173) (some .boolean) 6 := ⟨rfl, rfl, rfl, rfl, rfl⟩
theorem jb_X12_like : jx_B 174 jk_X12_like 12 (jx_isi 174) (some .int) 3 := ⟨rfl, rfl, rfl, rfl, rfl⟩
theorem jb_X12_code : jx_B 175 jk_X12_code 12 (jx_isi 175) (some .long) 5 := ⟨rfl, rfl, rfl, rfl, rfl⟩
theorem jb_X12_sphere : jx_B 176 jk_X12_sphere 12 (jx_isi 176) (some .int) 5 := ⟨rfl, rfl, rfl, rfl, rfl⟩
theorem jb_X12_isNew : jx_B 177 jk_X12_isNew 12 (jx_isi 177) (some .boolean) 5 := ⟨rfl, rfl, rfl, rfl, rfl⟩
theorem jb_X12_writes : jx_B 178 jk_X12_writes 12 (jx_isi 178) none 2 := ⟨rfl, rfl, rfl, rfl, rfl⟩
theorem jb_X12_turnsHere : jx_B 179 jk_X12_turnsHere 12 (jx_isi 179) none 5 := ⟨rfl, rfl, rfl, rfl, rfl⟩
theorem jb_X12_goesTo : jx_B 180 jk_X12_goesTo 12 (jx_isi 180) none 4 := ⟨rfl, rfl, rfl, rfl, rfl⟩
theorem jb_X12_leastLit : jx_B 181 jk_X12_leastLit 12 (jx_isi 181) (some .int) 4 := ⟨rfl, rfl, rfl, rfl, rfl⟩
theorem jb_X12_greatestLit : jx_B 182 jk_X12_greatestLit 12 (jx_isi 182) (some .int) 4 := ⟨rfl, rfl, rfl, rfl, rfl⟩
theorem jb_X12_writesAll : jx_B 183 jk_X12_writesAll 12 (jx_isi 183) none 7 := ⟨rfl, rfl, rfl, rfl, rfl⟩
theorem jb_X12_written : jx_B 184 jk_X12_written 12 (jx_isi 184) (some .int) 3 := ⟨rfl, rfl, rfl, rfl, rfl⟩
theorem jb_X12_odds : jx_B 185 jk_X12_odds 12 (jx_isi 185) (some .long) 4 := ⟨rfl, rfl, rfl, rfl, rfl⟩
theorem jb_X12_lots : jx_B 186 jk_X12_lots 12 (jx_isi 186) (some .int) 10 := ⟨rfl, rfl, rfl, rfl, rfl⟩
theorem jb_X12_isHelper : jx_B 187 jk_X12_isHelper 12 (jx_isi 187) (some .boolean) 2 := ⟨rfl, rfl, rfl, rfl, rfl⟩
theorem jb_X12_helper : jx_B 188 jk_X12_helper 12 (jx_isi 188) (some .int) 3 := ⟨rfl, rfl, rfl, rfl, rfl⟩
theorem jb_X12_lettersOf : jx_B 189 jk_X12_lettersOf 12 (jx_isi 189) (some .int) 2 := ⟨rfl, rfl, rfl, rfl, rfl⟩
theorem jb_X12_moveOf : jx_B 190 jk_X12_moveOf 12 (jx_isi 190) (some .int) 2 := ⟨rfl, rfl, rfl, rfl, rfl⟩
theorem jb_X12_helps : jx_B 191 jk_X12_helps 12 (jx_isi 191) (some .int) 3 := ⟨rfl, rfl, rfl, rfl, rfl⟩
theorem jb_X12_isUnder : jx_B 192 jk_X12_isUnder 12 (jx_isi 192) (some .boolean) 2 := ⟨rfl, rfl, rfl, rfl, rfl⟩
theorem jb_X12_taken : jx_B 193 jk_X12_taken 12 (jx_isi 193) (some .int) 3 := ⟨rfl, rfl, rfl, rfl, rfl⟩
theorem jb_X12_doesTimes : jx_B 194 jk_X12_doesTimes 12 (jx_isi 194) (some .boolean) 6 := ⟨rfl, rfl, rfl, rfl, rfl⟩
theorem jb_X12_isHelped : jx_B 195 jk_X12_isHelped 12 (jx_isi 195) (some .boolean) 4 := ⟨rfl, rfl, rfl, rfl, rfl⟩
theorem jb_X12_done : jx_B 196 jk_X12_done 12 (jx_isi 196) (some .int) 3 := ⟨rfl, rfl, rfl, rfl, rfl⟩
theorem jb_X12_step : jx_B 197 jk_X12_step 12 (jx_isi 197) (some .int) 3 := ⟨rfl, rfl, rfl, rfl, rfl⟩
theorem jb_X12_letter : jx_B 198 jk_X12_letter 12 (jx_isi 198) (some .int) 2 := ⟨rfl, rfl, rfl, rfl, rfl⟩
theorem jb_X12_letterOf : jx_B 199 jk_X12_letterOf 12 (jx_isi 199) (some .int) 1 := ⟨rfl, rfl, rfl, rfl, rfl⟩
theorem jb_X12_isTimesAt : jx_B 200 jk_X12_isTimesAt 12 (jx_isi 200) (some .boolean) 2 := ⟨rfl, rfl, rfl, rfl, rfl⟩
theorem jb_X12_fault : jx_B 201 jk_X12_fault 12 (jx_isi 201) (some .int) 3 := ⟨rfl, rfl, rfl, rfl, rfl⟩
theorem jb_X12_word : jx_B 202 jk_X12_word 12 (jx_isi 202) (some .int) 2 := ⟨rfl, rfl, rfl, rfl, rfl⟩
theorem jb_X12_isList : jx_B 203 jk_X12_isList 12 (jx_isi 203) (some .boolean) 1 := ⟨rfl, rfl, rfl, rfl, rfl⟩
theorem jb_X12_list : jx_B 204 jk_X12_list 12 (jx_isi 204) (some .int) 4 := ⟨rfl, rfl, rfl, rfl, rfl⟩
theorem jb_X12_put : jx_B 205 jk_X12_put 12 (jx_isi 205) (some .int) 4 := ⟨rfl, rfl, rfl, rfl, rfl⟩
theorem jb_X12_look : jx_B 206 jk_X12_look 12 (jx_isi 206) (some .long) 3 := ⟨rfl, rfl, rfl, rfl, rfl⟩
theorem jb_X12_lays : jx_B 207 jk_X12_lays 12 (jx_isi 207) (some .int) 5 := ⟨rfl, rfl, rfl, rfl, rfl⟩
theorem jb_X12_from : jx_B 208 jk_X12_from 12 (jx_isi 208) (some .int) 5 := ⟨rfl, rfl, rfl, rfl, rfl⟩
theorem jb_X12_judge : jx_B 209 jk_X12_judge 12 (jx_isi 209) (some .int) 4 := ⟨rfl, rfl, rfl, rfl, rfl⟩
theorem jb_X12_image : jx_B 210 jk_X12_image 12 (jx_isi 210) (some .int) 2 := ⟨rfl, rfl, rfl, rfl, rfl⟩
theorem jb_X12_on : jx_B 211 jk_X12_on 12 (jx_isi 211) (some .int) 2 := ⟨rfl, rfl, rfl, rfl, rfl⟩
theorem jb_X12_count : jx_B 212 jk_X12_count 12 (jx_isi 212) (some .int) 2 := ⟨rfl, rfl, rfl, rfl, rfl⟩
theorem jb_law : jx_B 213 jk_law 13 (jx_isi 213) (some .boolean) 4 := ⟨rfl, rfl, rfl, rfl, rfl⟩
def jAl (n : Nat) (f : Int → Int) : jx_C := (101, (List.range n).map fun (k : Nat) => .long (jL (f (k : Int))))
/-! the memory: cells 0 .. 44 are the class's, 45 .. 61 the reference's; f: its ints, g: its references that change -/
def jc (b : Nat) (f : Int → Int) (g : Nat → Value) : jx_C :=
  match b with
  | 0 => (11, [.ref 1, .ref 19, .int (jI (f 2)), .ref 37, .ref 39, .ref 41, .ref 43, .ref 44])
  | 1 => (4, [.ref 2, .ref 3, .int (jI (f 2)), .ref 5, .ref 4, .int (jI (f 5))])
  | 2 => (5, [.int (jI (f 0)), .int (jI (f 1)), .int (jI (f 2))])
  | 3 => (102, [.ref 7, .ref 9, .ref 11, .ref 13, .ref 15, .ref 17])
  | 4 => (103, [g 0, g 1, g 2, g 3])
  | 5 => (8, [.ref 2, .ref 6, .int (jI (f 2))])
  | 6 => jA 25 f
  | 7 => (8, [.ref 2, .ref 8, .int (jI (f 2))])
  | 8 => jA 25 f
  | 9 => (8, [.ref 2, .ref 10, .int (jI (f 2))])
  | 10 => jA 25 f
  | 11 => (8, [.ref 2, .ref 12, .int (jI (f 2))])
  | 12 => jA 25 f
  | 13 => (8, [.ref 2, .ref 14, .int (jI (f 2))])
  | 14 => jA 25 f
  | 15 => (8, [.ref 2, .ref 16, .int (jI (f 2))])
  | 16 => jA 25 f
  | 17 => (8, [.ref 2, .ref 18, .int (jI (f 2))])
  | 18 => jA 25 f
  | 19 => (4, [.ref 20, .ref 21, .int (jI (f 2)), .ref 23, .ref 22, .int (jI (f 5))])
  | 20 => (5, [.int (jI (f 0)), .int (jI (f 1)), .int (jI (f 2))])
  | 21 => (102, [.ref 25, .ref 27, .ref 29, .ref 31, .ref 33, .ref 35])
  | 22 => (103, [g 0, g 1, g 2, g 3])
  | 23 => (8, [.ref 20, .ref 24, .int (jI (f 2))])
  | 24 => jA 25 f
  | 25 => (8, [.ref 20, .ref 26, .int (jI (f 2))])
  | 26 => jA 25 f
  | 27 => (8, [.ref 20, .ref 28, .int (jI (f 2))])
  | 28 => jA 25 f
  | 29 => (8, [.ref 20, .ref 30, .int (jI (f 2))])
  | 30 => jA 25 f
  | 31 => (8, [.ref 20, .ref 32, .int (jI (f 2))])
  | 32 => jA 25 f
  | 33 => (8, [.ref 20, .ref 34, .int (jI (f 2))])
  | 34 => jA 25 f
  | 35 => (8, [.ref 20, .ref 36, .int (jI (f 2))])
  | 36 => jA 25 f
  | 37 => (3, [.ref 38, .int (jI (f 1))])
  | 38 => jA 72 f
  | 39 => (3, [.ref 40, .int (jI (f 1))])
  | 40 => jA 110 f
  | 41 => (3, [.ref 42, .int (jI (f 1))])
  | 42 => jA 324 f
  | 43 => (104, [g 0, g 1, g 2])
  | 44 => jA 6 f
  | 45 => (12, [.ref 46, .int (jI (f 1)), .int (jI (f 2)), .int (jI (f 3)), .int (jI (f 4)), .int (jI (f 5)), .ref 47, .ref 48, .int (jI (f 8)), .ref 49, .ref 50, .ref 51, .ref 52, .ref 53, .ref 54, .int (jI (f 15)), .int (jI (f 16)), .int (jI (f 17)), .int (jI (f 18)), .int (jI (f 19)), .int (jI (f 20)), .ref 55, .int (jI (f 22)), .ref 56, .ref 57, .int (jI (f 25)), .int (jI (f 26)), .int (jI (f 27)), .int (jI (f 28)), .int (jI (f 29)), .ref 58, .ref 59, .int (jI (f 32)), .ref 60, .ref 61])
  | 46 => jA 8 f
  | 47 => jA 225 f
  | 48 => jA 9 f
  | 49 => jA 4 f
  | 50 => jA 4 f
  | 51 => jA 25 f
  | 52 => jA 2048 f
  | 53 => jA 2048 f
  | 54 => jAl 1024 f
  | 55 => jA 72 f
  | 56 => jA 3 f
  | 57 => jA 120 f
  | 58 => jA 150 f
  | 59 => jA 6 f
  | 60 => jA 4 f
  | 61 => jA 4 f
  | _ => (0, [])
def jh (m : Nat → Int → Int) (r : Nat → Nat → Value) (T : jx_H) : jx_H := (List.range 62).map (fun b => jc b (m b) (r b)) ++ T
def jU (m : Nat → Int → Int) (a : Nat) (f : Int → Int) : Nat → Int → Int := fun b => if b = a then f else m b
def jV (r : Nat → Nat → Value) (a : Nat) (g : Nat → Value) : Nat → Nat → Value := fun b => if b = a then g else r b
theorem jU_same (m : Nat → Int → Int) (a : Nat) (f : Int → Int) : jU m a f a = f := by simp [jU]
theorem jU_ne {m : Nat → Int → Int} {a b : Nat} {f : Int → Int} (h : b ≠ a) : jU m a f b = m b := by simp [jU, h]
theorem jU_jU (m : Nat → Int → Int) (a : Nat) (f g : Int → Int) : jU (jU m a f) a g = jU m a g := by
  funext b
  by_cases h : b = a <;> simp [jU, h]
theorem jU_self (m : Nat → Int → Int) (a : Nat) : jU m a (m a) = m := by
  funext b
  by_cases h : b = a
  · subst h; simp [jU]
  · simp [jU, h]
theorem jU_comm {m : Nat → Int → Int} {a b : Nat} (h : a ≠ b) (f g : Int → Int) : jU (jU m a f) b g = jU (jU m b g) a f := by
  funext c
  by_cases h1 : c = a
  · subst h1
    simp [jU, h]
  · by_cases h2 : c = b
    · subst h2
      simp [jU, h1]
    · simp [jU, h1, h2]
theorem ju_same (f : Int → Int) (k v : Int) : ju f k v k = v := by simp [ju]
theorem ju_ne {f : Int → Int} {k v j : Int} (h : j ≠ k) : ju f k v j = f j := by simp [ju, h]
theorem jh_len (m : Nat → Int → Int) (r : Nat → Nat → Value) (T : jx_H) : (jh m r T).length = 62 + T.length := by simp [jh]
theorem jh_at {m : Nat → Int → Int} {r : Nat → Nat → Value} {T : jx_H} {a : Nat} (h : Nat.blt a 62 = true) : (jh m r T)[a]? = some (jc a (m a) (r a)) := by
  have h2 : a < 62 := Nat.le_of_ble_eq_true h
  unfold jh
  rw [List.getElem?_append_left (by simpa using h2)]
  simp [h2]
theorem jh_tail {m : Nat → Int → Int} {r : Nat → Nat → Value} {T : jx_H} {k : Nat} : (jh m r T)[62 + k]? = T[k]? := by
  unfold jh
  rw [List.getElem?_append_right (by simp)]
  simp
theorem jh_push (m : Nat → Int → Int) (r : Nat → Nat → Value) (T : jx_H) (c : jx_C) : jh m r T ++ [c] = jh m r (T ++ [c]) := by simp [jh]
theorem jh_set {m : Nat → Int → Int} {r : Nat → Nat → Value} {T : jx_H} {a : Nat} {f : Int → Int} (h : Nat.blt a 62 = true) : (jh m r T).set a (jc a f (r a)) = jh (jU m a f) r T := by
  have h2 : a < 62 := Nat.le_of_ble_eq_true h
  unfold jh
  rw [List.set_append_left _ _ (by simpa using h2)]
  congr 1
  apply List.ext_getElem?
  intro j
  rw [List.getElem?_set]
  by_cases hj : a = j
  · subst hj
    simp [h2, jU]
  · have hj2 : ¬ j = a := fun z => hj z.symm
    rw [if_neg hj]
    by_cases h3 : j < 62
    · simp [h3, jU, hj2]
    · simp [h3]
theorem jh_setr {m : Nat → Int → Int} {r : Nat → Nat → Value} {T : jx_H} {a : Nat} {g : Nat → Value} (h : Nat.blt a 62 = true) : (jh m r T).set a (jc a (m a) g) = jh m (jV r a g) T := by
  have h2 : a < 62 := Nat.le_of_ble_eq_true h
  unfold jh
  rw [List.set_append_left _ _ (by simpa using h2)]
  congr 1
  apply List.ext_getElem?
  intro j
  rw [List.getElem?_set]
  by_cases hj : a = j
  · subst hj
    simp [h2, jV]
  · have hj2 : ¬ j = a := fun z => hj z.symm
    rw [if_neg hj]
    by_cases h3 : j < 62
    · simp [h3, jV, hj2]
    · simp [h3]
theorem jh_sett {m : Nat → Int → Int} {r : Nat → Nat → Value} {T : jx_H} {k : Nat} {c : jx_C} : (jh m r T).set (62 + k) c = jh m r (T.set k c) := by
  unfold jh
  rw [List.set_append_right _ _ (by simp)]
  simp
/-- walks: 0 .. 5 of now, 6 .. 11 of then, 12 the spare one of now -/
def jwa (i : Nat) : Nat := if i < 6 then 7 + 2 * i else if i < 12 then 13 + 2 * i else 5
def jwl (i : Nat) : Nat := jwa i + 1
def jws (i : Nat) : Nat := if i < 6 then 2 else if i < 12 then 20 else 2
theorem jw_cases {P : Nat → Prop} (h : ∀ i ∈ List.range 13, P i) {i : Nat} (hi : i < 13) : P i := h i (List.mem_range.mpr hi)
theorem jc_walk {i : Nat} (hi : i < 13) (f : Int → Int) (g : Nat → Value) : jc (jwa i) f g = (8, [.ref (jws i), .ref (jwl i), .int (jI (f 2))]) := by
  have key : ∀ i, i < 13 → jc (jwa i) f g = (8, [.ref (jws i), .ref (jwl i), .int (jI (f 2))])
    | 0, _ => rfl
    | 1, _ => rfl
    | 2, _ => rfl
    | 3, _ => rfl
    | 4, _ => rfl
    | 5, _ => rfl
    | 6, _ => rfl
    | 7, _ => rfl
    | 8, _ => rfl
    | 9, _ => rfl
    | 10, _ => rfl
    | 11, _ => rfl
    | 12, _ => rfl
    | n + 13, h => absurd h (by omega)
  exact key i hi
theorem jc_lamps {i : Nat} (hi : i < 13) (f : Int → Int) (g : Nat → Value) : jc (jwl i) f g = jA 25 f := by
  have key : ∀ i, i < 13 → jc (jwl i) f g = jA 25 f
    | 0, _ => rfl
    | 1, _ => rfl
    | 2, _ => rfl
    | 3, _ => rfl
    | 4, _ => rfl
    | 5, _ => rfl
    | 6, _ => rfl
    | 7, _ => rfl
    | 8, _ => rfl
    | 9, _ => rfl
    | 10, _ => rfl
    | 11, _ => rfl
    | 12, _ => rfl
    | n + 13, h => absurd h (by omega)
  exact key i hi
theorem jc_str {i : Nat} (hi : i < 13) (f : Int → Int) (g : Nat → Value) : jc (jws i) f g = (5, [.int (jI (f 0)), .int (jI (f 1)), .int (jI (f 2))]) := by
  have h : jws i = 2 ∨ jws i = 20 := by unfold jws; split <;> (try split) <;> simp
  rcases h with h | h <;> rw [h] <;> rfl
theorem jwa_lt {i : Nat} (hi : i < 13) : Nat.blt (jwa i) 62 = true := by
  apply Nat.ble_eq_true_of_le
  unfold jwa
  split <;> (try split) <;> omega
theorem jwl_lt {i : Nat} (hi : i < 13) : Nat.blt (jwl i) 62 = true := by
  apply Nat.ble_eq_true_of_le
  unfold jwl jwa
  split <;> (try split) <;> omega
theorem jws_lt {i : Nat} (hi : i < 13) : Nat.blt (jws i) 62 = true := by
  apply Nat.ble_eq_true_of_le
  unfold jws
  split <;> (try split) <;> omega
section JMEM
variable {m : Nat → Int → Int} {r : Nat → Nat → Value} {T : jx_H}
theorem jh_walk {i : Nat} (hi : i < 13) : (jh m r T)[jwa i]? = some (8, [.ref (jws i), .ref (jwl i), .int (jI (m (jwa i) 2))]) := by rw [jh_at (jwa_lt hi), jc_walk hi]
theorem jh_lamps {i : Nat} (hi : i < 13) : (jh m r T)[jwl i]? = some (jA 25 (m (jwl i))) := by rw [jh_at (jwl_lt hi), jc_lamps hi]
theorem jh_str {i : Nat} (hi : i < 13) : (jh m r T)[jws i]? = some (5, [.int (jI (m (jws i) 0)), .int (jI (m (jws i) 1)), .int (jI (m (jws i) 2))]) := by rw [jh_at (jws_lt hi), jc_str hi]
theorem jh_setl {i : Nat} (hi : i < 13) (f : Int → Int) : (jh m r T).set (jwl i) (jA 25 f) = jh (jU m (jwl i) f) r T := by rw [← jc_lamps hi f (r (jwl i)), jh_set (jwl_lt hi)]
theorem jh_sete {i : Nat} (hi : i < 13) (e : Int) : (jh m r T).set (jwa i) (8, [.ref (jws i), .ref (jwl i), .int (jI e)]) = jh (jU m (jwa i) (ju (m (jwa i)) 2 e)) r T := by
  rw [← jh_set (jwa_lt hi), jc_walk hi, ju_same]
end JMEM
/-! floorMod -/
theorem jI_xor_nonneg {a b : Int} (h1 : -2147483648 ≤ a) (h2 : a ≤ 2147483647) (h3 : 0 < b) (h4 : b ≤ 2147483647) : (0 : Int32) ≤ jI a ^^^ jI b ↔ 0 ≤ a := by
  have ha := jI_int h1 h2
  have hb := jI_int (a := b) (by omega) h4
  have e : ∀ x : Int32, (0 : Int32) ≤ x ↔ x.toBitVec.msb = false := by
    intro x
    rw [Int32.le_iff_toInt_le, Int32.toInt_zero, BitVec.msb_eq_toInt]
    show 0 ≤ x.toInt ↔ decide (x.toInt < 0) = false
    rw [decide_eq_false_iff_not]
    omega
  rw [e, Int32.toBitVec_xor, BitVec.msb_xor, BitVec.msb_eq_toInt, BitVec.msb_eq_toInt]
  have ha' : (jI a).toBitVec.toInt = a := ha
  have hb' : (jI b).toBitVec.toInt = b := hb
  rw [ha', hb']
  have : decide (b < 0) = false := decide_eq_false (by omega)
  rw [this, Bool.xor_false, decide_eq_false_iff_not]
  omega
theorem jx_fm_I {a b : Int} (h1 : -2147483648 ≤ a) (h2 : a ≤ 2147483647) (h3 : 0 < b) (h4 : b ≤ 2147483647) : jx_fm (jI a) (jI b) = jI (a % b) := by
  unfold jx_fm
  by_cases h0 : 0 ≤ a
  · rw [if_pos ((jI_xor_nonneg h1 h2 h3 h4).mpr h0), jI_rem h0 h2 h3 h4]
  · rw [if_neg (fun z => h0 ((jI_xor_nonneg h1 h2 h3 h4).mp z))]
    have hne : jI b ≠ -1 := by
      intro h
      have := congrArg Int32.toInt h
      rw [jI_int (by omega) h4] at this
      have e1 : ((-1 : Int32)).toInt = -1 := by decide
      omega
    have ht : a.tdiv b = -((-a) / b) := by
      rw [← Int.tdiv_eq_ediv_of_nonneg (by omega : 0 ≤ -a), Int.neg_tdiv, Int.neg_neg]
    have hd0 : 0 ≤ (-a) / b := Int.ediv_nonneg (by omega) (by omega)
    have hd1 : (-a) / b ≤ -a := Int.ediv_le_self b (by omega)
    have hdiv : jI a / jI b = jI (-((-a) / b)) := by
      apply Int32.toInt_inj.mp
      rw [Int32.toInt_div_of_ne_right _ _ hne, jI_int h1 h2, jI_int (by omega) h4, ht, jI_int (by omega) (by omega)]
    have hm := Int.emod_add_mul_ediv (-a) b
    have hx0 := Int.emod_nonneg (-a) (by omega : b ≠ 0)
    have hx1 := Int.emod_lt_of_pos (-a) h3
    have hr : jI a - jI a / jI b * jI b = jI (-((-a) % b)) := by
      rw [hdiv, jI_mul, jI_sub]
      congr 1
      rw [Int.neg_mul, Int.mul_comm]
      omega
    rw [hr]
    by_cases hz : (-a) % b = 0
    · have e0 : a % b = 0 := by
        have h5 : b ∣ -a := Int.dvd_of_emod_eq_zero hz
        exact Int.emod_eq_zero_of_dvd ((Int.dvd_neg).mp h5)
      rw [hz, e0, Int.neg_zero, if_pos jI_0.symm]
    · rw [if_neg (by
        rw [jI_0, jI_eq (by omega) (by omega) (by decide) (by decide)]
        omega), jI_add]
      congr 1
      have e2 : a = (-((-a) % b) + b) + b * (-((-a) / b) - 1) := by
        rw [Int.mul_sub, Int.mul_neg]
        omega
      have e3 : a % b = (-((-a) % b) + b) % b := by
        conv => lhs; rw [e2]
        rw [Int.add_mul_emod_self_left]
      have e4 : (-((-a) % b) + b) % b = -((-a) % b) + b := Int.emod_eq_of_lt (by omega) (by omega)
      rw [e3, e4]
theorem je_fm {sc : Nat × (Nat → Int32)} {d M pc pc' : Nat} {ls st : List Value} {σ : jx_H} {Q : Option Value → jx_H → Prop} {lst : List (Nat × Instr × Nat)} {own mx : Nat} {isi : Bool} {rt : Option FieldType} (hB : jx_B M lst own isi rt mx) {idx len : Nat} {a b : Int} {ps : List Nat} (hI : jx_lk lst pc = some (.invokestatic idx, len)) (hp : pc + len = pc') (hm : jx_lk (jx_ml.getD own []) idx = some (3, ps)) (hs : Nat.ble (jx_sl (.int (jI a) :: st)) 20 = true) (h1 : -2147483648 ≤ a) (h2 : a ≤ 2147483647) (h3 : 0 < b) (h4 : b ≤ 2147483647) (k : je sc d M pc' ls (.int (jI (a % b)) :: st) σ Q) : je sc d M pc ls (.int (jI b) :: .int (jI a) :: st) σ Q := by
  refine je_mem hB hI hp (σ1 := σ) (st' := .int (jI (a % b)) :: st) ?_ k
  simp only [jx_mem, hm, hs, Bool.not_true, cond_false, jx_mth, if_neg (jI_ne0 h3 h4), jx_fm_I h1 h2 h3 h4]

