/-! the words, by their places in the tables -/
def z_G : List Cond := lw_tbl.filter goodWord
theorem z_m0 {i : Nat} {w : Cond} (h : (k2_sels lw_privs)[i]? = some w) (g : goodWord w = true) : w ∈ z_G := List.mem_filter.mpr ⟨List.mem_append_left _ (List.mem_of_getElem? h), g⟩
theorem z_m1 {i : Nat} {w : Cond} (h : tables_1_1[i]? = some w) (g : goodWord w = true) : w ∈ z_G := List.mem_filter.mpr ⟨List.mem_append_right _ (List.mem_append_left _ (List.mem_of_getElem? h)), g⟩
theorem z_m2 {i : Nat} {w : Cond} (h : tables_1_2[i]? = some w) (g : goodWord w = true) : w ∈ z_G := List.mem_filter.mpr ⟨List.mem_append_right _ (List.mem_append_right _ (List.mem_append_left _ (List.mem_of_getElem? h))), g⟩
theorem z_m3 {i : Nat} {w : Cond} (h : tables_1_3[i]? = some w) (g : goodWord w = true) : w ∈ z_G := List.mem_filter.mpr ⟨List.mem_append_right _ (List.mem_append_right _ (List.mem_append_right _ (List.mem_append_left _ (List.mem_of_getElem? h)))), g⟩
theorem z_m4 {i : Nat} {w : Cond} (h : tables_1_4[i]? = some w) (g : goodWord w = true) : w ∈ z_G := List.mem_filter.mpr ⟨List.mem_append_right _ (List.mem_append_right _ (List.mem_append_right _ (List.mem_append_right _ (List.mem_of_getElem? h)))), g⟩
theorem z_g0 : Cond.code yX0_append cX0_append 6 (some .int) ∈ z_G := z_m2 (i := 83) rfl rfl
theorem z_g1 : Cond.initialized RX0 ∈ z_G := z_m1 (i := 4) rfl rfl
theorem z_g2 : Cond.instanceMethod yX0_append ∈ z_G := z_m2 (i := 81) rfl rfl
theorem z_g3 : Cond.selects RX0 yX0_append yX0_append ∈ z_G := z_m2 (i := 82) rfl rfl
theorem z_g4 : Cond.code yX0_copyFrom cX0_copyFrom 2 none ∈ z_G := z_m2 (i := 61) rfl rfl
theorem z_g5 : Cond.instanceMethod yX0_copyFrom ∈ z_G := z_m2 (i := 59) rfl rfl
theorem z_g6 : Cond.selects RX0 yX0_copyFrom yX0_copyFrom ∈ z_G := z_m2 (i := 60) rfl rfl
theorem z_g7 : Cond.code yX0_fillBuckets cX0_fillBuckets 3 none ∈ z_G := z_m3 (i := 11) rfl rfl
theorem z_g8 : Cond.instanceMethod yX0_fillBuckets ∈ z_G := z_m3 (i := 9) rfl rfl
theorem z_g9 : Cond.selects RX0 yX0_fillBuckets yX0_fillBuckets ∈ z_G := z_m3 (i := 10) rfl rfl
theorem z_g10 : Cond.code yX0_has cX0_has 2 (some .boolean) ∈ z_G := z_m2 (i := 95) rfl rfl
theorem z_g11 : Cond.instanceMethod yX0_has ∈ z_G := z_m2 (i := 93) rfl rfl
theorem z_g12 : Cond.selects RX0 yX0_has yX0_has ∈ z_G := z_m2 (i := 94) rfl rfl
theorem z_g13 : Cond.code yX0_heldOf cX0_heldOf 4 (some .int) ∈ z_G := z_m3 (i := 78) rfl rfl
theorem z_g14 : Cond.instanceMethod yX0_heldOf ∈ z_G := z_m3 (i := 76) rfl rfl
theorem z_g15 : Cond.selects RX0 yX0_heldOf yX0_heldOf ∈ z_G := z_m3 (i := 77) rfl rfl
theorem z_g16 : Cond.code yX0_takeUnits cX0_takeUnits 3 (some .int) ∈ z_G := z_m3 (i := 20) rfl rfl
theorem z_g17 : Cond.instanceMethod yX0_takeUnits ∈ z_G := z_m3 (i := 18) rfl rfl
theorem z_g18 : Cond.selects RX0 yX0_takeUnits yX0_takeUnits ∈ z_G := z_m3 (i := 19) rfl rfl
theorem z_g19 : Cond.code yX0_unitsOf cX0_unitsOf 4 (some .int) ∈ z_G := z_m3 (i := 87) rfl rfl
theorem z_g20 : Cond.instanceMethod yX0_unitsOf ∈ z_G := z_m3 (i := 85) rfl rfl
theorem z_g21 : Cond.selects RX0 yX0_unitsOf yX0_unitsOf ∈ z_G := z_m3 (i := 86) rfl rfl
theorem z_g22 : Cond.code yX1_append cX1_append 3 (some .int) ∈ z_G := z_m2 (i := 71) rfl rfl
theorem z_g23 : Cond.initialized RX1 ∈ z_G := z_m1 (i := 3) rfl rfl
theorem z_g24 : Cond.instanceMethod yX1_append ∈ z_G := z_m2 (i := 69) rfl rfl
theorem z_g25 : Cond.selects RX1 yX1_append yX1_append ∈ z_G := z_m2 (i := 70) rfl rfl
theorem z_g26 : Cond.code yX1_copyFrom cX1_copyFrom 2 none ∈ z_G := z_m2 (i := 54) rfl rfl
theorem z_g27 : Cond.instanceMethod yX1_copyFrom ∈ z_G := z_m2 (i := 52) rfl rfl
theorem z_g28 : Cond.selects RX1 yX1_copyFrom yX1_copyFrom ∈ z_G := z_m2 (i := 53) rfl rfl
theorem z_g29 : Cond.code yX1_has cX1_has 2 (some .boolean) ∈ z_G := z_m2 (i := 79) rfl rfl
theorem z_g30 : Cond.instanceMethod yX1_has ∈ z_G := z_m2 (i := 77) rfl rfl
theorem z_g31 : Cond.selects RX1 yX1_has yX1_has ∈ z_G := z_m2 (i := 78) rfl rfl
theorem z_g32 : Cond.code yX2_dropOldest cX2_dropOldest 3 none ∈ z_G := z_m2 (i := 42) rfl rfl
theorem z_g33 : Cond.initialized RX2 ∈ z_G := z_m1 (i := 6) rfl rfl
theorem z_g34 : Cond.instanceMethod yX2_dropOldest ∈ z_G := z_m2 (i := 41) rfl rfl
theorem z_g35 : Cond.selects RX2 yX2_dropOldest yX2_dropOldest ∈ z_G := z_m0 (i := 0) rfl rfl
theorem z_g36 : Cond.code yX2_push cX2_push 3 none ∈ z_G := z_m2 (i := 38) rfl rfl
theorem z_g37 : Cond.instanceMethod yX2_push ∈ z_G := z_m2 (i := 36) rfl rfl
theorem z_g38 : Cond.selects RX2 yX2_push yX2_push ∈ z_G := z_m2 (i := 37) rfl rfl
theorem z_g39 : Cond.code yX2_roomAt cX2_roomAt 2 (some (.object "DeficitCircles$State")) ∈ z_G := z_m2 (i := 46) rfl rfl
theorem z_g40 : Cond.instanceMethod yX2_roomAt ∈ z_G := z_m2 (i := 45) rfl rfl
theorem z_g41 : Cond.selects RX2 yX2_roomAt yX2_roomAt ∈ z_G := z_m0 (i := 1) rfl rfl
theorem z_g42 : Cond.code yX2_takeLatest cX2_takeLatest 3 none ∈ z_G := z_m3 (i := 61) rfl rfl
theorem z_g43 : Cond.instanceMethod yX2_takeLatest ∈ z_G := z_m3 (i := 59) rfl rfl
theorem z_g44 : Cond.selects RX2 yX2_takeLatest yX2_takeLatest ∈ z_G := z_m3 (i := 60) rfl rfl
theorem z_g45 : Cond.code yX3_allSizes cX3_allSizes 1 (some .int) ∈ z_G := z_m3 (i := 164) rfl rfl
theorem z_g46 : Cond.initialized RX3 ∈ z_G := z_m1 (i := 5) rfl rfl
theorem z_g47 : Cond.instanceMethod yX3_allSizes ∈ z_G := z_m3 (i := 162) rfl rfl
theorem z_g48 : Cond.selects RX3 yX3_allSizes yX3_allSizes ∈ z_G := z_m3 (i := 163) rfl rfl
theorem z_g49 : Cond.code yX3_append cX3_append 5 (some .int) ∈ z_G := z_m2 (i := 121) rfl rfl
theorem z_g50 : Cond.instanceMethod yX3_append ∈ z_G := z_m2 (i := 119) rfl rfl
theorem z_g51 : Cond.selects RX3 yX3_append yX3_append ∈ z_G := z_m2 (i := 120) rfl rfl
theorem z_g52 : Cond.code yX3_copyFrom cX3_copyFrom 2 none ∈ z_G := z_m2 (i := 66) rfl rfl
theorem z_g53 : Cond.instanceMethod yX3_copyFrom ∈ z_G := z_m2 (i := 64) rfl rfl
theorem z_g54 : Cond.selects RX3 yX3_copyFrom yX3_copyFrom ∈ z_G := z_m2 (i := 65) rfl rfl
theorem z_g55 : Cond.code yX3_firstOf cX3_firstOf 4 (some .int) ∈ z_G := z_m2 (i := 209) rfl rfl
theorem z_g56 : Cond.instanceMethod yX3_firstOf ∈ z_G := z_m2 (i := 207) rfl rfl
theorem z_g57 : Cond.selects RX3 yX3_firstOf yX3_firstOf ∈ z_G := z_m2 (i := 208) rfl rfl
theorem z_g58 : Cond.code yX3_has cX3_has 2 (some .boolean) ∈ z_G := z_m2 (i := 145) rfl rfl
theorem z_g59 : Cond.instanceMethod yX3_has ∈ z_G := z_m2 (i := 143) rfl rfl
theorem z_g60 : Cond.selects RX3 yX3_has yX3_has ∈ z_G := z_m2 (i := 144) rfl rfl
theorem z_g61 : Cond.code yX3_isFull cX3_isFull 1 (some .boolean) ∈ z_G := z_m2 (i := 113) rfl rfl
theorem z_g62 : Cond.instanceMethod yX3_isFull ∈ z_G := z_m2 (i := 111) rfl rfl
theorem z_g63 : Cond.selects RX3 yX3_isFull yX3_isFull ∈ z_G := z_m2 (i := 112) rfl rfl
theorem z_g64 : Cond.code yX3_isWaiting cX3_isWaiting 2 (some .boolean) ∈ z_G := z_m2 (i := 158) rfl rfl
theorem z_g65 : Cond.instanceMethod yX3_isWaiting ∈ z_G := z_m2 (i := 156) rfl rfl
theorem z_g66 : Cond.selects RX3 yX3_isWaiting yX3_isWaiting ∈ z_G := z_m2 (i := 157) rfl rfl
theorem z_g67 : Cond.code yX3_leaveLine cX3_leaveLine 4 none ∈ z_G := z_m2 (i := 218) rfl rfl
theorem z_g68 : Cond.instanceMethod yX3_leaveLine ∈ z_G := z_m2 (i := 216) rfl rfl
theorem z_g69 : Cond.selects RX3 yX3_leaveLine yX3_leaveLine ∈ z_G := z_m2 (i := 217) rfl rfl
theorem z_g70 : Cond.code yX3_sizesAheadOf cX3_sizesAheadOf 5 (some .int) ∈ z_G := z_m3 (i := 143) rfl rfl
theorem z_g71 : Cond.instanceMethod yX3_sizesAheadOf ∈ z_G := z_m3 (i := 141) rfl rfl
theorem z_g72 : Cond.selects RX3 yX3_sizesAheadOf yX3_sizesAheadOf ∈ z_G := z_m3 (i := 142) rfl rfl
theorem z_g73 : Cond.code yX3_sizesOf cX3_sizesOf 5 (some .int) ∈ z_G := z_m3 (i := 96) rfl rfl
theorem z_g74 : Cond.instanceMethod yX3_sizesOf ∈ z_G := z_m3 (i := 94) rfl rfl
theorem z_g75 : Cond.selects RX3 yX3_sizesOf yX3_sizesOf ∈ z_G := z_m3 (i := 95) rfl rfl
theorem z_g76 : Cond.code yX3_waitingAt cX3_waitingAt 2 (some .int) ∈ z_G := z_m2 (i := 141) rfl rfl
theorem z_g77 : Cond.instanceMethod yX3_waitingAt ∈ z_G := z_m2 (i := 139) rfl rfl
theorem z_g78 : Cond.selects RX3 yX3_waitingAt yX3_waitingAt ∈ z_G := z_m2 (i := 140) rfl rfl
theorem z_g79 : Cond.code yX3_waitsOf cX3_waitsOf 5 (some .int) ∈ z_G := z_m2 (i := 233) rfl rfl
theorem z_g80 : Cond.instanceMethod yX3_waitsOf ∈ z_G := z_m2 (i := 231) rfl rfl
theorem z_g81 : Cond.selects RX3 yX3_waitsOf yX3_waitsOf ∈ z_G := z_m2 (i := 232) rfl rfl
theorem z_g82 : Cond.code yX4_admit cX4_admit 3 (some .int) ∈ z_G := z_m2 (i := 117) rfl rfl
theorem z_g83 : Cond.initialized RX4 ∈ z_G := z_m1 (i := 2) rfl rfl
theorem z_g84 : Cond.instanceMethod yX4_admit ∈ z_G := z_m2 (i := 115) rfl rfl
theorem z_g85 : Cond.selects RX4 yX4_admit yX4_admit ∈ z_G := z_m2 (i := 116) rfl rfl
theorem z_g86 : Cond.code yX4_ageFor cX4_ageFor 2 (some .int) ∈ z_G := z_m2 (i := 153) rfl rfl
theorem z_g87 : Cond.instanceMethod yX4_ageFor ∈ z_G := z_m2 (i := 151) rfl rfl
theorem z_g88 : Cond.selects RX4 yX4_ageFor yX4_ageFor ∈ z_G := z_m2 (i := 152) rfl rfl
theorem z_g89 : Cond.code yX4_begin cX4_begin 2 none ∈ z_G := z_m2 (i := 214) rfl rfl
theorem z_g90 : Cond.instanceMethod yX4_begin ∈ z_G := z_m2 (i := 212) rfl rfl
theorem z_g91 : Cond.selects RX4 yX4_begin yX4_begin ∈ z_G := z_m2 (i := 213) rfl rfl
theorem z_g92 : Cond.code yX4_copyFrom cX4_copyFrom 2 none ∈ z_G := z_m2 (i := 50) rfl rfl
theorem z_g93 : Cond.instanceMethod yX4_copyFrom ∈ z_G := z_m2 (i := 48) rfl rfl
theorem z_g94 : Cond.selects RX4 yX4_copyFrom yX4_copyFrom ∈ z_G := z_m2 (i := 49) rfl rfl
theorem z_g95 : Cond.code yX4_doneJobs cX4_doneJobs 1 (some .int) ∈ z_G := z_m3 (i := 156) rfl rfl
theorem z_g96 : Cond.instanceMethod yX4_doneJobs ∈ z_G := z_m3 (i := 154) rfl rfl
theorem z_g97 : Cond.selects RX4 yX4_doneJobs yX4_doneJobs ∈ z_G := z_m3 (i := 155) rfl rfl
theorem z_g98 : Cond.code yX4_doneOf cX4_doneOf 4 (some .int) ∈ z_G := z_m3 (i := 101) rfl rfl
theorem z_g99 : Cond.instanceMethod yX4_doneOf ∈ z_G := z_m3 (i := 99) rfl rfl
theorem z_g100 : Cond.selects RX4 yX4_doneOf yX4_doneOf ∈ z_G := z_m3 (i := 100) rfl rfl
theorem z_g101 : Cond.code yX4_endOf cX4_endOf 2 (some .int) ∈ z_G := z_m3 (i := 115) rfl rfl
theorem z_g102 : Cond.instanceMethod yX4_endOf ∈ z_G := z_m3 (i := 113) rfl rfl
theorem z_g103 : Cond.selects RX4 yX4_endOf yX4_endOf ∈ z_G := z_m3 (i := 114) rfl rfl
theorem z_g104 : Cond.code yX4_firstOld cX4_firstOld 3 (some .int) ∈ z_G := z_m2 (i := 137) rfl rfl
theorem z_g105 : Cond.instanceMethod yX4_firstOld ∈ z_G := z_m2 (i := 135) rfl rfl
theorem z_g106 : Cond.selects RX4 yX4_firstOld yX4_firstOld ∈ z_G := z_m2 (i := 136) rfl rfl
theorem z_g107 : Cond.code yX4_groupFor cX4_groupFor 2 (some .int) ∈ z_G := z_m2 (i := 172) rfl rfl
theorem z_g108 : Cond.instanceMethod yX4_groupFor ∈ z_G := z_m2 (i := 170) rfl rfl
theorem z_g109 : Cond.selects RX4 yX4_groupFor yX4_groupFor ∈ z_G := z_m2 (i := 171) rfl rfl
theorem z_g110 : Cond.code yX4_isOld cX4_isOld 3 (some .boolean) ∈ z_G := z_m2 (i := 149) rfl rfl
theorem z_g111 : Cond.instanceMethod yX4_isOld ∈ z_G := z_m2 (i := 147) rfl rfl
theorem z_g112 : Cond.selects RX4 yX4_isOld yX4_isOld ∈ z_G := z_m2 (i := 148) rfl rfl
theorem z_g113 : Cond.code yX4_leftOf cX4_leftOf 3 (some .int) ∈ z_G := z_m3 (i := 119) rfl rfl
theorem z_g114 : Cond.instanceMethod yX4_leftOf ∈ z_G := z_m3 (i := 117) rfl rfl
theorem z_g115 : Cond.selects RX4 yX4_leftOf yX4_leftOf ∈ z_G := z_m3 (i := 118) rfl rfl
theorem z_g116 : Cond.code yX4_noteWait cX4_noteWait 3 none ∈ z_G := z_m2 (i := 222) rfl rfl
theorem z_g117 : Cond.instanceMethod yX4_noteWait ∈ z_G := z_m2 (i := 221) rfl rfl
theorem z_g118 : Cond.selects RX4 yX4_noteWait yX4_noteWait ∈ z_G := z_m0 (i := 11) rfl rfl
theorem z_g119 : Cond.code yX4_oldJobs cX4_oldJobs 3 (some .int) ∈ z_G := z_m3 (i := 160) rfl rfl
theorem z_g120 : Cond.instanceMethod yX4_oldJobs ∈ z_G := z_m3 (i := 158) rfl rfl
theorem z_g121 : Cond.selects RX4 yX4_oldJobs yX4_oldJobs ∈ z_G := z_m3 (i := 159) rfl rfl
theorem z_g122 : Cond.code yX4_payFromClass cX4_payFromClass 4 none ∈ z_G := z_m2 (i := 229) rfl rfl
theorem z_g123 : Cond.instanceMethod yX4_payFromClass ∈ z_G := z_m2 (i := 228) rfl rfl
theorem z_g124 : Cond.selects RX4 yX4_payFromClass yX4_payFromClass ∈ z_G := z_m0 (i := 12) rfl rfl
theorem z_g125 : Cond.code yX4_payFromGroup cX4_payFromGroup 4 none ∈ z_G := z_m2 (i := 238) rfl rfl
theorem z_g126 : Cond.instanceMethod yX4_payFromGroup ∈ z_G := z_m2 (i := 237) rfl rfl
theorem z_g127 : Cond.selects RX4 yX4_payFromGroup yX4_payFromGroup ∈ z_G := z_m0 (i := 13) rfl rfl
theorem z_g128 : Cond.code yX4_serveUnit cX4_serveUnit 2 (some .int) ∈ z_G := z_m3 (i := 7) rfl rfl
theorem z_g129 : Cond.instanceMethod yX4_serveUnit ∈ z_G := z_m3 (i := 5) rfl rfl
theorem z_g130 : Cond.selects RX4 yX4_serveUnit yX4_serveUnit ∈ z_G := z_m3 (i := 6) rfl rfl
theorem z_g131 : Cond.code yX4_sizesOfGroup cX4_sizesOfGroup 5 (some .int) ∈ z_G := z_m3 (i := 83) rfl rfl
theorem z_g132 : Cond.instanceMethod yX4_sizesOfGroup ∈ z_G := z_m3 (i := 81) rfl rfl
theorem z_g133 : Cond.selects RX4 yX4_sizesOfGroup yX4_sizesOfGroup ∈ z_G := z_m3 (i := 82) rfl rfl
theorem z_g134 : Cond.code yX4_stageOf cX4_stageOf 2 (some .int) ∈ z_G := z_m3 (i := 105) rfl rfl
theorem z_g135 : Cond.instanceMethod yX4_stageOf ∈ z_G := z_m3 (i := 103) rfl rfl
theorem z_g136 : Cond.selects RX4 yX4_stageOf yX4_stageOf ∈ z_G := z_m3 (i := 104) rfl rfl
theorem z_g137 : Cond.code yX4_waitsOfGroup cX4_waitsOfGroup 4 (some .int) ∈ z_G := z_m3 (i := 3) rfl rfl
theorem z_g138 : Cond.instanceMethod yX4_waitsOfGroup ∈ z_G := z_m3 (i := 1) rfl rfl
theorem z_g139 : Cond.selects RX4 yX4_waitsOfGroup yX4_waitsOfGroup ∈ z_G := z_m3 (i := 2) rfl rfl
theorem z_g140 : Cond.code yX4_whyNotAdmit cX4_whyNotAdmit 3 (some .int) ∈ z_G := z_m2 (i := 107) rfl rfl
theorem z_g141 : Cond.instanceMethod yX4_whyNotAdmit ∈ z_G := z_m2 (i := 105) rfl rfl
theorem z_g142 : Cond.selects RX4 yX4_whyNotAdmit yX4_whyNotAdmit ∈ z_G := z_m2 (i := 106) rfl rfl
theorem z_g143 : Cond.code yX5_append cX5_append 2 (some .int) ∈ z_G := z_m3 (i := 28) rfl rfl
theorem z_g144 : Cond.initialized RX5 ∈ z_G := z_m1 (i := 7) rfl rfl
theorem z_g145 : Cond.instanceMethod yX5_append ∈ z_G := z_m3 (i := 26) rfl rfl
theorem z_g146 : Cond.selects RX5 yX5_append yX5_append ∈ z_G := z_m3 (i := 27) rfl rfl
theorem z_g147 : Cond.code yX5_digitAt cX5_digitAt 2 (some .int) ∈ z_G := z_m3 (i := 48) rfl rfl
theorem z_g148 : Cond.instanceMethod yX5_digitAt ∈ z_G := z_m3 (i := 46) rfl rfl
theorem z_g149 : Cond.selects RX5 yX5_digitAt yX5_digitAt ∈ z_G := z_m3 (i := 47) rfl rfl
theorem z_g150 : Cond.code yX5_fault cX5_fault 3 (some .int) ∈ z_G := z_m3 (i := 40) rfl rfl
theorem z_g151 : Cond.instanceMethod yX5_fault ∈ z_G := z_m3 (i := 38) rfl rfl
theorem z_g152 : Cond.selects RX5 yX5_fault yX5_fault ∈ z_G := z_m3 (i := 39) rfl rfl
theorem z_g153 : Cond.code yX5_partAfter cX5_partAfter 3 (some .int) ∈ z_G := z_m3 (i := 43) rfl rfl
theorem z_g154 : Cond.static yX5_partAfter ∈ z_G := z_m3 (i := 42) rfl rfl
theorem z_g155 : Cond.code yX5_sizeAt cX5_sizeAt 4 (some .int) ∈ z_G := z_m3 (i := 52) rfl rfl
theorem z_g156 : Cond.instanceMethod yX5_sizeAt ∈ z_G := z_m3 (i := 50) rfl rfl
theorem z_g157 : Cond.selects RX5 yX5_sizeAt yX5_sizeAt ∈ z_G := z_m3 (i := 51) rfl rfl
theorem z_g158 : Cond.code yX6_lookAt cX6_lookAt 5 (some .int) ∈ z_G := z_m2 (i := 182) rfl rfl
theorem z_g159 : Cond.initialized RX6 ∈ z_G := z_m1 (i := 8) rfl rfl
theorem z_g160 : Cond.instanceMethod yX6_lookAt ∈ z_G := z_m2 (i := 181) rfl rfl
theorem z_g161 : Cond.selects RX6 yX6_lookAt yX6_lookAt ∈ z_G := z_m0 (i := 6) rfl rfl
theorem z_g162 : Cond.code yX6_nextJob cX6_nextJob 4 (some .int) ∈ z_G := z_m2 (i := 133) rfl rfl
theorem z_g163 : Cond.instanceMethod yX6_nextJob ∈ z_G := z_m2 (i := 131) rfl rfl
theorem z_g164 : Cond.selects RX6 yX6_nextJob yX6_nextJob ∈ z_G := z_m2 (i := 132) rfl rfl
theorem z_g165 : Cond.code yX6_noteFirstJobs cX6_noteFirstJobs 3 none ∈ z_G := z_m2 (i := 162) rfl rfl
theorem z_g166 : Cond.instanceMethod yX6_noteFirstJobs ∈ z_G := z_m2 (i := 161) rfl rfl
theorem z_g167 : Cond.selects RX6 yX6_noteFirstJobs yX6_noteFirstJobs ∈ z_G := z_m0 (i := 3) rfl rfl
theorem z_g168 : Cond.code yX6_noteJob cX6_noteJob 5 none ∈ z_G := z_m2 (i := 167) rfl rfl
theorem z_g169 : Cond.instanceMethod yX6_noteJob ∈ z_G := z_m2 (i := 166) rfl rfl
theorem z_g170 : Cond.selects RX6 yX6_noteJob yX6_noteJob ∈ z_G := z_m0 (i := 4) rfl rfl
theorem z_g171 : Cond.code yX6_presentGroupIsNext cX6_presentGroupIsNext 4 (some .boolean) ∈ z_G := z_m2 (i := 178) rfl rfl
theorem z_g172 : Cond.instanceMethod yX6_presentGroupIsNext ∈ z_G := z_m2 (i := 177) rfl rfl
theorem z_g173 : Cond.selects RX6 yX6_presentGroupIsNext yX6_presentGroupIsNext ∈ z_G := z_m0 (i := 5) rfl rfl
theorem z_g174 : Cond.code yX6_roundsBelow cX6_roundsBelow 3 (some .int) ∈ z_G := z_m2 (i := 194) rfl rfl
theorem z_g175 : Cond.static yX6_roundsBelow ∈ z_G := z_m2 (i := 193) rfl rfl
theorem z_g176 : Cond.code yX6_skipClassRounds cX6_skipClassRounds 6 none ∈ z_G := z_m2 (i := 190) rfl rfl
theorem z_g177 : Cond.instanceMethod yX6_skipClassRounds ∈ z_G := z_m2 (i := 189) rfl rfl
theorem z_g178 : Cond.selects RX6 yX6_skipClassRounds yX6_skipClassRounds ∈ z_G := z_m0 (i := 8) rfl rfl
theorem z_g179 : Cond.code yX6_skipGroupRounds cX6_skipGroupRounds 5 none ∈ z_G := z_m2 (i := 205) rfl rfl
theorem z_g180 : Cond.instanceMethod yX6_skipGroupRounds ∈ z_G := z_m2 (i := 204) rfl rfl
theorem z_g181 : Cond.selects RX6 yX6_skipGroupRounds yX6_skipGroupRounds ∈ z_G := z_m0 (i := 10) rfl rfl
theorem z_g182 : Cond.code yX6_walkClasses cX6_walkClasses 6 (some .boolean) ∈ z_G := z_m2 (i := 186) rfl rfl
theorem z_g183 : Cond.instanceMethod yX6_walkClasses ∈ z_G := z_m2 (i := 185) rfl rfl
theorem z_g184 : Cond.selects RX6 yX6_walkClasses yX6_walkClasses ∈ z_G := z_m0 (i := 7) rfl rfl
theorem z_g185 : Cond.code yX6_walkGroups cX6_walkGroups 6 (some .boolean) ∈ z_G := z_m2 (i := 201) rfl rfl
theorem z_g186 : Cond.instanceMethod yX6_walkGroups ∈ z_G := z_m2 (i := 200) rfl rfl
theorem z_g187 : Cond.selects RX6 yX6_walkGroups yX6_walkGroups ∈ z_G := z_m0 (i := 9) rfl rfl
theorem z_g188 : Cond.code yX7_add cX7_add 4 (some .int) ∈ z_G := z_m2 (i := 103) rfl rfl
theorem z_g189 : Cond.initialized RX7 ∈ z_G := z_m1 (i := 1) rfl rfl
theorem z_g190 : Cond.instanceMethod yX7_add ∈ z_G := z_m2 (i := 101) rfl rfl
theorem z_g191 : Cond.selects RX7 yX7_add yX7_add ∈ z_G := z_m2 (i := 102) rfl rfl
theorem z_g192 : Cond.code yX7_addClass cX7_addClass 5 (some .int) ∈ z_G := z_m2 (i := 75) rfl rfl
theorem z_g193 : Cond.instanceMethod yX7_addClass ∈ z_G := z_m2 (i := 73) rfl rfl
theorem z_g194 : Cond.selects RX7 yX7_addClass yX7_addClass ∈ z_G := z_m2 (i := 74) rfl rfl
theorem z_g195 : Cond.code yX7_addGroup cX7_addGroup 2 (some .int) ∈ z_G := z_m2 (i := 28) rfl rfl
theorem z_g196 : Cond.instanceMethod yX7_addGroup ∈ z_G := z_m2 (i := 26) rfl rfl
theorem z_g197 : Cond.selects RX7 yX7_addGroup yX7_addGroup ∈ z_G := z_m2 (i := 27) rfl rfl
theorem z_g198 : Cond.code yX7_beginAhead cX7_beginAhead 4 (some .int) ∈ z_G := z_m3 (i := 128) rfl rfl
theorem z_g199 : Cond.instanceMethod yX7_beginAhead ∈ z_G := z_m3 (i := 127) rfl rfl
theorem z_g200 : Cond.selects RX7 yX7_beginAhead yX7_beginAhead ∈ z_G := z_m0 (i := 14) rfl rfl
theorem z_g201 : Cond.code yX7_beginsAt cX7_beginsAt 2 (some .int) ∈ z_G := z_m3 (i := 132) rfl rfl
theorem z_g202 : Cond.instanceMethod yX7_beginsAt ∈ z_G := z_m3 (i := 130) rfl rfl
theorem z_g203 : Cond.selects RX7 yX7_beginsAt yX7_beginsAt ∈ z_G := z_m3 (i := 131) rfl rfl
theorem z_g204 : Cond.code yX7_bound cX7_bound 4 (some .int) ∈ z_G := z_m3 (i := 137) rfl rfl
theorem z_g205 : Cond.instanceMethod yX7_bound ∈ z_G := z_m3 (i := 135) rfl rfl
theorem z_g206 : Cond.selects RX7 yX7_bound yX7_bound ∈ z_G := z_m3 (i := 136) rfl rfl
theorem z_g207 : Cond.code yX7_classOf cX7_classOf 3 (some .int) ∈ z_G := z_m3 (i := 91) rfl rfl
theorem z_g208 : Cond.instanceMethod yX7_classOf ∈ z_G := z_m3 (i := 89) rfl rfl
theorem z_g209 : Cond.selects RX7 yX7_classOf yX7_classOf ∈ z_G := z_m3 (i := 90) rfl rfl
theorem z_g210 : Cond.code yX7_clearText cX7_clearText 2 (some .int) ∈ z_G := z_m3 (i := 32) rfl rfl
theorem z_g211 : Cond.instanceMethod yX7_clearText ∈ z_G := z_m3 (i := 30) rfl rfl
theorem z_g212 : Cond.selects RX7 yX7_clearText yX7_clearText ∈ z_G := z_m3 (i := 31) rfl rfl
theorem z_g213 : Cond.code yX7_count cX7_count 2 (some .int) ∈ z_G := z_m3 (i := 152) rfl rfl
theorem z_g214 : Cond.instanceMethod yX7_count ∈ z_G := z_m3 (i := 150) rfl rfl
theorem z_g215 : Cond.selects RX7 yX7_count yX7_count ∈ z_G := z_m3 (i := 151) rfl rfl
theorem z_g216 : Cond.code yX7_group cX7_group 3 (some .int) ∈ z_G := z_m3 (i := 73) rfl rfl
theorem z_g217 : Cond.instanceMethod yX7_group ∈ z_G := z_m3 (i := 71) rfl rfl
theorem z_g218 : Cond.selects RX7 yX7_group yX7_group ∈ z_G := z_m3 (i := 72) rfl rfl
theorem z_g219 : Cond.code yX7_isQuantum cX7_isQuantum 1 (some .boolean) ∈ z_G := z_m2 (i := 31) rfl rfl
theorem z_g220 : Cond.static yX7_isQuantum ∈ z_G := z_m2 (i := 30) rfl rfl
theorem z_g221 : Cond.code yX7_isWithin cX7_isWithin 3 (some .boolean) ∈ z_G := z_m2 (i := 34) rfl rfl
theorem z_g222 : Cond.static yX7_isWithin ∈ z_G := z_m2 (i := 33) rfl rfl
theorem z_g223 : Cond.code yX7_job cX7_job 3 (some .int) ∈ z_G := z_m3 (i := 109) rfl rfl
theorem z_g224 : Cond.instanceMethod yX7_job ∈ z_G := z_m3 (i := 107) rfl rfl
theorem z_g225 : Cond.selects RX7 yX7_job yX7_job ∈ z_G := z_m3 (i := 108) rfl rfl
theorem z_g226 : Cond.code yX7_keep cX7_keep 1 (some .int) ∈ z_G := z_m3 (i := 65) rfl rfl
theorem z_g227 : Cond.instanceMethod yX7_keep ∈ z_G := z_m3 (i := 63) rfl rfl
theorem z_g228 : Cond.selects RX7 yX7_keep yX7_keep ∈ z_G := z_m3 (i := 64) rfl rfl
theorem z_g229 : Cond.code yX7_mark cX7_mark 1 (some .int) ∈ z_G := z_m3 (i := 16) rfl rfl
theorem z_g230 : Cond.instanceMethod yX7_mark ∈ z_G := z_m3 (i := 14) rfl rfl
theorem z_g231 : Cond.selects RX7 yX7_mark yX7_mark ∈ z_G := z_m3 (i := 15) rfl rfl
theorem z_g232 : Cond.code yX7_pass cX7_pass 4 (some .int) ∈ z_G := z_m2 (i := 125) rfl rfl
theorem z_g233 : Cond.instanceMethod yX7_pass ∈ z_G := z_m2 (i := 123) rfl rfl
theorem z_g234 : Cond.selects RX7 yX7_pass yX7_pass ∈ z_G := z_m2 (i := 124) rfl rfl
theorem z_g235 : Cond.code yX7_passTick cX7_passTick 2 (some .int) ∈ z_G := z_m2 (i := 129) rfl rfl
theorem z_g236 : Cond.instanceMethod yX7_passTick ∈ z_G := z_m2 (i := 128) rfl rfl
theorem z_g237 : Cond.selects RX7 yX7_passTick yX7_passTick ∈ z_G := z_m0 (i := 2) rfl rfl
theorem z_g238 : Cond.code yX7_readJobs cX7_readJobs 7 (some .int) ∈ z_G := z_m3 (i := 36) rfl rfl
theorem z_g239 : Cond.instanceMethod yX7_readJobs ∈ z_G := z_m3 (i := 34) rfl rfl
theorem z_g240 : Cond.selects RX7 yX7_readJobs yX7_readJobs ∈ z_G := z_m3 (i := 35) rfl rfl
theorem z_g241 : Cond.code yX7_restore cX7_restore 1 (some .int) ∈ z_G := z_m3 (i := 69) rfl rfl
theorem z_g242 : Cond.instanceMethod yX7_restore ∈ z_G := z_m3 (i := 67) rfl rfl
theorem z_g243 : Cond.selects RX7 yX7_restore yX7_restore ∈ z_G := z_m3 (i := 68) rfl rfl
theorem z_g244 : Cond.code yX7_served cX7_served 2 (some .int) ∈ z_G := z_m3 (i := 124) rfl rfl
theorem z_g245 : Cond.instanceMethod yX7_served ∈ z_G := z_m3 (i := 122) rfl rfl
theorem z_g246 : Cond.selects RX7 yX7_served yX7_served ∈ z_G := z_m3 (i := 123) rfl rfl
theorem z_g247 : Cond.code yX7_setAge cX7_setAge 4 (some .int) ∈ z_G := z_m2 (i := 99) rfl rfl
theorem z_g248 : Cond.instanceMethod yX7_setAge ∈ z_G := z_m2 (i := 97) rfl rfl
theorem z_g249 : Cond.selects RX7 yX7_setAge yX7_setAge ∈ z_G := z_m2 (i := 98) rfl rfl
theorem z_g250 : Cond.code yX7_setGroupQuantum cX7_setGroupQuantum 4 (some .int) ∈ z_G := z_m2 (i := 87) rfl rfl
theorem z_g251 : Cond.instanceMethod yX7_setGroupQuantum ∈ z_G := z_m2 (i := 85) rfl rfl
theorem z_g252 : Cond.selects RX7 yX7_setGroupQuantum yX7_setGroupQuantum ∈ z_G := z_m2 (i := 86) rfl rfl
theorem z_g253 : Cond.code yX7_setQuantum cX7_setQuantum 4 (some .int) ∈ z_G := z_m2 (i := 91) rfl rfl
theorem z_g254 : Cond.instanceMethod yX7_setQuantum ∈ z_G := z_m2 (i := 89) rfl rfl
theorem z_g255 : Cond.selects RX7 yX7_setQuantum yX7_setQuantum ∈ z_G := z_m2 (i := 90) rfl rfl
theorem z_g256 : Cond.code yX7_shares cX7_shares 4 (some .int) ∈ z_G := z_m3 (i := 147) rfl rfl
theorem z_g257 : Cond.instanceMethod yX7_shares ∈ z_G := z_m3 (i := 145) rfl rfl
theorem z_g258 : Cond.selects RX7 yX7_shares yX7_shares ∈ z_G := z_m3 (i := 146) rfl rfl
theorem z_g259 : Cond.code yX7_type cX7_type 2 (some .int) ∈ z_G := z_m3 (i := 24) rfl rfl
theorem z_g260 : Cond.instanceMethod yX7_type ∈ z_G := z_m3 (i := 22) rfl rfl
theorem z_g261 : Cond.selects RX7 yX7_type yX7_type ∈ z_G := z_m3 (i := 23) rfl rfl
theorem z_g262 : Cond.code yX7_undo cX7_undo 1 (some .int) ∈ z_G := z_m3 (i := 57) rfl rfl
theorem z_g263 : Cond.instanceMethod yX7_undo ∈ z_G := z_m3 (i := 55) rfl rfl
theorem z_g264 : Cond.selects RX7 yX7_undo yX7_undo ∈ z_G := z_m3 (i := 56) rfl rfl
theorem z_g265 : Cond.code yX8_add cX8_add 4 (some .int) ∈ z_G := z_m4 (i := 28) rfl rfl
theorem z_g266 : Cond.initialized RX8 ∈ z_G := z_m1 (i := 9) rfl rfl
theorem z_g267 : Cond.instanceMethod yX8_add ∈ z_G := z_m4 (i := 26) rfl rfl
theorem z_g268 : Cond.selects RX8 yX8_add yX8_add ∈ z_G := z_m4 (i := 27) rfl rfl
theorem z_g269 : Cond.code yX8_addClass cX8_addClass 7 (some .int) ∈ z_G := z_m3 (i := 237) rfl rfl
theorem z_g270 : Cond.instanceMethod yX8_addClass ∈ z_G := z_m3 (i := 235) rfl rfl
theorem z_g271 : Cond.selects RX8 yX8_addClass yX8_addClass ∈ z_G := z_m3 (i := 236) rfl rfl
theorem z_g272 : Cond.code yX8_addGroup cX8_addGroup 3 (some .int) ∈ z_G := z_m3 (i := 227) rfl rfl
theorem z_g273 : Cond.instanceMethod yX8_addGroup ∈ z_G := z_m3 (i := 225) rfl rfl
theorem z_g274 : Cond.selects RX8 yX8_addGroup yX8_addGroup ∈ z_G := z_m3 (i := 226) rfl rfl
theorem z_g275 : Cond.code yX8_against cX8_against 3 (some .int) ∈ z_G := z_m4 (i := 32) rfl rfl
theorem z_g276 : Cond.instanceMethod yX8_against ∈ z_G := z_m4 (i := 31) rfl rfl
theorem z_g277 : Cond.selects RX8 yX8_against yX8_against ∈ z_G := z_m0 (i := 21) rfl rfl
theorem z_g278 : Cond.code yX8_begin cX8_begin 1 none ∈ z_G := z_m3 (i := 215) rfl rfl
theorem z_g279 : Cond.instanceMethod yX8_begin ∈ z_G := z_m3 (i := 214) rfl rfl
theorem z_g280 : Cond.selects RX8 yX8_begin yX8_begin ∈ z_G := z_m0 (i := 15) rfl rfl
theorem z_g281 : Cond.code yX8_beginsAt cX8_beginsAt 3 (some .int) ∈ z_G := z_m4 (i := 160) rfl rfl
theorem z_g282 : Cond.instanceMethod yX8_beginsAt ∈ z_G := z_m4 (i := 158) rfl rfl
theorem z_g283 : Cond.selects RX8 yX8_beginsAt yX8_beginsAt ∈ z_G := z_m4 (i := 159) rfl rfl
theorem z_g284 : Cond.code yX8_bound cX8_bound 6 (some .int) ∈ z_G := z_m4 (i := 164) rfl rfl
theorem z_g285 : Cond.instanceMethod yX8_bound ∈ z_G := z_m4 (i := 162) rfl rfl
theorem z_g286 : Cond.selects RX8 yX8_bound yX8_bound ∈ z_G := z_m4 (i := 163) rfl rfl
theorem z_g287 : Cond.code yX8_canServe cX8_canServe 3 (some .boolean) ∈ z_G := z_m4 (i := 95) rfl rfl
theorem z_g288 : Cond.instanceMethod yX8_canServe ∈ z_G := z_m4 (i := 94) rfl rfl
theorem z_g289 : Cond.selects RX8 yX8_canServe yX8_canServe ∈ z_G := z_m0 (i := 35) rfl rfl
theorem z_g290 : Cond.code yX8_canServeGroup cX8_canServeGroup 3 (some .boolean) ∈ z_G := z_m4 (i := 75) rfl rfl
theorem z_g291 : Cond.instanceMethod yX8_canServeGroup ∈ z_G := z_m4 (i := 74) rfl rfl
theorem z_g292 : Cond.selects RX8 yX8_canServeGroup yX8_canServeGroup ∈ z_G := z_m0 (i := 30) rfl rfl
theorem z_g293 : Cond.code yX8_choose cX8_choose 6 (some .int) ∈ z_G := z_m4 (i := 59) rfl rfl
theorem z_g294 : Cond.instanceMethod yX8_choose ∈ z_G := z_m4 (i := 58) rfl rfl
theorem z_g295 : Cond.selects RX8 yX8_choose yX8_choose ∈ z_G := z_m0 (i := 26) rfl rfl
theorem z_g296 : Cond.code yX8_classBehind cX8_classBehind 4 (some .int) ∈ z_G := z_m4 (i := 99) rfl rfl
theorem z_g297 : Cond.instanceMethod yX8_classBehind ∈ z_G := z_m4 (i := 98) rfl rfl
theorem z_g298 : Cond.selects RX8 yX8_classBehind yX8_classBehind ∈ z_G := z_m0 (i := 36) rfl rfl
theorem z_g299 : Cond.code yX8_classOf cX8_classOf 4 (some .int) ∈ z_G := z_m4 (i := 140) rfl rfl
theorem z_g300 : Cond.instanceMethod yX8_classOf ∈ z_G := z_m4 (i := 138) rfl rfl
theorem z_g301 : Cond.selects RX8 yX8_classOf yX8_classOf ∈ z_G := z_m4 (i := 139) rfl rfl
theorem z_g302 : Cond.code yX8_clearText cX8_clearText 2 (some .int) ∈ z_G := z_m4 (i := 111) rfl rfl
theorem z_g303 : Cond.instanceMethod yX8_clearText ∈ z_G := z_m4 (i := 109) rfl rfl
theorem z_g304 : Cond.selects RX8 yX8_clearText yX8_clearText ∈ z_G := z_m4 (i := 110) rfl rfl
theorem z_g305 : Cond.code yX8_come cX8_come 5 (some .int) ∈ z_G := z_m4 (i := 47) rfl rfl
theorem z_g306 : Cond.instanceMethod yX8_come ∈ z_G := z_m4 (i := 46) rfl rfl
theorem z_g307 : Cond.selects RX8 yX8_come yX8_come ∈ z_G := z_m0 (i := 24) rfl rfl
theorem z_g308 : Cond.code yX8_count cX8_count 2 (some .int) ∈ z_G := z_m4 (i := 173) rfl rfl
theorem z_g309 : Cond.instanceMethod yX8_count ∈ z_G := z_m4 (i := 171) rfl rfl
theorem z_g310 : Cond.selects RX8 yX8_count yX8_count ∈ z_G := z_m4 (i := 172) rfl rfl
theorem z_g311 : Cond.code yX8_firstOf cX8_firstOf 3 (some .int) ∈ z_G := z_m4 (i := 87) rfl rfl
theorem z_g312 : Cond.instanceMethod yX8_firstOf ∈ z_G := z_m4 (i := 86) rfl rfl
theorem z_g313 : Cond.selects RX8 yX8_firstOf yX8_firstOf ∈ z_G := z_m0 (i := 33) rfl rfl
theorem z_g314 : Cond.code yX8_firstOld cX8_firstOld 2 (some .int) ∈ z_G := z_m4 (i := 63) rfl rfl
theorem z_g315 : Cond.instanceMethod yX8_firstOld ∈ z_G := z_m4 (i := 62) rfl rfl
theorem z_g316 : Cond.selects RX8 yX8_firstOld yX8_firstOld ∈ z_G := z_m0 (i := 27) rfl rfl
theorem z_g317 : Cond.code yX8_goBack cX8_goBack 2 none ∈ z_G := z_m4 (i := 131) rfl rfl
theorem z_g318 : Cond.instanceMethod yX8_goBack ∈ z_G := z_m4 (i := 130) rfl rfl
theorem z_g319 : Cond.selects RX8 yX8_goBack yX8_goBack ∈ z_G := z_m0 (i := 40) rfl rfl
theorem z_g320 : Cond.code yX8_group cX8_group 6 (some .int) ∈ z_G := z_m4 (i := 135) rfl rfl
theorem z_g321 : Cond.instanceMethod yX8_group ∈ z_G := z_m4 (i := 133) rfl rfl
theorem z_g322 : Cond.selects RX8 yX8_group yX8_group ∈ z_G := z_m4 (i := 134) rfl rfl
theorem z_g323 : Cond.code yX8_in cX8_in 3 (some .boolean) ∈ z_G := z_m3 (i := 230) rfl rfl
theorem z_g324 : Cond.static yX8_in ∈ z_G := z_m3 (i := 229) rfl rfl
theorem z_g325 : Cond.code yX8_isBusy cX8_isBusy 2 (some .boolean) ∈ z_G := z_m4 (i := 83) rfl rfl
theorem z_g326 : Cond.instanceMethod yX8_isBusy ∈ z_G := z_m4 (i := 82) rfl rfl
theorem z_g327 : Cond.selects RX8 yX8_isBusy yX8_isBusy ∈ z_G := z_m0 (i := 32) rfl rfl
theorem z_g328 : Cond.code yX8_isGroupBusy cX8_isGroupBusy 4 (some .boolean) ∈ z_G := z_m4 (i := 79) rfl rfl
theorem z_g329 : Cond.instanceMethod yX8_isGroupBusy ∈ z_G := z_m4 (i := 78) rfl rfl
theorem z_g330 : Cond.selects RX8 yX8_isGroupBusy yX8_isGroupBusy ∈ z_G := z_m0 (i := 31) rfl rfl
theorem z_g331 : Cond.code yX8_isOld cX8_isOld 3 (some .boolean) ∈ z_G := z_m4 (i := 67) rfl rfl
theorem z_g332 : Cond.instanceMethod yX8_isOld ∈ z_G := z_m4 (i := 66) rfl rfl
theorem z_g333 : Cond.selects RX8 yX8_isOld yX8_isOld ∈ z_G := z_m0 (i := 28) rfl rfl
theorem z_g334 : Cond.code yX8_its cX8_its 1 (some .int) ∈ z_G := z_m4 (i := 39) rfl rfl
theorem z_g335 : Cond.static yX8_its ∈ z_G := z_m4 (i := 38) rfl rfl
theorem z_g336 : Cond.code yX8_job cX8_job 4 (some .int) ∈ z_G := z_m4 (i := 144) rfl rfl
theorem z_g337 : Cond.instanceMethod yX8_job ∈ z_G := z_m4 (i := 142) rfl rfl
theorem z_g338 : Cond.selects RX8 yX8_job yX8_job ∈ z_G := z_m4 (i := 143) rfl rfl
theorem z_g339 : Cond.code yX8_jobs cX8_jobs 5 (some .int) ∈ z_G := z_m4 (i := 119) rfl rfl
theorem z_g340 : Cond.instanceMethod yX8_jobs ∈ z_G := z_m4 (i := 118) rfl rfl
theorem z_g341 : Cond.selects RX8 yX8_jobs yX8_jobs ∈ z_G := z_m0 (i := 37) rfl rfl
theorem z_g342 : Cond.code yX8_jobsThat cX8_jobsThat 4 (some .int) ∈ z_G := z_m4 (i := 177) rfl rfl
theorem z_g343 : Cond.instanceMethod yX8_jobsThat ∈ z_G := z_m4 (i := 176) rfl rfl
theorem z_g344 : Cond.selects RX8 yX8_jobsThat yX8_jobsThat ∈ z_G := z_m0 (i := 43) rfl rfl
theorem z_g345 : Cond.code yX8_keep cX8_keep 2 (some .int) ∈ z_G := z_m3 (i := 207) rfl rfl
theorem z_g346 : Cond.instanceMethod yX8_keep ∈ z_G := z_m3 (i := 205) rfl rfl
theorem z_g347 : Cond.selects RX8 yX8_keep yX8_keep ∈ z_G := z_m3 (i := 206) rfl rfl
theorem z_g348 : Cond.code yX8_kind cX8_kind 1 (some .int) ∈ z_G := z_m4 (i := 4) rfl rfl
theorem z_g349 : Cond.static yX8_kind ∈ z_G := z_m4 (i := 3) rfl rfl
theorem z_g350 : Cond.code yX8_mark cX8_mark 3 (some .int) ∈ z_G := z_m4 (i := 103) rfl rfl
theorem z_g351 : Cond.instanceMethod yX8_mark ∈ z_G := z_m4 (i := 101) rfl rfl
theorem z_g352 : Cond.selects RX8 yX8_mark yX8_mark ∈ z_G := z_m4 (i := 102) rfl rfl
theorem z_g353 : Cond.code yX8_nextClass cX8_nextClass 3 (some .int) ∈ z_G := z_m4 (i := 91) rfl rfl
theorem z_g354 : Cond.instanceMethod yX8_nextClass ∈ z_G := z_m4 (i := 90) rfl rfl
theorem z_g355 : Cond.selects RX8 yX8_nextClass yX8_nextClass ∈ z_G := z_m0 (i := 34) rfl rfl
theorem z_g356 : Cond.code yX8_nextGroup cX8_nextGroup 2 (some .int) ∈ z_G := z_m4 (i := 71) rfl rfl
theorem z_g357 : Cond.instanceMethod yX8_nextGroup ∈ z_G := z_m4 (i := 70) rfl rfl
theorem z_g358 : Cond.selects RX8 yX8_nextGroup yX8_nextGroup ∈ z_G := z_m0 (i := 29) rfl rfl
theorem z_g359 : Cond.code yX8_noClass cX8_noClass 2 (some .boolean) ∈ z_G := z_m4 (i := 20) rfl rfl
theorem z_g360 : Cond.instanceMethod yX8_noClass ∈ z_G := z_m4 (i := 19) rfl rfl
theorem z_g361 : Cond.selects RX8 yX8_noClass yX8_noClass ∈ z_G := z_m0 (i := 20) rfl rfl
theorem z_g362 : Cond.code yX8_noGroup cX8_noGroup 2 (some .boolean) ∈ z_G := z_m4 (i := 1) rfl rfl
theorem z_g363 : Cond.instanceMethod yX8_noGroup ∈ z_G := z_m4 (i := 0) rfl rfl
theorem z_g364 : Cond.selects RX8 yX8_noGroup yX8_noGroup ∈ z_G := z_m0 (i := 18) rfl rfl
theorem z_g365 : Cond.code yX8_noJob cX8_noJob 2 (some .boolean) ∈ z_G := z_m4 (i := 148) rfl rfl
theorem z_g366 : Cond.instanceMethod yX8_noJob ∈ z_G := z_m4 (i := 147) rfl rfl
theorem z_g367 : Cond.selects RX8 yX8_noJob yX8_noJob ∈ z_G := z_m0 (i := 41) rfl rfl
theorem z_g368 : Cond.code yX8_party cX8_party 1 (some .int) ∈ z_G := z_m3 (i := 233) rfl rfl
theorem z_g369 : Cond.static yX8_party ∈ z_G := z_m3 (i := 232) rfl rfl
theorem z_g370 : Cond.code yX8_pass cX8_pass 4 (some .int) ∈ z_G := z_m4 (i := 51) rfl rfl
theorem z_g371 : Cond.instanceMethod yX8_pass ∈ z_G := z_m4 (i := 49) rfl rfl
theorem z_g372 : Cond.selects RX8 yX8_pass yX8_pass ∈ z_G := z_m4 (i := 50) rfl rfl
theorem z_g373 : Cond.code yX8_readJob cX8_readJob 5 (some .int) ∈ z_G := z_m4 (i := 123) rfl rfl
theorem z_g374 : Cond.instanceMethod yX8_readJob ∈ z_G := z_m4 (i := 122) rfl rfl
theorem z_g375 : Cond.selects RX8 yX8_readJob yX8_readJob ∈ z_G := z_m0 (i := 38) rfl rfl
theorem z_g376 : Cond.code yX8_readJobs cX8_readJobs 2 (some .int) ∈ z_G := z_m4 (i := 115) rfl rfl
theorem z_g377 : Cond.instanceMethod yX8_readJobs ∈ z_G := z_m4 (i := 113) rfl rfl
theorem z_g378 : Cond.selects RX8 yX8_readJobs yX8_readJobs ∈ z_G := z_m4 (i := 114) rfl rfl
theorem z_g379 : Cond.code yX8_record cX8_record 2 none ∈ z_G := z_m3 (i := 223) rfl rfl
theorem z_g380 : Cond.instanceMethod yX8_record ∈ z_G := z_m3 (i := 222) rfl rfl
theorem z_g381 : Cond.selects RX8 yX8_record yX8_record ∈ z_G := z_m0 (i := 17) rfl rfl
theorem z_g382 : Cond.code yX8_remember cX8_remember 2 none ∈ z_G := z_m3 (i := 219) rfl rfl
theorem z_g383 : Cond.instanceMethod yX8_remember ∈ z_G := z_m3 (i := 218) rfl rfl
theorem z_g384 : Cond.selects RX8 yX8_remember yX8_remember ∈ z_G := z_m0 (i := 16) rfl rfl
theorem z_g385 : Cond.code yX8_restore cX8_restore 2 (some .int) ∈ z_G := z_m3 (i := 211) rfl rfl
theorem z_g386 : Cond.instanceMethod yX8_restore ∈ z_G := z_m3 (i := 209) rfl rfl
theorem z_g387 : Cond.selects RX8 yX8_restore yX8_restore ∈ z_G := z_m3 (i := 210) rfl rfl
theorem z_g388 : Cond.code yX8_sees cX8_sees 3 (some .boolean) ∈ z_G := z_m4 (i := 127) rfl rfl
theorem z_g389 : Cond.instanceMethod yX8_sees ∈ z_G := z_m4 (i := 126) rfl rfl
theorem z_g390 : Cond.selects RX8 yX8_sees yX8_sees ∈ z_G := z_m0 (i := 39) rfl rfl
theorem z_g391 : Cond.code yX8_serveOut cX8_serveOut 2 none ∈ z_G := z_m4 (i := 156) rfl rfl
theorem z_g392 : Cond.instanceMethod yX8_serveOut ∈ z_G := z_m4 (i := 155) rfl rfl
theorem z_g393 : Cond.selects RX8 yX8_serveOut yX8_serveOut ∈ z_G := z_m0 (i := 42) rfl rfl
theorem z_g394 : Cond.code yX8_served cX8_served 4 (some .int) ∈ z_G := z_m4 (i := 152) rfl rfl
theorem z_g395 : Cond.instanceMethod yX8_served ∈ z_G := z_m4 (i := 150) rfl rfl
theorem z_g396 : Cond.selects RX8 yX8_served yX8_served ∈ z_G := z_m4 (i := 151) rfl rfl
theorem z_g397 : Cond.code yX8_set cX8_set 4 (some .int) ∈ z_G := z_m4 (i := 12) rfl rfl
theorem z_g398 : Cond.instanceMethod yX8_set ∈ z_G := z_m4 (i := 11) rfl rfl
theorem z_g399 : Cond.selects RX8 yX8_set yX8_set ∈ z_G := z_m0 (i := 19) rfl rfl
theorem z_g400 : Cond.code yX8_setAge cX8_setAge 3 (some .int) ∈ z_G := z_m4 (i := 24) rfl rfl
theorem z_g401 : Cond.instanceMethod yX8_setAge ∈ z_G := z_m4 (i := 22) rfl rfl
theorem z_g402 : Cond.selects RX8 yX8_setAge yX8_setAge ∈ z_G := z_m4 (i := 23) rfl rfl
theorem z_g403 : Cond.code yX8_setGroupQuantum cX8_setGroupQuantum 3 (some .int) ∈ z_G := z_m4 (i := 8) rfl rfl
theorem z_g404 : Cond.instanceMethod yX8_setGroupQuantum ∈ z_G := z_m4 (i := 6) rfl rfl
theorem z_g405 : Cond.selects RX8 yX8_setGroupQuantum yX8_setGroupQuantum ∈ z_G := z_m4 (i := 7) rfl rfl
theorem z_g406 : Cond.code yX8_setQuantum cX8_setQuantum 3 (some .int) ∈ z_G := z_m4 (i := 16) rfl rfl
theorem z_g407 : Cond.instanceMethod yX8_setQuantum ∈ z_G := z_m4 (i := 14) rfl rfl
theorem z_g408 : Cond.selects RX8 yX8_setQuantum yX8_setQuantum ∈ z_G := z_m4 (i := 15) rfl rfl
theorem z_g409 : Cond.code yX8_shares cX8_shares 3 (some .int) ∈ z_G := z_m4 (i := 168) rfl rfl
theorem z_g410 : Cond.instanceMethod yX8_shares ∈ z_G := z_m4 (i := 166) rfl rfl
theorem z_g411 : Cond.selects RX8 yX8_shares yX8_shares ∈ z_G := z_m4 (i := 167) rfl rfl
theorem z_g412 : Cond.code yX8_tick cX8_tick 5 (some .int) ∈ z_G := z_m4 (i := 55) rfl rfl
theorem z_g413 : Cond.instanceMethod yX8_tick ∈ z_G := z_m4 (i := 54) rfl rfl
theorem z_g414 : Cond.selects RX8 yX8_tick yX8_tick ∈ z_G := z_m0 (i := 25) rfl rfl
theorem z_g415 : Cond.code yX8_type cX8_type 2 (some .int) ∈ z_G := z_m4 (i := 107) rfl rfl
theorem z_g416 : Cond.instanceMethod yX8_type ∈ z_G := z_m4 (i := 105) rfl rfl
theorem z_g417 : Cond.selects RX8 yX8_type yX8_type ∈ z_G := z_m4 (i := 106) rfl rfl
theorem z_g418 : Cond.code yX8_undo cX8_undo 2 (some .int) ∈ z_G := z_m3 (i := 203) rfl rfl
theorem z_g419 : Cond.instanceMethod yX8_undo ∈ z_G := z_m3 (i := 201) rfl rfl
theorem z_g420 : Cond.selects RX8 yX8_undo yX8_undo ∈ z_G := z_m3 (i := 202) rfl rfl
theorem z_g421 : Cond.code yX8_waiting cX8_waiting 8 (some .int) ∈ z_G := z_m4 (i := 36) rfl rfl
theorem z_g422 : Cond.instanceMethod yX8_waiting ∈ z_G := z_m4 (i := 35) rfl rfl
theorem z_g423 : Cond.selects RX8 yX8_waiting yX8_waiting ∈ z_G := z_m0 (i := 22) rfl rfl
theorem z_g424 : Cond.code yX8_waits cX8_waits 2 (some .boolean) ∈ z_G := z_m4 (i := 43) rfl rfl
theorem z_g425 : Cond.instanceMethod yX8_waits ∈ z_G := z_m4 (i := 42) rfl rfl
theorem z_g426 : Cond.selects RX8 yX8_waits yX8_waits ∈ z_G := z_m0 (i := 23) rfl rfl
def z_cn (k : Nat) : String := z_cns.getD k ""
def z_okm (mi : z_I) : Prop := (z_y mi).cls = z_cn (z_own mi) ∧ plainName (z_y mi).cls = true ∧ Cond.code (z_y mi) (z_cd mi) (z_ml' mi) (z_rt mi) ∈ z_G ∧ Cond.initialized (z_y mi).cls ∈ z_G ∧ ((z_y mi).cls ≠ "java/lang/invoke/MethodHandle" ∧ (z_y mi).cls ≠ "java/lang/invoke/VarHandle") ∧ (parseMethodDescriptor (z_y mi).desc).map (fun d => d.parameters.length) = some (z_na mi) ∧ ((z_sta mi = true → Cond.static (z_y mi) ∈ z_G) ∧ (z_sta mi = false → Cond.instanceMethod (z_y mi) ∈ z_G ∧ Cond.selects (z_y mi).cls (z_y mi) (z_y mi) ∈ z_G))
theorem z_okm_0 : z_okm (0, yX0_append, cX0_append, 6, (some .int), false, 4, 0) := ⟨rfl, by decide +kernel, z_g0, z_g1, by decide +kernel, by decide +kernel, ⟨fun h => absurd h (by decide), fun _ => ⟨z_g2, z_g3⟩⟩⟩
theorem z_okm_1 : z_okm (0, yX0_copyFrom, cX0_copyFrom, 2, none, false, 1, 1) := ⟨rfl, by decide +kernel, z_g4, z_g1, by decide +kernel, by decide +kernel, ⟨fun h => absurd h (by decide), fun _ => ⟨z_g5, z_g6⟩⟩⟩
theorem z_okm_2 : z_okm (0, yX0_fillBuckets, cX0_fillBuckets, 3, none, false, 1, 1) := ⟨rfl, by decide +kernel, z_g7, z_g1, by decide +kernel, by decide +kernel, ⟨fun h => absurd h (by decide), fun _ => ⟨z_g8, z_g9⟩⟩⟩
theorem z_okm_3 : z_okm (0, yX0_has, cX0_has, 2, (some .boolean), false, 1, 0) := ⟨rfl, by decide +kernel, z_g10, z_g1, by decide +kernel, by decide +kernel, ⟨fun h => absurd h (by decide), fun _ => ⟨z_g11, z_g12⟩⟩⟩
theorem z_okm_4 : z_okm (0, yX0_heldOf, cX0_heldOf, 4, (some .int), false, 1, 0) := ⟨rfl, by decide +kernel, z_g13, z_g1, by decide +kernel, by decide +kernel, ⟨fun h => absurd h (by decide), fun _ => ⟨z_g14, z_g15⟩⟩⟩
theorem z_okm_5 : z_okm (0, yX0_takeUnits, cX0_takeUnits, 3, (some .int), false, 0, 0) := ⟨rfl, by decide +kernel, z_g16, z_g1, by decide +kernel, by decide +kernel, ⟨fun h => absurd h (by decide), fun _ => ⟨z_g17, z_g18⟩⟩⟩
theorem z_okm_6 : z_okm (0, yX0_unitsOf, cX0_unitsOf, 4, (some .int), false, 1, 0) := ⟨rfl, by decide +kernel, z_g19, z_g1, by decide +kernel, by decide +kernel, ⟨fun h => absurd h (by decide), fun _ => ⟨z_g20, z_g21⟩⟩⟩
theorem z_okm_7 : z_okm (1, yX1_append, cX1_append, 3, (some .int), false, 1, 0) := ⟨rfl, by decide +kernel, z_g22, z_g23, by decide +kernel, by decide +kernel, ⟨fun h => absurd h (by decide), fun _ => ⟨z_g24, z_g25⟩⟩⟩
theorem z_okm_8 : z_okm (1, yX1_copyFrom, cX1_copyFrom, 2, none, false, 1, 1) := ⟨rfl, by decide +kernel, z_g26, z_g23, by decide +kernel, by decide +kernel, ⟨fun h => absurd h (by decide), fun _ => ⟨z_g27, z_g28⟩⟩⟩
theorem z_okm_9 : z_okm (1, yX1_has, cX1_has, 2, (some .boolean), false, 1, 0) := ⟨rfl, by decide +kernel, z_g29, z_g23, by decide +kernel, by decide +kernel, ⟨fun h => absurd h (by decide), fun _ => ⟨z_g30, z_g31⟩⟩⟩
theorem z_okm_10 : z_okm (2, yX2_dropOldest, cX2_dropOldest, 3, none, false, 0, 0) := ⟨rfl, by decide +kernel, z_g32, z_g33, by decide +kernel, by decide +kernel, ⟨fun h => absurd h (by decide), fun _ => ⟨z_g34, z_g35⟩⟩⟩
theorem z_okm_11 : z_okm (2, yX2_push, cX2_push, 3, none, false, 1, 3) := ⟨rfl, by decide +kernel, z_g36, z_g33, by decide +kernel, by decide +kernel, ⟨fun h => absurd h (by decide), fun _ => ⟨z_g37, z_g38⟩⟩⟩
theorem z_okm_12 : z_okm (2, yX2_roomAt, cX2_roomAt, 2, (some (.object "DeficitCircles$State")), false, 1, 0) := ⟨rfl, by decide +kernel, z_g39, z_g33, by decide +kernel, by decide +kernel, ⟨fun h => absurd h (by decide), fun _ => ⟨z_g40, z_g41⟩⟩⟩
theorem z_okm_13 : z_okm (2, yX2_takeLatest, cX2_takeLatest, 3, none, false, 1, 3) := ⟨rfl, by decide +kernel, z_g42, z_g33, by decide +kernel, by decide +kernel, ⟨fun h => absurd h (by decide), fun _ => ⟨z_g43, z_g44⟩⟩⟩
theorem z_okm_14 : z_okm (3, yX3_allSizes, cX3_allSizes, 1, (some .int), false, 0, 3) := ⟨rfl, by decide +kernel, z_g45, z_g46, by decide +kernel, by decide +kernel, ⟨fun h => absurd h (by decide), fun _ => ⟨z_g47, z_g48⟩⟩⟩
theorem z_okm_15 : z_okm (3, yX3_append, cX3_append, 5, (some .int), false, 3, 0) := ⟨rfl, by decide +kernel, z_g49, z_g46, by decide +kernel, by decide +kernel, ⟨fun h => absurd h (by decide), fun _ => ⟨z_g50, z_g51⟩⟩⟩
theorem z_okm_16 : z_okm (3, yX3_copyFrom, cX3_copyFrom, 2, none, false, 1, 1) := ⟨rfl, by decide +kernel, z_g52, z_g46, by decide +kernel, by decide +kernel, ⟨fun h => absurd h (by decide), fun _ => ⟨z_g53, z_g54⟩⟩⟩
theorem z_okm_17 : z_okm (3, yX3_firstOf, cX3_firstOf, 4, (some .int), false, 1, 2) := ⟨rfl, by decide +kernel, z_g55, z_g46, by decide +kernel, by decide +kernel, ⟨fun h => absurd h (by decide), fun _ => ⟨z_g56, z_g57⟩⟩⟩
theorem z_okm_18 : z_okm (3, yX3_has, cX3_has, 2, (some .boolean), false, 1, 0) := ⟨rfl, by decide +kernel, z_g58, z_g46, by decide +kernel, by decide +kernel, ⟨fun h => absurd h (by decide), fun _ => ⟨z_g59, z_g60⟩⟩⟩
theorem z_okm_19 : z_okm (3, yX3_isFull, cX3_isFull, 1, (some .boolean), false, 0, 0) := ⟨rfl, by decide +kernel, z_g61, z_g46, by decide +kernel, by decide +kernel, ⟨fun h => absurd h (by decide), fun _ => ⟨z_g62, z_g63⟩⟩⟩
theorem z_okm_20 : z_okm (3, yX3_isWaiting, cX3_isWaiting, 2, (some .boolean), false, 1, 1) := ⟨rfl, by decide +kernel, z_g64, z_g46, by decide +kernel, by decide +kernel, ⟨fun h => absurd h (by decide), fun _ => ⟨z_g65, z_g66⟩⟩⟩
theorem z_okm_21 : z_okm (3, yX3_leaveLine, cX3_leaveLine, 4, none, false, 1, 0) := ⟨rfl, by decide +kernel, z_g67, z_g46, by decide +kernel, by decide +kernel, ⟨fun h => absurd h (by decide), fun _ => ⟨z_g68, z_g69⟩⟩⟩
theorem z_okm_22 : z_okm (3, yX3_sizesAheadOf, cX3_sizesAheadOf, 5, (some .int), false, 1, 2) := ⟨rfl, by decide +kernel, z_g70, z_g46, by decide +kernel, by decide +kernel, ⟨fun h => absurd h (by decide), fun _ => ⟨z_g71, z_g72⟩⟩⟩
theorem z_okm_23 : z_okm (3, yX3_sizesOf, cX3_sizesOf, 5, (some .int), false, 1, 2) := ⟨rfl, by decide +kernel, z_g73, z_g46, by decide +kernel, by decide +kernel, ⟨fun h => absurd h (by decide), fun _ => ⟨z_g74, z_g75⟩⟩⟩
theorem z_okm_24 : z_okm (3, yX3_waitingAt, cX3_waitingAt, 2, (some .int), false, 1, 1) := ⟨rfl, by decide +kernel, z_g76, z_g46, by decide +kernel, by decide +kernel, ⟨fun h => absurd h (by decide), fun _ => ⟨z_g77, z_g78⟩⟩⟩
theorem z_okm_25 : z_okm (3, yX3_waitsOf, cX3_waitsOf, 5, (some .int), false, 1, 2) := ⟨rfl, by decide +kernel, z_g79, z_g46, by decide +kernel, by decide +kernel, ⟨fun h => absurd h (by decide), fun _ => ⟨z_g80, z_g81⟩⟩⟩
theorem z_okm_26 : z_okm (4, yX4_admit, cX4_admit, 3, (some .int), false, 2, 1) := ⟨rfl, by decide +kernel, z_g82, z_g83, by decide +kernel, by decide +kernel, ⟨fun h => absurd h (by decide), fun _ => ⟨z_g84, z_g85⟩⟩⟩
theorem z_okm_27 : z_okm (4, yX4_ageFor, cX4_ageFor, 2, (some .int), false, 1, 1) := ⟨rfl, by decide +kernel, z_g86, z_g83, by decide +kernel, by decide +kernel, ⟨fun h => absurd h (by decide), fun _ => ⟨z_g87, z_g88⟩⟩⟩
theorem z_okm_28 : z_okm (4, yX4_begin, cX4_begin, 2, none, false, 1, 4) := ⟨rfl, by decide +kernel, z_g89, z_g83, by decide +kernel, by decide +kernel, ⟨fun h => absurd h (by decide), fun _ => ⟨z_g90, z_g91⟩⟩⟩
theorem z_okm_29 : z_okm (4, yX4_copyFrom, cX4_copyFrom, 2, none, false, 1, 2) := ⟨rfl, by decide +kernel, z_g92, z_g83, by decide +kernel, by decide +kernel, ⟨fun h => absurd h (by decide), fun _ => ⟨z_g93, z_g94⟩⟩⟩
theorem z_okm_30 : z_okm (4, yX4_doneJobs, cX4_doneJobs, 1, (some .int), false, 0, 0) := ⟨rfl, by decide +kernel, z_g95, z_g83, by decide +kernel, by decide +kernel, ⟨fun h => absurd h (by decide), fun _ => ⟨z_g96, z_g97⟩⟩⟩
theorem z_okm_31 : z_okm (4, yX4_doneOf, cX4_doneOf, 4, (some .int), false, 1, 3) := ⟨rfl, by decide +kernel, z_g98, z_g83, by decide +kernel, by decide +kernel, ⟨fun h => absurd h (by decide), fun _ => ⟨z_g99, z_g100⟩⟩⟩
theorem z_okm_32 : z_okm (4, yX4_endOf, cX4_endOf, 2, (some .int), false, 1, 3) := ⟨rfl, by decide +kernel, z_g101, z_g83, by decide +kernel, by decide +kernel, ⟨fun h => absurd h (by decide), fun _ => ⟨z_g102, z_g103⟩⟩⟩
theorem z_okm_33 : z_okm (4, yX4_firstOld, cX4_firstOld, 3, (some .int), false, 0, 3) := ⟨rfl, by decide +kernel, z_g104, z_g83, by decide +kernel, by decide +kernel, ⟨fun h => absurd h (by decide), fun _ => ⟨z_g105, z_g106⟩⟩⟩
theorem z_okm_34 : z_okm (4, yX4_groupFor, cX4_groupFor, 2, (some .int), false, 1, 1) := ⟨rfl, by decide +kernel, z_g107, z_g83, by decide +kernel, by decide +kernel, ⟨fun h => absurd h (by decide), fun _ => ⟨z_g108, z_g109⟩⟩⟩
theorem z_okm_35 : z_okm (4, yX4_isOld, cX4_isOld, 3, (some .boolean), false, 1, 2) := ⟨rfl, by decide +kernel, z_g110, z_g83, by decide +kernel, by decide +kernel, ⟨fun h => absurd h (by decide), fun _ => ⟨z_g111, z_g112⟩⟩⟩
theorem z_okm_36 : z_okm (4, yX4_leftOf, cX4_leftOf, 3, (some .int), false, 1, 3) := ⟨rfl, by decide +kernel, z_g113, z_g83, by decide +kernel, by decide +kernel, ⟨fun h => absurd h (by decide), fun _ => ⟨z_g114, z_g115⟩⟩⟩
theorem z_okm_37 : z_okm (4, yX4_noteWait, cX4_noteWait, 3, none, false, 2, 1) := ⟨rfl, by decide +kernel, z_g116, z_g83, by decide +kernel, by decide +kernel, ⟨fun h => absurd h (by decide), fun _ => ⟨z_g117, z_g118⟩⟩⟩
theorem z_okm_38 : z_okm (4, yX4_oldJobs, cX4_oldJobs, 3, (some .int), false, 0, 3) := ⟨rfl, by decide +kernel, z_g119, z_g83, by decide +kernel, by decide +kernel, ⟨fun h => absurd h (by decide), fun _ => ⟨z_g120, z_g121⟩⟩⟩
theorem z_okm_39 : z_okm (4, yX4_payFromClass, cX4_payFromClass, 4, none, false, 2, 3) := ⟨rfl, by decide +kernel, z_g122, z_g83, by decide +kernel, by decide +kernel, ⟨fun h => absurd h (by decide), fun _ => ⟨z_g123, z_g124⟩⟩⟩
theorem z_okm_40 : z_okm (4, yX4_payFromGroup, cX4_payFromGroup, 4, none, false, 2, 3) := ⟨rfl, by decide +kernel, z_g125, z_g83, by decide +kernel, by decide +kernel, ⟨fun h => absurd h (by decide), fun _ => ⟨z_g126, z_g127⟩⟩⟩
theorem z_okm_41 : z_okm (4, yX4_serveUnit, cX4_serveUnit, 2, (some .int), false, 0, 1) := ⟨rfl, by decide +kernel, z_g128, z_g83, by decide +kernel, by decide +kernel, ⟨fun h => absurd h (by decide), fun _ => ⟨z_g129, z_g130⟩⟩⟩
theorem z_okm_42 : z_okm (4, yX4_sizesOfGroup, cX4_sizesOfGroup, 5, (some .int), false, 1, 2) := ⟨rfl, by decide +kernel, z_g131, z_g83, by decide +kernel, by decide +kernel, ⟨fun h => absurd h (by decide), fun _ => ⟨z_g132, z_g133⟩⟩⟩
theorem z_okm_43 : z_okm (4, yX4_stageOf, cX4_stageOf, 2, (some .int), false, 1, 2) := ⟨rfl, by decide +kernel, z_g134, z_g83, by decide +kernel, by decide +kernel, ⟨fun h => absurd h (by decide), fun _ => ⟨z_g135, z_g136⟩⟩⟩
theorem z_okm_44 : z_okm (4, yX4_waitsOfGroup, cX4_waitsOfGroup, 4, (some .int), false, 1, 2) := ⟨rfl, by decide +kernel, z_g137, z_g83, by decide +kernel, by decide +kernel, ⟨fun h => absurd h (by decide), fun _ => ⟨z_g138, z_g139⟩⟩⟩
theorem z_okm_45 : z_okm (4, yX4_whyNotAdmit, cX4_whyNotAdmit, 3, (some .int), false, 2, 1) := ⟨rfl, by decide +kernel, z_g140, z_g83, by decide +kernel, by decide +kernel, ⟨fun h => absurd h (by decide), fun _ => ⟨z_g141, z_g142⟩⟩⟩
theorem z_okm_46 : z_okm (5, yX5_append, cX5_append, 2, (some .int), false, 1, 0) := ⟨rfl, by decide +kernel, z_g143, z_g144, by decide +kernel, by decide +kernel, ⟨fun h => absurd h (by decide), fun _ => ⟨z_g145, z_g146⟩⟩⟩
theorem z_okm_47 : z_okm (5, yX5_digitAt, cX5_digitAt, 2, (some .int), false, 1, 0) := ⟨rfl, by decide +kernel, z_g147, z_g144, by decide +kernel, by decide +kernel, ⟨fun h => absurd h (by decide), fun _ => ⟨z_g148, z_g149⟩⟩⟩
theorem z_okm_48 : z_okm (5, yX5_fault, cX5_fault, 3, (some .int), false, 0, 1) := ⟨rfl, by decide +kernel, z_g150, z_g144, by decide +kernel, by decide +kernel, ⟨fun h => absurd h (by decide), fun _ => ⟨z_g151, z_g152⟩⟩⟩
theorem z_okm_49 : z_okm (5, yX5_partAfter, cX5_partAfter, 3, (some .int), true, 2, 0) := ⟨rfl, by decide +kernel, z_g153, z_g144, by decide +kernel, by decide +kernel, ⟨fun _ => z_g154, fun h => absurd h (by decide)⟩⟩
theorem z_okm_50 : z_okm (5, yX5_sizeAt, cX5_sizeAt, 4, (some .int), false, 1, 1) := ⟨rfl, by decide +kernel, z_g155, z_g144, by decide +kernel, by decide +kernel, ⟨fun h => absurd h (by decide), fun _ => ⟨z_g156, z_g157⟩⟩⟩
theorem z_okm_51 : z_okm (6, yX6_lookAt, cX6_lookAt, 5, (some .int), false, 2, 2) := ⟨rfl, by decide +kernel, z_g158, z_g159, by decide +kernel, by decide +kernel, ⟨fun h => absurd h (by decide), fun _ => ⟨z_g160, z_g161⟩⟩⟩
theorem z_okm_52 : z_okm (6, yX6_nextJob, cX6_nextJob, 4, (some .int), false, 1, 4) := ⟨rfl, by decide +kernel, z_g162, z_g159, by decide +kernel, by decide +kernel, ⟨fun h => absurd h (by decide), fun _ => ⟨z_g163, z_g164⟩⟩⟩
theorem z_okm_53 : z_okm (6, yX6_noteFirstJobs, cX6_noteFirstJobs, 3, none, false, 1, 3) := ⟨rfl, by decide +kernel, z_g165, z_g159, by decide +kernel, by decide +kernel, ⟨fun h => absurd h (by decide), fun _ => ⟨z_g166, z_g167⟩⟩⟩
theorem z_okm_54 : z_okm (6, yX6_noteJob, cX6_noteJob, 5, none, false, 2, 2) := ⟨rfl, by decide +kernel, z_g168, z_g159, by decide +kernel, by decide +kernel, ⟨fun h => absurd h (by decide), fun _ => ⟨z_g169, z_g170⟩⟩⟩
theorem z_okm_55 : z_okm (6, yX6_presentGroupIsNext, cX6_presentGroupIsNext, 4, (some .boolean), false, 1, 3) := ⟨rfl, by decide +kernel, z_g171, z_g159, by decide +kernel, by decide +kernel, ⟨fun h => absurd h (by decide), fun _ => ⟨z_g172, z_g173⟩⟩⟩
theorem z_okm_56 : z_okm (6, yX6_roundsBelow, cX6_roundsBelow, 3, (some .int), true, 3, 0) := ⟨rfl, by decide +kernel, z_g174, z_g159, by decide +kernel, by decide +kernel, ⟨fun _ => z_g175, fun h => absurd h (by decide)⟩⟩
theorem z_okm_57 : z_okm (6, yX6_skipClassRounds, cX6_skipClassRounds, 6, none, false, 2, 1) := ⟨rfl, by decide +kernel, z_g176, z_g159, by decide +kernel, by decide +kernel, ⟨fun h => absurd h (by decide), fun _ => ⟨z_g177, z_g178⟩⟩⟩
theorem z_okm_58 : z_okm (6, yX6_skipGroupRounds, cX6_skipGroupRounds, 5, none, false, 1, 1) := ⟨rfl, by decide +kernel, z_g179, z_g159, by decide +kernel, by decide +kernel, ⟨fun h => absurd h (by decide), fun _ => ⟨z_g180, z_g181⟩⟩⟩
theorem z_okm_59 : z_okm (6, yX6_walkClasses, cX6_walkClasses, 6, (some .boolean), false, 2, 1) := ⟨rfl, by decide +kernel, z_g182, z_g159, by decide +kernel, by decide +kernel, ⟨fun h => absurd h (by decide), fun _ => ⟨z_g183, z_g184⟩⟩⟩
theorem z_okm_60 : z_okm (6, yX6_walkGroups, cX6_walkGroups, 6, (some .boolean), false, 1, 3) := ⟨rfl, by decide +kernel, z_g185, z_g159, by decide +kernel, by decide +kernel, ⟨fun h => absurd h (by decide), fun _ => ⟨z_g186, z_g187⟩⟩⟩
theorem z_okm_61 : z_okm (7, yX7_add, cX7_add, 4, (some .int), false, 2, 4) := ⟨rfl, by decide +kernel, z_g188, z_g189, by decide +kernel, by decide +kernel, ⟨fun h => absurd h (by decide), fun _ => ⟨z_g190, z_g191⟩⟩⟩
theorem z_okm_62 : z_okm (7, yX7_addClass, cX7_addClass, 5, (some .int), false, 4, 4) := ⟨rfl, by decide +kernel, z_g192, z_g189, by decide +kernel, by decide +kernel, ⟨fun h => absurd h (by decide), fun _ => ⟨z_g193, z_g194⟩⟩⟩
theorem z_okm_63 : z_okm (7, yX7_addGroup, cX7_addGroup, 2, (some .int), false, 1, 4) := ⟨rfl, by decide +kernel, z_g195, z_g189, by decide +kernel, by decide +kernel, ⟨fun h => absurd h (by decide), fun _ => ⟨z_g196, z_g197⟩⟩⟩
theorem z_okm_64 : z_okm (7, yX7_beginAhead, cX7_beginAhead, 4, (some .int), false, 1, 5) := ⟨rfl, by decide +kernel, z_g198, z_g189, by decide +kernel, by decide +kernel, ⟨fun h => absurd h (by decide), fun _ => ⟨z_g199, z_g200⟩⟩⟩
theorem z_okm_65 : z_okm (7, yX7_beginsAt, cX7_beginsAt, 2, (some .int), false, 1, 6) := ⟨rfl, by decide +kernel, z_g201, z_g189, by decide +kernel, by decide +kernel, ⟨fun h => absurd h (by decide), fun _ => ⟨z_g202, z_g203⟩⟩⟩
theorem z_okm_66 : z_okm (7, yX7_bound, cX7_bound, 4, (some .int), false, 1, 3) := ⟨rfl, by decide +kernel, z_g204, z_g189, by decide +kernel, by decide +kernel, ⟨fun h => absurd h (by decide), fun _ => ⟨z_g205, z_g206⟩⟩⟩
theorem z_okm_67 : z_okm (7, yX7_classOf, cX7_classOf, 3, (some .int), false, 2, 4) := ⟨rfl, by decide +kernel, z_g207, z_g189, by decide +kernel, by decide +kernel, ⟨fun h => absurd h (by decide), fun _ => ⟨z_g208, z_g209⟩⟩⟩
theorem z_okm_68 : z_okm (7, yX7_clearText, cX7_clearText, 2, (some .int), false, 0, 0) := ⟨rfl, by decide +kernel, z_g210, z_g189, by decide +kernel, by decide +kernel, ⟨fun h => absurd h (by decide), fun _ => ⟨z_g211, z_g212⟩⟩⟩
theorem z_okm_69 : z_okm (7, yX7_count, cX7_count, 2, (some .int), false, 1, 4) := ⟨rfl, by decide +kernel, z_g213, z_g189, by decide +kernel, by decide +kernel, ⟨fun h => absurd h (by decide), fun _ => ⟨z_g214, z_g215⟩⟩⟩
theorem z_okm_70 : z_okm (7, yX7_group, cX7_group, 3, (some .int), false, 2, 3) := ⟨rfl, by decide +kernel, z_g216, z_g189, by decide +kernel, by decide +kernel, ⟨fun h => absurd h (by decide), fun _ => ⟨z_g217, z_g218⟩⟩⟩
theorem z_okm_71 : z_okm (7, yX7_isQuantum, cX7_isQuantum, 1, (some .boolean), true, 1, 1) := ⟨rfl, by decide +kernel, z_g219, z_g189, by decide +kernel, by decide +kernel, ⟨fun _ => z_g220, fun h => absurd h (by decide)⟩⟩
theorem z_okm_72 : z_okm (7, yX7_isWithin, cX7_isWithin, 3, (some .boolean), true, 3, 0) := ⟨rfl, by decide +kernel, z_g221, z_g189, by decide +kernel, by decide +kernel, ⟨fun _ => z_g222, fun h => absurd h (by decide)⟩⟩
theorem z_okm_73 : z_okm (7, yX7_job, cX7_job, 3, (some .int), false, 2, 4) := ⟨rfl, by decide +kernel, z_g223, z_g189, by decide +kernel, by decide +kernel, ⟨fun h => absurd h (by decide), fun _ => ⟨z_g224, z_g225⟩⟩⟩
theorem z_okm_74 : z_okm (7, yX7_keep, cX7_keep, 1, (some .int), false, 0, 3) := ⟨rfl, by decide +kernel, z_g226, z_g189, by decide +kernel, by decide +kernel, ⟨fun h => absurd h (by decide), fun _ => ⟨z_g227, z_g228⟩⟩⟩
theorem z_okm_75 : z_okm (7, yX7_mark, cX7_mark, 1, (some .int), false, 0, 4) := ⟨rfl, by decide +kernel, z_g229, z_g189, by decide +kernel, by decide +kernel, ⟨fun h => absurd h (by decide), fun _ => ⟨z_g230, z_g231⟩⟩⟩
theorem z_okm_76 : z_okm (7, yX7_pass, cX7_pass, 4, (some .int), false, 1, 6) := ⟨rfl, by decide +kernel, z_g232, z_g189, by decide +kernel, by decide +kernel, ⟨fun h => absurd h (by decide), fun _ => ⟨z_g233, z_g234⟩⟩⟩
theorem z_okm_77 : z_okm (7, yX7_passTick, cX7_passTick, 2, (some .int), false, 0, 5) := ⟨rfl, by decide +kernel, z_g235, z_g189, by decide +kernel, by decide +kernel, ⟨fun h => absurd h (by decide), fun _ => ⟨z_g236, z_g237⟩⟩⟩
theorem z_okm_78 : z_okm (7, yX7_readJobs, cX7_readJobs, 7, (some .int), false, 0, 4) := ⟨rfl, by decide +kernel, z_g238, z_g189, by decide +kernel, by decide +kernel, ⟨fun h => absurd h (by decide), fun _ => ⟨z_g239, z_g240⟩⟩⟩
theorem z_okm_79 : z_okm (7, yX7_restore, cX7_restore, 1, (some .int), false, 0, 4) := ⟨rfl, by decide +kernel, z_g241, z_g189, by decide +kernel, by decide +kernel, ⟨fun h => absurd h (by decide), fun _ => ⟨z_g242, z_g243⟩⟩⟩
theorem z_okm_80 : z_okm (7, yX7_served, cX7_served, 2, (some .int), false, 1, 6) := ⟨rfl, by decide +kernel, z_g244, z_g189, by decide +kernel, by decide +kernel, ⟨fun h => absurd h (by decide), fun _ => ⟨z_g245, z_g246⟩⟩⟩
theorem z_okm_81 : z_okm (7, yX7_setAge, cX7_setAge, 4, (some .int), false, 2, 4) := ⟨rfl, by decide +kernel, z_g247, z_g189, by decide +kernel, by decide +kernel, ⟨fun h => absurd h (by decide), fun _ => ⟨z_g248, z_g249⟩⟩⟩
theorem z_okm_82 : z_okm (7, yX7_setGroupQuantum, cX7_setGroupQuantum, 4, (some .int), false, 2, 4) := ⟨rfl, by decide +kernel, z_g250, z_g189, by decide +kernel, by decide +kernel, ⟨fun h => absurd h (by decide), fun _ => ⟨z_g251, z_g252⟩⟩⟩
theorem z_okm_83 : z_okm (7, yX7_setQuantum, cX7_setQuantum, 4, (some .int), false, 2, 4) := ⟨rfl, by decide +kernel, z_g253, z_g189, by decide +kernel, by decide +kernel, ⟨fun h => absurd h (by decide), fun _ => ⟨z_g254, z_g255⟩⟩⟩
theorem z_okm_84 : z_okm (7, yX7_shares, cX7_shares, 4, (some .int), false, 2, 1) := ⟨rfl, by decide +kernel, z_g256, z_g189, by decide +kernel, by decide +kernel, ⟨fun h => absurd h (by decide), fun _ => ⟨z_g257, z_g258⟩⟩⟩
theorem z_okm_85 : z_okm (7, yX7_type, cX7_type, 2, (some .int), false, 1, 1) := ⟨rfl, by decide +kernel, z_g259, z_g189, by decide +kernel, by decide +kernel, ⟨fun h => absurd h (by decide), fun _ => ⟨z_g260, z_g261⟩⟩⟩
theorem z_okm_86 : z_okm (7, yX7_undo, cX7_undo, 1, (some .int), false, 0, 4) := ⟨rfl, by decide +kernel, z_g262, z_g189, by decide +kernel, by decide +kernel, ⟨fun h => absurd h (by decide), fun _ => ⟨z_g263, z_g264⟩⟩⟩
theorem z_okm_87 : z_okm (8, yX8_add, cX8_add, 4, (some .int), false, 2, 4) := ⟨rfl, by decide +kernel, z_g265, z_g266, by decide +kernel, by decide +kernel, ⟨fun h => absurd h (by decide), fun _ => ⟨z_g267, z_g268⟩⟩⟩
theorem z_okm_88 : z_okm (8, yX8_addClass, cX8_addClass, 7, (some .int), false, 4, 2) := ⟨rfl, by decide +kernel, z_g269, z_g266, by decide +kernel, by decide +kernel, ⟨fun h => absurd h (by decide), fun _ => ⟨z_g270, z_g271⟩⟩⟩
theorem z_okm_89 : z_okm (8, yX8_addGroup, cX8_addGroup, 3, (some .int), false, 1, 2) := ⟨rfl, by decide +kernel, z_g272, z_g266, by decide +kernel, by decide +kernel, ⟨fun h => absurd h (by decide), fun _ => ⟨z_g273, z_g274⟩⟩⟩
theorem z_okm_90 : z_okm (8, yX8_against, cX8_against, 3, (some .int), false, 2, 3) := ⟨rfl, by decide +kernel, z_g275, z_g266, by decide +kernel, by decide +kernel, ⟨fun h => absurd h (by decide), fun _ => ⟨z_g276, z_g277⟩⟩⟩
theorem z_okm_91 : z_okm (8, yX8_begin, cX8_begin, 1, none, false, 0, 1) := ⟨rfl, by decide +kernel, z_g278, z_g266, by decide +kernel, by decide +kernel, ⟨fun h => absurd h (by decide), fun _ => ⟨z_g279, z_g280⟩⟩⟩
theorem z_okm_92 : z_okm (8, yX8_beginsAt, cX8_beginsAt, 3, (some .int), false, 1, 8) := ⟨rfl, by decide +kernel, z_g281, z_g266, by decide +kernel, by decide +kernel, ⟨fun h => absurd h (by decide), fun _ => ⟨z_g282, z_g283⟩⟩⟩
theorem z_okm_93 : z_okm (8, yX8_bound, cX8_bound, 6, (some .int), false, 1, 2) := ⟨rfl, by decide +kernel, z_g284, z_g266, by decide +kernel, by decide +kernel, ⟨fun h => absurd h (by decide), fun _ => ⟨z_g285, z_g286⟩⟩⟩
theorem z_okm_94 : z_okm (8, yX8_canServe, cX8_canServe, 3, (some .boolean), false, 1, 3) := ⟨rfl, by decide +kernel, z_g287, z_g266, by decide +kernel, by decide +kernel, ⟨fun h => absurd h (by decide), fun _ => ⟨z_g288, z_g289⟩⟩⟩
theorem z_okm_95 : z_okm (8, yX8_canServeGroup, cX8_canServeGroup, 3, (some .boolean), false, 1, 5) := ⟨rfl, by decide +kernel, z_g290, z_g266, by decide +kernel, by decide +kernel, ⟨fun h => absurd h (by decide), fun _ => ⟨z_g291, z_g292⟩⟩⟩
theorem z_okm_96 : z_okm (8, yX8_choose, cX8_choose, 6, (some .int), false, 0, 7) := ⟨rfl, by decide +kernel, z_g293, z_g266, by decide +kernel, by decide +kernel, ⟨fun h => absurd h (by decide), fun _ => ⟨z_g294, z_g295⟩⟩⟩
theorem z_okm_97 : z_okm (8, yX8_classBehind, cX8_classBehind, 4, (some .int), false, 2, 1) := ⟨rfl, by decide +kernel, z_g296, z_g266, by decide +kernel, by decide +kernel, ⟨fun h => absurd h (by decide), fun _ => ⟨z_g297, z_g298⟩⟩⟩
theorem z_okm_98 : z_okm (8, yX8_classOf, cX8_classOf, 4, (some .int), false, 2, 3) := ⟨rfl, by decide +kernel, z_g299, z_g266, by decide +kernel, by decide +kernel, ⟨fun h => absurd h (by decide), fun _ => ⟨z_g300, z_g301⟩⟩⟩
theorem z_okm_99 : z_okm (8, yX8_clearText, cX8_clearText, 2, (some .int), false, 0, 0) := ⟨rfl, by decide +kernel, z_g302, z_g266, by decide +kernel, by decide +kernel, ⟨fun h => absurd h (by decide), fun _ => ⟨z_g303, z_g304⟩⟩⟩
theorem z_okm_100 : z_okm (8, yX8_come, cX8_come, 5, (some .int), false, 2, 1) := ⟨rfl, by decide +kernel, z_g305, z_g266, by decide +kernel, by decide +kernel, ⟨fun h => absurd h (by decide), fun _ => ⟨z_g306, z_g307⟩⟩⟩
theorem z_okm_101 : z_okm (8, yX8_count, cX8_count, 2, (some .int), false, 1, 4) := ⟨rfl, by decide +kernel, z_g308, z_g266, by decide +kernel, by decide +kernel, ⟨fun h => absurd h (by decide), fun _ => ⟨z_g309, z_g310⟩⟩⟩
theorem z_okm_102 : z_okm (8, yX8_firstOf, cX8_firstOf, 3, (some .int), false, 1, 2) := ⟨rfl, by decide +kernel, z_g311, z_g266, by decide +kernel, by decide +kernel, ⟨fun h => absurd h (by decide), fun _ => ⟨z_g312, z_g313⟩⟩⟩
theorem z_okm_103 : z_okm (8, yX8_firstOld, cX8_firstOld, 2, (some .int), false, 0, 3) := ⟨rfl, by decide +kernel, z_g314, z_g266, by decide +kernel, by decide +kernel, ⟨fun h => absurd h (by decide), fun _ => ⟨z_g315, z_g316⟩⟩⟩
theorem z_okm_104 : z_okm (8, yX8_goBack, cX8_goBack, 2, none, false, 0, 0) := ⟨rfl, by decide +kernel, z_g317, z_g266, by decide +kernel, by decide +kernel, ⟨fun h => absurd h (by decide), fun _ => ⟨z_g318, z_g319⟩⟩⟩
theorem z_okm_105 : z_okm (8, yX8_group, cX8_group, 6, (some .int), false, 2, 3) := ⟨rfl, by decide +kernel, z_g320, z_g266, by decide +kernel, by decide +kernel, ⟨fun h => absurd h (by decide), fun _ => ⟨z_g321, z_g322⟩⟩⟩
theorem z_okm_106 : z_okm (8, yX8_in, cX8_in, 3, (some .boolean), true, 3, 0) := ⟨rfl, by decide +kernel, z_g323, z_g266, by decide +kernel, by decide +kernel, ⟨fun _ => z_g324, fun h => absurd h (by decide)⟩⟩
theorem z_okm_107 : z_okm (8, yX8_isBusy, cX8_isBusy, 2, (some .boolean), false, 1, 3) := ⟨rfl, by decide +kernel, z_g325, z_g266, by decide +kernel, by decide +kernel, ⟨fun h => absurd h (by decide), fun _ => ⟨z_g326, z_g327⟩⟩⟩
theorem z_okm_108 : z_okm (8, yX8_isGroupBusy, cX8_isGroupBusy, 4, (some .boolean), false, 1, 4) := ⟨rfl, by decide +kernel, z_g328, z_g266, by decide +kernel, by decide +kernel, ⟨fun h => absurd h (by decide), fun _ => ⟨z_g329, z_g330⟩⟩⟩
theorem z_okm_109 : z_okm (8, yX8_isOld, cX8_isOld, 3, (some .boolean), false, 1, 2) := ⟨rfl, by decide +kernel, z_g331, z_g266, by decide +kernel, by decide +kernel, ⟨fun h => absurd h (by decide), fun _ => ⟨z_g332, z_g333⟩⟩⟩
theorem z_okm_110 : z_okm (8, yX8_its, cX8_its, 1, (some .int), true, 1, 0) := ⟨rfl, by decide +kernel, z_g334, z_g266, by decide +kernel, by decide +kernel, ⟨fun _ => z_g335, fun h => absurd h (by decide)⟩⟩
theorem z_okm_111 : z_okm (8, yX8_job, cX8_job, 4, (some .int), false, 2, 3) := ⟨rfl, by decide +kernel, z_g336, z_g266, by decide +kernel, by decide +kernel, ⟨fun h => absurd h (by decide), fun _ => ⟨z_g337, z_g338⟩⟩⟩
theorem z_okm_112 : z_okm (8, yX8_jobs, cX8_jobs, 5, (some .int), false, 1, 5) := ⟨rfl, by decide +kernel, z_g339, z_g266, by decide +kernel, by decide +kernel, ⟨fun h => absurd h (by decide), fun _ => ⟨z_g340, z_g341⟩⟩⟩
theorem z_okm_113 : z_okm (8, yX8_jobsThat, cX8_jobsThat, 4, (some .int), false, 1, 3) := ⟨rfl, by decide +kernel, z_g342, z_g266, by decide +kernel, by decide +kernel, ⟨fun h => absurd h (by decide), fun _ => ⟨z_g343, z_g344⟩⟩⟩
theorem z_okm_114 : z_okm (8, yX8_keep, cX8_keep, 2, (some .int), false, 0, 0) := ⟨rfl, by decide +kernel, z_g345, z_g266, by decide +kernel, by decide +kernel, ⟨fun h => absurd h (by decide), fun _ => ⟨z_g346, z_g347⟩⟩⟩
theorem z_okm_115 : z_okm (8, yX8_kind, cX8_kind, 1, (some .int), true, 1, 0) := ⟨rfl, by decide +kernel, z_g348, z_g266, by decide +kernel, by decide +kernel, ⟨fun _ => z_g349, fun h => absurd h (by decide)⟩⟩
theorem z_okm_116 : z_okm (8, yX8_mark, cX8_mark, 3, (some .int), false, 0, 2) := ⟨rfl, by decide +kernel, z_g350, z_g266, by decide +kernel, by decide +kernel, ⟨fun h => absurd h (by decide), fun _ => ⟨z_g351, z_g352⟩⟩⟩
theorem z_okm_117 : z_okm (8, yX8_nextClass, cX8_nextClass, 3, (some .int), false, 1, 4) := ⟨rfl, by decide +kernel, z_g353, z_g266, by decide +kernel, by decide +kernel, ⟨fun h => absurd h (by decide), fun _ => ⟨z_g354, z_g355⟩⟩⟩
theorem z_okm_118 : z_okm (8, yX8_nextGroup, cX8_nextGroup, 2, (some .int), false, 0, 6) := ⟨rfl, by decide +kernel, z_g356, z_g266, by decide +kernel, by decide +kernel, ⟨fun h => absurd h (by decide), fun _ => ⟨z_g357, z_g358⟩⟩⟩
theorem z_okm_119 : z_okm (8, yX8_noClass, cX8_noClass, 2, (some .boolean), false, 1, 1) := ⟨rfl, by decide +kernel, z_g359, z_g266, by decide +kernel, by decide +kernel, ⟨fun h => absurd h (by decide), fun _ => ⟨z_g360, z_g361⟩⟩⟩
theorem z_okm_120 : z_okm (8, yX8_noGroup, cX8_noGroup, 2, (some .boolean), false, 1, 1) := ⟨rfl, by decide +kernel, z_g362, z_g266, by decide +kernel, by decide +kernel, ⟨fun h => absurd h (by decide), fun _ => ⟨z_g363, z_g364⟩⟩⟩
theorem z_okm_121 : z_okm (8, yX8_noJob, cX8_noJob, 2, (some .boolean), false, 1, 1) := ⟨rfl, by decide +kernel, z_g365, z_g266, by decide +kernel, by decide +kernel, ⟨fun h => absurd h (by decide), fun _ => ⟨z_g366, z_g367⟩⟩⟩
theorem z_okm_122 : z_okm (8, yX8_party, cX8_party, 1, (some .int), true, 1, 0) := ⟨rfl, by decide +kernel, z_g368, z_g266, by decide +kernel, by decide +kernel, ⟨fun _ => z_g369, fun h => absurd h (by decide)⟩⟩
theorem z_okm_123 : z_okm (8, yX8_pass, cX8_pass, 4, (some .int), false, 1, 9) := ⟨rfl, by decide +kernel, z_g370, z_g266, by decide +kernel, by decide +kernel, ⟨fun h => absurd h (by decide), fun _ => ⟨z_g371, z_g372⟩⟩⟩
theorem z_okm_124 : z_okm (8, yX8_readJob, cX8_readJob, 5, (some .int), false, 1, 4) := ⟨rfl, by decide +kernel, z_g373, z_g266, by decide +kernel, by decide +kernel, ⟨fun h => absurd h (by decide), fun _ => ⟨z_g374, z_g375⟩⟩⟩
theorem z_okm_125 : z_okm (8, yX8_readJobs, cX8_readJobs, 2, (some .int), false, 0, 6) := ⟨rfl, by decide +kernel, z_g376, z_g266, by decide +kernel, by decide +kernel, ⟨fun h => absurd h (by decide), fun _ => ⟨z_g377, z_g378⟩⟩⟩
theorem z_okm_126 : z_okm (8, yX8_record, cX8_record, 2, none, false, 0, 0) := ⟨rfl, by decide +kernel, z_g379, z_g266, by decide +kernel, by decide +kernel, ⟨fun h => absurd h (by decide), fun _ => ⟨z_g380, z_g381⟩⟩⟩
theorem z_okm_127 : z_okm (8, yX8_remember, cX8_remember, 2, none, false, 0, 0) := ⟨rfl, by decide +kernel, z_g382, z_g266, by decide +kernel, by decide +kernel, ⟨fun h => absurd h (by decide), fun _ => ⟨z_g383, z_g384⟩⟩⟩
theorem z_okm_128 : z_okm (8, yX8_restore, cX8_restore, 2, (some .int), false, 0, 2) := ⟨rfl, by decide +kernel, z_g385, z_g266, by decide +kernel, by decide +kernel, ⟨fun h => absurd h (by decide), fun _ => ⟨z_g386, z_g387⟩⟩⟩
theorem z_okm_129 : z_okm (8, yX8_sees, cX8_sees, 3, (some .boolean), false, 2, 1) := ⟨rfl, by decide +kernel, z_g388, z_g266, by decide +kernel, by decide +kernel, ⟨fun h => absurd h (by decide), fun _ => ⟨z_g389, z_g390⟩⟩⟩
theorem z_okm_130 : z_okm (8, yX8_serveOut, cX8_serveOut, 2, none, false, 0, 1) := ⟨rfl, by decide +kernel, z_g391, z_g266, by decide +kernel, by decide +kernel, ⟨fun h => absurd h (by decide), fun _ => ⟨z_g392, z_g393⟩⟩⟩
theorem z_okm_131 : z_okm (8, yX8_served, cX8_served, 4, (some .int), false, 1, 8) := ⟨rfl, by decide +kernel, z_g394, z_g266, by decide +kernel, by decide +kernel, ⟨fun h => absurd h (by decide), fun _ => ⟨z_g395, z_g396⟩⟩⟩
theorem z_okm_132 : z_okm (8, yX8_set, cX8_set, 4, (some .int), false, 2, 2) := ⟨rfl, by decide +kernel, z_g397, z_g266, by decide +kernel, by decide +kernel, ⟨fun h => absurd h (by decide), fun _ => ⟨z_g398, z_g399⟩⟩⟩
theorem z_okm_133 : z_okm (8, yX8_setAge, cX8_setAge, 3, (some .int), false, 2, 3) := ⟨rfl, by decide +kernel, z_g400, z_g266, by decide +kernel, by decide +kernel, ⟨fun h => absurd h (by decide), fun _ => ⟨z_g401, z_g402⟩⟩⟩
theorem z_okm_134 : z_okm (8, yX8_setGroupQuantum, cX8_setGroupQuantum, 3, (some .int), false, 2, 3) := ⟨rfl, by decide +kernel, z_g403, z_g266, by decide +kernel, by decide +kernel, ⟨fun h => absurd h (by decide), fun _ => ⟨z_g404, z_g405⟩⟩⟩
theorem z_okm_135 : z_okm (8, yX8_setQuantum, cX8_setQuantum, 3, (some .int), false, 2, 3) := ⟨rfl, by decide +kernel, z_g406, z_g266, by decide +kernel, by decide +kernel, ⟨fun h => absurd h (by decide), fun _ => ⟨z_g407, z_g408⟩⟩⟩
theorem z_okm_136 : z_okm (8, yX8_shares, cX8_shares, 3, (some .int), false, 2, 2) := ⟨rfl, by decide +kernel, z_g409, z_g266, by decide +kernel, by decide +kernel, ⟨fun h => absurd h (by decide), fun _ => ⟨z_g410, z_g411⟩⟩⟩
theorem z_okm_137 : z_okm (8, yX8_tick, cX8_tick, 5, (some .int), false, 0, 8) := ⟨rfl, by decide +kernel, z_g412, z_g266, by decide +kernel, by decide +kernel, ⟨fun h => absurd h (by decide), fun _ => ⟨z_g413, z_g414⟩⟩⟩
theorem z_okm_138 : z_okm (8, yX8_type, cX8_type, 2, (some .int), false, 1, 0) := ⟨rfl, by decide +kernel, z_g415, z_g266, by decide +kernel, by decide +kernel, ⟨fun h => absurd h (by decide), fun _ => ⟨z_g416, z_g417⟩⟩⟩
theorem z_okm_139 : z_okm (8, yX8_undo, cX8_undo, 2, (some .int), false, 0, 0) := ⟨rfl, by decide +kernel, z_g418, z_g266, by decide +kernel, by decide +kernel, ⟨fun h => absurd h (by decide), fun _ => ⟨z_g419, z_g420⟩⟩⟩
theorem z_okm_140 : z_okm (8, yX8_waiting, cX8_waiting, 8, (some .int), false, 3, 2) := ⟨rfl, by decide +kernel, z_g421, z_g266, by decide +kernel, by decide +kernel, ⟨fun h => absurd h (by decide), fun _ => ⟨z_g422, z_g423⟩⟩⟩
theorem z_okm_141 : z_okm (8, yX8_waits, cX8_waits, 2, (some .boolean), false, 1, 1) := ⟨rfl, by decide +kernel, z_g424, z_g266, by decide +kernel, by decide +kernel, ⟨fun h => absurd h (by decide), fun _ => ⟨z_g425, z_g426⟩⟩⟩
set_option maxRecDepth 100000 in
theorem z_mts_ok : ∀ mi ∈ z_mts, z_okm mi := List.forall_mem_cons.mpr ⟨z_okm_0,
  List.forall_mem_cons.mpr ⟨z_okm_1,
  List.forall_mem_cons.mpr ⟨z_okm_2,
  List.forall_mem_cons.mpr ⟨z_okm_3,
  List.forall_mem_cons.mpr ⟨z_okm_4,
  List.forall_mem_cons.mpr ⟨z_okm_5,
  List.forall_mem_cons.mpr ⟨z_okm_6,
  List.forall_mem_cons.mpr ⟨z_okm_7,
  List.forall_mem_cons.mpr ⟨z_okm_8,
  List.forall_mem_cons.mpr ⟨z_okm_9,
  List.forall_mem_cons.mpr ⟨z_okm_10,
  List.forall_mem_cons.mpr ⟨z_okm_11,
  List.forall_mem_cons.mpr ⟨z_okm_12,
  List.forall_mem_cons.mpr ⟨z_okm_13,
  List.forall_mem_cons.mpr ⟨z_okm_14,
  List.forall_mem_cons.mpr ⟨z_okm_15,
  List.forall_mem_cons.mpr ⟨z_okm_16,
  List.forall_mem_cons.mpr ⟨z_okm_17,
  List.forall_mem_cons.mpr ⟨z_okm_18,
  List.forall_mem_cons.mpr ⟨z_okm_19,
  List.forall_mem_cons.mpr ⟨z_okm_20,
  List.forall_mem_cons.mpr ⟨z_okm_21,
  List.forall_mem_cons.mpr ⟨z_okm_22,
  List.forall_mem_cons.mpr ⟨z_okm_23,
  List.forall_mem_cons.mpr ⟨z_okm_24,
  List.forall_mem_cons.mpr ⟨z_okm_25,
  List.forall_mem_cons.mpr ⟨z_okm_26,
  List.forall_mem_cons.mpr ⟨z_okm_27,
  List.forall_mem_cons.mpr ⟨z_okm_28,
  List.forall_mem_cons.mpr ⟨z_okm_29,
  List.forall_mem_cons.mpr ⟨z_okm_30,
  List.forall_mem_cons.mpr ⟨z_okm_31,
  List.forall_mem_cons.mpr ⟨z_okm_32,
  List.forall_mem_cons.mpr ⟨z_okm_33,
  List.forall_mem_cons.mpr ⟨z_okm_34,
  List.forall_mem_cons.mpr ⟨z_okm_35,
  List.forall_mem_cons.mpr ⟨z_okm_36,
  List.forall_mem_cons.mpr ⟨z_okm_37,
  List.forall_mem_cons.mpr ⟨z_okm_38,
  List.forall_mem_cons.mpr ⟨z_okm_39,
  List.forall_mem_cons.mpr ⟨z_okm_40,
  List.forall_mem_cons.mpr ⟨z_okm_41,
  List.forall_mem_cons.mpr ⟨z_okm_42,
  List.forall_mem_cons.mpr ⟨z_okm_43,
  List.forall_mem_cons.mpr ⟨z_okm_44,
  List.forall_mem_cons.mpr ⟨z_okm_45,
  List.forall_mem_cons.mpr ⟨z_okm_46,
  List.forall_mem_cons.mpr ⟨z_okm_47,
  List.forall_mem_cons.mpr ⟨z_okm_48,
  List.forall_mem_cons.mpr ⟨z_okm_49,
  List.forall_mem_cons.mpr ⟨z_okm_50,
  List.forall_mem_cons.mpr ⟨z_okm_51,
  List.forall_mem_cons.mpr ⟨z_okm_52,
  List.forall_mem_cons.mpr ⟨z_okm_53,
  List.forall_mem_cons.mpr ⟨z_okm_54,
  List.forall_mem_cons.mpr ⟨z_okm_55,
  List.forall_mem_cons.mpr ⟨z_okm_56,
  List.forall_mem_cons.mpr ⟨z_okm_57,
  List.forall_mem_cons.mpr ⟨z_okm_58,
  List.forall_mem_cons.mpr ⟨z_okm_59,
  List.forall_mem_cons.mpr ⟨z_okm_60,
  List.forall_mem_cons.mpr ⟨z_okm_61,
  List.forall_mem_cons.mpr ⟨z_okm_62,
  List.forall_mem_cons.mpr ⟨z_okm_63,
  List.forall_mem_cons.mpr ⟨z_okm_64,
  List.forall_mem_cons.mpr ⟨z_okm_65,
  List.forall_mem_cons.mpr ⟨z_okm_66,
  List.forall_mem_cons.mpr ⟨z_okm_67,
  List.forall_mem_cons.mpr ⟨z_okm_68,
  List.forall_mem_cons.mpr ⟨z_okm_69,
  List.forall_mem_cons.mpr ⟨z_okm_70,
  List.forall_mem_cons.mpr ⟨z_okm_71,
  List.forall_mem_cons.mpr ⟨z_okm_72,
  List.forall_mem_cons.mpr ⟨z_okm_73,
  List.forall_mem_cons.mpr ⟨z_okm_74,
  List.forall_mem_cons.mpr ⟨z_okm_75,
  List.forall_mem_cons.mpr ⟨z_okm_76,
  List.forall_mem_cons.mpr ⟨z_okm_77,
  List.forall_mem_cons.mpr ⟨z_okm_78,
  List.forall_mem_cons.mpr ⟨z_okm_79,
  List.forall_mem_cons.mpr ⟨z_okm_80,
  List.forall_mem_cons.mpr ⟨z_okm_81,
  List.forall_mem_cons.mpr ⟨z_okm_82,
  List.forall_mem_cons.mpr ⟨z_okm_83,
  List.forall_mem_cons.mpr ⟨z_okm_84,
  List.forall_mem_cons.mpr ⟨z_okm_85,
  List.forall_mem_cons.mpr ⟨z_okm_86,
  List.forall_mem_cons.mpr ⟨z_okm_87,
  List.forall_mem_cons.mpr ⟨z_okm_88,
  List.forall_mem_cons.mpr ⟨z_okm_89,
  List.forall_mem_cons.mpr ⟨z_okm_90,
  List.forall_mem_cons.mpr ⟨z_okm_91,
  List.forall_mem_cons.mpr ⟨z_okm_92,
  List.forall_mem_cons.mpr ⟨z_okm_93,
  List.forall_mem_cons.mpr ⟨z_okm_94,
  List.forall_mem_cons.mpr ⟨z_okm_95,
  List.forall_mem_cons.mpr ⟨z_okm_96,
  List.forall_mem_cons.mpr ⟨z_okm_97,
  List.forall_mem_cons.mpr ⟨z_okm_98,
  List.forall_mem_cons.mpr ⟨z_okm_99,
  List.forall_mem_cons.mpr ⟨z_okm_100,
  List.forall_mem_cons.mpr ⟨z_okm_101,
  List.forall_mem_cons.mpr ⟨z_okm_102,
  List.forall_mem_cons.mpr ⟨z_okm_103,
  List.forall_mem_cons.mpr ⟨z_okm_104,
  List.forall_mem_cons.mpr ⟨z_okm_105,
  List.forall_mem_cons.mpr ⟨z_okm_106,
  List.forall_mem_cons.mpr ⟨z_okm_107,
  List.forall_mem_cons.mpr ⟨z_okm_108,
  List.forall_mem_cons.mpr ⟨z_okm_109,
  List.forall_mem_cons.mpr ⟨z_okm_110,
  List.forall_mem_cons.mpr ⟨z_okm_111,
  List.forall_mem_cons.mpr ⟨z_okm_112,
  List.forall_mem_cons.mpr ⟨z_okm_113,
  List.forall_mem_cons.mpr ⟨z_okm_114,
  List.forall_mem_cons.mpr ⟨z_okm_115,
  List.forall_mem_cons.mpr ⟨z_okm_116,
  List.forall_mem_cons.mpr ⟨z_okm_117,
  List.forall_mem_cons.mpr ⟨z_okm_118,
  List.forall_mem_cons.mpr ⟨z_okm_119,
  List.forall_mem_cons.mpr ⟨z_okm_120,
  List.forall_mem_cons.mpr ⟨z_okm_121,
  List.forall_mem_cons.mpr ⟨z_okm_122,
  List.forall_mem_cons.mpr ⟨z_okm_123,
  List.forall_mem_cons.mpr ⟨z_okm_124,
  List.forall_mem_cons.mpr ⟨z_okm_125,
  List.forall_mem_cons.mpr ⟨z_okm_126,
  List.forall_mem_cons.mpr ⟨z_okm_127,
  List.forall_mem_cons.mpr ⟨z_okm_128,
  List.forall_mem_cons.mpr ⟨z_okm_129,
  List.forall_mem_cons.mpr ⟨z_okm_130,
  List.forall_mem_cons.mpr ⟨z_okm_131,
  List.forall_mem_cons.mpr ⟨z_okm_132,
  List.forall_mem_cons.mpr ⟨z_okm_133,
  List.forall_mem_cons.mpr ⟨z_okm_134,
  List.forall_mem_cons.mpr ⟨z_okm_135,
  List.forall_mem_cons.mpr ⟨z_okm_136,
  List.forall_mem_cons.mpr ⟨z_okm_137,
  List.forall_mem_cons.mpr ⟨z_okm_138,
  List.forall_mem_cons.mpr ⟨z_okm_139,
  List.forall_mem_cons.mpr ⟨z_okm_140,
  List.forall_mem_cons.mpr ⟨z_okm_141,
  fun _ h => absurd h List.not_mem_nil⟩⟩⟩⟩⟩⟩⟩⟩⟩⟩⟩⟩⟩⟩⟩⟩⟩⟩⟩⟩⟩⟩⟩⟩⟩⟩⟩⟩⟩⟩⟩⟩⟩⟩⟩⟩⟩⟩⟩⟩⟩⟩⟩⟩⟩⟩⟩⟩⟩⟩⟩⟩⟩⟩⟩⟩⟩⟩⟩⟩⟩⟩⟩⟩⟩⟩⟩⟩⟩⟩⟩⟩⟩⟩⟩⟩⟩⟩⟩⟩⟩⟩⟩⟩⟩⟩⟩⟩⟩⟩⟩⟩⟩⟩⟩⟩⟩⟩⟩⟩⟩⟩⟩⟩⟩⟩⟩⟩⟩⟩⟩⟩⟩⟩⟩⟩⟩⟩⟩⟩⟩⟩⟩⟩⟩⟩⟩⟩⟩⟩⟩⟩⟩⟩⟩⟩⟩⟩⟩⟩⟩⟩
theorem z_g427 : Cond.fieldLink RX0 9 "DeficitCircles$Classes" "held" "I" ∈ z_G := z_m1 (i := 61) rfl rfl
theorem z_g428 : Cond.fieldLink RX0 15 "DeficitCircles$Classes" "group" "[I" ∈ z_G := z_m1 (i := 64) rfl rfl
theorem z_g429 : Cond.fieldLink RX0 19 "DeficitCircles$Classes" "quantum" "[I" ∈ z_G := z_m1 (i := 68) rfl rfl
theorem z_g430 : Cond.fieldLink RX0 22 "DeficitCircles$Classes" "deficit" "[I" ∈ z_G := z_m1 (i := 71) rfl rfl
theorem z_g431 : Cond.fieldLink RX0 25 "DeficitCircles$Classes" "bucket" "[I" ∈ z_G := z_m1 (i := 75) rfl rfl
theorem z_g432 : Cond.fieldLink RX0 28 "DeficitCircles$Classes" "fill" "[I" ∈ z_G := z_m1 (i := 76) rfl rfl
theorem z_g433 : Cond.fieldLink RX0 31 "DeficitCircles$Classes" "tokens" "[I" ∈ z_G := z_m1 (i := 77) rfl rfl
theorem z_g434 : Cond.fieldLink RX0 34 "DeficitCircles$Classes" "age" "[I" ∈ z_G := z_m1 (i := 80) rfl rfl
theorem z_g435 : Cond.fieldLink RX0 37 "DeficitCircles$Classes" "longestWait" "[I" ∈ z_G := z_m1 (i := 83) rfl rfl
theorem z_g436 : Cond.fieldLink RX0 40 "DeficitCircles$Classes" "units" "[I" ∈ z_G := z_m1 (i := 86) rfl rfl
theorem z_g437 : Cond.fieldLink RX1 9 "DeficitCircles$Groups" "held" "I" ∈ z_G := z_m1 (i := 32) rfl rfl
theorem z_g438 : Cond.fieldLink RX1 15 "DeficitCircles$Groups" "quantum" "[I" ∈ z_G := z_m1 (i := 35) rfl rfl
theorem z_g439 : Cond.fieldLink RX1 19 "DeficitCircles$Groups" "deficit" "[I" ∈ z_G := z_m1 (i := 38) rfl rfl
theorem z_g440 : Cond.fieldLink RX1 22 "DeficitCircles$Groups" "present" "[I" ∈ z_G := z_m1 (i := 42) rfl rfl
theorem z_g441 : Cond.fieldLink RX2 9 "DeficitCircles$History" "length" "I" ∈ z_G := z_m1 (i := 203) rfl rfl
theorem z_g442 : Cond.fieldLink RX2 17 "DeficitCircles$History" "states" "[LDeficitCircles$State;" ∈ z_G := z_m1 (i := 205) rfl rfl
theorem z_g443 : Cond.fieldLink RX3 9 "DeficitCircles$Jobs" "held" "I" ∈ z_G := z_m1 (i := 116) rfl rfl
theorem z_g444 : Cond.fieldLink RX3 15 "DeficitCircles$Jobs" "ofClass" "[I" ∈ z_G := z_m1 (i := 119) rfl rfl
theorem z_g445 : Cond.fieldLink RX3 19 "DeficitCircles$Jobs" "size" "[I" ∈ z_G := z_m1 (i := 123) rfl rfl
theorem z_g446 : Cond.fieldLink RX3 22 "DeficitCircles$Jobs" "came" "[I" ∈ z_G := z_m1 (i := 127) rfl rfl
theorem z_g447 : Cond.fieldLink RX3 25 "DeficitCircles$Jobs" "began" "[I" ∈ z_G := z_m1 (i := 130) rfl rfl
theorem z_g448 : Cond.fieldLink RX3 28 "DeficitCircles$Jobs" "waits" "I" ∈ z_G := z_m1 (i := 133) rfl rfl
theorem z_g449 : Cond.fieldLink RX3 31 "DeficitCircles$Jobs" "line" "[I" ∈ z_G := z_m1 (i := 137) rfl rfl
theorem z_g450 : Cond.fieldLink RX4 12 "DeficitCircles$State" "groups" "LDeficitCircles$Groups;" ∈ z_G := z_m1 (i := 153) rfl rfl
theorem z_g451 : Cond.fieldLink RX4 21 "DeficitCircles$State" "classes" "LDeficitCircles$Classes;" ∈ z_G := z_m1 (i := 156) rfl rfl
theorem z_g452 : Cond.fieldLink RX4 28 "DeficitCircles$State" "jobs" "LDeficitCircles$Jobs;" ∈ z_G := z_m1 (i := 159) rfl rfl
theorem z_g453 : Cond.fieldLink RX4 32 "DeficitCircles$State" "time" "I" ∈ z_G := z_m1 (i := 162) rfl rfl
theorem z_g454 : Cond.fieldLink RX4 36 "DeficitCircles$State" "presentGroup" "I" ∈ z_G := z_m1 (i := 164) rfl rfl
theorem z_g455 : Cond.fieldLink RX4 39 "DeficitCircles$State" "inService" "I" ∈ z_G := z_m1 (i := 167) rfl rfl
theorem z_g456 : Cond.fieldLink RX4 42 "DeficitCircles$State" "left" "I" ∈ z_G := z_m1 (i := 169) rfl rfl
theorem z_g457 : Cond.fieldLink RX4 45 "DeficitCircles$State" "idleTicks" "I" ∈ z_G := z_m1 (i := 171) rfl rfl
theorem z_g458 : Cond.fieldLink RX4 48 "DeficitCircles$State" "servedWhenOld" "I" ∈ z_G := z_m1 (i := 173) rfl rfl
theorem z_g459 : Cond.fieldLink RX4 69 "DeficitCircles$Classes" "tokens" "[I" ∈ z_G := z_m1 (i := 78) rfl rfl
theorem z_g460 : Cond.fieldLink RX4 91 "DeficitCircles$Jobs" "began" "[I" ∈ z_G := z_m1 (i := 131) rfl rfl
theorem z_g461 : Cond.fieldLink RX4 94 "DeficitCircles$Jobs" "size" "[I" ∈ z_G := z_m1 (i := 125) rfl rfl
theorem z_g462 : Cond.fieldLink RX4 97 "DeficitCircles$Jobs" "ofClass" "[I" ∈ z_G := z_m1 (i := 121) rfl rfl
theorem z_g463 : Cond.fieldLink RX4 100 "DeficitCircles$Jobs" "came" "[I" ∈ z_G := z_m1 (i := 128) rfl rfl
theorem z_g464 : Cond.fieldLink RX4 117 "DeficitCircles$Classes" "longestWait" "[I" ∈ z_G := z_m1 (i := 84) rfl rfl
theorem z_g465 : Cond.fieldLink RX4 129 "DeficitCircles$Classes" "deficit" "[I" ∈ z_G := z_m1 (i := 72) rfl rfl
theorem z_g466 : Cond.fieldLink RX4 136 "DeficitCircles$Groups" "deficit" "[I" ∈ z_G := z_m1 (i := 40) rfl rfl
theorem z_g467 : Cond.fieldLink RX4 138 "DeficitCircles$Classes" "units" "[I" ∈ z_G := z_m1 (i := 87) rfl rfl
theorem z_g468 : Cond.fieldLink RX4 141 "DeficitCircles$Classes" "age" "[I" ∈ z_G := z_m1 (i := 82) rfl rfl
theorem z_g469 : Cond.fieldLink RX4 147 "DeficitCircles$Jobs" "waits" "I" ∈ z_G := z_m1 (i := 135) rfl rfl
theorem z_g470 : Cond.fieldLink RX4 153 "DeficitCircles$Classes" "group" "[I" ∈ z_G := z_m1 (i := 66) rfl rfl
theorem z_g471 : Cond.fieldLink RX4 159 "DeficitCircles$Jobs" "held" "I" ∈ z_G := z_m1 (i := 117) rfl rfl
theorem z_g472 : Cond.fieldLink RX5 9 "DeficitCircles$Text" "length" "I" ∈ z_G := z_m1 (i := 217) rfl rfl
theorem z_g473 : Cond.fieldLink RX5 15 "DeficitCircles$Text" "signs" "[C" ∈ z_G := z_m1 (i := 219) rfl rfl
theorem z_g474 : Cond.fieldLink RX6 9 "DeficitCircles$Turns" "classNeed" "[I" ∈ z_G := z_m1 (i := 232) rfl rfl
theorem z_g475 : Cond.fieldLink RX6 15 "DeficitCircles$Turns" "groupNeed" "[I" ∈ z_G := z_m1 (i := 233) rfl rfl
theorem z_g476 : Cond.fieldLink RX6 18 "DeficitCircles$Turns" "groupBusy" "[Z" ∈ z_G := z_m1 (i := 234) rfl rfl
theorem z_g477 : Cond.fieldLink RX6 22 "DeficitCircles$State" "jobs" "LDeficitCircles$Jobs;" ∈ z_G := z_m1 (i := 160) rfl rfl
theorem z_g478 : Cond.fieldLink RX6 28 "DeficitCircles$Jobs" "waits" "I" ∈ z_G := z_m1 (i := 134) rfl rfl
theorem z_g479 : Cond.fieldLink RX6 52 "DeficitCircles$State" "presentGroup" "I" ∈ z_G := z_m1 (i := 165) rfl rfl
theorem z_g480 : Cond.fieldLink RX6 55 "DeficitCircles$State" "groups" "LDeficitCircles$Groups;" ∈ z_G := z_m1 (i := 155) rfl rfl
theorem z_g481 : Cond.fieldLink RX6 65 "DeficitCircles$Groups" "present" "[I" ∈ z_G := z_m1 (i := 43) rfl rfl
theorem z_g482 : Cond.fieldLink RX6 80 "DeficitCircles$Jobs" "ofClass" "[I" ∈ z_G := z_m1 (i := 120) rfl rfl
theorem z_g483 : Cond.fieldLink RX6 86 "DeficitCircles$State" "classes" "LDeficitCircles$Classes;" ∈ z_G := z_m1 (i := 158) rfl rfl
theorem z_g484 : Cond.fieldLink RX6 93 "DeficitCircles$Jobs" "size" "[I" ∈ z_G := z_m1 (i := 124) rfl rfl
theorem z_g485 : Cond.fieldLink RX6 100 "DeficitCircles$Groups" "deficit" "[I" ∈ z_G := z_m1 (i := 39) rfl rfl
theorem z_g486 : Cond.fieldLink RX6 103 "DeficitCircles$Groups" "held" "I" ∈ z_G := z_m1 (i := 34) rfl rfl
theorem z_g487 : Cond.fieldLink RX6 106 "DeficitCircles$Groups" "quantum" "[I" ∈ z_G := z_m1 (i := 37) rfl rfl
theorem z_g488 : Cond.fieldLink RX6 120 "DeficitCircles$Classes" "deficit" "[I" ∈ z_G := z_m1 (i := 73) rfl rfl
theorem z_g489 : Cond.fieldLink RX6 128 "DeficitCircles$Classes" "held" "I" ∈ z_G := z_m1 (i := 63) rfl rfl
theorem z_g490 : Cond.fieldLink RX6 129 "DeficitCircles$Classes" "group" "[I" ∈ z_G := z_m1 (i := 65) rfl rfl
theorem z_g491 : Cond.fieldLink RX6 132 "DeficitCircles$Classes" "quantum" "[I" ∈ z_G := z_m1 (i := 70) rfl rfl
theorem z_g492 : Cond.fieldLink RX7 10 "DeficitCircles" "state" "LDeficitCircles$State;" ∈ z_G := z_m2 (i := 3) rfl rfl
theorem z_g493 : Cond.fieldLink RX7 16 "DeficitCircles" "snapshot" "LDeficitCircles$State;" ∈ z_G := z_m2 (i := 4) rfl rfl
theorem z_g494 : Cond.fieldLink RX7 19 "DeficitCircles" "hasSnapshot" "Z" ∈ z_G := z_m2 (i := 5) rfl rfl
theorem z_g495 : Cond.fieldLink RX7 23 "DeficitCircles" "trial" "LDeficitCircles$State;" ∈ z_G := z_m2 (i := 6) rfl rfl
theorem z_g496 : Cond.fieldLink RX7 29 "DeficitCircles" "history" "LDeficitCircles$History;" ∈ z_G := z_m2 (i := 7) rfl rfl
theorem z_g497 : Cond.fieldLink RX7 36 "DeficitCircles" "text" "LDeficitCircles$Text;" ∈ z_G := z_m2 (i := 8) rfl rfl
theorem z_g498 : Cond.fieldLink RX7 43 "DeficitCircles" "turns" "LDeficitCircles$Turns;" ∈ z_G := z_m2 (i := 9) rfl rfl
theorem z_g499 : Cond.fieldLink RX7 51 "DeficitCircles$State" "groups" "LDeficitCircles$Groups;" ∈ z_G := z_m1 (i := 154) rfl rfl
theorem z_g500 : Cond.fieldLink RX7 55 "DeficitCircles$Groups" "held" "I" ∈ z_G := z_m1 (i := 33) rfl rfl
theorem z_g501 : Cond.fieldLink RX7 76 "DeficitCircles$State" "classes" "LDeficitCircles$Classes;" ∈ z_G := z_m1 (i := 157) rfl rfl
theorem z_g502 : Cond.fieldLink RX7 80 "DeficitCircles$Classes" "held" "I" ∈ z_G := z_m1 (i := 62) rfl rfl
theorem z_g503 : Cond.fieldLink RX7 86 "DeficitCircles$Groups" "quantum" "[I" ∈ z_G := z_m1 (i := 36) rfl rfl
theorem z_g504 : Cond.fieldLink RX7 91 "DeficitCircles$Classes" "quantum" "[I" ∈ z_G := z_m1 (i := 69) rfl rfl
theorem z_g505 : Cond.fieldLink RX7 92 "DeficitCircles$Classes" "age" "[I" ∈ z_G := z_m1 (i := 81) rfl rfl
theorem z_g506 : Cond.fieldLink RX7 102 "DeficitCircles$State" "time" "I" ∈ z_G := z_m1 (i := 163) rfl rfl
theorem z_g507 : Cond.fieldLink RX7 116 "DeficitCircles$Text" "length" "I" ∈ z_G := z_m1 (i := 218) rfl rfl
theorem z_g508 : Cond.fieldLink RX7 134 "DeficitCircles$History" "length" "I" ∈ z_G := z_m1 (i := 204) rfl rfl
theorem z_g509 : Cond.fieldLink RX7 138 "DeficitCircles$Groups" "deficit" "[I" ∈ z_G := z_m1 (i := 41) rfl rfl
theorem z_g510 : Cond.fieldLink RX7 151 "DeficitCircles$Groups" "present" "[I" ∈ z_G := z_m1 (i := 44) rfl rfl
theorem z_g511 : Cond.fieldLink RX7 157 "DeficitCircles$Classes" "group" "[I" ∈ z_G := z_m1 (i := 67) rfl rfl
theorem z_g512 : Cond.fieldLink RX7 160 "DeficitCircles$Classes" "deficit" "[I" ∈ z_G := z_m1 (i := 74) rfl rfl
theorem z_g513 : Cond.fieldLink RX7 161 "DeficitCircles$State" "jobs" "LDeficitCircles$Jobs;" ∈ z_G := z_m1 (i := 161) rfl rfl
theorem z_g514 : Cond.fieldLink RX7 173 "DeficitCircles$Classes" "tokens" "[I" ∈ z_G := z_m1 (i := 79) rfl rfl
theorem z_g515 : Cond.fieldLink RX7 182 "DeficitCircles$Classes" "longestWait" "[I" ∈ z_G := z_m1 (i := 85) rfl rfl
theorem z_g516 : Cond.fieldLink RX7 185 "DeficitCircles$Classes" "units" "[I" ∈ z_G := z_m1 (i := 88) rfl rfl
theorem z_g517 : Cond.fieldLink RX7 189 "DeficitCircles$Jobs" "ofClass" "[I" ∈ z_G := z_m1 (i := 122) rfl rfl
theorem z_g518 : Cond.fieldLink RX7 192 "DeficitCircles$Jobs" "size" "[I" ∈ z_G := z_m1 (i := 126) rfl rfl
theorem z_g519 : Cond.fieldLink RX7 195 "DeficitCircles$Jobs" "came" "[I" ∈ z_G := z_m1 (i := 129) rfl rfl
theorem z_g520 : Cond.fieldLink RX7 201 "DeficitCircles$Jobs" "began" "[I" ∈ z_G := z_m1 (i := 132) rfl rfl
theorem z_g521 : Cond.fieldLink RX7 213 "DeficitCircles$Jobs" "waits" "I" ∈ z_G := z_m1 (i := 136) rfl rfl
theorem z_g522 : Cond.fieldLink RX7 234 "DeficitCircles$Jobs" "held" "I" ∈ z_G := z_m1 (i := 118) rfl rfl
theorem z_g523 : Cond.fieldLink RX7 235 "DeficitCircles$State" "inService" "I" ∈ z_G := z_m1 (i := 168) rfl rfl
theorem z_g524 : Cond.fieldLink RX7 238 "DeficitCircles$State" "presentGroup" "I" ∈ z_G := z_m1 (i := 166) rfl rfl
theorem z_g525 : Cond.fieldLink RX7 247 "DeficitCircles$State" "idleTicks" "I" ∈ z_G := z_m1 (i := 172) rfl rfl
theorem z_g526 : Cond.fieldLink RX7 250 "DeficitCircles$State" "servedWhenOld" "I" ∈ z_G := z_m1 (i := 174) rfl rfl
theorem z_g527 : Cond.fieldLink RX7 266 "DeficitCircles$State" "left" "I" ∈ z_G := z_m1 (i := 170) rfl rfl
theorem z_g528 : Cond.fieldLink RX8 7 "DeficitCirclesModel" "row" "[I" ∈ z_G := z_m3 (i := 172) rfl rfl
theorem z_g529 : Cond.fieldLink RX8 13 "DeficitCirclesModel" "past" "[I" ∈ z_G := z_m3 (i := 173) rfl rfl
theorem z_g530 : Cond.fieldLink RX8 16 "DeficitCirclesModel" "aside" "[I" ∈ z_G := z_m3 (i := 174) rfl rfl
theorem z_g531 : Cond.fieldLink RX8 19 "DeficitCirclesModel" "before" "[I" ∈ z_G := z_m3 (i := 175) rfl rfl
theorem z_g532 : Cond.fieldLink RX8 22 "DeficitCirclesModel" "text" "[C" ∈ z_G := z_m3 (i := 178) rfl rfl
theorem z_g533 : Cond.fieldLink RX8 26 "DeficitCirclesModel" "states" "I" ∈ z_G := z_m3 (i := 176) rfl rfl
theorem z_g534 : Cond.fieldLink RX8 36 "DeficitCirclesModel" "isAside" "Z" ∈ z_G := z_m3 (i := 177) rfl rfl
theorem z_g535 : Cond.fieldLink RX8 118 "DeficitCirclesModel" "length" "I" ∈ z_G := z_m3 (i := 179) rfl rfl
theorem z_g536 : Cond.fieldLink RX8 121 "DeficitCirclesModel" "at" "I" ∈ z_G := z_m3 (i := 180) rfl rfl
def z_okf (e : (Nat × Nat) × (Nat × Nat)) : Prop := ∃ (C : String) (T : u_T) (N : Nat), z_cl[e.2.1]? = some (C, T, N) ∧ e.2.2 < N ∧ Cond.fieldLink (z_cn e.1.1) e.1.2 (T e.2.2).1 (T e.2.2).2.1 (T e.2.2).2.2.1 ∈ z_G
set_option maxRecDepth 100000 in
theorem z_fl_ok : ∀ e ∈ z_fl, z_okf e := List.forall_mem_cons.mpr ⟨⟨_, _, _, rfl, by decide, z_g427⟩,
  List.forall_mem_cons.mpr ⟨⟨_, _, _, rfl, by decide, z_g428⟩,
  List.forall_mem_cons.mpr ⟨⟨_, _, _, rfl, by decide, z_g429⟩,
  List.forall_mem_cons.mpr ⟨⟨_, _, _, rfl, by decide, z_g430⟩,
  List.forall_mem_cons.mpr ⟨⟨_, _, _, rfl, by decide, z_g431⟩,
  List.forall_mem_cons.mpr ⟨⟨_, _, _, rfl, by decide, z_g432⟩,
  List.forall_mem_cons.mpr ⟨⟨_, _, _, rfl, by decide, z_g433⟩,
  List.forall_mem_cons.mpr ⟨⟨_, _, _, rfl, by decide, z_g434⟩,
  List.forall_mem_cons.mpr ⟨⟨_, _, _, rfl, by decide, z_g435⟩,
  List.forall_mem_cons.mpr ⟨⟨_, _, _, rfl, by decide, z_g436⟩,
  List.forall_mem_cons.mpr ⟨⟨_, _, _, rfl, by decide, z_g437⟩,
  List.forall_mem_cons.mpr ⟨⟨_, _, _, rfl, by decide, z_g438⟩,
  List.forall_mem_cons.mpr ⟨⟨_, _, _, rfl, by decide, z_g439⟩,
  List.forall_mem_cons.mpr ⟨⟨_, _, _, rfl, by decide, z_g440⟩,
  List.forall_mem_cons.mpr ⟨⟨_, _, _, rfl, by decide, z_g441⟩,
  List.forall_mem_cons.mpr ⟨⟨_, _, _, rfl, by decide, z_g442⟩,
  List.forall_mem_cons.mpr ⟨⟨_, _, _, rfl, by decide, z_g443⟩,
  List.forall_mem_cons.mpr ⟨⟨_, _, _, rfl, by decide, z_g444⟩,
  List.forall_mem_cons.mpr ⟨⟨_, _, _, rfl, by decide, z_g445⟩,
  List.forall_mem_cons.mpr ⟨⟨_, _, _, rfl, by decide, z_g446⟩,
  List.forall_mem_cons.mpr ⟨⟨_, _, _, rfl, by decide, z_g447⟩,
  List.forall_mem_cons.mpr ⟨⟨_, _, _, rfl, by decide, z_g448⟩,
  List.forall_mem_cons.mpr ⟨⟨_, _, _, rfl, by decide, z_g449⟩,
  List.forall_mem_cons.mpr ⟨⟨_, _, _, rfl, by decide, z_g450⟩,
  List.forall_mem_cons.mpr ⟨⟨_, _, _, rfl, by decide, z_g451⟩,
  List.forall_mem_cons.mpr ⟨⟨_, _, _, rfl, by decide, z_g452⟩,
  List.forall_mem_cons.mpr ⟨⟨_, _, _, rfl, by decide, z_g453⟩,
  List.forall_mem_cons.mpr ⟨⟨_, _, _, rfl, by decide, z_g454⟩,
  List.forall_mem_cons.mpr ⟨⟨_, _, _, rfl, by decide, z_g455⟩,
  List.forall_mem_cons.mpr ⟨⟨_, _, _, rfl, by decide, z_g456⟩,
  List.forall_mem_cons.mpr ⟨⟨_, _, _, rfl, by decide, z_g457⟩,
  List.forall_mem_cons.mpr ⟨⟨_, _, _, rfl, by decide, z_g458⟩,
  List.forall_mem_cons.mpr ⟨⟨_, _, _, rfl, by decide, z_g459⟩,
  List.forall_mem_cons.mpr ⟨⟨_, _, _, rfl, by decide, z_g460⟩,
  List.forall_mem_cons.mpr ⟨⟨_, _, _, rfl, by decide, z_g461⟩,
  List.forall_mem_cons.mpr ⟨⟨_, _, _, rfl, by decide, z_g462⟩,
  List.forall_mem_cons.mpr ⟨⟨_, _, _, rfl, by decide, z_g463⟩,
  List.forall_mem_cons.mpr ⟨⟨_, _, _, rfl, by decide, z_g464⟩,
  List.forall_mem_cons.mpr ⟨⟨_, _, _, rfl, by decide, z_g465⟩,
  List.forall_mem_cons.mpr ⟨⟨_, _, _, rfl, by decide, z_g466⟩,
  List.forall_mem_cons.mpr ⟨⟨_, _, _, rfl, by decide, z_g467⟩,
  List.forall_mem_cons.mpr ⟨⟨_, _, _, rfl, by decide, z_g468⟩,
  List.forall_mem_cons.mpr ⟨⟨_, _, _, rfl, by decide, z_g469⟩,
  List.forall_mem_cons.mpr ⟨⟨_, _, _, rfl, by decide, z_g470⟩,
  List.forall_mem_cons.mpr ⟨⟨_, _, _, rfl, by decide, z_g471⟩,
  List.forall_mem_cons.mpr ⟨⟨_, _, _, rfl, by decide, z_g472⟩,
  List.forall_mem_cons.mpr ⟨⟨_, _, _, rfl, by decide, z_g473⟩,
  List.forall_mem_cons.mpr ⟨⟨_, _, _, rfl, by decide, z_g474⟩,
  List.forall_mem_cons.mpr ⟨⟨_, _, _, rfl, by decide, z_g475⟩,
  List.forall_mem_cons.mpr ⟨⟨_, _, _, rfl, by decide, z_g476⟩,
  List.forall_mem_cons.mpr ⟨⟨_, _, _, rfl, by decide, z_g477⟩,
  List.forall_mem_cons.mpr ⟨⟨_, _, _, rfl, by decide, z_g478⟩,
  List.forall_mem_cons.mpr ⟨⟨_, _, _, rfl, by decide, z_g479⟩,
  List.forall_mem_cons.mpr ⟨⟨_, _, _, rfl, by decide, z_g480⟩,
  List.forall_mem_cons.mpr ⟨⟨_, _, _, rfl, by decide, z_g481⟩,
  List.forall_mem_cons.mpr ⟨⟨_, _, _, rfl, by decide, z_g482⟩,
  List.forall_mem_cons.mpr ⟨⟨_, _, _, rfl, by decide, z_g483⟩,
  List.forall_mem_cons.mpr ⟨⟨_, _, _, rfl, by decide, z_g484⟩,
  List.forall_mem_cons.mpr ⟨⟨_, _, _, rfl, by decide, z_g485⟩,
  List.forall_mem_cons.mpr ⟨⟨_, _, _, rfl, by decide, z_g486⟩,
  List.forall_mem_cons.mpr ⟨⟨_, _, _, rfl, by decide, z_g487⟩,
  List.forall_mem_cons.mpr ⟨⟨_, _, _, rfl, by decide, z_g488⟩,
  List.forall_mem_cons.mpr ⟨⟨_, _, _, rfl, by decide, z_g489⟩,
  List.forall_mem_cons.mpr ⟨⟨_, _, _, rfl, by decide, z_g490⟩,
  List.forall_mem_cons.mpr ⟨⟨_, _, _, rfl, by decide, z_g491⟩,
  List.forall_mem_cons.mpr ⟨⟨_, _, _, rfl, by decide, z_g492⟩,
  List.forall_mem_cons.mpr ⟨⟨_, _, _, rfl, by decide, z_g493⟩,
  List.forall_mem_cons.mpr ⟨⟨_, _, _, rfl, by decide, z_g494⟩,
  List.forall_mem_cons.mpr ⟨⟨_, _, _, rfl, by decide, z_g495⟩,
  List.forall_mem_cons.mpr ⟨⟨_, _, _, rfl, by decide, z_g496⟩,
  List.forall_mem_cons.mpr ⟨⟨_, _, _, rfl, by decide, z_g497⟩,
  List.forall_mem_cons.mpr ⟨⟨_, _, _, rfl, by decide, z_g498⟩,
  List.forall_mem_cons.mpr ⟨⟨_, _, _, rfl, by decide, z_g499⟩,
  List.forall_mem_cons.mpr ⟨⟨_, _, _, rfl, by decide, z_g500⟩,
  List.forall_mem_cons.mpr ⟨⟨_, _, _, rfl, by decide, z_g501⟩,
  List.forall_mem_cons.mpr ⟨⟨_, _, _, rfl, by decide, z_g502⟩,
  List.forall_mem_cons.mpr ⟨⟨_, _, _, rfl, by decide, z_g503⟩,
  List.forall_mem_cons.mpr ⟨⟨_, _, _, rfl, by decide, z_g504⟩,
  List.forall_mem_cons.mpr ⟨⟨_, _, _, rfl, by decide, z_g505⟩,
  List.forall_mem_cons.mpr ⟨⟨_, _, _, rfl, by decide, z_g506⟩,
  List.forall_mem_cons.mpr ⟨⟨_, _, _, rfl, by decide, z_g507⟩,
  List.forall_mem_cons.mpr ⟨⟨_, _, _, rfl, by decide, z_g508⟩,
  List.forall_mem_cons.mpr ⟨⟨_, _, _, rfl, by decide, z_g509⟩,
  List.forall_mem_cons.mpr ⟨⟨_, _, _, rfl, by decide, z_g510⟩,
  List.forall_mem_cons.mpr ⟨⟨_, _, _, rfl, by decide, z_g511⟩,
  List.forall_mem_cons.mpr ⟨⟨_, _, _, rfl, by decide, z_g512⟩,
  List.forall_mem_cons.mpr ⟨⟨_, _, _, rfl, by decide, z_g513⟩,
  List.forall_mem_cons.mpr ⟨⟨_, _, _, rfl, by decide, z_g514⟩,
  List.forall_mem_cons.mpr ⟨⟨_, _, _, rfl, by decide, z_g515⟩,
  List.forall_mem_cons.mpr ⟨⟨_, _, _, rfl, by decide, z_g516⟩,
  List.forall_mem_cons.mpr ⟨⟨_, _, _, rfl, by decide, z_g517⟩,
  List.forall_mem_cons.mpr ⟨⟨_, _, _, rfl, by decide, z_g518⟩,
  List.forall_mem_cons.mpr ⟨⟨_, _, _, rfl, by decide, z_g519⟩,
  List.forall_mem_cons.mpr ⟨⟨_, _, _, rfl, by decide, z_g520⟩,
  List.forall_mem_cons.mpr ⟨⟨_, _, _, rfl, by decide, z_g521⟩,
  List.forall_mem_cons.mpr ⟨⟨_, _, _, rfl, by decide, z_g522⟩,
  List.forall_mem_cons.mpr ⟨⟨_, _, _, rfl, by decide, z_g523⟩,
  List.forall_mem_cons.mpr ⟨⟨_, _, _, rfl, by decide, z_g524⟩,
  List.forall_mem_cons.mpr ⟨⟨_, _, _, rfl, by decide, z_g525⟩,
  List.forall_mem_cons.mpr ⟨⟨_, _, _, rfl, by decide, z_g526⟩,
  List.forall_mem_cons.mpr ⟨⟨_, _, _, rfl, by decide, z_g527⟩,
  List.forall_mem_cons.mpr ⟨⟨_, _, _, rfl, by decide, z_g528⟩,
  List.forall_mem_cons.mpr ⟨⟨_, _, _, rfl, by decide, z_g529⟩,
  List.forall_mem_cons.mpr ⟨⟨_, _, _, rfl, by decide, z_g530⟩,
  List.forall_mem_cons.mpr ⟨⟨_, _, _, rfl, by decide, z_g531⟩,
  List.forall_mem_cons.mpr ⟨⟨_, _, _, rfl, by decide, z_g532⟩,
  List.forall_mem_cons.mpr ⟨⟨_, _, _, rfl, by decide, z_g533⟩,
  List.forall_mem_cons.mpr ⟨⟨_, _, _, rfl, by decide, z_g534⟩,
  List.forall_mem_cons.mpr ⟨⟨_, _, _, rfl, by decide, z_g535⟩,
  List.forall_mem_cons.mpr ⟨⟨_, _, _, rfl, by decide, z_g536⟩,
  fun _ h => absurd h List.not_mem_nil⟩⟩⟩⟩⟩⟩⟩⟩⟩⟩⟩⟩⟩⟩⟩⟩⟩⟩⟩⟩⟩⟩⟩⟩⟩⟩⟩⟩⟩⟩⟩⟩⟩⟩⟩⟩⟩⟩⟩⟩⟩⟩⟩⟩⟩⟩⟩⟩⟩⟩⟩⟩⟩⟩⟩⟩⟩⟩⟩⟩⟩⟩⟩⟩⟩⟩⟩⟩⟩⟩⟩⟩⟩⟩⟩⟩⟩⟩⟩⟩⟩⟩⟩⟩⟩⟩⟩⟩⟩⟩⟩⟩⟩⟩⟩⟩⟩⟩⟩⟩⟩⟩⟩⟩⟩⟩⟩⟩⟩⟩
theorem z_g537 : Cond.methodLink RX2 22 yX2_dropOldest ∈ z_G := z_m2 (i := 39) rfl rfl
theorem z_g538 : Cond.methodLink RX2 25 yX2_roomAt ∈ z_G := z_m2 (i := 43) rfl rfl
theorem z_g539 : Cond.methodLink RX2 29 yX4_copyFrom ∈ z_G := z_m2 (i := 47) rfl rfl
theorem z_g540 : Cond.methodLink RX3 34 yX3_has ∈ z_G := z_m2 (i := 142) rfl rfl
theorem z_g541 : Cond.methodLink RX3 38 yX3_waitingAt ∈ z_G := z_m2 (i := 210) rfl rfl
theorem z_g542 : Cond.methodLink RX3 42 yX3_sizesAheadOf ∈ z_G := z_m3 (i := 165) rfl rfl
theorem z_g543 : Cond.methodLink RX4 51 yX1_copyFrom ∈ z_G := z_m2 (i := 51) rfl rfl
theorem z_g544 : Cond.methodLink RX4 55 yX0_copyFrom ∈ z_G := z_m2 (i := 58) rfl rfl
theorem z_g545 : Cond.methodLink RX4 58 yX3_copyFrom ∈ z_G := z_m2 (i := 63) rfl rfl
theorem z_g546 : Cond.methodLink RX4 61 yX0_has ∈ z_G := z_m2 (i := 108) rfl rfl
theorem z_g547 : Cond.methodLink RX4 73 yX3_isFull ∈ z_G := z_m2 (i := 110) rfl rfl
theorem z_g548 : Cond.methodLink RX4 77 yX3_append ∈ z_G := z_m2 (i := 118) rfl rfl
theorem z_g549 : Cond.methodLink RX4 81 yX3_isWaiting ∈ z_G := z_m2 (i := 155) rfl rfl
theorem z_g550 : Cond.methodLink RX4 84 yX4_isOld ∈ z_G := z_m2 (i := 146) rfl rfl
theorem z_g551 : Cond.methodLink RX4 87 yX3_leaveLine ∈ z_G := z_m2 (i := 215) rfl rfl
theorem z_g552 : Cond.methodLink RX4 103 yX4_noteWait ∈ z_G := z_m2 (i := 219) rfl rfl
theorem z_g553 : Cond.methodLink RX4 107 yX4_payFromClass ∈ z_G := z_m2 (i := 226) rfl rfl
theorem z_g554 : Cond.methodLink RX4 110 yX4_groupFor ∈ z_G := z_m2 (i := 234) rfl rfl
theorem z_g555 : Cond.methodLink RX4 114 yX4_payFromGroup ∈ z_G := z_m2 (i := 235) rfl rfl
theorem z_g556 : Cond.methodLink RX4 126 yX3_waitsOf ∈ z_G := z_m2 (i := 230) rfl rfl
theorem z_g557 : Cond.methodLink RX4 132 yX1_has ∈ z_G := z_m2 (i := 239) rfl rfl
theorem z_g558 : Cond.methodLink RX4 133 yX4_waitsOfGroup ∈ z_G := z_m3 (i := 0) rfl rfl
theorem z_g559 : Cond.methodLink RX4 137 yX3_has ∈ z_G := z_m2 (i := 154) rfl rfl
theorem z_g560 : Cond.methodLink RX4 144 yX4_ageFor ∈ z_G := z_m2 (i := 150) rfl rfl
theorem z_g561 : Cond.methodLink RX4 150 yX3_waitingAt ∈ z_G := z_m2 (i := 138) rfl rfl
theorem z_g562 : Cond.methodLink RX4 156 yX4_stageOf ∈ z_G := z_m3 (i := 102) rfl rfl
theorem z_g563 : Cond.methodLink RX5 19 yX5_partAfter ∈ z_G := z_m3 (i := 41) rfl rfl
theorem z_g564 : Cond.methodLink RX5 23 yX5_digitAt ∈ z_G := z_m3 (i := 53) rfl rfl
theorem z_g565 : Cond.methodLink RX6 34 yX4_firstOld ∈ z_G := z_m2 (i := 134) rfl rfl
theorem z_g566 : Cond.methodLink RX6 38 yX6_noteFirstJobs ∈ z_G := z_m2 (i := 159) rfl rfl
theorem z_g567 : Cond.methodLink RX6 42 yX6_presentGroupIsNext ∈ z_G := z_m2 (i := 175) rfl rfl
theorem z_g568 : Cond.methodLink RX6 46 yX6_walkGroups ∈ z_G := z_m2 (i := 198) rfl rfl
theorem z_g569 : Cond.methodLink RX6 49 yX6_skipGroupRounds ∈ z_G := z_m2 (i := 202) rfl rfl
theorem z_g570 : Cond.methodLink RX6 59 yX1_has ∈ z_G := z_m2 (i := 174) rfl rfl
theorem z_g571 : Cond.methodLink RX6 68 yX3_firstOf ∈ z_G := z_m2 (i := 206) rfl rfl
theorem z_g572 : Cond.methodLink RX6 72 yX3_waitingAt ∈ z_G := z_m2 (i := 163) rfl rfl
theorem z_g573 : Cond.methodLink RX6 75 yX6_noteJob ∈ z_G := z_m2 (i := 164) rfl rfl
theorem z_g574 : Cond.methodLink RX6 79 yX3_has ∈ z_G := z_m2 (i := 168) rfl rfl
theorem z_g575 : Cond.methodLink RX6 83 yX4_groupFor ∈ z_G := z_m2 (i := 169) rfl rfl
theorem z_g576 : Cond.methodLink RX6 90 yX0_has ∈ z_G := z_m2 (i := 173) rfl rfl
theorem z_g577 : Cond.methodLink RX6 96 yX6_lookAt ∈ z_G := z_m2 (i := 179) rfl rfl
theorem z_g578 : Cond.methodLink RX6 110 yX6_roundsBelow ∈ z_G := z_m2 (i := 192) rfl rfl
theorem z_g579 : Cond.methodLink RX6 121 yX6_walkClasses ∈ z_G := z_m2 (i := 183) rfl rfl
theorem z_g580 : Cond.methodLink RX6 125 yX6_skipClassRounds ∈ z_G := z_m2 (i := 187) rfl rfl
theorem z_g581 : Cond.methodLink RX7 47 yX7_isQuantum ∈ z_G := z_m2 (i := 29) rfl rfl
theorem z_g582 : Cond.methodLink RX7 61 yX2_push ∈ z_G := z_m2 (i := 35) rfl rfl
theorem z_g583 : Cond.methodLink RX7 65 yX1_append ∈ z_G := z_m2 (i := 68) rfl rfl
theorem z_g584 : Cond.methodLink RX7 69 yX1_has ∈ z_G := z_m2 (i := 76) rfl rfl
theorem z_g585 : Cond.methodLink RX7 72 yX7_isWithin ∈ z_G := z_m2 (i := 32) rfl rfl
theorem z_g586 : Cond.methodLink RX7 83 yX0_append ∈ z_G := z_m2 (i := 80) rfl rfl
theorem z_g587 : Cond.methodLink RX7 90 yX0_has ∈ z_G := z_m2 (i := 92) rfl rfl
theorem z_g588 : Cond.methodLink RX7 95 yX4_whyNotAdmit ∈ z_G := z_m2 (i := 104) rfl rfl
theorem z_g589 : Cond.methodLink RX7 99 yX4_admit ∈ z_G := z_m2 (i := 114) rfl rfl
theorem z_g590 : Cond.methodLink RX7 105 yX7_passTick ∈ z_G := z_m2 (i := 126) rfl rfl
theorem z_g591 : Cond.methodLink RX7 109 yX0_fillBuckets ∈ z_G := z_m3 (i := 8) rfl rfl
theorem z_g592 : Cond.methodLink RX7 113 yX0_takeUnits ∈ z_G := z_m3 (i := 17) rfl rfl
theorem z_g593 : Cond.methodLink RX7 119 yX5_append ∈ z_G := z_m3 (i := 25) rfl rfl
theorem z_g594 : Cond.methodLink RX7 122 yX5_fault ∈ z_G := z_m3 (i := 37) rfl rfl
theorem z_g595 : Cond.methodLink RX7 125 yX4_copyFrom ∈ z_G := z_m3 (i := 44) rfl rfl
theorem z_g596 : Cond.methodLink RX7 128 yX5_digitAt ∈ z_G := z_m3 (i := 45) rfl rfl
theorem z_g597 : Cond.methodLink RX7 131 yX5_sizeAt ∈ z_G := z_m3 (i := 49) rfl rfl
theorem z_g598 : Cond.methodLink RX7 135 yX2_takeLatest ∈ z_G := z_m3 (i := 58) rfl rfl
theorem z_g599 : Cond.methodLink RX7 142 yX0_heldOf ∈ z_G := z_m3 (i := 75) rfl rfl
theorem z_g600 : Cond.methodLink RX7 145 yX4_waitsOfGroup ∈ z_G := z_m3 (i := 79) rfl rfl
theorem z_g601 : Cond.methodLink RX7 148 yX4_sizesOfGroup ∈ z_G := z_m3 (i := 80) rfl rfl
theorem z_g602 : Cond.methodLink RX7 154 yX0_unitsOf ∈ z_G := z_m3 (i := 84) rfl rfl
theorem z_g603 : Cond.methodLink RX7 165 yX3_waitsOf ∈ z_G := z_m3 (i := 92) rfl rfl
theorem z_g604 : Cond.methodLink RX7 170 yX3_sizesOf ∈ z_G := z_m3 (i := 93) rfl rfl
theorem z_g605 : Cond.methodLink RX7 176 yX3_firstOf ∈ z_G := z_m3 (i := 97) rfl rfl
theorem z_g606 : Cond.methodLink RX7 179 yX4_doneOf ∈ z_G := z_m3 (i := 98) rfl rfl
theorem z_g607 : Cond.methodLink RX7 188 yX3_has ∈ z_G := z_m3 (i := 110) rfl rfl
theorem z_g608 : Cond.methodLink RX7 198 yX4_stageOf ∈ z_G := z_m3 (i := 111) rfl rfl
theorem z_g609 : Cond.methodLink RX7 204 yX4_endOf ∈ z_G := z_m3 (i := 112) rfl rfl
theorem z_g610 : Cond.methodLink RX7 207 yX4_leftOf ∈ z_G := z_m3 (i := 116) rfl rfl
theorem z_g611 : Cond.methodLink RX7 210 yX4_isOld ∈ z_G := z_m3 (i := 120) rfl rfl
theorem z_g612 : Cond.methodLink RX7 216 yX7_beginAhead ∈ z_G := z_m3 (i := 125) rfl rfl
theorem z_g613 : Cond.methodLink RX7 219 yX3_isWaiting ∈ z_G := z_m3 (i := 133) rfl rfl
theorem z_g614 : Cond.methodLink RX7 222 yX4_ageFor ∈ z_G := z_m3 (i := 138) rfl rfl
theorem z_g615 : Cond.methodLink RX7 230 yX3_sizesAheadOf ∈ z_G := z_m3 (i := 140) rfl rfl
theorem z_g616 : Cond.methodLink RX7 241 yX4_doneJobs ∈ z_G := z_m3 (i := 153) rfl rfl
theorem z_g617 : Cond.methodLink RX7 244 yX4_oldJobs ∈ z_G := z_m3 (i := 157) rfl rfl
theorem z_g618 : Cond.methodLink RX7 253 yX3_allSizes ∈ z_G := z_m3 (i := 161) rfl rfl
theorem z_g619 : Cond.methodLink RX7 256 yX6_nextJob ∈ z_G := z_m2 (i := 130) rfl rfl
theorem z_g620 : Cond.methodLink RX7 260 yX4_begin ∈ z_G := z_m2 (i := 211) rfl rfl
theorem z_g621 : Cond.methodLink RX7 263 yX4_serveUnit ∈ z_G := z_m3 (i := 4) rfl rfl
theorem z_g622 : Cond.methodLink RX8 30 yX8_remember ∈ z_G := z_m3 (i := 216) rfl rfl
theorem z_g623 : Cond.methodLink RX8 33 yX8_record ∈ z_G := z_m3 (i := 220) rfl rfl
theorem z_g624 : Cond.methodLink RX8 40 yX8_begin ∈ z_G := z_m3 (i := 212) rfl rfl
theorem z_g625 : Cond.methodLink RX8 43 yX8_in ∈ z_G := z_m3 (i := 228) rfl rfl
theorem z_g626 : Cond.methodLink RX8 47 yX8_its ∈ z_G := z_m4 (i := 37) rfl rfl
theorem z_g627 : Cond.methodLink RX8 51 yX8_waits ∈ z_G := z_m4 (i := 40) rfl rfl
theorem z_g628 : Cond.methodLink RX8 55 yX8_firstOf ∈ z_G := z_m4 (i := 84) rfl rfl
theorem z_g629 : Cond.methodLink RX8 58 yX8_kind ∈ z_G := z_m4 (i := 2) rfl rfl
theorem z_g630 : Cond.methodLink RX8 61 yX8_isBusy ∈ z_G := z_m4 (i := 80) rfl rfl
theorem z_g631 : Cond.methodLink RX8 64 yX8_party ∈ z_G := z_m3 (i := 231) rfl rfl
theorem z_g632 : Cond.methodLink RX8 67 yX8_noGroup ∈ z_G := z_m3 (i := 238) rfl rfl
theorem z_g633 : Cond.methodLink RX8 70 yX8_set ∈ z_G := z_m4 (i := 9) rfl rfl
theorem z_g634 : Cond.methodLink RX8 74 yX8_noClass ∈ z_G := z_m4 (i := 17) rfl rfl
theorem z_g635 : Cond.methodLink RX8 77 yX8_waiting ∈ z_G := z_m4 (i := 33) rfl rfl
theorem z_g636 : Cond.methodLink RX8 81 yX8_against ∈ z_G := z_m4 (i := 29) rfl rfl
theorem z_g637 : Cond.methodLink RX8 84 yX8_come ∈ z_G := z_m4 (i := 44) rfl rfl
theorem z_g638 : Cond.methodLink RX8 87 yX8_canServe ∈ z_G := z_m4 (i := 92) rfl rfl
theorem z_g639 : Cond.methodLink RX8 90 yX8_classBehind ∈ z_G := z_m4 (i := 96) rfl rfl
theorem z_g640 : Cond.methodLink RX8 93 yX8_isGroupBusy ∈ z_G := z_m4 (i := 76) rfl rfl
theorem z_g641 : Cond.methodLink RX8 96 yX8_nextClass ∈ z_G := z_m4 (i := 88) rfl rfl
theorem z_g642 : Cond.methodLink RX8 99 yX8_canServeGroup ∈ z_G := z_m4 (i := 72) rfl rfl
theorem z_g643 : Cond.methodLink RX8 102 yX8_isOld ∈ z_G := z_m4 (i := 64) rfl rfl
theorem z_g644 : Cond.methodLink RX8 105 yX8_firstOld ∈ z_G := z_m4 (i := 60) rfl rfl
theorem z_g645 : Cond.methodLink RX8 109 yX8_nextGroup ∈ z_G := z_m4 (i := 68) rfl rfl
theorem z_g646 : Cond.methodLink RX8 112 yX8_choose ∈ z_G := z_m4 (i := 56) rfl rfl
theorem z_g647 : Cond.methodLink RX8 115 yX8_tick ∈ z_G := z_m4 (i := 52) rfl rfl
theorem z_g648 : Cond.methodLink RX8 124 yX8_sees ∈ z_G := z_m4 (i := 124) rfl rfl
theorem z_g649 : Cond.methodLink RX8 128 yX8_readJob ∈ z_G := z_m4 (i := 120) rfl rfl
theorem z_g650 : Cond.methodLink RX8 132 yX8_jobs ∈ z_G := z_m4 (i := 116) rfl rfl
theorem z_g651 : Cond.methodLink RX8 135 yX8_goBack ∈ z_G := z_m4 (i := 128) rfl rfl
theorem z_g652 : Cond.methodLink RX8 139 yX8_noJob ∈ z_G := z_m4 (i := 145) rfl rfl
theorem z_g653 : Cond.methodLink RX8 142 yX8_serveOut ∈ z_G := z_m4 (i := 153) rfl rfl
theorem z_g654 : Cond.methodLink RX8 146 yX8_jobsThat ∈ z_G := z_m4 (i := 174) rfl rfl
def z_okl (e : (Nat × Nat) × Nat) : Prop := ∃ mj, z_mts[e.2]? = some mj ∧ Cond.methodLink (z_cn e.1.1) e.1.2 (z_y mj) ∈ z_G
set_option maxRecDepth 100000 in
theorem z_ml_ok : ∀ e ∈ z_ml, z_okl e := List.forall_mem_cons.mpr ⟨⟨_, rfl, z_g537⟩,
  List.forall_mem_cons.mpr ⟨⟨_, rfl, z_g538⟩,
  List.forall_mem_cons.mpr ⟨⟨_, rfl, z_g539⟩,
  List.forall_mem_cons.mpr ⟨⟨_, rfl, z_g540⟩,
  List.forall_mem_cons.mpr ⟨⟨_, rfl, z_g541⟩,
  List.forall_mem_cons.mpr ⟨⟨_, rfl, z_g542⟩,
  List.forall_mem_cons.mpr ⟨⟨_, rfl, z_g543⟩,
  List.forall_mem_cons.mpr ⟨⟨_, rfl, z_g544⟩,
  List.forall_mem_cons.mpr ⟨⟨_, rfl, z_g545⟩,
  List.forall_mem_cons.mpr ⟨⟨_, rfl, z_g546⟩,
  List.forall_mem_cons.mpr ⟨⟨_, rfl, z_g547⟩,
  List.forall_mem_cons.mpr ⟨⟨_, rfl, z_g548⟩,
  List.forall_mem_cons.mpr ⟨⟨_, rfl, z_g549⟩,
  List.forall_mem_cons.mpr ⟨⟨_, rfl, z_g550⟩,
  List.forall_mem_cons.mpr ⟨⟨_, rfl, z_g551⟩,
  List.forall_mem_cons.mpr ⟨⟨_, rfl, z_g552⟩,
  List.forall_mem_cons.mpr ⟨⟨_, rfl, z_g553⟩,
  List.forall_mem_cons.mpr ⟨⟨_, rfl, z_g554⟩,
  List.forall_mem_cons.mpr ⟨⟨_, rfl, z_g555⟩,
  List.forall_mem_cons.mpr ⟨⟨_, rfl, z_g556⟩,
  List.forall_mem_cons.mpr ⟨⟨_, rfl, z_g557⟩,
  List.forall_mem_cons.mpr ⟨⟨_, rfl, z_g558⟩,
  List.forall_mem_cons.mpr ⟨⟨_, rfl, z_g559⟩,
  List.forall_mem_cons.mpr ⟨⟨_, rfl, z_g560⟩,
  List.forall_mem_cons.mpr ⟨⟨_, rfl, z_g561⟩,
  List.forall_mem_cons.mpr ⟨⟨_, rfl, z_g562⟩,
  List.forall_mem_cons.mpr ⟨⟨_, rfl, z_g563⟩,
  List.forall_mem_cons.mpr ⟨⟨_, rfl, z_g564⟩,
  List.forall_mem_cons.mpr ⟨⟨_, rfl, z_g565⟩,
  List.forall_mem_cons.mpr ⟨⟨_, rfl, z_g566⟩,
  List.forall_mem_cons.mpr ⟨⟨_, rfl, z_g567⟩,
  List.forall_mem_cons.mpr ⟨⟨_, rfl, z_g568⟩,
  List.forall_mem_cons.mpr ⟨⟨_, rfl, z_g569⟩,
  List.forall_mem_cons.mpr ⟨⟨_, rfl, z_g570⟩,
  List.forall_mem_cons.mpr ⟨⟨_, rfl, z_g571⟩,
  List.forall_mem_cons.mpr ⟨⟨_, rfl, z_g572⟩,
  List.forall_mem_cons.mpr ⟨⟨_, rfl, z_g573⟩,
  List.forall_mem_cons.mpr ⟨⟨_, rfl, z_g574⟩,
  List.forall_mem_cons.mpr ⟨⟨_, rfl, z_g575⟩,
  List.forall_mem_cons.mpr ⟨⟨_, rfl, z_g576⟩,
  List.forall_mem_cons.mpr ⟨⟨_, rfl, z_g577⟩,
  List.forall_mem_cons.mpr ⟨⟨_, rfl, z_g578⟩,
  List.forall_mem_cons.mpr ⟨⟨_, rfl, z_g579⟩,
  List.forall_mem_cons.mpr ⟨⟨_, rfl, z_g580⟩,
  List.forall_mem_cons.mpr ⟨⟨_, rfl, z_g581⟩,
  List.forall_mem_cons.mpr ⟨⟨_, rfl, z_g582⟩,
  List.forall_mem_cons.mpr ⟨⟨_, rfl, z_g583⟩,
  List.forall_mem_cons.mpr ⟨⟨_, rfl, z_g584⟩,
  List.forall_mem_cons.mpr ⟨⟨_, rfl, z_g585⟩,
  List.forall_mem_cons.mpr ⟨⟨_, rfl, z_g586⟩,
  List.forall_mem_cons.mpr ⟨⟨_, rfl, z_g587⟩,
  List.forall_mem_cons.mpr ⟨⟨_, rfl, z_g588⟩,
  List.forall_mem_cons.mpr ⟨⟨_, rfl, z_g589⟩,
  List.forall_mem_cons.mpr ⟨⟨_, rfl, z_g590⟩,
  List.forall_mem_cons.mpr ⟨⟨_, rfl, z_g591⟩,
  List.forall_mem_cons.mpr ⟨⟨_, rfl, z_g592⟩,
  List.forall_mem_cons.mpr ⟨⟨_, rfl, z_g593⟩,
  List.forall_mem_cons.mpr ⟨⟨_, rfl, z_g594⟩,
  List.forall_mem_cons.mpr ⟨⟨_, rfl, z_g595⟩,
  List.forall_mem_cons.mpr ⟨⟨_, rfl, z_g596⟩,
  List.forall_mem_cons.mpr ⟨⟨_, rfl, z_g597⟩,
  List.forall_mem_cons.mpr ⟨⟨_, rfl, z_g598⟩,
  List.forall_mem_cons.mpr ⟨⟨_, rfl, z_g599⟩,
  List.forall_mem_cons.mpr ⟨⟨_, rfl, z_g600⟩,
  List.forall_mem_cons.mpr ⟨⟨_, rfl, z_g601⟩,
  List.forall_mem_cons.mpr ⟨⟨_, rfl, z_g602⟩,
  List.forall_mem_cons.mpr ⟨⟨_, rfl, z_g603⟩,
  List.forall_mem_cons.mpr ⟨⟨_, rfl, z_g604⟩,
  List.forall_mem_cons.mpr ⟨⟨_, rfl, z_g605⟩,
  List.forall_mem_cons.mpr ⟨⟨_, rfl, z_g606⟩,
  List.forall_mem_cons.mpr ⟨⟨_, rfl, z_g607⟩,
  List.forall_mem_cons.mpr ⟨⟨_, rfl, z_g608⟩,
  List.forall_mem_cons.mpr ⟨⟨_, rfl, z_g609⟩,
  List.forall_mem_cons.mpr ⟨⟨_, rfl, z_g610⟩,
  List.forall_mem_cons.mpr ⟨⟨_, rfl, z_g611⟩,
  List.forall_mem_cons.mpr ⟨⟨_, rfl, z_g612⟩,
  List.forall_mem_cons.mpr ⟨⟨_, rfl, z_g613⟩,
  List.forall_mem_cons.mpr ⟨⟨_, rfl, z_g614⟩,
  List.forall_mem_cons.mpr ⟨⟨_, rfl, z_g615⟩,
  List.forall_mem_cons.mpr ⟨⟨_, rfl, z_g616⟩,
  List.forall_mem_cons.mpr ⟨⟨_, rfl, z_g617⟩,
  List.forall_mem_cons.mpr ⟨⟨_, rfl, z_g618⟩,
  List.forall_mem_cons.mpr ⟨⟨_, rfl, z_g619⟩,
  List.forall_mem_cons.mpr ⟨⟨_, rfl, z_g620⟩,
  List.forall_mem_cons.mpr ⟨⟨_, rfl, z_g621⟩,
  List.forall_mem_cons.mpr ⟨⟨_, rfl, z_g622⟩,
  List.forall_mem_cons.mpr ⟨⟨_, rfl, z_g623⟩,
  List.forall_mem_cons.mpr ⟨⟨_, rfl, z_g624⟩,
  List.forall_mem_cons.mpr ⟨⟨_, rfl, z_g625⟩,
  List.forall_mem_cons.mpr ⟨⟨_, rfl, z_g626⟩,
  List.forall_mem_cons.mpr ⟨⟨_, rfl, z_g627⟩,
  List.forall_mem_cons.mpr ⟨⟨_, rfl, z_g628⟩,
  List.forall_mem_cons.mpr ⟨⟨_, rfl, z_g629⟩,
  List.forall_mem_cons.mpr ⟨⟨_, rfl, z_g630⟩,
  List.forall_mem_cons.mpr ⟨⟨_, rfl, z_g631⟩,
  List.forall_mem_cons.mpr ⟨⟨_, rfl, z_g632⟩,
  List.forall_mem_cons.mpr ⟨⟨_, rfl, z_g633⟩,
  List.forall_mem_cons.mpr ⟨⟨_, rfl, z_g634⟩,
  List.forall_mem_cons.mpr ⟨⟨_, rfl, z_g635⟩,
  List.forall_mem_cons.mpr ⟨⟨_, rfl, z_g636⟩,
  List.forall_mem_cons.mpr ⟨⟨_, rfl, z_g637⟩,
  List.forall_mem_cons.mpr ⟨⟨_, rfl, z_g638⟩,
  List.forall_mem_cons.mpr ⟨⟨_, rfl, z_g639⟩,
  List.forall_mem_cons.mpr ⟨⟨_, rfl, z_g640⟩,
  List.forall_mem_cons.mpr ⟨⟨_, rfl, z_g641⟩,
  List.forall_mem_cons.mpr ⟨⟨_, rfl, z_g642⟩,
  List.forall_mem_cons.mpr ⟨⟨_, rfl, z_g643⟩,
  List.forall_mem_cons.mpr ⟨⟨_, rfl, z_g644⟩,
  List.forall_mem_cons.mpr ⟨⟨_, rfl, z_g645⟩,
  List.forall_mem_cons.mpr ⟨⟨_, rfl, z_g646⟩,
  List.forall_mem_cons.mpr ⟨⟨_, rfl, z_g647⟩,
  List.forall_mem_cons.mpr ⟨⟨_, rfl, z_g648⟩,
  List.forall_mem_cons.mpr ⟨⟨_, rfl, z_g649⟩,
  List.forall_mem_cons.mpr ⟨⟨_, rfl, z_g650⟩,
  List.forall_mem_cons.mpr ⟨⟨_, rfl, z_g651⟩,
  List.forall_mem_cons.mpr ⟨⟨_, rfl, z_g652⟩,
  List.forall_mem_cons.mpr ⟨⟨_, rfl, z_g653⟩,
  List.forall_mem_cons.mpr ⟨⟨_, rfl, z_g654⟩,
  fun _ h => absurd h List.not_mem_nil⟩⟩⟩⟩⟩⟩⟩⟩⟩⟩⟩⟩⟩⟩⟩⟩⟩⟩⟩⟩⟩⟩⟩⟩⟩⟩⟩⟩⟩⟩⟩⟩⟩⟩⟩⟩⟩⟩⟩⟩⟩⟩⟩⟩⟩⟩⟩⟩⟩⟩⟩⟩⟩⟩⟩⟩⟩⟩⟩⟩⟩⟩⟩⟩⟩⟩⟩⟩⟩⟩⟩⟩⟩⟩⟩⟩⟩⟩⟩⟩⟩⟩⟩⟩⟩⟩⟩⟩⟩⟩⟩⟩⟩⟩⟩⟩⟩⟩⟩⟩⟩⟩⟩⟩⟩⟩⟩⟩⟩⟩⟩⟩⟩⟩⟩⟩⟩⟩
def z_okj (e : (Nat × Nat) × Nat) : Prop := (e.2 = 0 → Cond.methodLink (z_cn e.1.1) e.1.2 Lib.Math.max.name ∈ z_G) ∧ (e.2 = 1 → Cond.methodLink (z_cn e.1.1) e.1.2 Lib.Math.min.name ∈ z_G) ∧ (e.2 = 2 → Cond.methodLink (z_cn e.1.1) e.1.2 arraycopyName ∈ z_G)
theorem z_g655 : Cond.methodLink RX0 43 Lib.Math.min.name ∈ z_G := z_m3 (i := 12) rfl rfl
theorem z_g656 : Cond.methodLink RX0 49 arraycopyName ∈ z_G := z_m2 (i := 62) rfl rfl
theorem z_g657 : Cond.methodLink RX1 25 arraycopyName ∈ z_G := z_m2 (i := 55) rfl rfl
theorem z_g658 : Cond.methodLink RX3 45 arraycopyName ∈ z_G := z_m2 (i := 67) rfl rfl
theorem z_g659 : Cond.methodLink RX4 120 Lib.Math.max.name ∈ z_G := z_m2 (i := 223) rfl rfl
theorem z_g660 : Cond.methodLink RX6 114 Lib.Math.min.name ∈ z_G := z_m2 (i := 195) rfl rfl
theorem z_g661 : Cond.methodLink RX7 225 Lib.Math.max.name ∈ z_G := z_m3 (i := 139) rfl rfl
set_option maxRecDepth 100000 in
theorem z_mm_ok : ∀ e ∈ z_mm, z_okj e := List.forall_mem_cons.mpr ⟨⟨fun h => absurd h (by decide), fun _ => z_g655, fun h => absurd h (by decide)⟩,
  List.forall_mem_cons.mpr ⟨⟨fun h => absurd h (by decide), fun h => absurd h (by decide), fun _ => z_g656⟩,
  List.forall_mem_cons.mpr ⟨⟨fun h => absurd h (by decide), fun h => absurd h (by decide), fun _ => z_g657⟩,
  List.forall_mem_cons.mpr ⟨⟨fun h => absurd h (by decide), fun h => absurd h (by decide), fun _ => z_g658⟩,
  List.forall_mem_cons.mpr ⟨⟨fun _ => z_g659, fun h => absurd h (by decide), fun h => absurd h (by decide)⟩,
  List.forall_mem_cons.mpr ⟨⟨fun h => absurd h (by decide), fun _ => z_g660, fun h => absurd h (by decide)⟩,
  List.forall_mem_cons.mpr ⟨⟨fun _ => z_g661, fun h => absurd h (by decide), fun h => absurd h (by decide)⟩,
  fun _ h => absurd h List.not_mem_nil⟩⟩⟩⟩⟩⟩⟩
theorem z_g662 : Cond.static Lib.Math.max.name ∈ z_G := z_m2 (i := 224) rfl rfl
theorem z_g663 : Cond.initialized "java/lang/Math" ∈ z_G := z_m1 (i := 11) rfl rfl
theorem z_g664 : Cond.code Lib.Math.max.name Lib.Math.max.code 2 (some .int) ∈ z_G := z_m2 (i := 225) rfl rfl
theorem z_max_ok : Cond.static Lib.Math.max.name ∈ z_G ∧ Cond.initialized "java/lang/Math" ∈ z_G ∧ Cond.code Lib.Math.max.name Lib.Math.max.code 2 (some .int) ∈ z_G := ⟨z_g662, z_g663, z_g664⟩
theorem z_g665 : Cond.static Lib.Math.min.name ∈ z_G := z_m2 (i := 196) rfl rfl
theorem z_g666 : Cond.code Lib.Math.min.name Lib.Math.min.code 2 (some .int) ∈ z_G := z_m2 (i := 197) rfl rfl
theorem z_min_ok : Cond.static Lib.Math.min.name ∈ z_G ∧ Cond.initialized "java/lang/Math" ∈ z_G ∧ Cond.code Lib.Math.min.name Lib.Math.min.code 2 (some .int) ∈ z_G := ⟨z_g665, z_g663, z_g666⟩
theorem z_g667 : Cond.native arraycopyName ∈ z_G := z_m2 (i := 57) rfl rfl
theorem z_g668 : Cond.static arraycopyName ∈ z_G := z_m2 (i := 56) rfl rfl
theorem z_g669 : Cond.initialized "java/lang/System" ∈ z_G := z_m1 (i := 10) rfl rfl
theorem z_cpy_ok : Cond.native arraycopyName ∈ z_G ∧ Cond.static arraycopyName ∈ z_G ∧ Cond.initialized "java/lang/System" ∈ z_G := ⟨z_g667, z_g668, z_g669⟩
theorem z_g670 : Cond.constant RX6 109 (Int32.ofInt 1000000) ∈ z_G := z_m2 (i := 191) rfl rfl
theorem z_g671 : Cond.constant RX7 141 (Int32.ofInt 100000) ∈ z_G := z_m3 (i := 74) rfl rfl
theorem z_g672 : Cond.constant RX7 233 (Int32.ofInt 10000000) ∈ z_G := z_m3 (i := 148) rfl rfl
theorem z_g673 : Cond.constant RX8 138 (Int32.ofInt 100000) ∈ z_G := z_m4 (i := 136) rfl rfl
theorem z_g674 : Cond.constant RX8 145 (Int32.ofInt 10000000) ∈ z_G := z_m4 (i := 169) rfl rfl
def z_okc (e : (Nat × Nat) × Int) : Prop := Cond.constant (z_cn e.1.1) e.1.2 (Int32.ofInt e.2) ∈ z_G
set_option maxRecDepth 100000 in
theorem z_cs_ok : ∀ e ∈ z_cs, z_okc e := List.forall_mem_cons.mpr ⟨z_g670,
  List.forall_mem_cons.mpr ⟨z_g671,
  List.forall_mem_cons.mpr ⟨z_g672,
  List.forall_mem_cons.mpr ⟨z_g673,
  List.forall_mem_cons.mpr ⟨z_g674,
  fun _ h => absurd h List.not_mem_nil⟩⟩⟩⟩⟩
theorem z_g675 : Cond.lays RX0 "DeficitCircles$Classes" "held" "I" ∈ z_G := z_m1 (i := 89) rfl rfl
theorem z_g676 : Cond.laysFinal RX0 "DeficitCircles$Classes" "group" "[I" ∈ z_G := z_m1 (i := 91) rfl rfl
theorem z_g677 : Cond.laysFinal RX0 "DeficitCircles$Classes" "quantum" "[I" ∈ z_G := z_m1 (i := 93) rfl rfl
theorem z_g678 : Cond.laysFinal RX0 "DeficitCircles$Classes" "deficit" "[I" ∈ z_G := z_m1 (i := 95) rfl rfl
theorem z_g679 : Cond.laysFinal RX0 "DeficitCircles$Classes" "bucket" "[I" ∈ z_G := z_m1 (i := 97) rfl rfl
theorem z_g680 : Cond.laysFinal RX0 "DeficitCircles$Classes" "fill" "[I" ∈ z_G := z_m1 (i := 99) rfl rfl
theorem z_g681 : Cond.laysFinal RX0 "DeficitCircles$Classes" "tokens" "[I" ∈ z_G := z_m1 (i := 101) rfl rfl
theorem z_g682 : Cond.laysFinal RX0 "DeficitCircles$Classes" "age" "[I" ∈ z_G := z_m1 (i := 103) rfl rfl
theorem z_g683 : Cond.laysFinal RX0 "DeficitCircles$Classes" "longestWait" "[I" ∈ z_G := z_m1 (i := 105) rfl rfl
theorem z_g684 : Cond.laysFinal RX0 "DeficitCircles$Classes" "units" "[I" ∈ z_G := z_m1 (i := 107) rfl rfl
theorem z_lays_0 : ∀ w ∈ u_ws RX0 TX0 10, w ∈ z_G := List.forall_mem_cons.mpr ⟨z_g675,
  List.forall_mem_cons.mpr ⟨z_g676,
  List.forall_mem_cons.mpr ⟨z_g677,
  List.forall_mem_cons.mpr ⟨z_g678,
  List.forall_mem_cons.mpr ⟨z_g679,
  List.forall_mem_cons.mpr ⟨z_g680,
  List.forall_mem_cons.mpr ⟨z_g681,
  List.forall_mem_cons.mpr ⟨z_g682,
  List.forall_mem_cons.mpr ⟨z_g683,
  List.forall_mem_cons.mpr ⟨z_g684,
  fun _ h => absurd h List.not_mem_nil⟩⟩⟩⟩⟩⟩⟩⟩⟩⟩
theorem z_g685 : Cond.lays RX1 "DeficitCircles$Groups" "held" "I" ∈ z_G := z_m1 (i := 45) rfl rfl
theorem z_g686 : Cond.laysFinal RX1 "DeficitCircles$Groups" "quantum" "[I" ∈ z_G := z_m1 (i := 47) rfl rfl
theorem z_g687 : Cond.laysFinal RX1 "DeficitCircles$Groups" "deficit" "[I" ∈ z_G := z_m1 (i := 49) rfl rfl
theorem z_g688 : Cond.laysFinal RX1 "DeficitCircles$Groups" "present" "[I" ∈ z_G := z_m1 (i := 51) rfl rfl
theorem z_lays_1 : ∀ w ∈ u_ws RX1 TX1 4, w ∈ z_G := List.forall_mem_cons.mpr ⟨z_g685,
  List.forall_mem_cons.mpr ⟨z_g686,
  List.forall_mem_cons.mpr ⟨z_g687,
  List.forall_mem_cons.mpr ⟨z_g688,
  fun _ h => absurd h List.not_mem_nil⟩⟩⟩⟩
theorem z_g689 : Cond.lays RX2 "DeficitCircles$History" "length" "I" ∈ z_G := z_m1 (i := 206) rfl rfl
theorem z_g690 : Cond.laysFinal RX2 "DeficitCircles$History" "states" "[LDeficitCircles$State;" ∈ z_G := z_m1 (i := 208) rfl rfl
theorem z_lays_2 : ∀ w ∈ u_ws RX2 TX2 2, w ∈ z_G := List.forall_mem_cons.mpr ⟨z_g689,
  List.forall_mem_cons.mpr ⟨z_g690,
  fun _ h => absurd h List.not_mem_nil⟩⟩
theorem z_g691 : Cond.lays RX3 "DeficitCircles$Jobs" "held" "I" ∈ z_G := z_m1 (i := 138) rfl rfl
theorem z_g692 : Cond.laysFinal RX3 "DeficitCircles$Jobs" "ofClass" "[I" ∈ z_G := z_m1 (i := 140) rfl rfl
theorem z_g693 : Cond.laysFinal RX3 "DeficitCircles$Jobs" "size" "[I" ∈ z_G := z_m1 (i := 142) rfl rfl
theorem z_g694 : Cond.laysFinal RX3 "DeficitCircles$Jobs" "came" "[I" ∈ z_G := z_m1 (i := 144) rfl rfl
theorem z_g695 : Cond.laysFinal RX3 "DeficitCircles$Jobs" "began" "[I" ∈ z_G := z_m1 (i := 146) rfl rfl
theorem z_g696 : Cond.lays RX3 "DeficitCircles$Jobs" "waits" "I" ∈ z_G := z_m1 (i := 148) rfl rfl
theorem z_g697 : Cond.laysFinal RX3 "DeficitCircles$Jobs" "line" "[I" ∈ z_G := z_m1 (i := 150) rfl rfl
theorem z_lays_3 : ∀ w ∈ u_ws RX3 TX3 7, w ∈ z_G := List.forall_mem_cons.mpr ⟨z_g691,
  List.forall_mem_cons.mpr ⟨z_g692,
  List.forall_mem_cons.mpr ⟨z_g693,
  List.forall_mem_cons.mpr ⟨z_g694,
  List.forall_mem_cons.mpr ⟨z_g695,
  List.forall_mem_cons.mpr ⟨z_g696,
  List.forall_mem_cons.mpr ⟨z_g697,
  fun _ h => absurd h List.not_mem_nil⟩⟩⟩⟩⟩⟩⟩
theorem z_g698 : Cond.laysFinal RX4 "DeficitCircles$State" "groups" "LDeficitCircles$Groups;" ∈ z_G := z_m1 (i := 175) rfl rfl
theorem z_g699 : Cond.laysFinal RX4 "DeficitCircles$State" "classes" "LDeficitCircles$Classes;" ∈ z_G := z_m1 (i := 177) rfl rfl
theorem z_g700 : Cond.laysFinal RX4 "DeficitCircles$State" "jobs" "LDeficitCircles$Jobs;" ∈ z_G := z_m1 (i := 179) rfl rfl
theorem z_g701 : Cond.lays RX4 "DeficitCircles$State" "time" "I" ∈ z_G := z_m1 (i := 181) rfl rfl
theorem z_g702 : Cond.lays RX4 "DeficitCircles$State" "presentGroup" "I" ∈ z_G := z_m1 (i := 183) rfl rfl
theorem z_g703 : Cond.lays RX4 "DeficitCircles$State" "inService" "I" ∈ z_G := z_m1 (i := 185) rfl rfl
theorem z_g704 : Cond.lays RX4 "DeficitCircles$State" "left" "I" ∈ z_G := z_m1 (i := 187) rfl rfl
theorem z_g705 : Cond.lays RX4 "DeficitCircles$State" "idleTicks" "I" ∈ z_G := z_m1 (i := 189) rfl rfl
theorem z_g706 : Cond.lays RX4 "DeficitCircles$State" "servedWhenOld" "I" ∈ z_G := z_m1 (i := 191) rfl rfl
theorem z_lays_4 : ∀ w ∈ u_ws RX4 TX4 9, w ∈ z_G := List.forall_mem_cons.mpr ⟨z_g698,
  List.forall_mem_cons.mpr ⟨z_g699,
  List.forall_mem_cons.mpr ⟨z_g700,
  List.forall_mem_cons.mpr ⟨z_g701,
  List.forall_mem_cons.mpr ⟨z_g702,
  List.forall_mem_cons.mpr ⟨z_g703,
  List.forall_mem_cons.mpr ⟨z_g704,
  List.forall_mem_cons.mpr ⟨z_g705,
  List.forall_mem_cons.mpr ⟨z_g706,
  fun _ h => absurd h List.not_mem_nil⟩⟩⟩⟩⟩⟩⟩⟩⟩
theorem z_g707 : Cond.lays RX5 "DeficitCircles$Text" "length" "I" ∈ z_G := z_m1 (i := 220) rfl rfl
theorem z_g708 : Cond.laysFinal RX5 "DeficitCircles$Text" "signs" "[C" ∈ z_G := z_m1 (i := 222) rfl rfl
theorem z_lays_5 : ∀ w ∈ u_ws RX5 TX5 2, w ∈ z_G := List.forall_mem_cons.mpr ⟨z_g707,
  List.forall_mem_cons.mpr ⟨z_g708,
  fun _ h => absurd h List.not_mem_nil⟩⟩
theorem z_g709 : Cond.laysFinal RX6 "DeficitCircles$Turns" "classNeed" "[I" ∈ z_G := z_m1 (i := 235) rfl rfl
theorem z_g710 : Cond.laysFinal RX6 "DeficitCircles$Turns" "groupNeed" "[I" ∈ z_G := z_m1 (i := 237) rfl rfl
theorem z_g711 : Cond.laysFinal RX6 "DeficitCircles$Turns" "groupBusy" "[Z" ∈ z_G := z_m1 (i := 239) rfl rfl
theorem z_lays_6 : ∀ w ∈ u_ws RX6 TX6 3, w ∈ z_G := List.forall_mem_cons.mpr ⟨z_g709,
  List.forall_mem_cons.mpr ⟨z_g710,
  List.forall_mem_cons.mpr ⟨z_g711,
  fun _ h => absurd h List.not_mem_nil⟩⟩⟩
theorem z_g712 : Cond.laysFinal RX7 "DeficitCircles" "state" "LDeficitCircles$State;" ∈ z_G := z_m2 (i := 10) rfl rfl
theorem z_g713 : Cond.laysFinal RX7 "DeficitCircles" "snapshot" "LDeficitCircles$State;" ∈ z_G := z_m2 (i := 12) rfl rfl
theorem z_g714 : Cond.lays RX7 "DeficitCircles" "hasSnapshot" "Z" ∈ z_G := z_m2 (i := 14) rfl rfl
theorem z_g715 : Cond.laysFinal RX7 "DeficitCircles" "trial" "LDeficitCircles$State;" ∈ z_G := z_m2 (i := 16) rfl rfl
theorem z_g716 : Cond.laysFinal RX7 "DeficitCircles" "history" "LDeficitCircles$History;" ∈ z_G := z_m2 (i := 18) rfl rfl
theorem z_g717 : Cond.laysFinal RX7 "DeficitCircles" "text" "LDeficitCircles$Text;" ∈ z_G := z_m2 (i := 20) rfl rfl
theorem z_g718 : Cond.laysFinal RX7 "DeficitCircles" "turns" "LDeficitCircles$Turns;" ∈ z_G := z_m2 (i := 22) rfl rfl
theorem z_lays_7 : ∀ w ∈ u_ws RX7 TX7 7, w ∈ z_G := List.forall_mem_cons.mpr ⟨z_g712,
  List.forall_mem_cons.mpr ⟨z_g713,
  List.forall_mem_cons.mpr ⟨z_g714,
  List.forall_mem_cons.mpr ⟨z_g715,
  List.forall_mem_cons.mpr ⟨z_g716,
  List.forall_mem_cons.mpr ⟨z_g717,
  List.forall_mem_cons.mpr ⟨z_g718,
  fun _ h => absurd h List.not_mem_nil⟩⟩⟩⟩⟩⟩⟩
theorem z_g719 : Cond.laysFinal RX8 "DeficitCirclesModel" "row" "[I" ∈ z_G := z_m3 (i := 181) rfl rfl
theorem z_g720 : Cond.laysFinal RX8 "DeficitCirclesModel" "past" "[I" ∈ z_G := z_m3 (i := 183) rfl rfl
theorem z_g721 : Cond.laysFinal RX8 "DeficitCirclesModel" "aside" "[I" ∈ z_G := z_m3 (i := 185) rfl rfl
theorem z_g722 : Cond.laysFinal RX8 "DeficitCirclesModel" "before" "[I" ∈ z_G := z_m3 (i := 187) rfl rfl
theorem z_g723 : Cond.lays RX8 "DeficitCirclesModel" "states" "I" ∈ z_G := z_m3 (i := 189) rfl rfl
theorem z_g724 : Cond.lays RX8 "DeficitCirclesModel" "isAside" "Z" ∈ z_G := z_m3 (i := 191) rfl rfl
theorem z_g725 : Cond.laysFinal RX8 "DeficitCirclesModel" "text" "[C" ∈ z_G := z_m3 (i := 193) rfl rfl
theorem z_g726 : Cond.lays RX8 "DeficitCirclesModel" "length" "I" ∈ z_G := z_m3 (i := 195) rfl rfl
theorem z_g727 : Cond.lays RX8 "DeficitCirclesModel" "at" "I" ∈ z_G := z_m3 (i := 197) rfl rfl
theorem z_lays_8 : ∀ w ∈ u_ws RX8 TX8 9, w ∈ z_G := List.forall_mem_cons.mpr ⟨z_g719,
  List.forall_mem_cons.mpr ⟨z_g720,
  List.forall_mem_cons.mpr ⟨z_g721,
  List.forall_mem_cons.mpr ⟨z_g722,
  List.forall_mem_cons.mpr ⟨z_g723,
  List.forall_mem_cons.mpr ⟨z_g724,
  List.forall_mem_cons.mpr ⟨z_g725,
  List.forall_mem_cons.mpr ⟨z_g726,
  List.forall_mem_cons.mpr ⟨z_g727,
  fun _ h => absurd h List.not_mem_nil⟩⟩⟩⟩⟩⟩⟩⟩⟩
