/-! the words, by their places in the tables -/
def z_G : List Cond := lw_tbl.filter goodWord
theorem z_m0 {i : Nat} {w : Cond} (h : (k2_sels lw_privs)[i]? = some w) (g : goodWord w = true) : w ∈ z_G := List.mem_filter.mpr ⟨List.mem_append_left _ (List.mem_of_getElem? h), g⟩
theorem z_m1 {i : Nat} {w : Cond} (h : tables_1_1[i]? = some w) (g : goodWord w = true) : w ∈ z_G := List.mem_filter.mpr ⟨List.mem_append_right _ (List.mem_append_left _ (List.mem_of_getElem? h)), g⟩
theorem z_m2 {i : Nat} {w : Cond} (h : tables_1_2[i]? = some w) (g : goodWord w = true) : w ∈ z_G := List.mem_filter.mpr ⟨List.mem_append_right _ (List.mem_append_right _ (List.mem_append_left _ (List.mem_of_getElem? h))), g⟩
theorem z_m3 {i : Nat} {w : Cond} (h : tables_1_3[i]? = some w) (g : goodWord w = true) : w ∈ z_G := List.mem_filter.mpr ⟨List.mem_append_right _ (List.mem_append_right _ (List.mem_append_right _ (List.mem_of_getElem? h))), g⟩
theorem z_g0 : Cond.code yX0_append cX0_append 6 (some .int) ∈ z_G := z_m2 (i := 82) rfl rfl
theorem z_g1 : Cond.initialized RX0 ∈ z_G := z_m1 (i := 4) rfl rfl
theorem z_g2 : Cond.instanceMethod yX0_append ∈ z_G := z_m2 (i := 80) rfl rfl
theorem z_g3 : Cond.selects RX0 yX0_append yX0_append ∈ z_G := z_m2 (i := 81) rfl rfl
theorem z_g4 : Cond.code yX0_copyFrom cX0_copyFrom 2 none ∈ z_G := z_m2 (i := 60) rfl rfl
theorem z_g5 : Cond.instanceMethod yX0_copyFrom ∈ z_G := z_m2 (i := 58) rfl rfl
theorem z_g6 : Cond.selects RX0 yX0_copyFrom yX0_copyFrom ∈ z_G := z_m2 (i := 59) rfl rfl
theorem z_g7 : Cond.code yX0_fillBuckets cX0_fillBuckets 3 none ∈ z_G := z_m3 (i := 94) rfl rfl
theorem z_g8 : Cond.instanceMethod yX0_fillBuckets ∈ z_G := z_m3 (i := 92) rfl rfl
theorem z_g9 : Cond.selects RX0 yX0_fillBuckets yX0_fillBuckets ∈ z_G := z_m3 (i := 93) rfl rfl
theorem z_g10 : Cond.code yX0_has cX0_has 2 (some .boolean) ∈ z_G := z_m2 (i := 126) rfl rfl
theorem z_g11 : Cond.instanceMethod yX0_has ∈ z_G := z_m2 (i := 124) rfl rfl
theorem z_g12 : Cond.selects RX0 yX0_has yX0_has ∈ z_G := z_m2 (i := 125) rfl rfl
theorem z_g13 : Cond.code yX0_heldOf cX0_heldOf 4 (some .int) ∈ z_G := z_m2 (i := 167) rfl rfl
theorem z_g14 : Cond.instanceMethod yX0_heldOf ∈ z_G := z_m2 (i := 165) rfl rfl
theorem z_g15 : Cond.selects RX0 yX0_heldOf yX0_heldOf ∈ z_G := z_m2 (i := 166) rfl rfl
theorem z_g16 : Cond.code yX0_takeUnits cX0_takeUnits 3 (some .int) ∈ z_G := z_m3 (i := 139) rfl rfl
theorem z_g17 : Cond.instanceMethod yX0_takeUnits ∈ z_G := z_m3 (i := 137) rfl rfl
theorem z_g18 : Cond.selects RX0 yX0_takeUnits yX0_takeUnits ∈ z_G := z_m3 (i := 138) rfl rfl
theorem z_g19 : Cond.code yX0_unitsOf cX0_unitsOf 4 (some .int) ∈ z_G := z_m2 (i := 183) rfl rfl
theorem z_g20 : Cond.instanceMethod yX0_unitsOf ∈ z_G := z_m2 (i := 181) rfl rfl
theorem z_g21 : Cond.selects RX0 yX0_unitsOf yX0_unitsOf ∈ z_G := z_m2 (i := 182) rfl rfl
theorem z_g22 : Cond.code yX1_append cX1_append 3 (some .int) ∈ z_G := z_m2 (i := 70) rfl rfl
theorem z_g23 : Cond.initialized RX1 ∈ z_G := z_m1 (i := 3) rfl rfl
theorem z_g24 : Cond.instanceMethod yX1_append ∈ z_G := z_m2 (i := 68) rfl rfl
theorem z_g25 : Cond.selects RX1 yX1_append yX1_append ∈ z_G := z_m2 (i := 69) rfl rfl
theorem z_g26 : Cond.code yX1_copyFrom cX1_copyFrom 2 none ∈ z_G := z_m2 (i := 53) rfl rfl
theorem z_g27 : Cond.instanceMethod yX1_copyFrom ∈ z_G := z_m2 (i := 51) rfl rfl
theorem z_g28 : Cond.selects RX1 yX1_copyFrom yX1_copyFrom ∈ z_G := z_m2 (i := 52) rfl rfl
theorem z_g29 : Cond.code yX1_has cX1_has 2 (some .boolean) ∈ z_G := z_m2 (i := 78) rfl rfl
theorem z_g30 : Cond.instanceMethod yX1_has ∈ z_G := z_m2 (i := 76) rfl rfl
theorem z_g31 : Cond.selects RX1 yX1_has yX1_has ∈ z_G := z_m2 (i := 77) rfl rfl
theorem z_g32 : Cond.code yX2_dropOldest cX2_dropOldest 3 none ∈ z_G := z_m2 (i := 41) rfl rfl
theorem z_g33 : Cond.initialized RX2 ∈ z_G := z_m1 (i := 6) rfl rfl
theorem z_g34 : Cond.instanceMethod yX2_dropOldest ∈ z_G := z_m2 (i := 40) rfl rfl
theorem z_g35 : Cond.selects RX2 yX2_dropOldest yX2_dropOldest ∈ z_G := z_m0 (i := 0) rfl rfl
theorem z_g36 : Cond.code yX2_push cX2_push 3 none ∈ z_G := z_m2 (i := 37) rfl rfl
theorem z_g37 : Cond.instanceMethod yX2_push ∈ z_G := z_m2 (i := 35) rfl rfl
theorem z_g38 : Cond.selects RX2 yX2_push yX2_push ∈ z_G := z_m2 (i := 36) rfl rfl
theorem z_g39 : Cond.code yX2_roomAt cX2_roomAt 2 (some (.object "DeficitCircles$State")) ∈ z_G := z_m2 (i := 45) rfl rfl
theorem z_g40 : Cond.instanceMethod yX2_roomAt ∈ z_G := z_m2 (i := 44) rfl rfl
theorem z_g41 : Cond.selects RX2 yX2_roomAt yX2_roomAt ∈ z_G := z_m0 (i := 1) rfl rfl
theorem z_g42 : Cond.code yX2_takeLatest cX2_takeLatest 3 none ∈ z_G := z_m3 (i := 186) rfl rfl
theorem z_g43 : Cond.instanceMethod yX2_takeLatest ∈ z_G := z_m3 (i := 184) rfl rfl
theorem z_g44 : Cond.selects RX2 yX2_takeLatest yX2_takeLatest ∈ z_G := z_m3 (i := 185) rfl rfl
theorem z_g45 : Cond.code yX3_allSizes cX3_allSizes 1 (some .int) ∈ z_G := z_m2 (i := 134) rfl rfl
theorem z_g46 : Cond.initialized RX3 ∈ z_G := z_m1 (i := 5) rfl rfl
theorem z_g47 : Cond.instanceMethod yX3_allSizes ∈ z_G := z_m2 (i := 132) rfl rfl
theorem z_g48 : Cond.selects RX3 yX3_allSizes yX3_allSizes ∈ z_G := z_m2 (i := 133) rfl rfl
theorem z_g49 : Cond.code yX3_append cX3_append 5 (some .int) ∈ z_G := z_m3 (i := 123) rfl rfl
theorem z_g50 : Cond.instanceMethod yX3_append ∈ z_G := z_m3 (i := 121) rfl rfl
theorem z_g51 : Cond.selects RX3 yX3_append yX3_append ∈ z_G := z_m3 (i := 122) rfl rfl
theorem z_g52 : Cond.code yX3_copyFrom cX3_copyFrom 2 none ∈ z_G := z_m2 (i := 65) rfl rfl
theorem z_g53 : Cond.instanceMethod yX3_copyFrom ∈ z_G := z_m2 (i := 63) rfl rfl
theorem z_g54 : Cond.selects RX3 yX3_copyFrom yX3_copyFrom ∈ z_G := z_m2 (i := 64) rfl rfl
theorem z_g55 : Cond.code yX3_firstOf cX3_firstOf 4 (some .int) ∈ z_G := z_m2 (i := 201) rfl rfl
theorem z_g56 : Cond.instanceMethod yX3_firstOf ∈ z_G := z_m2 (i := 199) rfl rfl
theorem z_g57 : Cond.selects RX3 yX3_firstOf yX3_firstOf ∈ z_G := z_m2 (i := 200) rfl rfl
theorem z_g58 : Cond.code yX3_has cX3_has 2 (some .boolean) ∈ z_G := z_m2 (i := 113) rfl rfl
theorem z_g59 : Cond.instanceMethod yX3_has ∈ z_G := z_m2 (i := 111) rfl rfl
theorem z_g60 : Cond.selects RX3 yX3_has yX3_has ∈ z_G := z_m2 (i := 112) rfl rfl
theorem z_g61 : Cond.code yX3_isFull cX3_isFull 1 (some .boolean) ∈ z_G := z_m3 (i := 115) rfl rfl
theorem z_g62 : Cond.instanceMethod yX3_isFull ∈ z_G := z_m3 (i := 113) rfl rfl
theorem z_g63 : Cond.selects RX3 yX3_isFull yX3_isFull ∈ z_G := z_m3 (i := 114) rfl rfl
theorem z_g64 : Cond.code yX3_isWaiting cX3_isWaiting 2 (some .boolean) ∈ z_G := z_m2 (i := 130) rfl rfl
theorem z_g65 : Cond.instanceMethod yX3_isWaiting ∈ z_G := z_m2 (i := 128) rfl rfl
theorem z_g66 : Cond.selects RX3 yX3_isWaiting yX3_isWaiting ∈ z_G := z_m2 (i := 129) rfl rfl
theorem z_g67 : Cond.code yX3_leaveLine cX3_leaveLine 4 none ∈ z_G := z_m3 (i := 44) rfl rfl
theorem z_g68 : Cond.instanceMethod yX3_leaveLine ∈ z_G := z_m3 (i := 42) rfl rfl
theorem z_g69 : Cond.selects RX3 yX3_leaveLine yX3_leaveLine ∈ z_G := z_m3 (i := 43) rfl rfl
theorem z_g70 : Cond.code yX3_sizesAheadOf cX3_sizesAheadOf 5 (some .int) ∈ z_G := z_m2 (i := 138) rfl rfl
theorem z_g71 : Cond.instanceMethod yX3_sizesAheadOf ∈ z_G := z_m2 (i := 136) rfl rfl
theorem z_g72 : Cond.selects RX3 yX3_sizesAheadOf yX3_sizesAheadOf ∈ z_G := z_m2 (i := 137) rfl rfl
theorem z_g73 : Cond.code yX3_sizesOf cX3_sizesOf 5 (some .int) ∈ z_G := z_m2 (i := 197) rfl rfl
theorem z_g74 : Cond.instanceMethod yX3_sizesOf ∈ z_G := z_m2 (i := 195) rfl rfl
theorem z_g75 : Cond.selects RX3 yX3_sizesOf yX3_sizesOf ∈ z_G := z_m2 (i := 196) rfl rfl
theorem z_g76 : Cond.code yX3_waitingAt cX3_waitingAt 2 (some .int) ∈ z_G := z_m2 (i := 109) rfl rfl
theorem z_g77 : Cond.instanceMethod yX3_waitingAt ∈ z_G := z_m2 (i := 107) rfl rfl
theorem z_g78 : Cond.selects RX3 yX3_waitingAt yX3_waitingAt ∈ z_G := z_m2 (i := 108) rfl rfl
theorem z_g79 : Cond.code yX3_waitsOf cX3_waitsOf 5 (some .int) ∈ z_G := z_m2 (i := 193) rfl rfl
theorem z_g80 : Cond.instanceMethod yX3_waitsOf ∈ z_G := z_m2 (i := 191) rfl rfl
theorem z_g81 : Cond.selects RX3 yX3_waitsOf yX3_waitsOf ∈ z_G := z_m2 (i := 192) rfl rfl
theorem z_g82 : Cond.code yX4_admit cX4_admit 3 (some .int) ∈ z_G := z_m3 (i := 119) rfl rfl
theorem z_g83 : Cond.initialized RX4 ∈ z_G := z_m1 (i := 2) rfl rfl
theorem z_g84 : Cond.instanceMethod yX4_admit ∈ z_G := z_m3 (i := 117) rfl rfl
theorem z_g85 : Cond.selects RX4 yX4_admit yX4_admit ∈ z_G := z_m3 (i := 118) rfl rfl
theorem z_g86 : Cond.code yX4_ageFor cX4_ageFor 2 (some .int) ∈ z_G := z_m2 (i := 121) rfl rfl
theorem z_g87 : Cond.instanceMethod yX4_ageFor ∈ z_G := z_m2 (i := 119) rfl rfl
theorem z_g88 : Cond.selects RX4 yX4_ageFor yX4_ageFor ∈ z_G := z_m2 (i := 120) rfl rfl
theorem z_g89 : Cond.code yX4_begin cX4_begin 2 none ∈ z_G := z_m3 (i := 40) rfl rfl
theorem z_g90 : Cond.instanceMethod yX4_begin ∈ z_G := z_m3 (i := 38) rfl rfl
theorem z_g91 : Cond.selects RX4 yX4_begin yX4_begin ∈ z_G := z_m3 (i := 39) rfl rfl
theorem z_g92 : Cond.code yX4_copyFrom cX4_copyFrom 2 none ∈ z_G := z_m2 (i := 49) rfl rfl
theorem z_g93 : Cond.instanceMethod yX4_copyFrom ∈ z_G := z_m2 (i := 47) rfl rfl
theorem z_g94 : Cond.selects RX4 yX4_copyFrom yX4_copyFrom ∈ z_G := z_m2 (i := 48) rfl rfl
theorem z_g95 : Cond.code yX4_doneJobs cX4_doneJobs 1 (some .int) ∈ z_G := z_m2 (i := 101) rfl rfl
theorem z_g96 : Cond.instanceMethod yX4_doneJobs ∈ z_G := z_m2 (i := 99) rfl rfl
theorem z_g97 : Cond.selects RX4 yX4_doneJobs yX4_doneJobs ∈ z_G := z_m2 (i := 100) rfl rfl
theorem z_g98 : Cond.code yX4_doneOf cX4_doneOf 4 (some .int) ∈ z_G := z_m2 (i := 205) rfl rfl
theorem z_g99 : Cond.instanceMethod yX4_doneOf ∈ z_G := z_m2 (i := 203) rfl rfl
theorem z_g100 : Cond.selects RX4 yX4_doneOf yX4_doneOf ∈ z_G := z_m2 (i := 204) rfl rfl
theorem z_g101 : Cond.code yX4_endOf cX4_endOf 2 (some .int) ∈ z_G := z_m2 (i := 152) rfl rfl
theorem z_g102 : Cond.instanceMethod yX4_endOf ∈ z_G := z_m2 (i := 150) rfl rfl
theorem z_g103 : Cond.selects RX4 yX4_endOf yX4_endOf ∈ z_G := z_m2 (i := 151) rfl rfl
theorem z_g104 : Cond.code yX4_firstOld cX4_firstOld 3 (some .int) ∈ z_G := z_m2 (i := 231) rfl rfl
theorem z_g105 : Cond.instanceMethod yX4_firstOld ∈ z_G := z_m2 (i := 229) rfl rfl
theorem z_g106 : Cond.selects RX4 yX4_firstOld yX4_firstOld ∈ z_G := z_m2 (i := 230) rfl rfl
theorem z_g107 : Cond.code yX4_groupFor cX4_groupFor 2 (some .int) ∈ z_G := z_m2 (i := 175) rfl rfl
theorem z_g108 : Cond.instanceMethod yX4_groupFor ∈ z_G := z_m2 (i := 173) rfl rfl
theorem z_g109 : Cond.selects RX4 yX4_groupFor yX4_groupFor ∈ z_G := z_m2 (i := 174) rfl rfl
theorem z_g110 : Cond.code yX4_isOld cX4_isOld 3 (some .boolean) ∈ z_G := z_m2 (i := 117) rfl rfl
theorem z_g111 : Cond.instanceMethod yX4_isOld ∈ z_G := z_m2 (i := 115) rfl rfl
theorem z_g112 : Cond.selects RX4 yX4_isOld yX4_isOld ∈ z_G := z_m2 (i := 116) rfl rfl
theorem z_g113 : Cond.code yX4_leftOf cX4_leftOf 3 (some .int) ∈ z_G := z_m2 (i := 157) rfl rfl
theorem z_g114 : Cond.instanceMethod yX4_leftOf ∈ z_G := z_m2 (i := 155) rfl rfl
theorem z_g115 : Cond.selects RX4 yX4_leftOf yX4_leftOf ∈ z_G := z_m2 (i := 156) rfl rfl
theorem z_g116 : Cond.code yX4_noteWait cX4_noteWait 3 none ∈ z_G := z_m3 (i := 48) rfl rfl
theorem z_g117 : Cond.instanceMethod yX4_noteWait ∈ z_G := z_m3 (i := 47) rfl rfl
theorem z_g118 : Cond.selects RX4 yX4_noteWait yX4_noteWait ∈ z_G := z_m0 (i := 11) rfl rfl
theorem z_g119 : Cond.code yX4_oldJobs cX4_oldJobs 3 (some .int) ∈ z_G := z_m2 (i := 105) rfl rfl
theorem z_g120 : Cond.instanceMethod yX4_oldJobs ∈ z_G := z_m2 (i := 103) rfl rfl
theorem z_g121 : Cond.selects RX4 yX4_oldJobs yX4_oldJobs ∈ z_G := z_m2 (i := 104) rfl rfl
theorem z_g122 : Cond.code yX4_payFromClass cX4_payFromClass 4 none ∈ z_G := z_m3 (i := 55) rfl rfl
theorem z_g123 : Cond.instanceMethod yX4_payFromClass ∈ z_G := z_m3 (i := 54) rfl rfl
theorem z_g124 : Cond.selects RX4 yX4_payFromClass yX4_payFromClass ∈ z_G := z_m0 (i := 12) rfl rfl
theorem z_g125 : Cond.code yX4_payFromGroup cX4_payFromGroup 4 none ∈ z_G := z_m3 (i := 60) rfl rfl
theorem z_g126 : Cond.instanceMethod yX4_payFromGroup ∈ z_G := z_m3 (i := 59) rfl rfl
theorem z_g127 : Cond.selects RX4 yX4_payFromGroup yX4_payFromGroup ∈ z_G := z_m0 (i := 13) rfl rfl
theorem z_g128 : Cond.code yX4_serveUnit cX4_serveUnit 2 (some .int) ∈ z_G := z_m3 (i := 90) rfl rfl
theorem z_g129 : Cond.instanceMethod yX4_serveUnit ∈ z_G := z_m3 (i := 88) rfl rfl
theorem z_g130 : Cond.selects RX4 yX4_serveUnit yX4_serveUnit ∈ z_G := z_m3 (i := 89) rfl rfl
theorem z_g131 : Cond.code yX4_sizesOfGroup cX4_sizesOfGroup 5 (some .int) ∈ z_G := z_m2 (i := 179) rfl rfl
theorem z_g132 : Cond.instanceMethod yX4_sizesOfGroup ∈ z_G := z_m2 (i := 177) rfl rfl
theorem z_g133 : Cond.selects RX4 yX4_sizesOfGroup yX4_sizesOfGroup ∈ z_G := z_m2 (i := 178) rfl rfl
theorem z_g134 : Cond.code yX4_stageOf cX4_stageOf 2 (some .int) ∈ z_G := z_m2 (i := 148) rfl rfl
theorem z_g135 : Cond.instanceMethod yX4_stageOf ∈ z_G := z_m2 (i := 146) rfl rfl
theorem z_g136 : Cond.selects RX4 yX4_stageOf yX4_stageOf ∈ z_G := z_m2 (i := 147) rfl rfl
theorem z_g137 : Cond.code yX4_waitsOfGroup cX4_waitsOfGroup 4 (some .int) ∈ z_G := z_m2 (i := 171) rfl rfl
theorem z_g138 : Cond.instanceMethod yX4_waitsOfGroup ∈ z_G := z_m2 (i := 169) rfl rfl
theorem z_g139 : Cond.selects RX4 yX4_waitsOfGroup yX4_waitsOfGroup ∈ z_G := z_m2 (i := 170) rfl rfl
theorem z_g140 : Cond.code yX4_whyNotAdmit cX4_whyNotAdmit 3 (some .int) ∈ z_G := z_m3 (i := 110) rfl rfl
theorem z_g141 : Cond.instanceMethod yX4_whyNotAdmit ∈ z_G := z_m3 (i := 108) rfl rfl
theorem z_g142 : Cond.selects RX4 yX4_whyNotAdmit yX4_whyNotAdmit ∈ z_G := z_m3 (i := 109) rfl rfl
theorem z_g143 : Cond.code yX5_append cX5_append 2 (some .int) ∈ z_G := z_m3 (i := 178) rfl rfl
theorem z_g144 : Cond.initialized RX5 ∈ z_G := z_m1 (i := 7) rfl rfl
theorem z_g145 : Cond.instanceMethod yX5_append ∈ z_G := z_m3 (i := 176) rfl rfl
theorem z_g146 : Cond.selects RX5 yX5_append yX5_append ∈ z_G := z_m3 (i := 177) rfl rfl
theorem z_g147 : Cond.code yX5_digitAt cX5_digitAt 2 (some .int) ∈ z_G := z_m3 (i := 165) rfl rfl
theorem z_g148 : Cond.instanceMethod yX5_digitAt ∈ z_G := z_m3 (i := 163) rfl rfl
theorem z_g149 : Cond.selects RX5 yX5_digitAt yX5_digitAt ∈ z_G := z_m3 (i := 164) rfl rfl
theorem z_g150 : Cond.code yX5_fault cX5_fault 3 (some .int) ∈ z_G := z_m3 (i := 158) rfl rfl
theorem z_g151 : Cond.instanceMethod yX5_fault ∈ z_G := z_m3 (i := 156) rfl rfl
theorem z_g152 : Cond.selects RX5 yX5_fault yX5_fault ∈ z_G := z_m3 (i := 157) rfl rfl
theorem z_g153 : Cond.code yX5_partAfter cX5_partAfter 3 (some .int) ∈ z_G := z_m3 (i := 161) rfl rfl
theorem z_g154 : Cond.static yX5_partAfter ∈ z_G := z_m3 (i := 160) rfl rfl
theorem z_g155 : Cond.code yX5_sizeAt cX5_sizeAt 4 (some .int) ∈ z_G := z_m3 (i := 169) rfl rfl
theorem z_g156 : Cond.instanceMethod yX5_sizeAt ∈ z_G := z_m3 (i := 167) rfl rfl
theorem z_g157 : Cond.selects RX5 yX5_sizeAt yX5_sizeAt ∈ z_G := z_m3 (i := 168) rfl rfl
theorem z_g158 : Cond.code yX6_lookAt cX6_lookAt 5 (some .int) ∈ z_G := z_m3 (i := 12) rfl rfl
theorem z_g159 : Cond.initialized RX6 ∈ z_G := z_m1 (i := 8) rfl rfl
theorem z_g160 : Cond.instanceMethod yX6_lookAt ∈ z_G := z_m3 (i := 11) rfl rfl
theorem z_g161 : Cond.selects RX6 yX6_lookAt yX6_lookAt ∈ z_G := z_m0 (i := 6) rfl rfl
theorem z_g162 : Cond.code yX6_nextJob cX6_nextJob 4 (some .int) ∈ z_G := z_m2 (i := 227) rfl rfl
theorem z_g163 : Cond.instanceMethod yX6_nextJob ∈ z_G := z_m2 (i := 225) rfl rfl
theorem z_g164 : Cond.selects RX6 yX6_nextJob yX6_nextJob ∈ z_G := z_m2 (i := 226) rfl rfl
theorem z_g165 : Cond.code yX6_noteFirstJobs cX6_noteFirstJobs 3 none ∈ z_G := z_m2 (i := 235) rfl rfl
theorem z_g166 : Cond.instanceMethod yX6_noteFirstJobs ∈ z_G := z_m2 (i := 234) rfl rfl
theorem z_g167 : Cond.selects RX6 yX6_noteFirstJobs yX6_noteFirstJobs ∈ z_G := z_m0 (i := 3) rfl rfl
theorem z_g168 : Cond.code yX6_noteJob cX6_noteJob 5 none ∈ z_G := z_m3 (i := 0) rfl rfl
theorem z_g169 : Cond.instanceMethod yX6_noteJob ∈ z_G := z_m2 (i := 239) rfl rfl
theorem z_g170 : Cond.selects RX6 yX6_noteJob yX6_noteJob ∈ z_G := z_m0 (i := 4) rfl rfl
theorem z_g171 : Cond.code yX6_presentGroupIsNext cX6_presentGroupIsNext 4 (some .boolean) ∈ z_G := z_m3 (i := 8) rfl rfl
theorem z_g172 : Cond.instanceMethod yX6_presentGroupIsNext ∈ z_G := z_m3 (i := 7) rfl rfl
theorem z_g173 : Cond.selects RX6 yX6_presentGroupIsNext yX6_presentGroupIsNext ∈ z_G := z_m0 (i := 5) rfl rfl
theorem z_g174 : Cond.code yX6_roundsBelow cX6_roundsBelow 3 (some .int) ∈ z_G := z_m3 (i := 24) rfl rfl
theorem z_g175 : Cond.static yX6_roundsBelow ∈ z_G := z_m3 (i := 23) rfl rfl
theorem z_g176 : Cond.code yX6_skipClassRounds cX6_skipClassRounds 6 none ∈ z_G := z_m3 (i := 20) rfl rfl
theorem z_g177 : Cond.instanceMethod yX6_skipClassRounds ∈ z_G := z_m3 (i := 19) rfl rfl
theorem z_g178 : Cond.selects RX6 yX6_skipClassRounds yX6_skipClassRounds ∈ z_G := z_m0 (i := 8) rfl rfl
theorem z_g179 : Cond.code yX6_skipGroupRounds cX6_skipGroupRounds 5 none ∈ z_G := z_m3 (i := 35) rfl rfl
theorem z_g180 : Cond.instanceMethod yX6_skipGroupRounds ∈ z_G := z_m3 (i := 34) rfl rfl
theorem z_g181 : Cond.selects RX6 yX6_skipGroupRounds yX6_skipGroupRounds ∈ z_G := z_m0 (i := 10) rfl rfl
theorem z_g182 : Cond.code yX6_walkClasses cX6_walkClasses 6 (some .boolean) ∈ z_G := z_m3 (i := 16) rfl rfl
theorem z_g183 : Cond.instanceMethod yX6_walkClasses ∈ z_G := z_m3 (i := 15) rfl rfl
theorem z_g184 : Cond.selects RX6 yX6_walkClasses yX6_walkClasses ∈ z_G := z_m0 (i := 7) rfl rfl
theorem z_g185 : Cond.code yX6_walkGroups cX6_walkGroups 6 (some .boolean) ∈ z_G := z_m3 (i := 31) rfl rfl
theorem z_g186 : Cond.instanceMethod yX6_walkGroups ∈ z_G := z_m3 (i := 30) rfl rfl
theorem z_g187 : Cond.selects RX6 yX6_walkGroups yX6_walkGroups ∈ z_G := z_m0 (i := 9) rfl rfl
theorem z_g188 : Cond.code yX7_add cX7_add 4 (some .int) ∈ z_G := z_m3 (i := 106) rfl rfl
theorem z_g189 : Cond.initialized RX7 ∈ z_G := z_m1 (i := 1) rfl rfl
theorem z_g190 : Cond.instanceMethod yX7_add ∈ z_G := z_m3 (i := 104) rfl rfl
theorem z_g191 : Cond.selects RX7 yX7_add yX7_add ∈ z_G := z_m3 (i := 105) rfl rfl
theorem z_g192 : Cond.code yX7_addClass cX7_addClass 5 (some .int) ∈ z_G := z_m2 (i := 74) rfl rfl
theorem z_g193 : Cond.instanceMethod yX7_addClass ∈ z_G := z_m2 (i := 72) rfl rfl
theorem z_g194 : Cond.selects RX7 yX7_addClass yX7_addClass ∈ z_G := z_m2 (i := 73) rfl rfl
theorem z_g195 : Cond.code yX7_addGroup cX7_addGroup 2 (some .int) ∈ z_G := z_m2 (i := 27) rfl rfl
theorem z_g196 : Cond.instanceMethod yX7_addGroup ∈ z_G := z_m2 (i := 25) rfl rfl
theorem z_g197 : Cond.selects RX7 yX7_addGroup yX7_addGroup ∈ z_G := z_m2 (i := 26) rfl rfl
theorem z_g198 : Cond.code yX7_beginAhead cX7_beginAhead 4 (some .int) ∈ z_G := z_m2 (i := 222) rfl rfl
theorem z_g199 : Cond.instanceMethod yX7_beginAhead ∈ z_G := z_m2 (i := 221) rfl rfl
theorem z_g200 : Cond.selects RX7 yX7_beginAhead yX7_beginAhead ∈ z_G := z_m0 (i := 2) rfl rfl
theorem z_g201 : Cond.code yX7_beginsAt cX7_beginsAt 2 (some .int) ∈ z_G := z_m3 (i := 66) rfl rfl
theorem z_g202 : Cond.instanceMethod yX7_beginsAt ∈ z_G := z_m3 (i := 64) rfl rfl
theorem z_g203 : Cond.selects RX7 yX7_beginsAt yX7_beginsAt ∈ z_G := z_m3 (i := 65) rfl rfl
theorem z_g204 : Cond.code yX7_bound cX7_bound 4 (some .int) ∈ z_G := z_m3 (i := 71) rfl rfl
theorem z_g205 : Cond.instanceMethod yX7_bound ∈ z_G := z_m3 (i := 69) rfl rfl
theorem z_g206 : Cond.selects RX7 yX7_bound yX7_bound ∈ z_G := z_m3 (i := 70) rfl rfl
theorem z_g207 : Cond.code yX7_classOf cX7_classOf 3 (some .int) ∈ z_G := z_m2 (i := 188) rfl rfl
theorem z_g208 : Cond.instanceMethod yX7_classOf ∈ z_G := z_m2 (i := 186) rfl rfl
theorem z_g209 : Cond.selects RX7 yX7_classOf yX7_classOf ∈ z_G := z_m2 (i := 187) rfl rfl
theorem z_g210 : Cond.code yX7_clearText cX7_clearText 2 (some .int) ∈ z_G := z_m3 (i := 150) rfl rfl
theorem z_g211 : Cond.instanceMethod yX7_clearText ∈ z_G := z_m3 (i := 148) rfl rfl
theorem z_g212 : Cond.selects RX7 yX7_clearText yX7_clearText ∈ z_G := z_m3 (i := 149) rfl rfl
theorem z_g213 : Cond.code yX7_count cX7_count 2 (some .int) ∈ z_G := z_m2 (i := 97) rfl rfl
theorem z_g214 : Cond.instanceMethod yX7_count ∈ z_G := z_m2 (i := 95) rfl rfl
theorem z_g215 : Cond.selects RX7 yX7_count yX7_count ∈ z_G := z_m2 (i := 96) rfl rfl
theorem z_g216 : Cond.code yX7_group cX7_group 3 (some .int) ∈ z_G := z_m2 (i := 162) rfl rfl
theorem z_g217 : Cond.instanceMethod yX7_group ∈ z_G := z_m2 (i := 160) rfl rfl
theorem z_g218 : Cond.selects RX7 yX7_group yX7_group ∈ z_G := z_m2 (i := 161) rfl rfl
theorem z_g219 : Cond.code yX7_isQuantum cX7_isQuantum 1 (some .boolean) ∈ z_G := z_m2 (i := 30) rfl rfl
theorem z_g220 : Cond.static yX7_isQuantum ∈ z_G := z_m2 (i := 29) rfl rfl
theorem z_g221 : Cond.code yX7_isWithin cX7_isWithin 3 (some .boolean) ∈ z_G := z_m2 (i := 33) rfl rfl
theorem z_g222 : Cond.static yX7_isWithin ∈ z_G := z_m2 (i := 32) rfl rfl
theorem z_g223 : Cond.code yX7_job cX7_job 3 (some .int) ∈ z_G := z_m2 (i := 143) rfl rfl
theorem z_g224 : Cond.instanceMethod yX7_job ∈ z_G := z_m2 (i := 141) rfl rfl
theorem z_g225 : Cond.selects RX7 yX7_job yX7_job ∈ z_G := z_m2 (i := 142) rfl rfl
theorem z_g226 : Cond.code yX7_keep cX7_keep 1 (some .int) ∈ z_G := z_m3 (i := 78) rfl rfl
theorem z_g227 : Cond.instanceMethod yX7_keep ∈ z_G := z_m3 (i := 76) rfl rfl
theorem z_g228 : Cond.selects RX7 yX7_keep yX7_keep ∈ z_G := z_m3 (i := 77) rfl rfl
theorem z_g229 : Cond.code yX7_mark cX7_mark 1 (some .int) ∈ z_G := z_m3 (i := 135) rfl rfl
theorem z_g230 : Cond.instanceMethod yX7_mark ∈ z_G := z_m3 (i := 133) rfl rfl
theorem z_g231 : Cond.selects RX7 yX7_mark yX7_mark ∈ z_G := z_m3 (i := 134) rfl rfl
theorem z_g232 : Cond.code yX7_pass cX7_pass 4 (some .int) ∈ z_G := z_m3 (i := 82) rfl rfl
theorem z_g233 : Cond.instanceMethod yX7_pass ∈ z_G := z_m3 (i := 80) rfl rfl
theorem z_g234 : Cond.selects RX7 yX7_pass yX7_pass ∈ z_G := z_m3 (i := 81) rfl rfl
theorem z_g235 : Cond.code yX7_passTick cX7_passTick 2 (some .int) ∈ z_G := z_m3 (i := 86) rfl rfl
theorem z_g236 : Cond.instanceMethod yX7_passTick ∈ z_G := z_m3 (i := 85) rfl rfl
theorem z_g237 : Cond.selects RX7 yX7_passTick yX7_passTick ∈ z_G := z_m0 (i := 14) rfl rfl
theorem z_g238 : Cond.code yX7_readJobs cX7_readJobs 7 (some .int) ∈ z_G := z_m3 (i := 154) rfl rfl
theorem z_g239 : Cond.instanceMethod yX7_readJobs ∈ z_G := z_m3 (i := 152) rfl rfl
theorem z_g240 : Cond.selects RX7 yX7_readJobs yX7_readJobs ∈ z_G := z_m3 (i := 153) rfl rfl
theorem z_g241 : Cond.code yX7_restore cX7_restore 1 (some .int) ∈ z_G := z_m3 (i := 99) rfl rfl
theorem z_g242 : Cond.instanceMethod yX7_restore ∈ z_G := z_m3 (i := 97) rfl rfl
theorem z_g243 : Cond.selects RX7 yX7_restore yX7_restore ∈ z_G := z_m3 (i := 98) rfl rfl
theorem z_g244 : Cond.code yX7_served cX7_served 2 (some .int) ∈ z_G := z_m2 (i := 218) rfl rfl
theorem z_g245 : Cond.instanceMethod yX7_served ∈ z_G := z_m2 (i := 216) rfl rfl
theorem z_g246 : Cond.selects RX7 yX7_served yX7_served ∈ z_G := z_m2 (i := 217) rfl rfl
theorem z_g247 : Cond.code yX7_setAge cX7_setAge 4 (some .int) ∈ z_G := z_m3 (i := 127) rfl rfl
theorem z_g248 : Cond.instanceMethod yX7_setAge ∈ z_G := z_m3 (i := 125) rfl rfl
theorem z_g249 : Cond.selects RX7 yX7_setAge yX7_setAge ∈ z_G := z_m3 (i := 126) rfl rfl
theorem z_g250 : Cond.code yX7_setGroupQuantum cX7_setGroupQuantum 4 (some .int) ∈ z_G := z_m3 (i := 146) rfl rfl
theorem z_g251 : Cond.instanceMethod yX7_setGroupQuantum ∈ z_G := z_m3 (i := 144) rfl rfl
theorem z_g252 : Cond.selects RX7 yX7_setGroupQuantum yX7_setGroupQuantum ∈ z_G := z_m3 (i := 145) rfl rfl
theorem z_g253 : Cond.code yX7_setQuantum cX7_setQuantum 4 (some .int) ∈ z_G := z_m3 (i := 131) rfl rfl
theorem z_g254 : Cond.instanceMethod yX7_setQuantum ∈ z_G := z_m3 (i := 129) rfl rfl
theorem z_g255 : Cond.selects RX7 yX7_setQuantum yX7_setQuantum ∈ z_G := z_m3 (i := 130) rfl rfl
theorem z_g256 : Cond.code yX7_shares cX7_shares 4 (some .int) ∈ z_G := z_m2 (i := 209) rfl rfl
theorem z_g257 : Cond.instanceMethod yX7_shares ∈ z_G := z_m2 (i := 207) rfl rfl
theorem z_g258 : Cond.selects RX7 yX7_shares yX7_shares ∈ z_G := z_m2 (i := 208) rfl rfl
theorem z_g259 : Cond.code yX7_type cX7_type 2 (some .int) ∈ z_G := z_m3 (i := 174) rfl rfl
theorem z_g260 : Cond.instanceMethod yX7_type ∈ z_G := z_m3 (i := 172) rfl rfl
theorem z_g261 : Cond.selects RX7 yX7_type yX7_type ∈ z_G := z_m3 (i := 173) rfl rfl
theorem z_g262 : Cond.code yX7_undo cX7_undo 1 (some .int) ∈ z_G := z_m3 (i := 182) rfl rfl
theorem z_g263 : Cond.instanceMethod yX7_undo ∈ z_G := z_m3 (i := 180) rfl rfl
theorem z_g264 : Cond.selects RX7 yX7_undo yX7_undo ∈ z_G := z_m3 (i := 181) rfl rfl
theorem z_g265 : Cond.code yL_acts cL_acts 9 (some .boolean) ∈ z_G := z_m3 (i := 102) rfl rfl
theorem z_g266 : Cond.initialized RL ∈ z_G := z_m1 (i := 0) rfl rfl
theorem z_g267 : Cond.static yL_acts ∈ z_G := z_m3 (i := 101) rfl rfl
theorem z_g268 : Cond.code yL_comes cL_comes 7 (some .boolean) ∈ z_G := z_m2 (i := 214) rfl rfl
theorem z_g269 : Cond.static yL_comes ∈ z_G := z_m2 (i := 213) rfl rfl
theorem z_g270 : Cond.code yL_errors cL_errors 3 (some .boolean) ∈ z_G := z_m3 (i := 142) rfl rfl
theorem z_g271 : Cond.static yL_errors ∈ z_G := z_m3 (i := 141) rfl rfl
theorem z_g272 : Cond.code yL_low cL_low 2 (some .int) ∈ z_G := z_m2 (i := 89) rfl rfl
theorem z_g273 : Cond.static yL_low ∈ z_G := z_m2 (i := 88) rfl rfl
theorem z_g274 : Cond.code yL_sums cL_sums 13 (some .boolean) ∈ z_G := z_m2 (i := 93) rfl rfl
theorem z_g275 : Cond.static yL_sums ∈ z_G := z_m2 (i := 92) rfl rfl
def z_cn (k : Nat) : String := z_cns.getD k ""
def z_okm (mi : z_I) : Prop := (z_y mi).cls = z_cn (z_own mi) ∧ plainName (z_y mi).cls = true ∧ Cond.code (z_y mi) (z_cd mi) (z_ml' mi) (z_rt mi) ∈ z_G ∧ Cond.initialized (z_y mi).cls ∈ z_G ∧ ((z_y mi).cls ≠ "java/lang/invoke/MethodHandle" ∧ (z_y mi).cls ≠ "java/lang/invoke/VarHandle") ∧ (parseMethodDescriptor (z_y mi).desc).map (fun d => d.parameters.length) = some (z_na mi) ∧ ((z_sta mi = true → Cond.static (z_y mi) ∈ z_G) ∧ (z_sta mi = false → Cond.instanceMethod (z_y mi) ∈ z_G ∧ Cond.selects (z_y mi).cls (z_y mi) (z_y mi) ∈ z_G))
theorem z_okm_0 : z_okm (0, yX0_append, cX0_append, 6, (some .int), false, 4, 0) := ⟨rfl, by decide +kernel, z_g0, z_g1, by decide +kernel, by decide +kernel, ⟨fun h => absurd h (by decide), fun _ => ⟨z_g2, z_g3⟩⟩⟩
theorem z_okm_1 : z_okm (0, yX0_copyFrom, cX0_copyFrom, 2, none, false, 1, 1) := ⟨rfl, by decide +kernel, z_g4, z_g1, by decide +kernel, by decide +kernel, ⟨fun h => absurd h (by decide), fun _ => ⟨z_g5, z_g6⟩⟩⟩
theorem z_okm_2 : z_okm (0, yX0_fillBuckets, cX0_fillBuckets, 3, none, false, 1, 1) := ⟨rfl, by decide +kernel, z_g7, z_g1, by decide +kernel, by decide +kernel, ⟨fun h => absurd h (by decide), fun _ => ⟨z_g8, z_g9⟩⟩⟩
theorem z_okm_3 : z_okm (0, yX0_has, cX0_has, 2, (some .boolean), false, 1, 0) := ⟨rfl, by decide +kernel, z_g10, z_g1, by decide +kernel, by decide +kernel, ⟨fun h => absurd h (by decide), fun _ => ⟨z_g11, z_g12⟩⟩⟩
theorem z_okm_4 : z_okm (0, yX0_heldOf, cX0_heldOf, 4, (some .int), false, 1, 0) := ⟨rfl, by decide +kernel, z_g13, z_g1, by decide +kernel, by decide +kernel, ⟨fun h => absurd h (by decide), fun _ => ⟨z_g14, z_g15⟩⟩⟩
theorem z_okm_5 : z_okm (0, yX0_takeUnits, cX0_takeUnits, 3, (some .int), false, 0, 0) := ⟨rfl, by decide +kernel, z_g16, z_g1, by decide +kernel, by decide +kernel, ⟨fun h => absurd h (by decide), fun _ => ⟨z_g17, z_g18⟩⟩⟩
theorem z_okm_6 : z_okm (0, yX0_unitsOf, cX0_unitsOf, 4, (some .int), false, 1, 0) := ⟨rfl, by decide +kernel, z_g19, z_g1, by decide +kernel, by decide +kernel, ⟨fun h => absurd h (by decide), fun _ => ⟨z_g20, z_g21⟩⟩⟩
theorem z_okm_7 : z_okm (1, yX1_append, cX1_append, 3, (some .int), false, 1, 0) := ⟨rfl, by decide +kernel, z_g22, z_g23, by decide +kernel, by decide +kernel, ⟨fun h => absurd h (by decide), fun _ => ⟨z_g24, z_g25⟩⟩⟩
theorem z_okm_8 : z_okm (1, yX1_copyFrom, cX1_copyFrom, 2, none, false, 1, 1) := ⟨rfl, by decide +kernel, z_g26, z_g23, by decide +kernel, by decide +kernel, ⟨fun h => absurd h (by decide), fun _ => ⟨z_g27, z_g28⟩⟩⟩
theorem z_okm_9 : z_okm (1, yX1_has, cX1_has, 2, (some .boolean), false, 1, 0) := ⟨rfl, by decide +kernel, z_g29, z_g23, by decide +kernel, by decide +kernel, ⟨fun h => absurd h (by decide), fun _ => ⟨z_g30, z_g31⟩⟩⟩
theorem z_okm_10 : z_okm (2, yX2_dropOldest, cX2_dropOldest, 3, none, false, 0, 0) := ⟨rfl, by decide +kernel, z_g32, z_g33, by decide +kernel, by decide +kernel, ⟨fun h => absurd h (by decide), fun _ => ⟨z_g34, z_g35⟩⟩⟩
theorem z_okm_11 : z_okm (2, yX2_push, cX2_push, 3, none, false, 1, 3) := ⟨rfl, by decide +kernel, z_g36, z_g33, by decide +kernel, by decide +kernel, ⟨fun h => absurd h (by decide), fun _ => ⟨z_g37, z_g38⟩⟩⟩
theorem z_okm_12 : z_okm (2, yX2_roomAt, cX2_roomAt, 2, (some (.object "DeficitCircles$State")), false, 1, 0) := ⟨rfl, by decide +kernel, z_g39, z_g33, by decide +kernel, by decide +kernel, ⟨fun h => absurd h (by decide), fun _ => ⟨z_g40, z_g41⟩⟩⟩
theorem z_okm_13 : z_okm (2, yX2_takeLatest, cX2_takeLatest, 3, none, false, 1, 3) := ⟨rfl, by decide +kernel, z_g42, z_g33, by decide +kernel, by decide +kernel, ⟨fun h => absurd h (by decide), fun _ => ⟨z_g43, z_g44⟩⟩⟩
theorem z_okm_14 : z_okm (3, yX3_allSizes, cX3_allSizes, 1, (some .int), false, 0, 3) := ⟨rfl, by decide +kernel, z_g45, z_g46, by decide +kernel, by decide +kernel, ⟨fun h => absurd h (by decide), fun _ => ⟨z_g47, z_g48⟩⟩⟩
theorem z_okm_15 : z_okm (3, yX3_append, cX3_append, 5, (some .int), false, 3, 0) := ⟨rfl, by decide +kernel, z_g49, z_g46, by decide +kernel, by decide +kernel, ⟨fun h => absurd h (by decide), fun _ => ⟨z_g50, z_g51⟩⟩⟩
theorem z_okm_16 : z_okm (3, yX3_copyFrom, cX3_copyFrom, 2, none, false, 1, 1) := ⟨rfl, by decide +kernel, z_g52, z_g46, by decide +kernel, by decide +kernel, ⟨fun h => absurd h (by decide), fun _ => ⟨z_g53, z_g54⟩⟩⟩
theorem z_okm_17 : z_okm (3, yX3_firstOf, cX3_firstOf, 4, (some .int), false, 1, 2) := ⟨rfl, by decide +kernel, z_g55, z_g46, by decide +kernel, by decide +kernel, ⟨fun h => absurd h (by decide), fun _ => ⟨z_g56, z_g57⟩⟩⟩
theorem z_okm_18 : z_okm (3, yX3_has, cX3_has, 2, (some .boolean), false, 1, 0) := ⟨rfl, by decide +kernel, z_g58, z_g46, by decide +kernel, by decide +kernel, ⟨fun h => absurd h (by decide), fun _ => ⟨z_g59, z_g60⟩⟩⟩
theorem z_okm_19 : z_okm (3, yX3_isFull, cX3_isFull, 1, (some .boolean), false, 0, 0) := ⟨rfl, by decide +kernel, z_g61, z_g46, by decide +kernel, by decide +kernel, ⟨fun h => absurd h (by decide), fun _ => ⟨z_g62, z_g63⟩⟩⟩
theorem z_okm_20 : z_okm (3, yX3_isWaiting, cX3_isWaiting, 2, (some .boolean), false, 1, 1) := ⟨rfl, by decide +kernel, z_g64, z_g46, by decide +kernel, by decide +kernel, ⟨fun h => absurd h (by decide), fun _ => ⟨z_g65, z_g66⟩⟩⟩
theorem z_okm_21 : z_okm (3, yX3_leaveLine, cX3_leaveLine, 4, none, false, 1, 0) := ⟨rfl, by decide +kernel, z_g67, z_g46, by decide +kernel, by decide +kernel, ⟨fun h => absurd h (by decide), fun _ => ⟨z_g68, z_g69⟩⟩⟩
theorem z_okm_22 : z_okm (3, yX3_sizesAheadOf, cX3_sizesAheadOf, 5, (some .int), false, 1, 2) := ⟨rfl, by decide +kernel, z_g70, z_g46, by decide +kernel, by decide +kernel, ⟨fun h => absurd h (by decide), fun _ => ⟨z_g71, z_g72⟩⟩⟩
theorem z_okm_23 : z_okm (3, yX3_sizesOf, cX3_sizesOf, 5, (some .int), false, 1, 2) := ⟨rfl, by decide +kernel, z_g73, z_g46, by decide +kernel, by decide +kernel, ⟨fun h => absurd h (by decide), fun _ => ⟨z_g74, z_g75⟩⟩⟩
theorem z_okm_24 : z_okm (3, yX3_waitingAt, cX3_waitingAt, 2, (some .int), false, 1, 1) := ⟨rfl, by decide +kernel, z_g76, z_g46, by decide +kernel, by decide +kernel, ⟨fun h => absurd h (by decide), fun _ => ⟨z_g77, z_g78⟩⟩⟩
theorem z_okm_25 : z_okm (3, yX3_waitsOf, cX3_waitsOf, 5, (some .int), false, 1, 2) := ⟨rfl, by decide +kernel, z_g79, z_g46, by decide +kernel, by decide +kernel, ⟨fun h => absurd h (by decide), fun _ => ⟨z_g80, z_g81⟩⟩⟩
theorem z_okm_26 : z_okm (4, yX4_admit, cX4_admit, 3, (some .int), false, 2, 1) := ⟨rfl, by decide +kernel, z_g82, z_g83, by decide +kernel, by decide +kernel, ⟨fun h => absurd h (by decide), fun _ => ⟨z_g84, z_g85⟩⟩⟩
theorem z_okm_27 : z_okm (4, yX4_ageFor, cX4_ageFor, 2, (some .int), false, 1, 1) := ⟨rfl, by decide +kernel, z_g86, z_g83, by decide +kernel, by decide +kernel, ⟨fun h => absurd h (by decide), fun _ => ⟨z_g87, z_g88⟩⟩⟩
theorem z_okm_28 : z_okm (4, yX4_begin, cX4_begin, 2, none, false, 1, 4) := ⟨rfl, by decide +kernel, z_g89, z_g83, by decide +kernel, by decide +kernel, ⟨fun h => absurd h (by decide), fun _ => ⟨z_g90, z_g91⟩⟩⟩
theorem z_okm_29 : z_okm (4, yX4_copyFrom, cX4_copyFrom, 2, none, false, 1, 2) := ⟨rfl, by decide +kernel, z_g92, z_g83, by decide +kernel, by decide +kernel, ⟨fun h => absurd h (by decide), fun _ => ⟨z_g93, z_g94⟩⟩⟩
theorem z_okm_30 : z_okm (4, yX4_doneJobs, cX4_doneJobs, 1, (some .int), false, 0, 0) := ⟨rfl, by decide +kernel, z_g95, z_g83, by decide +kernel, by decide +kernel, ⟨fun h => absurd h (by decide), fun _ => ⟨z_g96, z_g97⟩⟩⟩
theorem z_okm_31 : z_okm (4, yX4_doneOf, cX4_doneOf, 4, (some .int), false, 1, 3) := ⟨rfl, by decide +kernel, z_g98, z_g83, by decide +kernel, by decide +kernel, ⟨fun h => absurd h (by decide), fun _ => ⟨z_g99, z_g100⟩⟩⟩
theorem z_okm_32 : z_okm (4, yX4_endOf, cX4_endOf, 2, (some .int), false, 1, 3) := ⟨rfl, by decide +kernel, z_g101, z_g83, by decide +kernel, by decide +kernel, ⟨fun h => absurd h (by decide), fun _ => ⟨z_g102, z_g103⟩⟩⟩
theorem z_okm_33 : z_okm (4, yX4_firstOld, cX4_firstOld, 3, (some .int), false, 0, 3) := ⟨rfl, by decide +kernel, z_g104, z_g83, by decide +kernel, by decide +kernel, ⟨fun h => absurd h (by decide), fun _ => ⟨z_g105, z_g106⟩⟩⟩
theorem z_okm_34 : z_okm (4, yX4_groupFor, cX4_groupFor, 2, (some .int), false, 1, 1) := ⟨rfl, by decide +kernel, z_g107, z_g83, by decide +kernel, by decide +kernel, ⟨fun h => absurd h (by decide), fun _ => ⟨z_g108, z_g109⟩⟩⟩
theorem z_okm_35 : z_okm (4, yX4_isOld, cX4_isOld, 3, (some .boolean), false, 1, 2) := ⟨rfl, by decide +kernel, z_g110, z_g83, by decide +kernel, by decide +kernel, ⟨fun h => absurd h (by decide), fun _ => ⟨z_g111, z_g112⟩⟩⟩
theorem z_okm_36 : z_okm (4, yX4_leftOf, cX4_leftOf, 3, (some .int), false, 1, 3) := ⟨rfl, by decide +kernel, z_g113, z_g83, by decide +kernel, by decide +kernel, ⟨fun h => absurd h (by decide), fun _ => ⟨z_g114, z_g115⟩⟩⟩
theorem z_okm_37 : z_okm (4, yX4_noteWait, cX4_noteWait, 3, none, false, 2, 1) := ⟨rfl, by decide +kernel, z_g116, z_g83, by decide +kernel, by decide +kernel, ⟨fun h => absurd h (by decide), fun _ => ⟨z_g117, z_g118⟩⟩⟩
theorem z_okm_38 : z_okm (4, yX4_oldJobs, cX4_oldJobs, 3, (some .int), false, 0, 3) := ⟨rfl, by decide +kernel, z_g119, z_g83, by decide +kernel, by decide +kernel, ⟨fun h => absurd h (by decide), fun _ => ⟨z_g120, z_g121⟩⟩⟩
theorem z_okm_39 : z_okm (4, yX4_payFromClass, cX4_payFromClass, 4, none, false, 2, 3) := ⟨rfl, by decide +kernel, z_g122, z_g83, by decide +kernel, by decide +kernel, ⟨fun h => absurd h (by decide), fun _ => ⟨z_g123, z_g124⟩⟩⟩
theorem z_okm_40 : z_okm (4, yX4_payFromGroup, cX4_payFromGroup, 4, none, false, 2, 3) := ⟨rfl, by decide +kernel, z_g125, z_g83, by decide +kernel, by decide +kernel, ⟨fun h => absurd h (by decide), fun _ => ⟨z_g126, z_g127⟩⟩⟩
theorem z_okm_41 : z_okm (4, yX4_serveUnit, cX4_serveUnit, 2, (some .int), false, 0, 1) := ⟨rfl, by decide +kernel, z_g128, z_g83, by decide +kernel, by decide +kernel, ⟨fun h => absurd h (by decide), fun _ => ⟨z_g129, z_g130⟩⟩⟩
theorem z_okm_42 : z_okm (4, yX4_sizesOfGroup, cX4_sizesOfGroup, 5, (some .int), false, 1, 2) := ⟨rfl, by decide +kernel, z_g131, z_g83, by decide +kernel, by decide +kernel, ⟨fun h => absurd h (by decide), fun _ => ⟨z_g132, z_g133⟩⟩⟩
theorem z_okm_43 : z_okm (4, yX4_stageOf, cX4_stageOf, 2, (some .int), false, 1, 2) := ⟨rfl, by decide +kernel, z_g134, z_g83, by decide +kernel, by decide +kernel, ⟨fun h => absurd h (by decide), fun _ => ⟨z_g135, z_g136⟩⟩⟩
theorem z_okm_44 : z_okm (4, yX4_waitsOfGroup, cX4_waitsOfGroup, 4, (some .int), false, 1, 2) := ⟨rfl, by decide +kernel, z_g137, z_g83, by decide +kernel, by decide +kernel, ⟨fun h => absurd h (by decide), fun _ => ⟨z_g138, z_g139⟩⟩⟩
theorem z_okm_45 : z_okm (4, yX4_whyNotAdmit, cX4_whyNotAdmit, 3, (some .int), false, 2, 1) := ⟨rfl, by decide +kernel, z_g140, z_g83, by decide +kernel, by decide +kernel, ⟨fun h => absurd h (by decide), fun _ => ⟨z_g141, z_g142⟩⟩⟩
theorem z_okm_46 : z_okm (5, yX5_append, cX5_append, 2, (some .int), false, 1, 0) := ⟨rfl, by decide +kernel, z_g143, z_g144, by decide +kernel, by decide +kernel, ⟨fun h => absurd h (by decide), fun _ => ⟨z_g145, z_g146⟩⟩⟩
theorem z_okm_47 : z_okm (5, yX5_digitAt, cX5_digitAt, 2, (some .int), false, 1, 0) := ⟨rfl, by decide +kernel, z_g147, z_g144, by decide +kernel, by decide +kernel, ⟨fun h => absurd h (by decide), fun _ => ⟨z_g148, z_g149⟩⟩⟩
theorem z_okm_48 : z_okm (5, yX5_fault, cX5_fault, 3, (some .int), false, 0, 1) := ⟨rfl, by decide +kernel, z_g150, z_g144, by decide +kernel, by decide +kernel, ⟨fun h => absurd h (by decide), fun _ => ⟨z_g151, z_g152⟩⟩⟩
theorem z_okm_49 : z_okm (5, yX5_partAfter, cX5_partAfter, 3, (some .int), true, 2, 0) := ⟨rfl, by decide +kernel, z_g153, z_g144, by decide +kernel, by decide +kernel, ⟨fun _ => z_g154, fun h => absurd h (by decide)⟩⟩
theorem z_okm_50 : z_okm (5, yX5_sizeAt, cX5_sizeAt, 4, (some .int), false, 1, 1) := ⟨rfl, by decide +kernel, z_g155, z_g144, by decide +kernel, by decide +kernel, ⟨fun h => absurd h (by decide), fun _ => ⟨z_g156, z_g157⟩⟩⟩
theorem z_okm_51 : z_okm (6, yX6_lookAt, cX6_lookAt, 5, (some .int), false, 2, 2) := ⟨rfl, by decide +kernel, z_g158, z_g159, by decide +kernel, by decide +kernel, ⟨fun h => absurd h (by decide), fun _ => ⟨z_g160, z_g161⟩⟩⟩
theorem z_okm_52 : z_okm (6, yX6_nextJob, cX6_nextJob, 4, (some .int), false, 1, 4) := ⟨rfl, by decide +kernel, z_g162, z_g159, by decide +kernel, by decide +kernel, ⟨fun h => absurd h (by decide), fun _ => ⟨z_g163, z_g164⟩⟩⟩
theorem z_okm_53 : z_okm (6, yX6_noteFirstJobs, cX6_noteFirstJobs, 3, none, false, 1, 3) := ⟨rfl, by decide +kernel, z_g165, z_g159, by decide +kernel, by decide +kernel, ⟨fun h => absurd h (by decide), fun _ => ⟨z_g166, z_g167⟩⟩⟩
theorem z_okm_54 : z_okm (6, yX6_noteJob, cX6_noteJob, 5, none, false, 2, 2) := ⟨rfl, by decide +kernel, z_g168, z_g159, by decide +kernel, by decide +kernel, ⟨fun h => absurd h (by decide), fun _ => ⟨z_g169, z_g170⟩⟩⟩
theorem z_okm_55 : z_okm (6, yX6_presentGroupIsNext, cX6_presentGroupIsNext, 4, (some .boolean), false, 1, 3) := ⟨rfl, by decide +kernel, z_g171, z_g159, by decide +kernel, by decide +kernel, ⟨fun h => absurd h (by decide), fun _ => ⟨z_g172, z_g173⟩⟩⟩
theorem z_okm_56 : z_okm (6, yX6_roundsBelow, cX6_roundsBelow, 3, (some .int), true, 3, 0) := ⟨rfl, by decide +kernel, z_g174, z_g159, by decide +kernel, by decide +kernel, ⟨fun _ => z_g175, fun h => absurd h (by decide)⟩⟩
theorem z_okm_57 : z_okm (6, yX6_skipClassRounds, cX6_skipClassRounds, 6, none, false, 2, 1) := ⟨rfl, by decide +kernel, z_g176, z_g159, by decide +kernel, by decide +kernel, ⟨fun h => absurd h (by decide), fun _ => ⟨z_g177, z_g178⟩⟩⟩
theorem z_okm_58 : z_okm (6, yX6_skipGroupRounds, cX6_skipGroupRounds, 5, none, false, 1, 1) := ⟨rfl, by decide +kernel, z_g179, z_g159, by decide +kernel, by decide +kernel, ⟨fun h => absurd h (by decide), fun _ => ⟨z_g180, z_g181⟩⟩⟩
theorem z_okm_59 : z_okm (6, yX6_walkClasses, cX6_walkClasses, 6, (some .boolean), false, 2, 1) := ⟨rfl, by decide +kernel, z_g182, z_g159, by decide +kernel, by decide +kernel, ⟨fun h => absurd h (by decide), fun _ => ⟨z_g183, z_g184⟩⟩⟩
theorem z_okm_60 : z_okm (6, yX6_walkGroups, cX6_walkGroups, 6, (some .boolean), false, 1, 3) := ⟨rfl, by decide +kernel, z_g185, z_g159, by decide +kernel, by decide +kernel, ⟨fun h => absurd h (by decide), fun _ => ⟨z_g186, z_g187⟩⟩⟩
theorem z_okm_61 : z_okm (7, yX7_add, cX7_add, 4, (some .int), false, 2, 4) := ⟨rfl, by decide +kernel, z_g188, z_g189, by decide +kernel, by decide +kernel, ⟨fun h => absurd h (by decide), fun _ => ⟨z_g190, z_g191⟩⟩⟩
theorem z_okm_62 : z_okm (7, yX7_addClass, cX7_addClass, 5, (some .int), false, 4, 4) := ⟨rfl, by decide +kernel, z_g192, z_g189, by decide +kernel, by decide +kernel, ⟨fun h => absurd h (by decide), fun _ => ⟨z_g193, z_g194⟩⟩⟩
theorem z_okm_63 : z_okm (7, yX7_addGroup, cX7_addGroup, 2, (some .int), false, 1, 4) := ⟨rfl, by decide +kernel, z_g195, z_g189, by decide +kernel, by decide +kernel, ⟨fun h => absurd h (by decide), fun _ => ⟨z_g196, z_g197⟩⟩⟩
theorem z_okm_64 : z_okm (7, yX7_beginAhead, cX7_beginAhead, 4, (some .int), false, 1, 5) := ⟨rfl, by decide +kernel, z_g198, z_g189, by decide +kernel, by decide +kernel, ⟨fun h => absurd h (by decide), fun _ => ⟨z_g199, z_g200⟩⟩⟩
theorem z_okm_65 : z_okm (7, yX7_beginsAt, cX7_beginsAt, 2, (some .int), false, 1, 6) := ⟨rfl, by decide +kernel, z_g201, z_g189, by decide +kernel, by decide +kernel, ⟨fun h => absurd h (by decide), fun _ => ⟨z_g202, z_g203⟩⟩⟩
theorem z_okm_66 : z_okm (7, yX7_bound, cX7_bound, 4, (some .int), false, 1, 3) := ⟨rfl, by decide +kernel, z_g204, z_g189, by decide +kernel, by decide +kernel, ⟨fun h => absurd h (by decide), fun _ => ⟨z_g205, z_g206⟩⟩⟩
theorem z_okm_67 : z_okm (7, yX7_classOf, cX7_classOf, 3, (some .int), false, 2, 4) := ⟨rfl, by decide +kernel, z_g207, z_g189, by decide +kernel, by decide +kernel, ⟨fun h => absurd h (by decide), fun _ => ⟨z_g208, z_g209⟩⟩⟩
theorem z_okm_68 : z_okm (7, yX7_clearText, cX7_clearText, 2, (some .int), false, 0, 0) := ⟨rfl, by decide +kernel, z_g210, z_g189, by decide +kernel, by decide +kernel, ⟨fun h => absurd h (by decide), fun _ => ⟨z_g211, z_g212⟩⟩⟩
theorem z_okm_69 : z_okm (7, yX7_count, cX7_count, 2, (some .int), false, 1, 4) := ⟨rfl, by decide +kernel, z_g213, z_g189, by decide +kernel, by decide +kernel, ⟨fun h => absurd h (by decide), fun _ => ⟨z_g214, z_g215⟩⟩⟩
theorem z_okm_70 : z_okm (7, yX7_group, cX7_group, 3, (some .int), false, 2, 3) := ⟨rfl, by decide +kernel, z_g216, z_g189, by decide +kernel, by decide +kernel, ⟨fun h => absurd h (by decide), fun _ => ⟨z_g217, z_g218⟩⟩⟩
theorem z_okm_71 : z_okm (7, yX7_isQuantum, cX7_isQuantum, 1, (some .boolean), true, 1, 1) := ⟨rfl, by decide +kernel, z_g219, z_g189, by decide +kernel, by decide +kernel, ⟨fun _ => z_g220, fun h => absurd h (by decide)⟩⟩
theorem z_okm_72 : z_okm (7, yX7_isWithin, cX7_isWithin, 3, (some .boolean), true, 3, 0) := ⟨rfl, by decide +kernel, z_g221, z_g189, by decide +kernel, by decide +kernel, ⟨fun _ => z_g222, fun h => absurd h (by decide)⟩⟩
theorem z_okm_73 : z_okm (7, yX7_job, cX7_job, 3, (some .int), false, 2, 4) := ⟨rfl, by decide +kernel, z_g223, z_g189, by decide +kernel, by decide +kernel, ⟨fun h => absurd h (by decide), fun _ => ⟨z_g224, z_g225⟩⟩⟩
theorem z_okm_74 : z_okm (7, yX7_keep, cX7_keep, 1, (some .int), false, 0, 3) := ⟨rfl, by decide +kernel, z_g226, z_g189, by decide +kernel, by decide +kernel, ⟨fun h => absurd h (by decide), fun _ => ⟨z_g227, z_g228⟩⟩⟩
theorem z_okm_75 : z_okm (7, yX7_mark, cX7_mark, 1, (some .int), false, 0, 4) := ⟨rfl, by decide +kernel, z_g229, z_g189, by decide +kernel, by decide +kernel, ⟨fun h => absurd h (by decide), fun _ => ⟨z_g230, z_g231⟩⟩⟩
theorem z_okm_76 : z_okm (7, yX7_pass, cX7_pass, 4, (some .int), false, 1, 6) := ⟨rfl, by decide +kernel, z_g232, z_g189, by decide +kernel, by decide +kernel, ⟨fun h => absurd h (by decide), fun _ => ⟨z_g233, z_g234⟩⟩⟩
theorem z_okm_77 : z_okm (7, yX7_passTick, cX7_passTick, 2, (some .int), false, 0, 5) := ⟨rfl, by decide +kernel, z_g235, z_g189, by decide +kernel, by decide +kernel, ⟨fun h => absurd h (by decide), fun _ => ⟨z_g236, z_g237⟩⟩⟩
theorem z_okm_78 : z_okm (7, yX7_readJobs, cX7_readJobs, 7, (some .int), false, 0, 4) := ⟨rfl, by decide +kernel, z_g238, z_g189, by decide +kernel, by decide +kernel, ⟨fun h => absurd h (by decide), fun _ => ⟨z_g239, z_g240⟩⟩⟩
theorem z_okm_79 : z_okm (7, yX7_restore, cX7_restore, 1, (some .int), false, 0, 4) := ⟨rfl, by decide +kernel, z_g241, z_g189, by decide +kernel, by decide +kernel, ⟨fun h => absurd h (by decide), fun _ => ⟨z_g242, z_g243⟩⟩⟩
theorem z_okm_80 : z_okm (7, yX7_served, cX7_served, 2, (some .int), false, 1, 6) := ⟨rfl, by decide +kernel, z_g244, z_g189, by decide +kernel, by decide +kernel, ⟨fun h => absurd h (by decide), fun _ => ⟨z_g245, z_g246⟩⟩⟩
theorem z_okm_81 : z_okm (7, yX7_setAge, cX7_setAge, 4, (some .int), false, 2, 4) := ⟨rfl, by decide +kernel, z_g247, z_g189, by decide +kernel, by decide +kernel, ⟨fun h => absurd h (by decide), fun _ => ⟨z_g248, z_g249⟩⟩⟩
theorem z_okm_82 : z_okm (7, yX7_setGroupQuantum, cX7_setGroupQuantum, 4, (some .int), false, 2, 4) := ⟨rfl, by decide +kernel, z_g250, z_g189, by decide +kernel, by decide +kernel, ⟨fun h => absurd h (by decide), fun _ => ⟨z_g251, z_g252⟩⟩⟩
theorem z_okm_83 : z_okm (7, yX7_setQuantum, cX7_setQuantum, 4, (some .int), false, 2, 4) := ⟨rfl, by decide +kernel, z_g253, z_g189, by decide +kernel, by decide +kernel, ⟨fun h => absurd h (by decide), fun _ => ⟨z_g254, z_g255⟩⟩⟩
theorem z_okm_84 : z_okm (7, yX7_shares, cX7_shares, 4, (some .int), false, 2, 1) := ⟨rfl, by decide +kernel, z_g256, z_g189, by decide +kernel, by decide +kernel, ⟨fun h => absurd h (by decide), fun _ => ⟨z_g257, z_g258⟩⟩⟩
theorem z_okm_85 : z_okm (7, yX7_type, cX7_type, 2, (some .int), false, 1, 1) := ⟨rfl, by decide +kernel, z_g259, z_g189, by decide +kernel, by decide +kernel, ⟨fun h => absurd h (by decide), fun _ => ⟨z_g260, z_g261⟩⟩⟩
theorem z_okm_86 : z_okm (7, yX7_undo, cX7_undo, 1, (some .int), false, 0, 4) := ⟨rfl, by decide +kernel, z_g262, z_g189, by decide +kernel, by decide +kernel, ⟨fun h => absurd h (by decide), fun _ => ⟨z_g263, z_g264⟩⟩⟩
theorem z_okm_87 : z_okm (8, yL_acts, cL_acts, 9, (some .boolean), true, 3, 7) := ⟨rfl, by decide +kernel, z_g265, z_g266, by decide +kernel, by decide +kernel, ⟨fun _ => z_g267, fun h => absurd h (by decide)⟩⟩
theorem z_okm_88 : z_okm (8, yL_comes, cL_comes, 7, (some .boolean), true, 1, 7) := ⟨rfl, by decide +kernel, z_g268, z_g266, by decide +kernel, by decide +kernel, ⟨fun _ => z_g269, fun h => absurd h (by decide)⟩⟩
theorem z_okm_89 : z_okm (8, yL_errors, cL_errors, 3, (some .boolean), true, 1, 7) := ⟨rfl, by decide +kernel, z_g270, z_g266, by decide +kernel, by decide +kernel, ⟨fun _ => z_g271, fun h => absurd h (by decide)⟩⟩
theorem z_okm_90 : z_okm (8, yL_low, cL_low, 2, (some .int), true, 2, 0) := ⟨rfl, by decide +kernel, z_g272, z_g266, by decide +kernel, by decide +kernel, ⟨fun _ => z_g273, fun h => absurd h (by decide)⟩⟩
theorem z_okm_91 : z_okm (8, yL_sums, cL_sums, 13, (some .boolean), true, 1, 5) := ⟨rfl, by decide +kernel, z_g274, z_g266, by decide +kernel, by decide +kernel, ⟨fun _ => z_g275, fun h => absurd h (by decide)⟩⟩
set_option maxRecDepth 100000 in
theorem z_mts_ok : ∀ mi ∈ z_mts, z_okm mi := List.forall_mem_cons.mpr ⟨z_okm_0,
  List.forall_mem_cons.mpr ⟨z_okm_1,
  List.forall_mem_cons.mpr ⟨z_okm_2,
  List.forall_mem_cons.mpr ⟨z_okm_3,
  List.forall_mem_cons.mpr ⟨z_okm_4,
  List.forall_mem_cons.mpr ⟨z_okm_5,
  List.forall_mem_cons.mpr ⟨z_okm_6,
  List.forall_mem_cons.mpr ⟨z_okm_7,
  List.forall_mem_cons.mpr ⟨z_okm_8,
  List.forall_mem_cons.mpr ⟨z_okm_9,
  List.forall_mem_cons.mpr ⟨z_okm_10,
  List.forall_mem_cons.mpr ⟨z_okm_11,
  List.forall_mem_cons.mpr ⟨z_okm_12,
  List.forall_mem_cons.mpr ⟨z_okm_13,
  List.forall_mem_cons.mpr ⟨z_okm_14,
  List.forall_mem_cons.mpr ⟨z_okm_15,
  List.forall_mem_cons.mpr ⟨z_okm_16,
  List.forall_mem_cons.mpr ⟨z_okm_17,
  List.forall_mem_cons.mpr ⟨z_okm_18,
  List.forall_mem_cons.mpr ⟨z_okm_19,
  List.forall_mem_cons.mpr ⟨z_okm_20,
  List.forall_mem_cons.mpr ⟨z_okm_21,
  List.forall_mem_cons.mpr ⟨z_okm_22,
  List.forall_mem_cons.mpr ⟨z_okm_23,
  List.forall_mem_cons.mpr ⟨z_okm_24,
  List.forall_mem_cons.mpr ⟨z_okm_25,
  List.forall_mem_cons.mpr ⟨z_okm_26,
  List.forall_mem_cons.mpr ⟨z_okm_27,
  List.forall_mem_cons.mpr ⟨z_okm_28,
  List.forall_mem_cons.mpr ⟨z_okm_29,
  List.forall_mem_cons.mpr ⟨z_okm_30,
  List.forall_mem_cons.mpr ⟨z_okm_31,
  List.forall_mem_cons.mpr ⟨z_okm_32,
  List.forall_mem_cons.mpr ⟨z_okm_33,
  List.forall_mem_cons.mpr ⟨z_okm_34,
  List.forall_mem_cons.mpr ⟨z_okm_35,
  List.forall_mem_cons.mpr ⟨z_okm_36,
  List.forall_mem_cons.mpr ⟨z_okm_37,
  List.forall_mem_cons.mpr ⟨z_okm_38,
  List.forall_mem_cons.mpr ⟨z_okm_39,
  List.forall_mem_cons.mpr ⟨z_okm_40,
  List.forall_mem_cons.mpr ⟨z_okm_41,
  List.forall_mem_cons.mpr ⟨z_okm_42,
  List.forall_mem_cons.mpr ⟨z_okm_43,
  List.forall_mem_cons.mpr ⟨z_okm_44,
  List.forall_mem_cons.mpr ⟨z_okm_45,
  List.forall_mem_cons.mpr ⟨z_okm_46,
  List.forall_mem_cons.mpr ⟨z_okm_47,
  List.forall_mem_cons.mpr ⟨z_okm_48,
  List.forall_mem_cons.mpr ⟨z_okm_49,
  List.forall_mem_cons.mpr ⟨z_okm_50,
  List.forall_mem_cons.mpr ⟨z_okm_51,
  List.forall_mem_cons.mpr ⟨z_okm_52,
  List.forall_mem_cons.mpr ⟨z_okm_53,
  List.forall_mem_cons.mpr ⟨z_okm_54,
  List.forall_mem_cons.mpr ⟨z_okm_55,
  List.forall_mem_cons.mpr ⟨z_okm_56,
  List.forall_mem_cons.mpr ⟨z_okm_57,
  List.forall_mem_cons.mpr ⟨z_okm_58,
  List.forall_mem_cons.mpr ⟨z_okm_59,
  List.forall_mem_cons.mpr ⟨z_okm_60,
  List.forall_mem_cons.mpr ⟨z_okm_61,
  List.forall_mem_cons.mpr ⟨z_okm_62,
  List.forall_mem_cons.mpr ⟨z_okm_63,
  List.forall_mem_cons.mpr ⟨z_okm_64,
  List.forall_mem_cons.mpr ⟨z_okm_65,
  List.forall_mem_cons.mpr ⟨z_okm_66,
  List.forall_mem_cons.mpr ⟨z_okm_67,
  List.forall_mem_cons.mpr ⟨z_okm_68,
  List.forall_mem_cons.mpr ⟨z_okm_69,
  List.forall_mem_cons.mpr ⟨z_okm_70,
  List.forall_mem_cons.mpr ⟨z_okm_71,
  List.forall_mem_cons.mpr ⟨z_okm_72,
  List.forall_mem_cons.mpr ⟨z_okm_73,
  List.forall_mem_cons.mpr ⟨z_okm_74,
  List.forall_mem_cons.mpr ⟨z_okm_75,
  List.forall_mem_cons.mpr ⟨z_okm_76,
  List.forall_mem_cons.mpr ⟨z_okm_77,
  List.forall_mem_cons.mpr ⟨z_okm_78,
  List.forall_mem_cons.mpr ⟨z_okm_79,
  List.forall_mem_cons.mpr ⟨z_okm_80,
  List.forall_mem_cons.mpr ⟨z_okm_81,
  List.forall_mem_cons.mpr ⟨z_okm_82,
  List.forall_mem_cons.mpr ⟨z_okm_83,
  List.forall_mem_cons.mpr ⟨z_okm_84,
  List.forall_mem_cons.mpr ⟨z_okm_85,
  List.forall_mem_cons.mpr ⟨z_okm_86,
  List.forall_mem_cons.mpr ⟨z_okm_87,
  List.forall_mem_cons.mpr ⟨z_okm_88,
  List.forall_mem_cons.mpr ⟨z_okm_89,
  List.forall_mem_cons.mpr ⟨z_okm_90,
  List.forall_mem_cons.mpr ⟨z_okm_91,
  fun _ h => absurd h List.not_mem_nil⟩⟩⟩⟩⟩⟩⟩⟩⟩⟩⟩⟩⟩⟩⟩⟩⟩⟩⟩⟩⟩⟩⟩⟩⟩⟩⟩⟩⟩⟩⟩⟩⟩⟩⟩⟩⟩⟩⟩⟩⟩⟩⟩⟩⟩⟩⟩⟩⟩⟩⟩⟩⟩⟩⟩⟩⟩⟩⟩⟩⟩⟩⟩⟩⟩⟩⟩⟩⟩⟩⟩⟩⟩⟩⟩⟩⟩⟩⟩⟩⟩⟩⟩⟩⟩⟩⟩⟩⟩⟩⟩⟩
theorem z_g276 : Cond.fieldLink RX0 9 "DeficitCircles$Classes" "held" "I" ∈ z_G := z_m1 (i := 60) rfl rfl
theorem z_g277 : Cond.fieldLink RX0 15 "DeficitCircles$Classes" "group" "[I" ∈ z_G := z_m1 (i := 63) rfl rfl
theorem z_g278 : Cond.fieldLink RX0 19 "DeficitCircles$Classes" "quantum" "[I" ∈ z_G := z_m1 (i := 67) rfl rfl
theorem z_g279 : Cond.fieldLink RX0 22 "DeficitCircles$Classes" "deficit" "[I" ∈ z_G := z_m1 (i := 70) rfl rfl
theorem z_g280 : Cond.fieldLink RX0 25 "DeficitCircles$Classes" "bucket" "[I" ∈ z_G := z_m1 (i := 74) rfl rfl
theorem z_g281 : Cond.fieldLink RX0 28 "DeficitCircles$Classes" "fill" "[I" ∈ z_G := z_m1 (i := 75) rfl rfl
theorem z_g282 : Cond.fieldLink RX0 31 "DeficitCircles$Classes" "tokens" "[I" ∈ z_G := z_m1 (i := 76) rfl rfl
theorem z_g283 : Cond.fieldLink RX0 34 "DeficitCircles$Classes" "age" "[I" ∈ z_G := z_m1 (i := 79) rfl rfl
theorem z_g284 : Cond.fieldLink RX0 37 "DeficitCircles$Classes" "longestWait" "[I" ∈ z_G := z_m1 (i := 82) rfl rfl
theorem z_g285 : Cond.fieldLink RX0 40 "DeficitCircles$Classes" "units" "[I" ∈ z_G := z_m1 (i := 85) rfl rfl
theorem z_g286 : Cond.fieldLink RX1 9 "DeficitCircles$Groups" "held" "I" ∈ z_G := z_m1 (i := 31) rfl rfl
theorem z_g287 : Cond.fieldLink RX1 15 "DeficitCircles$Groups" "quantum" "[I" ∈ z_G := z_m1 (i := 34) rfl rfl
theorem z_g288 : Cond.fieldLink RX1 19 "DeficitCircles$Groups" "deficit" "[I" ∈ z_G := z_m1 (i := 37) rfl rfl
theorem z_g289 : Cond.fieldLink RX1 22 "DeficitCircles$Groups" "present" "[I" ∈ z_G := z_m1 (i := 41) rfl rfl
theorem z_g290 : Cond.fieldLink RX2 9 "DeficitCircles$History" "length" "I" ∈ z_G := z_m1 (i := 202) rfl rfl
theorem z_g291 : Cond.fieldLink RX2 17 "DeficitCircles$History" "states" "[LDeficitCircles$State;" ∈ z_G := z_m1 (i := 204) rfl rfl
theorem z_g292 : Cond.fieldLink RX3 9 "DeficitCircles$Jobs" "held" "I" ∈ z_G := z_m1 (i := 115) rfl rfl
theorem z_g293 : Cond.fieldLink RX3 15 "DeficitCircles$Jobs" "ofClass" "[I" ∈ z_G := z_m1 (i := 118) rfl rfl
theorem z_g294 : Cond.fieldLink RX3 19 "DeficitCircles$Jobs" "size" "[I" ∈ z_G := z_m1 (i := 122) rfl rfl
theorem z_g295 : Cond.fieldLink RX3 22 "DeficitCircles$Jobs" "came" "[I" ∈ z_G := z_m1 (i := 126) rfl rfl
theorem z_g296 : Cond.fieldLink RX3 25 "DeficitCircles$Jobs" "began" "[I" ∈ z_G := z_m1 (i := 129) rfl rfl
theorem z_g297 : Cond.fieldLink RX3 28 "DeficitCircles$Jobs" "waits" "I" ∈ z_G := z_m1 (i := 132) rfl rfl
theorem z_g298 : Cond.fieldLink RX3 31 "DeficitCircles$Jobs" "line" "[I" ∈ z_G := z_m1 (i := 136) rfl rfl
theorem z_g299 : Cond.fieldLink RX4 12 "DeficitCircles$State" "groups" "LDeficitCircles$Groups;" ∈ z_G := z_m1 (i := 152) rfl rfl
theorem z_g300 : Cond.fieldLink RX4 21 "DeficitCircles$State" "classes" "LDeficitCircles$Classes;" ∈ z_G := z_m1 (i := 155) rfl rfl
theorem z_g301 : Cond.fieldLink RX4 28 "DeficitCircles$State" "jobs" "LDeficitCircles$Jobs;" ∈ z_G := z_m1 (i := 158) rfl rfl
theorem z_g302 : Cond.fieldLink RX4 32 "DeficitCircles$State" "time" "I" ∈ z_G := z_m1 (i := 161) rfl rfl
theorem z_g303 : Cond.fieldLink RX4 36 "DeficitCircles$State" "presentGroup" "I" ∈ z_G := z_m1 (i := 163) rfl rfl
theorem z_g304 : Cond.fieldLink RX4 39 "DeficitCircles$State" "inService" "I" ∈ z_G := z_m1 (i := 166) rfl rfl
theorem z_g305 : Cond.fieldLink RX4 42 "DeficitCircles$State" "left" "I" ∈ z_G := z_m1 (i := 168) rfl rfl
theorem z_g306 : Cond.fieldLink RX4 45 "DeficitCircles$State" "idleTicks" "I" ∈ z_G := z_m1 (i := 170) rfl rfl
theorem z_g307 : Cond.fieldLink RX4 48 "DeficitCircles$State" "servedWhenOld" "I" ∈ z_G := z_m1 (i := 172) rfl rfl
theorem z_g308 : Cond.fieldLink RX4 69 "DeficitCircles$Classes" "tokens" "[I" ∈ z_G := z_m1 (i := 77) rfl rfl
theorem z_g309 : Cond.fieldLink RX4 91 "DeficitCircles$Jobs" "began" "[I" ∈ z_G := z_m1 (i := 130) rfl rfl
theorem z_g310 : Cond.fieldLink RX4 94 "DeficitCircles$Jobs" "size" "[I" ∈ z_G := z_m1 (i := 124) rfl rfl
theorem z_g311 : Cond.fieldLink RX4 97 "DeficitCircles$Jobs" "ofClass" "[I" ∈ z_G := z_m1 (i := 120) rfl rfl
theorem z_g312 : Cond.fieldLink RX4 100 "DeficitCircles$Jobs" "came" "[I" ∈ z_G := z_m1 (i := 127) rfl rfl
theorem z_g313 : Cond.fieldLink RX4 117 "DeficitCircles$Classes" "longestWait" "[I" ∈ z_G := z_m1 (i := 83) rfl rfl
theorem z_g314 : Cond.fieldLink RX4 129 "DeficitCircles$Classes" "deficit" "[I" ∈ z_G := z_m1 (i := 71) rfl rfl
theorem z_g315 : Cond.fieldLink RX4 136 "DeficitCircles$Groups" "deficit" "[I" ∈ z_G := z_m1 (i := 39) rfl rfl
theorem z_g316 : Cond.fieldLink RX4 138 "DeficitCircles$Classes" "units" "[I" ∈ z_G := z_m1 (i := 86) rfl rfl
theorem z_g317 : Cond.fieldLink RX4 141 "DeficitCircles$Classes" "age" "[I" ∈ z_G := z_m1 (i := 81) rfl rfl
theorem z_g318 : Cond.fieldLink RX4 147 "DeficitCircles$Jobs" "waits" "I" ∈ z_G := z_m1 (i := 134) rfl rfl
theorem z_g319 : Cond.fieldLink RX4 153 "DeficitCircles$Classes" "group" "[I" ∈ z_G := z_m1 (i := 65) rfl rfl
theorem z_g320 : Cond.fieldLink RX4 159 "DeficitCircles$Jobs" "held" "I" ∈ z_G := z_m1 (i := 116) rfl rfl
theorem z_g321 : Cond.fieldLink RX5 9 "DeficitCircles$Text" "length" "I" ∈ z_G := z_m1 (i := 216) rfl rfl
theorem z_g322 : Cond.fieldLink RX5 15 "DeficitCircles$Text" "signs" "[C" ∈ z_G := z_m1 (i := 218) rfl rfl
theorem z_g323 : Cond.fieldLink RX6 9 "DeficitCircles$Turns" "classNeed" "[I" ∈ z_G := z_m1 (i := 231) rfl rfl
theorem z_g324 : Cond.fieldLink RX6 15 "DeficitCircles$Turns" "groupNeed" "[I" ∈ z_G := z_m1 (i := 232) rfl rfl
theorem z_g325 : Cond.fieldLink RX6 18 "DeficitCircles$Turns" "groupBusy" "[Z" ∈ z_G := z_m1 (i := 233) rfl rfl
theorem z_g326 : Cond.fieldLink RX6 22 "DeficitCircles$State" "jobs" "LDeficitCircles$Jobs;" ∈ z_G := z_m1 (i := 159) rfl rfl
theorem z_g327 : Cond.fieldLink RX6 28 "DeficitCircles$Jobs" "waits" "I" ∈ z_G := z_m1 (i := 133) rfl rfl
theorem z_g328 : Cond.fieldLink RX6 52 "DeficitCircles$State" "presentGroup" "I" ∈ z_G := z_m1 (i := 164) rfl rfl
theorem z_g329 : Cond.fieldLink RX6 55 "DeficitCircles$State" "groups" "LDeficitCircles$Groups;" ∈ z_G := z_m1 (i := 154) rfl rfl
theorem z_g330 : Cond.fieldLink RX6 65 "DeficitCircles$Groups" "present" "[I" ∈ z_G := z_m1 (i := 42) rfl rfl
theorem z_g331 : Cond.fieldLink RX6 80 "DeficitCircles$Jobs" "ofClass" "[I" ∈ z_G := z_m1 (i := 119) rfl rfl
theorem z_g332 : Cond.fieldLink RX6 86 "DeficitCircles$State" "classes" "LDeficitCircles$Classes;" ∈ z_G := z_m1 (i := 157) rfl rfl
theorem z_g333 : Cond.fieldLink RX6 93 "DeficitCircles$Jobs" "size" "[I" ∈ z_G := z_m1 (i := 123) rfl rfl
theorem z_g334 : Cond.fieldLink RX6 100 "DeficitCircles$Groups" "deficit" "[I" ∈ z_G := z_m1 (i := 38) rfl rfl
theorem z_g335 : Cond.fieldLink RX6 103 "DeficitCircles$Groups" "held" "I" ∈ z_G := z_m1 (i := 33) rfl rfl
theorem z_g336 : Cond.fieldLink RX6 106 "DeficitCircles$Groups" "quantum" "[I" ∈ z_G := z_m1 (i := 36) rfl rfl
theorem z_g337 : Cond.fieldLink RX6 120 "DeficitCircles$Classes" "deficit" "[I" ∈ z_G := z_m1 (i := 72) rfl rfl
theorem z_g338 : Cond.fieldLink RX6 128 "DeficitCircles$Classes" "held" "I" ∈ z_G := z_m1 (i := 62) rfl rfl
theorem z_g339 : Cond.fieldLink RX6 129 "DeficitCircles$Classes" "group" "[I" ∈ z_G := z_m1 (i := 64) rfl rfl
theorem z_g340 : Cond.fieldLink RX6 132 "DeficitCircles$Classes" "quantum" "[I" ∈ z_G := z_m1 (i := 69) rfl rfl
theorem z_g341 : Cond.fieldLink RX7 10 "DeficitCircles" "state" "LDeficitCircles$State;" ∈ z_G := z_m2 (i := 2) rfl rfl
theorem z_g342 : Cond.fieldLink RX7 16 "DeficitCircles" "snapshot" "LDeficitCircles$State;" ∈ z_G := z_m2 (i := 3) rfl rfl
theorem z_g343 : Cond.fieldLink RX7 19 "DeficitCircles" "hasSnapshot" "Z" ∈ z_G := z_m2 (i := 4) rfl rfl
theorem z_g344 : Cond.fieldLink RX7 23 "DeficitCircles" "trial" "LDeficitCircles$State;" ∈ z_G := z_m2 (i := 5) rfl rfl
theorem z_g345 : Cond.fieldLink RX7 29 "DeficitCircles" "history" "LDeficitCircles$History;" ∈ z_G := z_m2 (i := 6) rfl rfl
theorem z_g346 : Cond.fieldLink RX7 36 "DeficitCircles" "text" "LDeficitCircles$Text;" ∈ z_G := z_m2 (i := 7) rfl rfl
theorem z_g347 : Cond.fieldLink RX7 43 "DeficitCircles" "turns" "LDeficitCircles$Turns;" ∈ z_G := z_m2 (i := 8) rfl rfl
theorem z_g348 : Cond.fieldLink RX7 51 "DeficitCircles$State" "groups" "LDeficitCircles$Groups;" ∈ z_G := z_m1 (i := 153) rfl rfl
theorem z_g349 : Cond.fieldLink RX7 55 "DeficitCircles$Groups" "held" "I" ∈ z_G := z_m1 (i := 32) rfl rfl
theorem z_g350 : Cond.fieldLink RX7 76 "DeficitCircles$State" "classes" "LDeficitCircles$Classes;" ∈ z_G := z_m1 (i := 156) rfl rfl
theorem z_g351 : Cond.fieldLink RX7 80 "DeficitCircles$Classes" "held" "I" ∈ z_G := z_m1 (i := 61) rfl rfl
theorem z_g352 : Cond.fieldLink RX7 86 "DeficitCircles$Groups" "quantum" "[I" ∈ z_G := z_m1 (i := 35) rfl rfl
theorem z_g353 : Cond.fieldLink RX7 91 "DeficitCircles$Classes" "quantum" "[I" ∈ z_G := z_m1 (i := 68) rfl rfl
theorem z_g354 : Cond.fieldLink RX7 92 "DeficitCircles$Classes" "age" "[I" ∈ z_G := z_m1 (i := 80) rfl rfl
theorem z_g355 : Cond.fieldLink RX7 102 "DeficitCircles$State" "time" "I" ∈ z_G := z_m1 (i := 162) rfl rfl
theorem z_g356 : Cond.fieldLink RX7 116 "DeficitCircles$Text" "length" "I" ∈ z_G := z_m1 (i := 217) rfl rfl
theorem z_g357 : Cond.fieldLink RX7 134 "DeficitCircles$History" "length" "I" ∈ z_G := z_m1 (i := 203) rfl rfl
theorem z_g358 : Cond.fieldLink RX7 138 "DeficitCircles$Groups" "deficit" "[I" ∈ z_G := z_m1 (i := 40) rfl rfl
theorem z_g359 : Cond.fieldLink RX7 151 "DeficitCircles$Groups" "present" "[I" ∈ z_G := z_m1 (i := 43) rfl rfl
theorem z_g360 : Cond.fieldLink RX7 157 "DeficitCircles$Classes" "group" "[I" ∈ z_G := z_m1 (i := 66) rfl rfl
theorem z_g361 : Cond.fieldLink RX7 160 "DeficitCircles$Classes" "deficit" "[I" ∈ z_G := z_m1 (i := 73) rfl rfl
theorem z_g362 : Cond.fieldLink RX7 161 "DeficitCircles$State" "jobs" "LDeficitCircles$Jobs;" ∈ z_G := z_m1 (i := 160) rfl rfl
theorem z_g363 : Cond.fieldLink RX7 173 "DeficitCircles$Classes" "tokens" "[I" ∈ z_G := z_m1 (i := 78) rfl rfl
theorem z_g364 : Cond.fieldLink RX7 182 "DeficitCircles$Classes" "longestWait" "[I" ∈ z_G := z_m1 (i := 84) rfl rfl
theorem z_g365 : Cond.fieldLink RX7 185 "DeficitCircles$Classes" "units" "[I" ∈ z_G := z_m1 (i := 87) rfl rfl
theorem z_g366 : Cond.fieldLink RX7 189 "DeficitCircles$Jobs" "ofClass" "[I" ∈ z_G := z_m1 (i := 121) rfl rfl
theorem z_g367 : Cond.fieldLink RX7 192 "DeficitCircles$Jobs" "size" "[I" ∈ z_G := z_m1 (i := 125) rfl rfl
theorem z_g368 : Cond.fieldLink RX7 195 "DeficitCircles$Jobs" "came" "[I" ∈ z_G := z_m1 (i := 128) rfl rfl
theorem z_g369 : Cond.fieldLink RX7 201 "DeficitCircles$Jobs" "began" "[I" ∈ z_G := z_m1 (i := 131) rfl rfl
theorem z_g370 : Cond.fieldLink RX7 213 "DeficitCircles$Jobs" "waits" "I" ∈ z_G := z_m1 (i := 135) rfl rfl
theorem z_g371 : Cond.fieldLink RX7 234 "DeficitCircles$Jobs" "held" "I" ∈ z_G := z_m1 (i := 117) rfl rfl
theorem z_g372 : Cond.fieldLink RX7 235 "DeficitCircles$State" "inService" "I" ∈ z_G := z_m1 (i := 167) rfl rfl
theorem z_g373 : Cond.fieldLink RX7 238 "DeficitCircles$State" "presentGroup" "I" ∈ z_G := z_m1 (i := 165) rfl rfl
theorem z_g374 : Cond.fieldLink RX7 247 "DeficitCircles$State" "idleTicks" "I" ∈ z_G := z_m1 (i := 171) rfl rfl
theorem z_g375 : Cond.fieldLink RX7 250 "DeficitCircles$State" "servedWhenOld" "I" ∈ z_G := z_m1 (i := 173) rfl rfl
theorem z_g376 : Cond.fieldLink RX7 266 "DeficitCircles$State" "left" "I" ∈ z_G := z_m1 (i := 169) rfl rfl
def z_okf (e : (Nat × Nat) × (Nat × Nat)) : Prop := ∃ (C : String) (T : u_T) (N : Nat), z_cl[e.2.1]? = some (C, T, N) ∧ e.2.2 < N ∧ Cond.fieldLink (z_cn e.1.1) e.1.2 (T e.2.2).1 (T e.2.2).2.1 (T e.2.2).2.2.1 ∈ z_G
set_option maxRecDepth 100000 in
theorem z_fl_ok : ∀ e ∈ z_fl, z_okf e := List.forall_mem_cons.mpr ⟨⟨_, _, _, rfl, by decide, z_g276⟩,
  List.forall_mem_cons.mpr ⟨⟨_, _, _, rfl, by decide, z_g277⟩,
  List.forall_mem_cons.mpr ⟨⟨_, _, _, rfl, by decide, z_g278⟩,
  List.forall_mem_cons.mpr ⟨⟨_, _, _, rfl, by decide, z_g279⟩,
  List.forall_mem_cons.mpr ⟨⟨_, _, _, rfl, by decide, z_g280⟩,
  List.forall_mem_cons.mpr ⟨⟨_, _, _, rfl, by decide, z_g281⟩,
  List.forall_mem_cons.mpr ⟨⟨_, _, _, rfl, by decide, z_g282⟩,
  List.forall_mem_cons.mpr ⟨⟨_, _, _, rfl, by decide, z_g283⟩,
  List.forall_mem_cons.mpr ⟨⟨_, _, _, rfl, by decide, z_g284⟩,
  List.forall_mem_cons.mpr ⟨⟨_, _, _, rfl, by decide, z_g285⟩,
  List.forall_mem_cons.mpr ⟨⟨_, _, _, rfl, by decide, z_g286⟩,
  List.forall_mem_cons.mpr ⟨⟨_, _, _, rfl, by decide, z_g287⟩,
  List.forall_mem_cons.mpr ⟨⟨_, _, _, rfl, by decide, z_g288⟩,
  List.forall_mem_cons.mpr ⟨⟨_, _, _, rfl, by decide, z_g289⟩,
  List.forall_mem_cons.mpr ⟨⟨_, _, _, rfl, by decide, z_g290⟩,
  List.forall_mem_cons.mpr ⟨⟨_, _, _, rfl, by decide, z_g291⟩,
  List.forall_mem_cons.mpr ⟨⟨_, _, _, rfl, by decide, z_g292⟩,
  List.forall_mem_cons.mpr ⟨⟨_, _, _, rfl, by decide, z_g293⟩,
  List.forall_mem_cons.mpr ⟨⟨_, _, _, rfl, by decide, z_g294⟩,
  List.forall_mem_cons.mpr ⟨⟨_, _, _, rfl, by decide, z_g295⟩,
  List.forall_mem_cons.mpr ⟨⟨_, _, _, rfl, by decide, z_g296⟩,
  List.forall_mem_cons.mpr ⟨⟨_, _, _, rfl, by decide, z_g297⟩,
  List.forall_mem_cons.mpr ⟨⟨_, _, _, rfl, by decide, z_g298⟩,
  List.forall_mem_cons.mpr ⟨⟨_, _, _, rfl, by decide, z_g299⟩,
  List.forall_mem_cons.mpr ⟨⟨_, _, _, rfl, by decide, z_g300⟩,
  List.forall_mem_cons.mpr ⟨⟨_, _, _, rfl, by decide, z_g301⟩,
  List.forall_mem_cons.mpr ⟨⟨_, _, _, rfl, by decide, z_g302⟩,
  List.forall_mem_cons.mpr ⟨⟨_, _, _, rfl, by decide, z_g303⟩,
  List.forall_mem_cons.mpr ⟨⟨_, _, _, rfl, by decide, z_g304⟩,
  List.forall_mem_cons.mpr ⟨⟨_, _, _, rfl, by decide, z_g305⟩,
  List.forall_mem_cons.mpr ⟨⟨_, _, _, rfl, by decide, z_g306⟩,
  List.forall_mem_cons.mpr ⟨⟨_, _, _, rfl, by decide, z_g307⟩,
  List.forall_mem_cons.mpr ⟨⟨_, _, _, rfl, by decide, z_g308⟩,
  List.forall_mem_cons.mpr ⟨⟨_, _, _, rfl, by decide, z_g309⟩,
  List.forall_mem_cons.mpr ⟨⟨_, _, _, rfl, by decide, z_g310⟩,
  List.forall_mem_cons.mpr ⟨⟨_, _, _, rfl, by decide, z_g311⟩,
  List.forall_mem_cons.mpr ⟨⟨_, _, _, rfl, by decide, z_g312⟩,
  List.forall_mem_cons.mpr ⟨⟨_, _, _, rfl, by decide, z_g313⟩,
  List.forall_mem_cons.mpr ⟨⟨_, _, _, rfl, by decide, z_g314⟩,
  List.forall_mem_cons.mpr ⟨⟨_, _, _, rfl, by decide, z_g315⟩,
  List.forall_mem_cons.mpr ⟨⟨_, _, _, rfl, by decide, z_g316⟩,
  List.forall_mem_cons.mpr ⟨⟨_, _, _, rfl, by decide, z_g317⟩,
  List.forall_mem_cons.mpr ⟨⟨_, _, _, rfl, by decide, z_g318⟩,
  List.forall_mem_cons.mpr ⟨⟨_, _, _, rfl, by decide, z_g319⟩,
  List.forall_mem_cons.mpr ⟨⟨_, _, _, rfl, by decide, z_g320⟩,
  List.forall_mem_cons.mpr ⟨⟨_, _, _, rfl, by decide, z_g321⟩,
  List.forall_mem_cons.mpr ⟨⟨_, _, _, rfl, by decide, z_g322⟩,
  List.forall_mem_cons.mpr ⟨⟨_, _, _, rfl, by decide, z_g323⟩,
  List.forall_mem_cons.mpr ⟨⟨_, _, _, rfl, by decide, z_g324⟩,
  List.forall_mem_cons.mpr ⟨⟨_, _, _, rfl, by decide, z_g325⟩,
  List.forall_mem_cons.mpr ⟨⟨_, _, _, rfl, by decide, z_g326⟩,
  List.forall_mem_cons.mpr ⟨⟨_, _, _, rfl, by decide, z_g327⟩,
  List.forall_mem_cons.mpr ⟨⟨_, _, _, rfl, by decide, z_g328⟩,
  List.forall_mem_cons.mpr ⟨⟨_, _, _, rfl, by decide, z_g329⟩,
  List.forall_mem_cons.mpr ⟨⟨_, _, _, rfl, by decide, z_g330⟩,
  List.forall_mem_cons.mpr ⟨⟨_, _, _, rfl, by decide, z_g331⟩,
  List.forall_mem_cons.mpr ⟨⟨_, _, _, rfl, by decide, z_g332⟩,
  List.forall_mem_cons.mpr ⟨⟨_, _, _, rfl, by decide, z_g333⟩,
  List.forall_mem_cons.mpr ⟨⟨_, _, _, rfl, by decide, z_g334⟩,
  List.forall_mem_cons.mpr ⟨⟨_, _, _, rfl, by decide, z_g335⟩,
  List.forall_mem_cons.mpr ⟨⟨_, _, _, rfl, by decide, z_g336⟩,
  List.forall_mem_cons.mpr ⟨⟨_, _, _, rfl, by decide, z_g337⟩,
  List.forall_mem_cons.mpr ⟨⟨_, _, _, rfl, by decide, z_g338⟩,
  List.forall_mem_cons.mpr ⟨⟨_, _, _, rfl, by decide, z_g339⟩,
  List.forall_mem_cons.mpr ⟨⟨_, _, _, rfl, by decide, z_g340⟩,
  List.forall_mem_cons.mpr ⟨⟨_, _, _, rfl, by decide, z_g341⟩,
  List.forall_mem_cons.mpr ⟨⟨_, _, _, rfl, by decide, z_g342⟩,
  List.forall_mem_cons.mpr ⟨⟨_, _, _, rfl, by decide, z_g343⟩,
  List.forall_mem_cons.mpr ⟨⟨_, _, _, rfl, by decide, z_g344⟩,
  List.forall_mem_cons.mpr ⟨⟨_, _, _, rfl, by decide, z_g345⟩,
  List.forall_mem_cons.mpr ⟨⟨_, _, _, rfl, by decide, z_g346⟩,
  List.forall_mem_cons.mpr ⟨⟨_, _, _, rfl, by decide, z_g347⟩,
  List.forall_mem_cons.mpr ⟨⟨_, _, _, rfl, by decide, z_g348⟩,
  List.forall_mem_cons.mpr ⟨⟨_, _, _, rfl, by decide, z_g349⟩,
  List.forall_mem_cons.mpr ⟨⟨_, _, _, rfl, by decide, z_g350⟩,
  List.forall_mem_cons.mpr ⟨⟨_, _, _, rfl, by decide, z_g351⟩,
  List.forall_mem_cons.mpr ⟨⟨_, _, _, rfl, by decide, z_g352⟩,
  List.forall_mem_cons.mpr ⟨⟨_, _, _, rfl, by decide, z_g353⟩,
  List.forall_mem_cons.mpr ⟨⟨_, _, _, rfl, by decide, z_g354⟩,
  List.forall_mem_cons.mpr ⟨⟨_, _, _, rfl, by decide, z_g355⟩,
  List.forall_mem_cons.mpr ⟨⟨_, _, _, rfl, by decide, z_g356⟩,
  List.forall_mem_cons.mpr ⟨⟨_, _, _, rfl, by decide, z_g357⟩,
  List.forall_mem_cons.mpr ⟨⟨_, _, _, rfl, by decide, z_g358⟩,
  List.forall_mem_cons.mpr ⟨⟨_, _, _, rfl, by decide, z_g359⟩,
  List.forall_mem_cons.mpr ⟨⟨_, _, _, rfl, by decide, z_g360⟩,
  List.forall_mem_cons.mpr ⟨⟨_, _, _, rfl, by decide, z_g361⟩,
  List.forall_mem_cons.mpr ⟨⟨_, _, _, rfl, by decide, z_g362⟩,
  List.forall_mem_cons.mpr ⟨⟨_, _, _, rfl, by decide, z_g363⟩,
  List.forall_mem_cons.mpr ⟨⟨_, _, _, rfl, by decide, z_g364⟩,
  List.forall_mem_cons.mpr ⟨⟨_, _, _, rfl, by decide, z_g365⟩,
  List.forall_mem_cons.mpr ⟨⟨_, _, _, rfl, by decide, z_g366⟩,
  List.forall_mem_cons.mpr ⟨⟨_, _, _, rfl, by decide, z_g367⟩,
  List.forall_mem_cons.mpr ⟨⟨_, _, _, rfl, by decide, z_g368⟩,
  List.forall_mem_cons.mpr ⟨⟨_, _, _, rfl, by decide, z_g369⟩,
  List.forall_mem_cons.mpr ⟨⟨_, _, _, rfl, by decide, z_g370⟩,
  List.forall_mem_cons.mpr ⟨⟨_, _, _, rfl, by decide, z_g371⟩,
  List.forall_mem_cons.mpr ⟨⟨_, _, _, rfl, by decide, z_g372⟩,
  List.forall_mem_cons.mpr ⟨⟨_, _, _, rfl, by decide, z_g373⟩,
  List.forall_mem_cons.mpr ⟨⟨_, _, _, rfl, by decide, z_g374⟩,
  List.forall_mem_cons.mpr ⟨⟨_, _, _, rfl, by decide, z_g375⟩,
  List.forall_mem_cons.mpr ⟨⟨_, _, _, rfl, by decide, z_g376⟩,
  fun _ h => absurd h List.not_mem_nil⟩⟩⟩⟩⟩⟩⟩⟩⟩⟩⟩⟩⟩⟩⟩⟩⟩⟩⟩⟩⟩⟩⟩⟩⟩⟩⟩⟩⟩⟩⟩⟩⟩⟩⟩⟩⟩⟩⟩⟩⟩⟩⟩⟩⟩⟩⟩⟩⟩⟩⟩⟩⟩⟩⟩⟩⟩⟩⟩⟩⟩⟩⟩⟩⟩⟩⟩⟩⟩⟩⟩⟩⟩⟩⟩⟩⟩⟩⟩⟩⟩⟩⟩⟩⟩⟩⟩⟩⟩⟩⟩⟩⟩⟩⟩⟩⟩⟩⟩⟩⟩
theorem z_g377 : Cond.methodLink RX2 22 yX2_dropOldest ∈ z_G := z_m2 (i := 38) rfl rfl
theorem z_g378 : Cond.methodLink RX2 25 yX2_roomAt ∈ z_G := z_m2 (i := 42) rfl rfl
theorem z_g379 : Cond.methodLink RX2 29 yX4_copyFrom ∈ z_G := z_m2 (i := 46) rfl rfl
theorem z_g380 : Cond.methodLink RX3 34 yX3_has ∈ z_G := z_m2 (i := 110) rfl rfl
theorem z_g381 : Cond.methodLink RX3 38 yX3_waitingAt ∈ z_G := z_m2 (i := 139) rfl rfl
theorem z_g382 : Cond.methodLink RX3 42 yX3_sizesAheadOf ∈ z_G := z_m2 (i := 135) rfl rfl
theorem z_g383 : Cond.methodLink RX4 51 yX1_copyFrom ∈ z_G := z_m2 (i := 50) rfl rfl
theorem z_g384 : Cond.methodLink RX4 55 yX0_copyFrom ∈ z_G := z_m2 (i := 57) rfl rfl
theorem z_g385 : Cond.methodLink RX4 58 yX3_copyFrom ∈ z_G := z_m2 (i := 62) rfl rfl
theorem z_g386 : Cond.methodLink RX4 61 yX0_has ∈ z_G := z_m2 (i := 123) rfl rfl
theorem z_g387 : Cond.methodLink RX4 73 yX3_isFull ∈ z_G := z_m3 (i := 112) rfl rfl
theorem z_g388 : Cond.methodLink RX4 77 yX3_append ∈ z_G := z_m3 (i := 120) rfl rfl
theorem z_g389 : Cond.methodLink RX4 81 yX3_isWaiting ∈ z_G := z_m2 (i := 127) rfl rfl
theorem z_g390 : Cond.methodLink RX4 84 yX4_isOld ∈ z_G := z_m2 (i := 114) rfl rfl
theorem z_g391 : Cond.methodLink RX4 87 yX3_leaveLine ∈ z_G := z_m3 (i := 41) rfl rfl
theorem z_g392 : Cond.methodLink RX4 103 yX4_noteWait ∈ z_G := z_m3 (i := 45) rfl rfl
theorem z_g393 : Cond.methodLink RX4 107 yX4_payFromClass ∈ z_G := z_m3 (i := 52) rfl rfl
theorem z_g394 : Cond.methodLink RX4 110 yX4_groupFor ∈ z_G := z_m2 (i := 172) rfl rfl
theorem z_g395 : Cond.methodLink RX4 114 yX4_payFromGroup ∈ z_G := z_m3 (i := 57) rfl rfl
theorem z_g396 : Cond.methodLink RX4 126 yX3_waitsOf ∈ z_G := z_m3 (i := 56) rfl rfl
theorem z_g397 : Cond.methodLink RX4 132 yX1_has ∈ z_G := z_m3 (i := 61) rfl rfl
theorem z_g398 : Cond.methodLink RX4 133 yX4_waitsOfGroup ∈ z_G := z_m3 (i := 62) rfl rfl
theorem z_g399 : Cond.methodLink RX4 137 yX3_has ∈ z_G := z_m2 (i := 122) rfl rfl
theorem z_g400 : Cond.methodLink RX4 144 yX4_ageFor ∈ z_G := z_m2 (i := 118) rfl rfl
theorem z_g401 : Cond.methodLink RX4 150 yX3_waitingAt ∈ z_G := z_m2 (i := 106) rfl rfl
theorem z_g402 : Cond.methodLink RX4 156 yX4_stageOf ∈ z_G := z_m2 (i := 153) rfl rfl
theorem z_g403 : Cond.methodLink RX5 19 yX5_partAfter ∈ z_G := z_m3 (i := 159) rfl rfl
theorem z_g404 : Cond.methodLink RX5 23 yX5_digitAt ∈ z_G := z_m3 (i := 170) rfl rfl
theorem z_g405 : Cond.methodLink RX6 34 yX4_firstOld ∈ z_G := z_m2 (i := 228) rfl rfl
theorem z_g406 : Cond.methodLink RX6 38 yX6_noteFirstJobs ∈ z_G := z_m2 (i := 232) rfl rfl
theorem z_g407 : Cond.methodLink RX6 42 yX6_presentGroupIsNext ∈ z_G := z_m3 (i := 5) rfl rfl
theorem z_g408 : Cond.methodLink RX6 46 yX6_walkGroups ∈ z_G := z_m3 (i := 28) rfl rfl
theorem z_g409 : Cond.methodLink RX6 49 yX6_skipGroupRounds ∈ z_G := z_m3 (i := 32) rfl rfl
theorem z_g410 : Cond.methodLink RX6 59 yX1_has ∈ z_G := z_m3 (i := 4) rfl rfl
theorem z_g411 : Cond.methodLink RX6 68 yX3_firstOf ∈ z_G := z_m3 (i := 36) rfl rfl
theorem z_g412 : Cond.methodLink RX6 72 yX3_waitingAt ∈ z_G := z_m2 (i := 236) rfl rfl
theorem z_g413 : Cond.methodLink RX6 75 yX6_noteJob ∈ z_G := z_m2 (i := 237) rfl rfl
theorem z_g414 : Cond.methodLink RX6 79 yX3_has ∈ z_G := z_m3 (i := 1) rfl rfl
theorem z_g415 : Cond.methodLink RX6 83 yX4_groupFor ∈ z_G := z_m3 (i := 2) rfl rfl
theorem z_g416 : Cond.methodLink RX6 90 yX0_has ∈ z_G := z_m3 (i := 3) rfl rfl
theorem z_g417 : Cond.methodLink RX6 96 yX6_lookAt ∈ z_G := z_m3 (i := 9) rfl rfl
theorem z_g418 : Cond.methodLink RX6 110 yX6_roundsBelow ∈ z_G := z_m3 (i := 22) rfl rfl
theorem z_g419 : Cond.methodLink RX6 121 yX6_walkClasses ∈ z_G := z_m3 (i := 13) rfl rfl
theorem z_g420 : Cond.methodLink RX6 125 yX6_skipClassRounds ∈ z_G := z_m3 (i := 17) rfl rfl
theorem z_g421 : Cond.methodLink RX7 47 yX7_isQuantum ∈ z_G := z_m2 (i := 28) rfl rfl
theorem z_g422 : Cond.methodLink RX7 61 yX2_push ∈ z_G := z_m2 (i := 34) rfl rfl
theorem z_g423 : Cond.methodLink RX7 65 yX1_append ∈ z_G := z_m2 (i := 67) rfl rfl
theorem z_g424 : Cond.methodLink RX7 69 yX1_has ∈ z_G := z_m2 (i := 75) rfl rfl
theorem z_g425 : Cond.methodLink RX7 72 yX7_isWithin ∈ z_G := z_m2 (i := 31) rfl rfl
theorem z_g426 : Cond.methodLink RX7 83 yX0_append ∈ z_G := z_m2 (i := 79) rfl rfl
theorem z_g427 : Cond.methodLink RX7 90 yX0_has ∈ z_G := z_m2 (i := 189) rfl rfl
theorem z_g428 : Cond.methodLink RX7 95 yX4_whyNotAdmit ∈ z_G := z_m3 (i := 107) rfl rfl
theorem z_g429 : Cond.methodLink RX7 99 yX4_admit ∈ z_G := z_m3 (i := 116) rfl rfl
theorem z_g430 : Cond.methodLink RX7 105 yX7_passTick ∈ z_G := z_m3 (i := 83) rfl rfl
theorem z_g431 : Cond.methodLink RX7 109 yX0_fillBuckets ∈ z_G := z_m3 (i := 91) rfl rfl
theorem z_g432 : Cond.methodLink RX7 113 yX0_takeUnits ∈ z_G := z_m3 (i := 136) rfl rfl
theorem z_g433 : Cond.methodLink RX7 119 yX5_append ∈ z_G := z_m3 (i := 175) rfl rfl
theorem z_g434 : Cond.methodLink RX7 122 yX5_fault ∈ z_G := z_m3 (i := 155) rfl rfl
theorem z_g435 : Cond.methodLink RX7 125 yX4_copyFrom ∈ z_G := z_m2 (i := 223) rfl rfl
theorem z_g436 : Cond.methodLink RX7 128 yX5_digitAt ∈ z_G := z_m3 (i := 162) rfl rfl
theorem z_g437 : Cond.methodLink RX7 131 yX5_sizeAt ∈ z_G := z_m3 (i := 166) rfl rfl
theorem z_g438 : Cond.methodLink RX7 135 yX2_takeLatest ∈ z_G := z_m3 (i := 183) rfl rfl
theorem z_g439 : Cond.methodLink RX7 142 yX0_heldOf ∈ z_G := z_m2 (i := 164) rfl rfl
theorem z_g440 : Cond.methodLink RX7 145 yX4_waitsOfGroup ∈ z_G := z_m2 (i := 168) rfl rfl
theorem z_g441 : Cond.methodLink RX7 148 yX4_sizesOfGroup ∈ z_G := z_m2 (i := 176) rfl rfl
theorem z_g442 : Cond.methodLink RX7 154 yX0_unitsOf ∈ z_G := z_m2 (i := 180) rfl rfl
theorem z_g443 : Cond.methodLink RX7 165 yX3_waitsOf ∈ z_G := z_m2 (i := 190) rfl rfl
theorem z_g444 : Cond.methodLink RX7 170 yX3_sizesOf ∈ z_G := z_m2 (i := 194) rfl rfl
theorem z_g445 : Cond.methodLink RX7 176 yX3_firstOf ∈ z_G := z_m2 (i := 198) rfl rfl
theorem z_g446 : Cond.methodLink RX7 179 yX4_doneOf ∈ z_G := z_m2 (i := 202) rfl rfl
theorem z_g447 : Cond.methodLink RX7 188 yX3_has ∈ z_G := z_m2 (i := 144) rfl rfl
theorem z_g448 : Cond.methodLink RX7 198 yX4_stageOf ∈ z_G := z_m2 (i := 145) rfl rfl
theorem z_g449 : Cond.methodLink RX7 204 yX4_endOf ∈ z_G := z_m2 (i := 149) rfl rfl
theorem z_g450 : Cond.methodLink RX7 207 yX4_leftOf ∈ z_G := z_m2 (i := 154) rfl rfl
theorem z_g451 : Cond.methodLink RX7 210 yX4_isOld ∈ z_G := z_m2 (i := 158) rfl rfl
theorem z_g452 : Cond.methodLink RX7 216 yX7_beginAhead ∈ z_G := z_m2 (i := 219) rfl rfl
theorem z_g453 : Cond.methodLink RX7 219 yX3_isWaiting ∈ z_G := z_m3 (i := 67) rfl rfl
theorem z_g454 : Cond.methodLink RX7 222 yX4_ageFor ∈ z_G := z_m3 (i := 72) rfl rfl
theorem z_g455 : Cond.methodLink RX7 230 yX3_sizesAheadOf ∈ z_G := z_m3 (i := 74) rfl rfl
theorem z_g456 : Cond.methodLink RX7 241 yX4_doneJobs ∈ z_G := z_m2 (i := 98) rfl rfl
theorem z_g457 : Cond.methodLink RX7 244 yX4_oldJobs ∈ z_G := z_m2 (i := 102) rfl rfl
theorem z_g458 : Cond.methodLink RX7 253 yX3_allSizes ∈ z_G := z_m2 (i := 131) rfl rfl
theorem z_g459 : Cond.methodLink RX7 256 yX6_nextJob ∈ z_G := z_m2 (i := 224) rfl rfl
theorem z_g460 : Cond.methodLink RX7 260 yX4_begin ∈ z_G := z_m3 (i := 37) rfl rfl
theorem z_g461 : Cond.methodLink RX7 263 yX4_serveUnit ∈ z_G := z_m3 (i := 87) rfl rfl
theorem z_g462 : Cond.methodLink RL 9 yX7_count ∈ z_G := z_m2 (i := 94) rfl rfl
theorem z_g463 : Cond.methodLink RL 15 yX7_job ∈ z_G := z_m2 (i := 140) rfl rfl
theorem z_g464 : Cond.methodLink RL 19 yX7_group ∈ z_G := z_m2 (i := 159) rfl rfl
theorem z_g465 : Cond.methodLink RL 23 yX7_classOf ∈ z_G := z_m2 (i := 185) rfl rfl
theorem z_g466 : Cond.methodLink RL 26 yX7_shares ∈ z_G := z_m2 (i := 206) rfl rfl
theorem z_g467 : Cond.methodLink RL 30 yX7_served ∈ z_G := z_m2 (i := 215) rfl rfl
theorem z_g468 : Cond.methodLink RL 33 yX7_beginsAt ∈ z_G := z_m3 (i := 63) rfl rfl
theorem z_g469 : Cond.methodLink RL 36 yX7_bound ∈ z_G := z_m3 (i := 68) rfl rfl
theorem z_g470 : Cond.methodLink RL 39 yX7_keep ∈ z_G := z_m3 (i := 75) rfl rfl
theorem z_g471 : Cond.methodLink RL 43 yX7_pass ∈ z_G := z_m3 (i := 79) rfl rfl
theorem z_g472 : Cond.methodLink RL 46 yX7_restore ∈ z_G := z_m3 (i := 96) rfl rfl
theorem z_g473 : Cond.methodLink RL 49 yL_low ∈ z_G := z_m2 (i := 87) rfl rfl
theorem z_g474 : Cond.methodLink RL 54 yX7_add ∈ z_G := z_m3 (i := 103) rfl rfl
theorem z_g475 : Cond.methodLink RL 57 yX7_setAge ∈ z_G := z_m3 (i := 124) rfl rfl
theorem z_g476 : Cond.methodLink RL 60 yX7_setQuantum ∈ z_G := z_m3 (i := 128) rfl rfl
theorem z_g477 : Cond.methodLink RL 63 yX7_mark ∈ z_G := z_m3 (i := 132) rfl rfl
theorem z_g478 : Cond.methodLink RL 66 yX7_addGroup ∈ z_G := z_m2 (i := 24) rfl rfl
theorem z_g479 : Cond.methodLink RL 69 yX7_addClass ∈ z_G := z_m2 (i := 71) rfl rfl
theorem z_g480 : Cond.methodLink RL 73 yX7_setGroupQuantum ∈ z_G := z_m3 (i := 143) rfl rfl
theorem z_g481 : Cond.methodLink RL 76 yX7_clearText ∈ z_G := z_m3 (i := 147) rfl rfl
theorem z_g482 : Cond.methodLink RL 79 yX7_readJobs ∈ z_G := z_m3 (i := 151) rfl rfl
theorem z_g483 : Cond.methodLink RL 82 yX7_type ∈ z_G := z_m3 (i := 171) rfl rfl
theorem z_g484 : Cond.methodLink RL 86 yX7_undo ∈ z_G := z_m3 (i := 179) rfl rfl
def z_okl (e : (Nat × Nat) × Nat) : Prop := ∃ mj, z_mts[e.2]? = some mj ∧ Cond.methodLink (z_cn e.1.1) e.1.2 (z_y mj) ∈ z_G
set_option maxRecDepth 100000 in
theorem z_ml_ok : ∀ e ∈ z_ml, z_okl e := List.forall_mem_cons.mpr ⟨⟨_, rfl, z_g377⟩,
  List.forall_mem_cons.mpr ⟨⟨_, rfl, z_g378⟩,
  List.forall_mem_cons.mpr ⟨⟨_, rfl, z_g379⟩,
  List.forall_mem_cons.mpr ⟨⟨_, rfl, z_g380⟩,
  List.forall_mem_cons.mpr ⟨⟨_, rfl, z_g381⟩,
  List.forall_mem_cons.mpr ⟨⟨_, rfl, z_g382⟩,
  List.forall_mem_cons.mpr ⟨⟨_, rfl, z_g383⟩,
  List.forall_mem_cons.mpr ⟨⟨_, rfl, z_g384⟩,
  List.forall_mem_cons.mpr ⟨⟨_, rfl, z_g385⟩,
  List.forall_mem_cons.mpr ⟨⟨_, rfl, z_g386⟩,
  List.forall_mem_cons.mpr ⟨⟨_, rfl, z_g387⟩,
  List.forall_mem_cons.mpr ⟨⟨_, rfl, z_g388⟩,
  List.forall_mem_cons.mpr ⟨⟨_, rfl, z_g389⟩,
  List.forall_mem_cons.mpr ⟨⟨_, rfl, z_g390⟩,
  List.forall_mem_cons.mpr ⟨⟨_, rfl, z_g391⟩,
  List.forall_mem_cons.mpr ⟨⟨_, rfl, z_g392⟩,
  List.forall_mem_cons.mpr ⟨⟨_, rfl, z_g393⟩,
  List.forall_mem_cons.mpr ⟨⟨_, rfl, z_g394⟩,
  List.forall_mem_cons.mpr ⟨⟨_, rfl, z_g395⟩,
  List.forall_mem_cons.mpr ⟨⟨_, rfl, z_g396⟩,
  List.forall_mem_cons.mpr ⟨⟨_, rfl, z_g397⟩,
  List.forall_mem_cons.mpr ⟨⟨_, rfl, z_g398⟩,
  List.forall_mem_cons.mpr ⟨⟨_, rfl, z_g399⟩,
  List.forall_mem_cons.mpr ⟨⟨_, rfl, z_g400⟩,
  List.forall_mem_cons.mpr ⟨⟨_, rfl, z_g401⟩,
  List.forall_mem_cons.mpr ⟨⟨_, rfl, z_g402⟩,
  List.forall_mem_cons.mpr ⟨⟨_, rfl, z_g403⟩,
  List.forall_mem_cons.mpr ⟨⟨_, rfl, z_g404⟩,
  List.forall_mem_cons.mpr ⟨⟨_, rfl, z_g405⟩,
  List.forall_mem_cons.mpr ⟨⟨_, rfl, z_g406⟩,
  List.forall_mem_cons.mpr ⟨⟨_, rfl, z_g407⟩,
  List.forall_mem_cons.mpr ⟨⟨_, rfl, z_g408⟩,
  List.forall_mem_cons.mpr ⟨⟨_, rfl, z_g409⟩,
  List.forall_mem_cons.mpr ⟨⟨_, rfl, z_g410⟩,
  List.forall_mem_cons.mpr ⟨⟨_, rfl, z_g411⟩,
  List.forall_mem_cons.mpr ⟨⟨_, rfl, z_g412⟩,
  List.forall_mem_cons.mpr ⟨⟨_, rfl, z_g413⟩,
  List.forall_mem_cons.mpr ⟨⟨_, rfl, z_g414⟩,
  List.forall_mem_cons.mpr ⟨⟨_, rfl, z_g415⟩,
  List.forall_mem_cons.mpr ⟨⟨_, rfl, z_g416⟩,
  List.forall_mem_cons.mpr ⟨⟨_, rfl, z_g417⟩,
  List.forall_mem_cons.mpr ⟨⟨_, rfl, z_g418⟩,
  List.forall_mem_cons.mpr ⟨⟨_, rfl, z_g419⟩,
  List.forall_mem_cons.mpr ⟨⟨_, rfl, z_g420⟩,
  List.forall_mem_cons.mpr ⟨⟨_, rfl, z_g421⟩,
  List.forall_mem_cons.mpr ⟨⟨_, rfl, z_g422⟩,
  List.forall_mem_cons.mpr ⟨⟨_, rfl, z_g423⟩,
  List.forall_mem_cons.mpr ⟨⟨_, rfl, z_g424⟩,
  List.forall_mem_cons.mpr ⟨⟨_, rfl, z_g425⟩,
  List.forall_mem_cons.mpr ⟨⟨_, rfl, z_g426⟩,
  List.forall_mem_cons.mpr ⟨⟨_, rfl, z_g427⟩,
  List.forall_mem_cons.mpr ⟨⟨_, rfl, z_g428⟩,
  List.forall_mem_cons.mpr ⟨⟨_, rfl, z_g429⟩,
  List.forall_mem_cons.mpr ⟨⟨_, rfl, z_g430⟩,
  List.forall_mem_cons.mpr ⟨⟨_, rfl, z_g431⟩,
  List.forall_mem_cons.mpr ⟨⟨_, rfl, z_g432⟩,
  List.forall_mem_cons.mpr ⟨⟨_, rfl, z_g433⟩,
  List.forall_mem_cons.mpr ⟨⟨_, rfl, z_g434⟩,
  List.forall_mem_cons.mpr ⟨⟨_, rfl, z_g435⟩,
  List.forall_mem_cons.mpr ⟨⟨_, rfl, z_g436⟩,
  List.forall_mem_cons.mpr ⟨⟨_, rfl, z_g437⟩,
  List.forall_mem_cons.mpr ⟨⟨_, rfl, z_g438⟩,
  List.forall_mem_cons.mpr ⟨⟨_, rfl, z_g439⟩,
  List.forall_mem_cons.mpr ⟨⟨_, rfl, z_g440⟩,
  List.forall_mem_cons.mpr ⟨⟨_, rfl, z_g441⟩,
  List.forall_mem_cons.mpr ⟨⟨_, rfl, z_g442⟩,
  List.forall_mem_cons.mpr ⟨⟨_, rfl, z_g443⟩,
  List.forall_mem_cons.mpr ⟨⟨_, rfl, z_g444⟩,
  List.forall_mem_cons.mpr ⟨⟨_, rfl, z_g445⟩,
  List.forall_mem_cons.mpr ⟨⟨_, rfl, z_g446⟩,
  List.forall_mem_cons.mpr ⟨⟨_, rfl, z_g447⟩,
  List.forall_mem_cons.mpr ⟨⟨_, rfl, z_g448⟩,
  List.forall_mem_cons.mpr ⟨⟨_, rfl, z_g449⟩,
  List.forall_mem_cons.mpr ⟨⟨_, rfl, z_g450⟩,
  List.forall_mem_cons.mpr ⟨⟨_, rfl, z_g451⟩,
  List.forall_mem_cons.mpr ⟨⟨_, rfl, z_g452⟩,
  List.forall_mem_cons.mpr ⟨⟨_, rfl, z_g453⟩,
  List.forall_mem_cons.mpr ⟨⟨_, rfl, z_g454⟩,
  List.forall_mem_cons.mpr ⟨⟨_, rfl, z_g455⟩,
  List.forall_mem_cons.mpr ⟨⟨_, rfl, z_g456⟩,
  List.forall_mem_cons.mpr ⟨⟨_, rfl, z_g457⟩,
  List.forall_mem_cons.mpr ⟨⟨_, rfl, z_g458⟩,
  List.forall_mem_cons.mpr ⟨⟨_, rfl, z_g459⟩,
  List.forall_mem_cons.mpr ⟨⟨_, rfl, z_g460⟩,
  List.forall_mem_cons.mpr ⟨⟨_, rfl, z_g461⟩,
  List.forall_mem_cons.mpr ⟨⟨_, rfl, z_g462⟩,
  List.forall_mem_cons.mpr ⟨⟨_, rfl, z_g463⟩,
  List.forall_mem_cons.mpr ⟨⟨_, rfl, z_g464⟩,
  List.forall_mem_cons.mpr ⟨⟨_, rfl, z_g465⟩,
  List.forall_mem_cons.mpr ⟨⟨_, rfl, z_g466⟩,
  List.forall_mem_cons.mpr ⟨⟨_, rfl, z_g467⟩,
  List.forall_mem_cons.mpr ⟨⟨_, rfl, z_g468⟩,
  List.forall_mem_cons.mpr ⟨⟨_, rfl, z_g469⟩,
  List.forall_mem_cons.mpr ⟨⟨_, rfl, z_g470⟩,
  List.forall_mem_cons.mpr ⟨⟨_, rfl, z_g471⟩,
  List.forall_mem_cons.mpr ⟨⟨_, rfl, z_g472⟩,
  List.forall_mem_cons.mpr ⟨⟨_, rfl, z_g473⟩,
  List.forall_mem_cons.mpr ⟨⟨_, rfl, z_g474⟩,
  List.forall_mem_cons.mpr ⟨⟨_, rfl, z_g475⟩,
  List.forall_mem_cons.mpr ⟨⟨_, rfl, z_g476⟩,
  List.forall_mem_cons.mpr ⟨⟨_, rfl, z_g477⟩,
  List.forall_mem_cons.mpr ⟨⟨_, rfl, z_g478⟩,
  List.forall_mem_cons.mpr ⟨⟨_, rfl, z_g479⟩,
  List.forall_mem_cons.mpr ⟨⟨_, rfl, z_g480⟩,
  List.forall_mem_cons.mpr ⟨⟨_, rfl, z_g481⟩,
  List.forall_mem_cons.mpr ⟨⟨_, rfl, z_g482⟩,
  List.forall_mem_cons.mpr ⟨⟨_, rfl, z_g483⟩,
  List.forall_mem_cons.mpr ⟨⟨_, rfl, z_g484⟩,
  fun _ h => absurd h List.not_mem_nil⟩⟩⟩⟩⟩⟩⟩⟩⟩⟩⟩⟩⟩⟩⟩⟩⟩⟩⟩⟩⟩⟩⟩⟩⟩⟩⟩⟩⟩⟩⟩⟩⟩⟩⟩⟩⟩⟩⟩⟩⟩⟩⟩⟩⟩⟩⟩⟩⟩⟩⟩⟩⟩⟩⟩⟩⟩⟩⟩⟩⟩⟩⟩⟩⟩⟩⟩⟩⟩⟩⟩⟩⟩⟩⟩⟩⟩⟩⟩⟩⟩⟩⟩⟩⟩⟩⟩⟩⟩⟩⟩⟩⟩⟩⟩⟩⟩⟩⟩⟩⟩⟩⟩⟩⟩⟩⟩⟩
def z_okj (e : (Nat × Nat) × Nat) : Prop := (e.2 = 0 → Cond.methodLink (z_cn e.1.1) e.1.2 Lib.Math.max.name ∈ z_G) ∧ (e.2 = 1 → Cond.methodLink (z_cn e.1.1) e.1.2 Lib.Math.min.name ∈ z_G) ∧ (e.2 = 2 → Cond.methodLink (z_cn e.1.1) e.1.2 arraycopyName ∈ z_G)
theorem z_g485 : Cond.methodLink RX0 43 Lib.Math.min.name ∈ z_G := z_m3 (i := 95) rfl rfl
theorem z_g486 : Cond.methodLink RX0 49 arraycopyName ∈ z_G := z_m2 (i := 61) rfl rfl
theorem z_g487 : Cond.methodLink RX1 25 arraycopyName ∈ z_G := z_m2 (i := 54) rfl rfl
theorem z_g488 : Cond.methodLink RX3 45 arraycopyName ∈ z_G := z_m2 (i := 66) rfl rfl
theorem z_g489 : Cond.methodLink RX4 120 Lib.Math.max.name ∈ z_G := z_m3 (i := 49) rfl rfl
theorem z_g490 : Cond.methodLink RX6 114 Lib.Math.min.name ∈ z_G := z_m3 (i := 25) rfl rfl
theorem z_g491 : Cond.methodLink RX7 225 Lib.Math.max.name ∈ z_G := z_m3 (i := 73) rfl rfl
set_option maxRecDepth 100000 in
theorem z_mm_ok : ∀ e ∈ z_mm, z_okj e := List.forall_mem_cons.mpr ⟨⟨fun h => absurd h (by decide), fun _ => z_g485, fun h => absurd h (by decide)⟩,
  List.forall_mem_cons.mpr ⟨⟨fun h => absurd h (by decide), fun h => absurd h (by decide), fun _ => z_g486⟩,
  List.forall_mem_cons.mpr ⟨⟨fun h => absurd h (by decide), fun h => absurd h (by decide), fun _ => z_g487⟩,
  List.forall_mem_cons.mpr ⟨⟨fun h => absurd h (by decide), fun h => absurd h (by decide), fun _ => z_g488⟩,
  List.forall_mem_cons.mpr ⟨⟨fun _ => z_g489, fun h => absurd h (by decide), fun h => absurd h (by decide)⟩,
  List.forall_mem_cons.mpr ⟨⟨fun h => absurd h (by decide), fun _ => z_g490, fun h => absurd h (by decide)⟩,
  List.forall_mem_cons.mpr ⟨⟨fun _ => z_g491, fun h => absurd h (by decide), fun h => absurd h (by decide)⟩,
  fun _ h => absurd h List.not_mem_nil⟩⟩⟩⟩⟩⟩⟩
theorem z_g492 : Cond.static Lib.Math.max.name ∈ z_G := z_m3 (i := 50) rfl rfl
theorem z_g493 : Cond.initialized "java/lang/Math" ∈ z_G := z_m1 (i := 10) rfl rfl
theorem z_g494 : Cond.code Lib.Math.max.name Lib.Math.max.code 2 (some .int) ∈ z_G := z_m3 (i := 51) rfl rfl
theorem z_max_ok : Cond.static Lib.Math.max.name ∈ z_G ∧ Cond.initialized "java/lang/Math" ∈ z_G ∧ Cond.code Lib.Math.max.name Lib.Math.max.code 2 (some .int) ∈ z_G := ⟨z_g492, z_g493, z_g494⟩
theorem z_g495 : Cond.static Lib.Math.min.name ∈ z_G := z_m3 (i := 26) rfl rfl
theorem z_g496 : Cond.code Lib.Math.min.name Lib.Math.min.code 2 (some .int) ∈ z_G := z_m3 (i := 27) rfl rfl
theorem z_min_ok : Cond.static Lib.Math.min.name ∈ z_G ∧ Cond.initialized "java/lang/Math" ∈ z_G ∧ Cond.code Lib.Math.min.name Lib.Math.min.code 2 (some .int) ∈ z_G := ⟨z_g495, z_g493, z_g496⟩
theorem z_g497 : Cond.native arraycopyName ∈ z_G := z_m2 (i := 56) rfl rfl
theorem z_g498 : Cond.static arraycopyName ∈ z_G := z_m2 (i := 55) rfl rfl
theorem z_g499 : Cond.initialized "java/lang/System" ∈ z_G := z_m1 (i := 9) rfl rfl
theorem z_cpy_ok : Cond.native arraycopyName ∈ z_G ∧ Cond.static arraycopyName ∈ z_G ∧ Cond.initialized "java/lang/System" ∈ z_G := ⟨z_g497, z_g498, z_g499⟩
theorem z_g500 : Cond.constant RX6 109 (Int32.ofInt 1000000) ∈ z_G := z_m3 (i := 21) rfl rfl
theorem z_g501 : Cond.constant RX7 141 (Int32.ofInt 100000) ∈ z_G := z_m2 (i := 163) rfl rfl
theorem z_g502 : Cond.constant RX7 233 (Int32.ofInt 10000000) ∈ z_G := z_m2 (i := 210) rfl rfl
theorem z_g503 : Cond.constant RL 8 (Int32.ofInt 2147483647) ∈ z_G := z_m2 (i := 90) rfl rfl
theorem z_g504 : Cond.constant RL 22 (Int32.ofInt 100000) ∈ z_G := z_m2 (i := 184) rfl rfl
theorem z_g505 : Cond.constant RL 29 (Int32.ofInt 10000000) ∈ z_G := z_m2 (i := 211) rfl rfl
def z_okc (e : (Nat × Nat) × Int) : Prop := Cond.constant (z_cn e.1.1) e.1.2 (Int32.ofInt e.2) ∈ z_G
set_option maxRecDepth 100000 in
theorem z_cs_ok : ∀ e ∈ z_cs, z_okc e := List.forall_mem_cons.mpr ⟨z_g500,
  List.forall_mem_cons.mpr ⟨z_g501,
  List.forall_mem_cons.mpr ⟨z_g502,
  List.forall_mem_cons.mpr ⟨z_g503,
  List.forall_mem_cons.mpr ⟨z_g504,
  List.forall_mem_cons.mpr ⟨z_g505,
  fun _ h => absurd h List.not_mem_nil⟩⟩⟩⟩⟩⟩
theorem z_g506 : Cond.lays RX0 "DeficitCircles$Classes" "held" "I" ∈ z_G := z_m1 (i := 88) rfl rfl
theorem z_g507 : Cond.laysFinal RX0 "DeficitCircles$Classes" "group" "[I" ∈ z_G := z_m1 (i := 90) rfl rfl
theorem z_g508 : Cond.laysFinal RX0 "DeficitCircles$Classes" "quantum" "[I" ∈ z_G := z_m1 (i := 92) rfl rfl
theorem z_g509 : Cond.laysFinal RX0 "DeficitCircles$Classes" "deficit" "[I" ∈ z_G := z_m1 (i := 94) rfl rfl
theorem z_g510 : Cond.laysFinal RX0 "DeficitCircles$Classes" "bucket" "[I" ∈ z_G := z_m1 (i := 96) rfl rfl
theorem z_g511 : Cond.laysFinal RX0 "DeficitCircles$Classes" "fill" "[I" ∈ z_G := z_m1 (i := 98) rfl rfl
theorem z_g512 : Cond.laysFinal RX0 "DeficitCircles$Classes" "tokens" "[I" ∈ z_G := z_m1 (i := 100) rfl rfl
theorem z_g513 : Cond.laysFinal RX0 "DeficitCircles$Classes" "age" "[I" ∈ z_G := z_m1 (i := 102) rfl rfl
theorem z_g514 : Cond.laysFinal RX0 "DeficitCircles$Classes" "longestWait" "[I" ∈ z_G := z_m1 (i := 104) rfl rfl
theorem z_g515 : Cond.laysFinal RX0 "DeficitCircles$Classes" "units" "[I" ∈ z_G := z_m1 (i := 106) rfl rfl
theorem z_lays_0 : ∀ w ∈ u_ws RX0 TX0 10, w ∈ z_G := List.forall_mem_cons.mpr ⟨z_g506,
  List.forall_mem_cons.mpr ⟨z_g507,
  List.forall_mem_cons.mpr ⟨z_g508,
  List.forall_mem_cons.mpr ⟨z_g509,
  List.forall_mem_cons.mpr ⟨z_g510,
  List.forall_mem_cons.mpr ⟨z_g511,
  List.forall_mem_cons.mpr ⟨z_g512,
  List.forall_mem_cons.mpr ⟨z_g513,
  List.forall_mem_cons.mpr ⟨z_g514,
  List.forall_mem_cons.mpr ⟨z_g515,
  fun _ h => absurd h List.not_mem_nil⟩⟩⟩⟩⟩⟩⟩⟩⟩⟩
theorem z_g516 : Cond.lays RX1 "DeficitCircles$Groups" "held" "I" ∈ z_G := z_m1 (i := 44) rfl rfl
theorem z_g517 : Cond.laysFinal RX1 "DeficitCircles$Groups" "quantum" "[I" ∈ z_G := z_m1 (i := 46) rfl rfl
theorem z_g518 : Cond.laysFinal RX1 "DeficitCircles$Groups" "deficit" "[I" ∈ z_G := z_m1 (i := 48) rfl rfl
theorem z_g519 : Cond.laysFinal RX1 "DeficitCircles$Groups" "present" "[I" ∈ z_G := z_m1 (i := 50) rfl rfl
theorem z_lays_1 : ∀ w ∈ u_ws RX1 TX1 4, w ∈ z_G := List.forall_mem_cons.mpr ⟨z_g516,
  List.forall_mem_cons.mpr ⟨z_g517,
  List.forall_mem_cons.mpr ⟨z_g518,
  List.forall_mem_cons.mpr ⟨z_g519,
  fun _ h => absurd h List.not_mem_nil⟩⟩⟩⟩
theorem z_g520 : Cond.lays RX2 "DeficitCircles$History" "length" "I" ∈ z_G := z_m1 (i := 205) rfl rfl
theorem z_g521 : Cond.laysFinal RX2 "DeficitCircles$History" "states" "[LDeficitCircles$State;" ∈ z_G := z_m1 (i := 207) rfl rfl
theorem z_lays_2 : ∀ w ∈ u_ws RX2 TX2 2, w ∈ z_G := List.forall_mem_cons.mpr ⟨z_g520,
  List.forall_mem_cons.mpr ⟨z_g521,
  fun _ h => absurd h List.not_mem_nil⟩⟩
theorem z_g522 : Cond.lays RX3 "DeficitCircles$Jobs" "held" "I" ∈ z_G := z_m1 (i := 137) rfl rfl
theorem z_g523 : Cond.laysFinal RX3 "DeficitCircles$Jobs" "ofClass" "[I" ∈ z_G := z_m1 (i := 139) rfl rfl
theorem z_g524 : Cond.laysFinal RX3 "DeficitCircles$Jobs" "size" "[I" ∈ z_G := z_m1 (i := 141) rfl rfl
theorem z_g525 : Cond.laysFinal RX3 "DeficitCircles$Jobs" "came" "[I" ∈ z_G := z_m1 (i := 143) rfl rfl
theorem z_g526 : Cond.laysFinal RX3 "DeficitCircles$Jobs" "began" "[I" ∈ z_G := z_m1 (i := 145) rfl rfl
theorem z_g527 : Cond.lays RX3 "DeficitCircles$Jobs" "waits" "I" ∈ z_G := z_m1 (i := 147) rfl rfl
theorem z_g528 : Cond.laysFinal RX3 "DeficitCircles$Jobs" "line" "[I" ∈ z_G := z_m1 (i := 149) rfl rfl
theorem z_lays_3 : ∀ w ∈ u_ws RX3 TX3 7, w ∈ z_G := List.forall_mem_cons.mpr ⟨z_g522,
  List.forall_mem_cons.mpr ⟨z_g523,
  List.forall_mem_cons.mpr ⟨z_g524,
  List.forall_mem_cons.mpr ⟨z_g525,
  List.forall_mem_cons.mpr ⟨z_g526,
  List.forall_mem_cons.mpr ⟨z_g527,
  List.forall_mem_cons.mpr ⟨z_g528,
  fun _ h => absurd h List.not_mem_nil⟩⟩⟩⟩⟩⟩⟩
theorem z_g529 : Cond.laysFinal RX4 "DeficitCircles$State" "groups" "LDeficitCircles$Groups;" ∈ z_G := z_m1 (i := 174) rfl rfl
theorem z_g530 : Cond.laysFinal RX4 "DeficitCircles$State" "classes" "LDeficitCircles$Classes;" ∈ z_G := z_m1 (i := 176) rfl rfl
theorem z_g531 : Cond.laysFinal RX4 "DeficitCircles$State" "jobs" "LDeficitCircles$Jobs;" ∈ z_G := z_m1 (i := 178) rfl rfl
theorem z_g532 : Cond.lays RX4 "DeficitCircles$State" "time" "I" ∈ z_G := z_m1 (i := 180) rfl rfl
theorem z_g533 : Cond.lays RX4 "DeficitCircles$State" "presentGroup" "I" ∈ z_G := z_m1 (i := 182) rfl rfl
theorem z_g534 : Cond.lays RX4 "DeficitCircles$State" "inService" "I" ∈ z_G := z_m1 (i := 184) rfl rfl
theorem z_g535 : Cond.lays RX4 "DeficitCircles$State" "left" "I" ∈ z_G := z_m1 (i := 186) rfl rfl
theorem z_g536 : Cond.lays RX4 "DeficitCircles$State" "idleTicks" "I" ∈ z_G := z_m1 (i := 188) rfl rfl
theorem z_g537 : Cond.lays RX4 "DeficitCircles$State" "servedWhenOld" "I" ∈ z_G := z_m1 (i := 190) rfl rfl
theorem z_lays_4 : ∀ w ∈ u_ws RX4 TX4 9, w ∈ z_G := List.forall_mem_cons.mpr ⟨z_g529,
  List.forall_mem_cons.mpr ⟨z_g530,
  List.forall_mem_cons.mpr ⟨z_g531,
  List.forall_mem_cons.mpr ⟨z_g532,
  List.forall_mem_cons.mpr ⟨z_g533,
  List.forall_mem_cons.mpr ⟨z_g534,
  List.forall_mem_cons.mpr ⟨z_g535,
  List.forall_mem_cons.mpr ⟨z_g536,
  List.forall_mem_cons.mpr ⟨z_g537,
  fun _ h => absurd h List.not_mem_nil⟩⟩⟩⟩⟩⟩⟩⟩⟩
theorem z_g538 : Cond.lays RX5 "DeficitCircles$Text" "length" "I" ∈ z_G := z_m1 (i := 219) rfl rfl
theorem z_g539 : Cond.laysFinal RX5 "DeficitCircles$Text" "signs" "[C" ∈ z_G := z_m1 (i := 221) rfl rfl
theorem z_lays_5 : ∀ w ∈ u_ws RX5 TX5 2, w ∈ z_G := List.forall_mem_cons.mpr ⟨z_g538,
  List.forall_mem_cons.mpr ⟨z_g539,
  fun _ h => absurd h List.not_mem_nil⟩⟩
theorem z_g540 : Cond.laysFinal RX6 "DeficitCircles$Turns" "classNeed" "[I" ∈ z_G := z_m1 (i := 234) rfl rfl
theorem z_g541 : Cond.laysFinal RX6 "DeficitCircles$Turns" "groupNeed" "[I" ∈ z_G := z_m1 (i := 236) rfl rfl
theorem z_g542 : Cond.laysFinal RX6 "DeficitCircles$Turns" "groupBusy" "[Z" ∈ z_G := z_m1 (i := 238) rfl rfl
theorem z_lays_6 : ∀ w ∈ u_ws RX6 TX6 3, w ∈ z_G := List.forall_mem_cons.mpr ⟨z_g540,
  List.forall_mem_cons.mpr ⟨z_g541,
  List.forall_mem_cons.mpr ⟨z_g542,
  fun _ h => absurd h List.not_mem_nil⟩⟩⟩
theorem z_g543 : Cond.laysFinal RX7 "DeficitCircles" "state" "LDeficitCircles$State;" ∈ z_G := z_m2 (i := 9) rfl rfl
theorem z_g544 : Cond.laysFinal RX7 "DeficitCircles" "snapshot" "LDeficitCircles$State;" ∈ z_G := z_m2 (i := 11) rfl rfl
theorem z_g545 : Cond.lays RX7 "DeficitCircles" "hasSnapshot" "Z" ∈ z_G := z_m2 (i := 13) rfl rfl
theorem z_g546 : Cond.laysFinal RX7 "DeficitCircles" "trial" "LDeficitCircles$State;" ∈ z_G := z_m2 (i := 15) rfl rfl
theorem z_g547 : Cond.laysFinal RX7 "DeficitCircles" "history" "LDeficitCircles$History;" ∈ z_G := z_m2 (i := 17) rfl rfl
theorem z_g548 : Cond.laysFinal RX7 "DeficitCircles" "text" "LDeficitCircles$Text;" ∈ z_G := z_m2 (i := 19) rfl rfl
theorem z_g549 : Cond.laysFinal RX7 "DeficitCircles" "turns" "LDeficitCircles$Turns;" ∈ z_G := z_m2 (i := 21) rfl rfl
theorem z_lays_7 : ∀ w ∈ u_ws RX7 TX7 7, w ∈ z_G := List.forall_mem_cons.mpr ⟨z_g543,
  List.forall_mem_cons.mpr ⟨z_g544,
  List.forall_mem_cons.mpr ⟨z_g545,
  List.forall_mem_cons.mpr ⟨z_g546,
  List.forall_mem_cons.mpr ⟨z_g547,
  List.forall_mem_cons.mpr ⟨z_g548,
  List.forall_mem_cons.mpr ⟨z_g549,
  fun _ h => absurd h List.not_mem_nil⟩⟩⟩⟩⟩⟩⟩
