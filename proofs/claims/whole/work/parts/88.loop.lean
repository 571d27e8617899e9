/-! the law's loop; by gen_end.py -/
theorem i_sum (i j : Int) : Int32.ofInt i + Int32.ofInt j = Int32.ofInt (i + j) := (Int32.ofInt_add i j).symm
set_option maxHeartbeats 4000000 in
set_option maxRecDepth 100000 in
theorem law_loop {p : Program} {e : Env} {s : State} {m : MethodId} {below : List Frame} {meth : Method} {c : Code} {l : Launch} {b L : Nat} {xs : Nat → Int32} (hL : L ≤ 2560) (C0 : lw_At p s m meth c b L xs) {D : va_G} {cA : Nat → ClassId} {ad : Nat → Nat} (E : lw_K s D cA ad) : ∀ (n i : Nat), L < i + n → i ≤ L → ∀ {M : z_M}, w_R M → z_okM M → ∀ {x3 : Int32}, x3 = Int32.ofInt (i : Int) → ∀ {H : Heap} {locs : List Loc}, va_P D z_cl (z_ws ad cA M) H → va_S (fun q : Nat => s.heap.size ≤ q) s.heap H locs → ∀ {ls : Array Slot}, lv_has ls 4 [(3, .int x3), (2, .ref (ad (z_ix 0 30))), (1, .ref (ad (z_ix 0 21))), (0, .ref b)] → W p l e room_1 s m #[Value.ref b] below meth c H locs 162 17458 (lw_Z below #[Value.ref b] s) (F0 m 18 ls []) := by
  obtain ⟨hx, hb, hr, hml, hown, htsL, hX, hbl, hlocks, hgv⟩ := id C0
  have hbA : ¬ (fun q : Nat => s.heap.size ≤ q) b := Nat.not_le.mpr hbl
  intro n
  induction n with
  | zero => intro i h1 h2; omega
  | succ n ih =>
    intro i h1 h2 M hR hM x3 ex3 H locs hP hS ls hl
    refine lv_iload_n hx hb (by decide +kernel : decode code 18 = .ok (.iload_n 3, 1)) rfl (lv_at hl 0 rfl) ?_
    refine lv_aload_n hx hb (by decide +kernel : decode code 19 = .ok (.aload_n 0, 1)) rfl (lv_at hl 3 rfl) ?_
    refine va_slen hx hb hX hbl hbA hS (by decide +kernel : decode code 20 = .ok (.arraylength, 1)) ?_
    refine lv_iconst (v := 5) hx hb (by decide +kernel : decode code 21 = .ok (.iconst 5, 1)) (by decide) ?_
    refine lv_isub hx hb (by decide +kernel : decode code 22 = .ok (.isub, 1)) ?_
    have eL : Int32.ofNat L - 5 = Int32.ofInt ((L : Int) - 5) := by
      rw [Int32.ofInt_sub]
      rfl
    have wL : z_w ((L : Int) - 5) = (L : Int) - 5 := z_w_id (by omega) (by omega)
    have wi : z_w (i : Int) = (i : Int) := z_w_id (by omega) (by omega)
    refine lv_icmp_gt (tgt := 700) hx hb (by decide +kernel : decode code 23 = .ok (.if_icmp .gt 677, 3)) (by decide) (fun cc => ?_) (fun cc => ?_)
    · refine va_forget hS.2.2 ?_
      refine lv_iconst (v := 1) hx hb (by decide +kernel : decode code 700 = .ok (.iconst 1, 1)) (by decide) ?_
      refine W.widen (k := 600000) (n := 7302250) (Nat.le_of_ble_eq_true rfl) (Nat.le_of_ble_eq_true rfl) ?_
      exact lw_ret hx hb hr hlocks (by decide +kernel : decode code 701 = .ok (.ireturn, 1))
    · have hi : i + 5 ≤ L := by
        rw [eL, ex3, z_ilt wL wi] at cc
        omega
      have e1 : ∀ j : Nat, j < 5 → vp_in (x3 + Int32.ofInt (j : Int)) L := fun j hj => by
        rw [ex3, i_sum]
        exact z_in (z_w_id (by omega) (by omega)) (by omega) (by omega)
      have v0 : vp_in x3 L := by
        rw [ex3]
        exact z_in wi (by omega) (by omega)
      have v1 : vp_in (x3 + 1) L := e1 1 (by decide)
      have v2 : vp_in (x3 + 2) L := e1 2 (by decide)
      have v3 : vp_in (x3 + 3) L := e1 3 (by decide)
      have v4 : vp_in (x3 + 4) L := e1 4 (by decide)
      have step : ∀ (M2 : z_M) (H1 : Heap) (locs1 : List Loc), w_R M2 → z_okM M2 → va_P D z_cl (z_ws ad cA M2) H1 → va_S (fun q : Nat => s.heap.size ≤ q) s.heap H1 locs1 → W p l e room_1 s m #[Value.ref b] below meth c H1 locs1 162 17458 (lw_Z below #[Value.ref b] s) (F0 m 694 ls []) := by
        intro M2 H1 locs1 hR2 hM2 hP2 hS2
        refine lv_iinc (v := x3 + 5) (lv' := [(3, .int (x3 + 5)), (2, .ref (ad (z_ix 0 30))), (1, .ref (ad (z_ix 0 21))), (0, .ref b)]) hx hb (by decide +kernel : decode code 694 = .ok (.iinc 3 5, 3)) hl (k := 0) rfl rfl (by decide) rfl (fun ls hl => ?_)
        refine lv_goto (tgt := 18) hx hb (by decide +kernel : decode code 697 = .ok (.goto (-679), 3)) (by decide) ?_
        refine ih (i + 5) (by omega) (by omega) hR2 hM2 ?_ hP2 hS2 hl
        rw [ex3, show (5 : Int32) = Int32.ofInt 5 by decide, i_sum]
        rfl
      refine lv_aload_n hx hb (by decide +kernel : decode code 26 = .ok (.aload_n 0, 1)) rfl (lv_at hl 3 rfl) ?_
      refine lv_iload_n hx hb (by decide +kernel : decode code 27 = .ok (.iload_n 3, 1)) rfl (lv_at hl 0 rfl) ?_
      refine va_sld hx hb hX hbl hbA hS v0 (by decide +kernel : decode code 28 = .ok (.iaload, 1)) ?_
      refine lv_bipush (v := 31) hx hb (by decide +kernel : decode code 29 = .ok (.bipush 31, 2)) (by decide) ?_
      refine lv_iand hx hb (by decide +kernel : decode code 31 = .ok (.iand, 1)) ?_
      refine lv_topi (fun t et => ?_)
      by_cases hT : t.toInt < 0 ∨ 21 < t.toInt
      · exact lv_tableOut (tgt := 694) hx hb (by decide +kernel : decode code 32 = .ok (.tableswitch 662 0 21 #[104, 127, 180, 213, 246, 279, 312, 335, 348, 373, 386, 399, 412, 425, 438, 471, 504, 537, 560, 583, 606, 639], 104)) hT (by decide) (step M H locs hR hM hP hS)
      · rcases (show t.toInt = 0 ∨ t.toInt = 1 ∨ t.toInt = 2 ∨ t.toInt = 3 ∨ t.toInt = 4 ∨ t.toInt = 5 ∨ t.toInt = 6 ∨ t.toInt = 7 ∨ t.toInt = 8 ∨ t.toInt = 9 ∨ t.toInt = 10 ∨ t.toInt = 11 ∨ t.toInt = 12 ∨ t.toInt = 13 ∨ t.toInt = 14 ∨ t.toInt = 15 ∨ t.toInt = 16 ∨ t.toInt = 17 ∨ t.toInt = 18 ∨ t.toInt = 19 ∨ t.toInt = 20 ∨ t.toInt = 21 by omega) with hk | hk | hk | hk | hk | hk | hk | hk | hk | hk | hk | hk | hk | hk | hk | hk | hk | hk | hk | hk | hk | hk
        · exact lv_tableIn (off := 104) (tgt := 136) hx hb (by decide +kernel : decode code 32 = .ok (.tableswitch 662 0 21 #[104, 127, 180, 213, 246, 279, 312, 335, 348, 373, 386, 399, 412, 425, 438, 471, 504, 537, 560, 583, 606, 639], 104)) (by omega) (by omega) (by rw [hk]; rfl) (by decide) (lc_0 C0 E hR hM v1 v2 v3 v4 hP hS hl step)
        · exact lv_tableIn (off := 127) (tgt := 159) hx hb (by decide +kernel : decode code 32 = .ok (.tableswitch 662 0 21 #[104, 127, 180, 213, 246, 279, 312, 335, 348, 373, 386, 399, 412, 425, 438, 471, 504, 537, 560, 583, 606, 639], 104)) (by omega) (by omega) (by rw [hk]; rfl) (by decide) (lc_1 C0 E hR hM v1 v2 v3 v4 hP hS hl step)
        · exact lv_tableIn (off := 180) (tgt := 212) hx hb (by decide +kernel : decode code 32 = .ok (.tableswitch 662 0 21 #[104, 127, 180, 213, 246, 279, 312, 335, 348, 373, 386, 399, 412, 425, 438, 471, 504, 537, 560, 583, 606, 639], 104)) (by omega) (by omega) (by rw [hk]; rfl) (by decide) (lc_2 C0 E hR hM v1 v2 v3 v4 hP hS hl step)
        · exact lv_tableIn (off := 213) (tgt := 245) hx hb (by decide +kernel : decode code 32 = .ok (.tableswitch 662 0 21 #[104, 127, 180, 213, 246, 279, 312, 335, 348, 373, 386, 399, 412, 425, 438, 471, 504, 537, 560, 583, 606, 639], 104)) (by omega) (by omega) (by rw [hk]; rfl) (by decide) (lc_3 C0 E hR hM v1 v2 v3 v4 hP hS hl step)
        · exact lv_tableIn (off := 246) (tgt := 278) hx hb (by decide +kernel : decode code 32 = .ok (.tableswitch 662 0 21 #[104, 127, 180, 213, 246, 279, 312, 335, 348, 373, 386, 399, 412, 425, 438, 471, 504, 537, 560, 583, 606, 639], 104)) (by omega) (by omega) (by rw [hk]; rfl) (by decide) (lc_4 C0 E hR hM v1 v2 v3 v4 hP hS hl step)
        · exact lv_tableIn (off := 279) (tgt := 311) hx hb (by decide +kernel : decode code 32 = .ok (.tableswitch 662 0 21 #[104, 127, 180, 213, 246, 279, 312, 335, 348, 373, 386, 399, 412, 425, 438, 471, 504, 537, 560, 583, 606, 639], 104)) (by omega) (by omega) (by rw [hk]; rfl) (by decide) (lc_5 C0 E hR hM v1 v2 v3 v4 hP hS hl step)
        · exact lv_tableIn (off := 312) (tgt := 344) hx hb (by decide +kernel : decode code 32 = .ok (.tableswitch 662 0 21 #[104, 127, 180, 213, 246, 279, 312, 335, 348, 373, 386, 399, 412, 425, 438, 471, 504, 537, 560, 583, 606, 639], 104)) (by omega) (by omega) (by rw [hk]; rfl) (by decide) (lc_6 C0 E hR hM v1 v2 v3 v4 hP hS hl step)
        · exact lv_tableIn (off := 335) (tgt := 367) hx hb (by decide +kernel : decode code 32 = .ok (.tableswitch 662 0 21 #[104, 127, 180, 213, 246, 279, 312, 335, 348, 373, 386, 399, 412, 425, 438, 471, 504, 537, 560, 583, 606, 639], 104)) (by omega) (by omega) (by rw [hk]; rfl) (by decide) (lc_7 C0 E hR hM v1 v2 v3 v4 hP hS hl step)
        · exact lv_tableIn (off := 348) (tgt := 380) hx hb (by decide +kernel : decode code 32 = .ok (.tableswitch 662 0 21 #[104, 127, 180, 213, 246, 279, 312, 335, 348, 373, 386, 399, 412, 425, 438, 471, 504, 537, 560, 583, 606, 639], 104)) (by omega) (by omega) (by rw [hk]; rfl) (by decide) (lc_8 C0 E hR hM v1 v2 v3 v4 hP hS hl step)
        · exact lv_tableIn (off := 373) (tgt := 405) hx hb (by decide +kernel : decode code 32 = .ok (.tableswitch 662 0 21 #[104, 127, 180, 213, 246, 279, 312, 335, 348, 373, 386, 399, 412, 425, 438, 471, 504, 537, 560, 583, 606, 639], 104)) (by omega) (by omega) (by rw [hk]; rfl) (by decide) (lc_9 C0 E hR hM v1 v2 v3 v4 hP hS hl step)
        · exact lv_tableIn (off := 386) (tgt := 418) hx hb (by decide +kernel : decode code 32 = .ok (.tableswitch 662 0 21 #[104, 127, 180, 213, 246, 279, 312, 335, 348, 373, 386, 399, 412, 425, 438, 471, 504, 537, 560, 583, 606, 639], 104)) (by omega) (by omega) (by rw [hk]; rfl) (by decide) (lc_10 C0 E hR hM v1 v2 v3 v4 hP hS hl step)
        · exact lv_tableIn (off := 399) (tgt := 431) hx hb (by decide +kernel : decode code 32 = .ok (.tableswitch 662 0 21 #[104, 127, 180, 213, 246, 279, 312, 335, 348, 373, 386, 399, 412, 425, 438, 471, 504, 537, 560, 583, 606, 639], 104)) (by omega) (by omega) (by rw [hk]; rfl) (by decide) (lc_11 C0 E hR hM v1 v2 v3 v4 hP hS hl step)
        · exact lv_tableIn (off := 412) (tgt := 444) hx hb (by decide +kernel : decode code 32 = .ok (.tableswitch 662 0 21 #[104, 127, 180, 213, 246, 279, 312, 335, 348, 373, 386, 399, 412, 425, 438, 471, 504, 537, 560, 583, 606, 639], 104)) (by omega) (by omega) (by rw [hk]; rfl) (by decide) (lc_12 C0 E hR hM v1 v2 v3 v4 hP hS hl step)
        · exact lv_tableIn (off := 425) (tgt := 457) hx hb (by decide +kernel : decode code 32 = .ok (.tableswitch 662 0 21 #[104, 127, 180, 213, 246, 279, 312, 335, 348, 373, 386, 399, 412, 425, 438, 471, 504, 537, 560, 583, 606, 639], 104)) (by omega) (by omega) (by rw [hk]; rfl) (by decide) (lc_13 C0 E hR hM v1 v2 v3 v4 hP hS hl step)
        · exact lv_tableIn (off := 438) (tgt := 470) hx hb (by decide +kernel : decode code 32 = .ok (.tableswitch 662 0 21 #[104, 127, 180, 213, 246, 279, 312, 335, 348, 373, 386, 399, 412, 425, 438, 471, 504, 537, 560, 583, 606, 639], 104)) (by omega) (by omega) (by rw [hk]; rfl) (by decide) (lc_14 C0 E hR hM v1 v2 v3 v4 hP hS hl step)
        · exact lv_tableIn (off := 471) (tgt := 503) hx hb (by decide +kernel : decode code 32 = .ok (.tableswitch 662 0 21 #[104, 127, 180, 213, 246, 279, 312, 335, 348, 373, 386, 399, 412, 425, 438, 471, 504, 537, 560, 583, 606, 639], 104)) (by omega) (by omega) (by rw [hk]; rfl) (by decide) (lc_15 C0 E hR hM v1 v2 v3 v4 hP hS hl step)
        · exact lv_tableIn (off := 504) (tgt := 536) hx hb (by decide +kernel : decode code 32 = .ok (.tableswitch 662 0 21 #[104, 127, 180, 213, 246, 279, 312, 335, 348, 373, 386, 399, 412, 425, 438, 471, 504, 537, 560, 583, 606, 639], 104)) (by omega) (by omega) (by rw [hk]; rfl) (by decide) (lc_16 C0 E hR hM v1 v2 v3 v4 hP hS hl step)
        · exact lv_tableIn (off := 537) (tgt := 569) hx hb (by decide +kernel : decode code 32 = .ok (.tableswitch 662 0 21 #[104, 127, 180, 213, 246, 279, 312, 335, 348, 373, 386, 399, 412, 425, 438, 471, 504, 537, 560, 583, 606, 639], 104)) (by omega) (by omega) (by rw [hk]; rfl) (by decide) (lc_17 C0 E hR hM v1 v2 v3 v4 hP hS hl step)
        · exact lv_tableIn (off := 560) (tgt := 592) hx hb (by decide +kernel : decode code 32 = .ok (.tableswitch 662 0 21 #[104, 127, 180, 213, 246, 279, 312, 335, 348, 373, 386, 399, 412, 425, 438, 471, 504, 537, 560, 583, 606, 639], 104)) (by omega) (by omega) (by rw [hk]; rfl) (by decide) (lc_18 C0 E hR hM v1 v2 v3 v4 hP hS hl step)
        · exact lv_tableIn (off := 583) (tgt := 615) hx hb (by decide +kernel : decode code 32 = .ok (.tableswitch 662 0 21 #[104, 127, 180, 213, 246, 279, 312, 335, 348, 373, 386, 399, 412, 425, 438, 471, 504, 537, 560, 583, 606, 639], 104)) (by omega) (by omega) (by rw [hk]; rfl) (by decide) (lc_19 C0 E hR hM v1 v2 v3 v4 hP hS hl step)
        · exact lv_tableIn (off := 606) (tgt := 638) hx hb (by decide +kernel : decode code 32 = .ok (.tableswitch 662 0 21 #[104, 127, 180, 213, 246, 279, 312, 335, 348, 373, 386, 399, 412, 425, 438, 471, 504, 537, 560, 583, 606, 639], 104)) (by omega) (by omega) (by rw [hk]; rfl) (by decide) (lc_20 C0 E hR hM v1 v2 v3 v4 hP hS hl step)
        · exact lv_tableIn (off := 639) (tgt := 671) hx hb (by decide +kernel : decode code 32 = .ok (.tableswitch 662 0 21 #[104, 127, 180, 213, 246, 279, 312, 335, 348, 373, 386, 399, 412, 425, 438, 471, 504, 537, 560, 583, 606, 639], 104)) (by omega) (by omega) (by rw [hk]; rfl) (by decide) (lc_21 C0 E hR hM v1 v2 v3 v4 hP hS hl step)
