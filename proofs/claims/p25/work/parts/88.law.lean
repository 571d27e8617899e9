/-! the walk of the law; by gen_law.py -/
def lw_K (s : State) (D : va_G) (cA : Nat → ClassId) (ad : Nat → Nat) : Prop := va_K D z_cl (z_tys cA) s ∧ z_Nok s ∧ z_inj 156 ad ∧ ∀ q, z_A 156 ad q → s.heap.size ≤ q
theorem lw_F {p : Program} {s : State} {m : MethodId} {meth : Method} {c : Code} {b L : Nat} {xs : Nat → Int32} (C0 : lw_At p s m meth c b L xs) {D : va_G} {cA : Nat → ClassId} {ad : Nat → Nat} (E : lw_K s D cA ad) : lw_fr p s m #[Value.ref b] c code 6 D cA ad (fun q : Nat => s.heap.size ≤ q) :=
  ⟨C0.1, C0.2.1, C0.2.2.2.1, C0.2.2.2.2.1, fun w hw => C0.2.2.2.2.2.1 w (List.mem_filter.mp hw).1, E.1, E.2.1, E.2.2.1, E.2.2.2⟩
theorem i_sum (i j : Int) : Int32.ofInt i + Int32.ofInt j = Int32.ofInt (i + j) := (Int32.ofInt_add i j).symm
theorem i_mul (i j : Int) : Int32.ofInt i * Int32.ofInt j = Int32.ofInt (i * j) := (Int32.ofInt_mul i j).symm
theorem i_pos0 {x : Int} (h0 : 0 ≤ x) (h1 : x ≤ 2147483647) : 0 ≤ (Int32.ofInt x).toInt := by
  rw [Int32.toInt_ofInt_of_le (by omega) (by omega)]; exact h0
theorem i_oks2 {x y : Int} (hx : z_w x = x) (hy : z_w y = y) : z_okS 156 [.inl x, .inl y] := z_okS_cons.mpr ⟨z_okI hx, z_okS_cons.mpr ⟨z_okI hy, fun _ h => by cases h⟩⟩
section LC
variable {p : Program} {l : Launch} {e : Env} {R : Room} {s : State} {m : MethodId} {args : Array Value} {below : List Frame} {meth : Method} {c : Code} {H : Heap} {locs : List Loc} {cells slots : Nat} {Q : State → Prop}
variable {D : va_G} {cA : Nat → ClassId} {ad : Nat → Nat} {M : z_M} {ls : Array Slot} {pc : Nat} {A0 : Nat → Prop} {cc : ByteArray} {nL : Nat}
theorem z_topi {x : Int32} {rest : List Value} (kk : ∀ v : Int, z_w v = v → Int32.ofInt v = x → W p l e R s m args below meth c H locs cells slots Q (F0 m pc ls (.int (Int32.ofInt v) :: rest))) : W p l e R s m args below meth c H locs cells slots Q (F0 m pc ls (.int x :: rest)) := by
  have := kk x.toInt (z_wI x) (Int32.ofInt_toInt x)
  rw [Int32.ofInt_toInt] at this
  exact this
theorem z_lvir {H0 : Heap} {k ix o ci : Nat} {sl : List z_S} {vs : List Int} {mj : z_I} {r : Int} {M1 : z_M} {rest : List Value} {lv : List (Nat × Value)} (hvs : ∀ v ∈ vs, z_w v = v) (F : lw_fr p s m args c cc nL D cA ad A0) (hM : z_okM M)
    (hRc : cells ≤ R.cells ∧ slots ≤ R.slots) (hmj : z_mts[k]? = some mj) (hsta : z_sta mj = false) (hna : vs.length = z_na mj) (hml9 : z_na mj + 1 ≤ z_ml' mj) (hro : z_dp mj + 1 ≤ R.frames ∧ 8 + (z_ml' mj + 11) + 28 * z_dp mj ≤ R.locals) (hlw : Cond.methodLink R_law ix (z_y mj) ∈ z_G) (hkd : z_kds[o]? = some (.inl (ci, sl))) (hci : ci = z_own mj) (ho : z_lv 0 o = true) (ho2 : z_ix 0 o < 156)
    (hev : z_ev k (.inr (some (0, o)) :: vs.map .inl) M = some (some (.inl r), M1))
    (hl : lv_has ls nL lv) (hP : va_P D z_cl (z_ws 156 ad cA M) H) (hS : va_S A0 H0 H locs) (hdg : decode cc pc = .ok (.invokevirtual ix, 3)) (hr8 : (rest.map fun v => v.category).sum ≤ 8)
    (kk : ∀ (H1 : Heap) (locs1 : List Loc), va_P D z_cl (z_ws 156 ad cA M1) H1 → z_okM M1 → va_S A0 H0 H1 locs1 → W p l e R s m args below meth c H1 locs1 cells slots Q (F0 m (pc + 3) ls (.int (Int32.ofInt r) :: rest))) :
    W p l e R s m args below meth c H locs cells slots Q (F0 m pc ls ((vs.map fun v => Value.int (Int32.ofInt v)).reverse ++ .ref (ad (z_ix 0 o)) :: rest)) := by
  have e1 : (vs.map Int32.ofInt).map Value.int = vs.map fun v => Value.int (Int32.ofInt v) := by rw [List.map_map]; rfl
  have e2 : (vs.map Int32.ofInt).map (fun v => (.inl v.toInt : z_V)) = vs.map .inl := by
    rw [List.map_map]
    exact List.map_congr_left fun v hv => congrArg Sum.inl (hvs v hv)
  rw [← e1]
  exact z_lvirt (vs := vs.map Int32.ofInt) F hM hRc hmj hsta (by rw [List.length_map]; exact hna) hml9 hro hlw hkd hci ho ho2 (by rw [e2]; exact hev) hl hP hS hdg hr8 kk
end LC
set_option maxHeartbeats 4000000 in
set_option maxRecDepth 100000 in
theorem law_groups {p : Program} {e : Env} {s : State} {m : MethodId} {below : List Frame} {meth : Method} {c : Code} {l : Launch} {b L : Nat} {xs : Nat → Int32} (hL : L ≤ 260) (C0 : lw_At p s m meth c b L xs) {D : va_G} {cA : Nat → ClassId} {ad : Nat → Nat} (E : lw_K s D cA ad) {G : Int} (hG : 1 ≤ G ∧ G ≤ 3)
    (kk : ∀ (M : z_M) (w : List Nat) (H : Heap) (locs : List Loc) (ls : Array Slot), w_M M w → (M 0 1 0 = G ∧ M 0 2 0 = 0 ∧ M 0 0 3 = 0 ∧ M 0 3 0 = 0) → z_okM M → va_P D z_cl (z_ws 156 ad cA M) H → va_S (fun q : Nat => s.heap.size ≤ q) s.heap H locs → lv_has ls 6 [(2, .int (Int32.ofInt G)), (1, .ref (ad (z_ix 0 21))), (0, .ref b)] → W p l e room_1 s m #[Value.ref b] below meth c H locs (156) (6889) (lw_Z below #[Value.ref b] s) (F0 m 57 ls [])) :
    ∀ (n : Nat) (i : Int), i + n = G → 0 ≤ i → ∀ {M : z_M} {w : List Nat}, w_M M w → (M 0 1 0 = i ∧ M 0 2 0 = 0 ∧ M 0 0 3 = 0 ∧ M 0 3 0 = 0) → z_okM M → ∀ {H : Heap} {locs : List Loc}, va_P D z_cl (z_ws 156 ad cA M) H → va_S (fun q : Nat => s.heap.size ≤ q) s.heap H locs → ∀ {ls : Array Slot}, lv_has ls 6 [(3, .int (Int32.ofInt i)), (2, .int (Int32.ofInt G)), (1, .ref (ad (z_ix 0 21))), (0, .ref b)] → W p l e room_1 s m #[Value.ref b] below meth c H locs (156) (6889) (lw_Z below #[Value.ref b] s) (F0 m 22 ls []) := by
  obtain ⟨hx, hb, hr, hml, hown, htsL, hX, hbl, hlocks, hgv⟩ := id C0
  have hbA : ¬ (fun q : Nat => s.heap.size ≤ q) b := Nat.not_le.mpr hbl
  have F := lw_F C0 E
  intro n
  induction n with
  | zero =>
    intro i h1 h2 M w hW hm hM H locs hP hS ls hl
    refine lv_iload_n hx hb (by decide +kernel : decode code 22 = .ok (.iload_n 3, 1)) rfl (lv_at hl 0 rfl) ?_
    refine lv_iload_n hx hb (by decide +kernel : decode code 23 = .ok (.iload_n 2, 1)) rfl (lv_at hl 1 rfl) ?_
    have wi : z_w i = i := z_w_id (by omega) (by omega)
    have wG : z_w G = G := z_w_id (by omega) (by omega)
    refine lv_icmp_ge (tgt := 57) hx hb (by decide +kernel : decode code 24 = .ok (.if_icmp .ge 33, 3)) (by decide) (fun _ => ?_) (fun cc => absurd ((z_ile wG wi).mpr (by omega)) cc)
    exact kk M w H locs ls hW (by rw [show G = i by omega]; exact hm) hM hP hS (lv_sub hl [1, 2, 3] rfl)
  | succ n ih =>
    intro i h1 h2 M w hW hm hM H locs hP hS ls hl
    have wi : z_w i = i := z_w_id (by omega) (by omega)
    have wG : z_w G = G := z_w_id (by omega) (by omega)
    refine lv_iload_n hx hb (by decide +kernel : decode code 22 = .ok (.iload_n 3, 1)) rfl (lv_at hl 0 rfl) ?_
    refine lv_iload_n hx hb (by decide +kernel : decode code 23 = .ok (.iload_n 2, 1)) rfl (lv_at hl 1 rfl) ?_
    refine lv_icmp_ge (tgt := 57) hx hb (by decide +kernel : decode code 24 = .ok (.if_icmp .ge 33, 3)) (by decide) (fun cc => absurd ((z_ile wG wi).mp cc) (by omega)) (fun _ => ?_)
    refine lv_aload_n hx hb (by decide +kernel : decode code 27 = .ok (.aload_n 1, 1)) rfl (lv_at hl 2 rfl) ?_
    refine lv_iconst (v := Int32.ofInt 1) hx hb (by decide +kernel : decode code 28 = .ok (.iconst 1, 1)) (by decide) ?_
    refine lv_aload_n hx hb (by decide +kernel : decode code 29 = .ok (.aload_n 0, 1)) rfl (lv_at hl 3 rfl) ?_
    refine lv_iconst (v := Int32.ofInt 1) hx hb (by decide +kernel : decode code 30 = .ok (.iconst 1, 1)) (by decide) ?_
    refine lv_iload_n hx hb (by decide +kernel : decode code 31 = .ok (.iload_n 3, 1)) rfl (lv_at hl 0 rfl) ?_
    refine lv_iadd hx hb (by decide +kernel : decode code 32 = .ok (.iadd, 1)) ?_
    rw [i_sum]
    refine z_lcell (k := Int32.ofInt (1 + i)) (rest := [.int (Int32.ofInt 1), .ref (ad (z_ix 0 21))]) hL (i_pos0 (by omega) (by omega)) F hX hbl hbA ⟨(Nat.le_of_ble_eq_true rfl), (Nat.le_of_ble_eq_true rfl)⟩ ⟨(Nat.le_of_ble_eq_true rfl), (Nat.le_of_ble_eq_true rfl)⟩ (z_m2 (i := 83) rfl rfl) hl hP hS (by decide +kernel : decode code 33 = .ok (.invokestatic 90, 3)) (by simp [Value.category]) (fun v H locs hv hP hS => ?_)
    refine lv_bipush (v := Int32.ofInt 120) hx hb (by decide +kernel : decode code 36 = .ok (.bipush 120, 2)) (by decide) ?_
    obtain ⟨yl, yh⟩ := z_low_in v (n := 120) (by omega)
    refine z_lstat (k := 90) (as := [.inl v, .inl 120]) (rest := [.int (Int32.ofInt 1), .ref (ad (z_ix 0 21))]) F hM ⟨(Nat.le_of_ble_eq_true rfl), (Nat.le_of_ble_eq_true rfl)⟩ z_mt90 rfl rfl rfl (Nat.le_of_ble_eq_true rfl) ⟨(Nat.le_of_ble_eq_true rfl), (Nat.le_of_ble_eq_true rfl)⟩ (z_m2 (i := 87) rfl rfl) (i_oks2 (hv) (z_w_id (by omega) (by omega))) (k_low v (by omega)) hl hP hS (by decide +kernel : decode code 38 = .ok (.invokestatic 49, 3)) (by simp [Value.category]) (fun H locs hP _ hS => ?_)
    generalize z_low v 120 = y at yl yh ⊢
    refine lv_iadd hx hb (by decide +kernel : decode code 41 = .ok (.iadd, 1)) ?_
    rw [i_sum]
    obtain ⟨M1, e1, hW1, -, f1⟩ := k_addGroup hW (q := 1 + y) (by omega) (by omega)
    refine z_lvir (k := 63) (o := 21) (vs := [1 + y]) (rest := []) (fun v hv => by rw [List.mem_singleton.mp hv]; exact z_w_id (by omega) (by omega)) F hM ⟨(Nat.le_of_ble_eq_true rfl), (Nat.le_of_ble_eq_true rfl)⟩ z_mt63 rfl rfl (Nat.le_of_ble_eq_true rfl) ⟨(Nat.le_of_ble_eq_true rfl), (Nat.le_of_ble_eq_true rfl)⟩ (z_m2 (i := 24) rfl rfl) rfl rfl rfl (by decide) e1 hl hP hS (by decide +kernel : decode code 42 = .ok (.invokevirtual 66, 3)) (by simp [Value.category]) (fun H locs hP hM hS => ?_)
    refine lv_iload_n hx hb (by decide +kernel : decode code 45 = .ok (.iload_n 3, 1)) rfl (lv_at hl 0 rfl) ?_
    refine lv_icmp_eq (tgt := 51) hx hb (by decide +kernel : decode code 46 = .ok (.if_icmp .eq 5, 3)) (by decide) (fun _ => ?_) (fun cc => absurd (congrArg Int32.ofInt hm.1) cc)
    refine lv_iinc (v := Int32.ofInt (i + 1)) (lv' := [(3, .int (Int32.ofInt (i + 1))), (2, .int (Int32.ofInt G)), (1, .ref (ad (z_ix 0 21))), (0, .ref b)]) hx hb (by decide +kernel : decode code 51 = .ok (.iinc 3 1, 3)) hl (k := 0) rfl (i_sum i 1) (by decide) rfl (fun ls hl => ?_)
    refine lv_goto (tgt := 22) hx hb (by decide +kernel : decode code 54 = .ok (.goto (-32), 3)) (by decide) ?_
    refine ih (i + 1) (by omega) (by omega) hW1 ⟨?_, ?_, ?_, ?_⟩ hM hP hS hl
    · rw [f1 1 0 (by decide), show a_addGroup (M 0) (1 + y) 1 0 = M 0 1 0 + 1 from a_u_same _ _ _ _, hm.1]
    · rw [f1 2 0 (by decide)]; exact hm.2.1
    · rw [f1 0 3 (by decide)]; exact hm.2.2.1
    · rw [f1 3 0 (by decide)]; exact hm.2.2.2
set_option maxHeartbeats 4000000 in
set_option maxRecDepth 100000 in
theorem law_classes {p : Program} {e : Env} {s : State} {m : MethodId} {below : List Frame} {meth : Method} {c : Code} {l : Launch} {b L : Nat} {xs : Nat → Int32} (hL : L ≤ 260) (C0 : lw_At p s m meth c b L xs) {D : va_G} {cA : Nat → ClassId} {ad : Nat → Nat} (E : lw_K s D cA ad) {G C : Int} (hG : 1 ≤ G ∧ G ≤ 3) (hC : 1 ≤ C ∧ C ≤ 8)
    (kk : ∀ (M : z_M) (w : List Nat) (H : Heap) (locs : List Loc) (ls : Array Slot), w_M M w → (M 0 1 0 = G ∧ M 0 2 0 = C ∧ M 0 0 3 = 0 ∧ M 0 3 0 = 0) → z_okM M → va_P D z_cl (z_ws 156 ad cA M) H → va_S (fun q : Nat => s.heap.size ≤ q) s.heap H locs → lv_has ls 6 [(1, .ref (ad (z_ix 0 21))), (0, .ref b)] → W p l e room_1 s m #[Value.ref b] below meth c H locs (156) (6889) (lw_Z below #[Value.ref b] s) (F0 m 150 ls [])) :
    ∀ (n : Nat) (i : Int), i + n = C → 0 ≤ i → ∀ {M : z_M} {w : List Nat}, w_M M w → (M 0 1 0 = G ∧ M 0 2 0 = i ∧ M 0 0 3 = 0 ∧ M 0 3 0 = 0) → z_okM M → ∀ {H : Heap} {locs : List Loc}, va_P D z_cl (z_ws 156 ad cA M) H → va_S (fun q : Nat => s.heap.size ≤ q) s.heap H locs → ∀ {ls : Array Slot}, lv_has ls 6 [(4, .int (Int32.ofInt i)), (3, .int (Int32.ofInt C)), (2, .int (Int32.ofInt G)), (1, .ref (ad (z_ix 0 21))), (0, .ref b)] → W p l e room_1 s m #[Value.ref b] below meth c H locs (156) (6889) (lw_Z below #[Value.ref b] s) (F0 m 76 ls []) := by
  obtain ⟨hx, hb, hr, hml, hown, htsL, hX, hbl, hlocks, hgv⟩ := id C0
  have hbA : ¬ (fun q : Nat => s.heap.size ≤ q) b := Nat.not_le.mpr hbl
  have F := lw_F C0 E
  intro n
  induction n with
  | zero =>
    intro i h1 h2 M w hW hm hM H locs hP hS ls hl
    refine lv_iload hx hb (by decide +kernel : decode code 76 = .ok (.iload 4, 2)) (lv_at hl 0 rfl) ?_
    refine lv_iload_n hx hb (by decide +kernel : decode code 78 = .ok (.iload_n 3, 1)) rfl (lv_at hl 1 rfl) ?_
    have wi : z_w i = i := z_w_id (by omega) (by omega)
    have wG : z_w C = C := z_w_id (by omega) (by omega)
    refine lv_icmp_ge (tgt := 150) hx hb (by decide +kernel : decode code 79 = .ok (.if_icmp .ge 71, 3)) (by decide) (fun _ => ?_) (fun cc => absurd ((z_ile wG wi).mpr (by omega)) cc)
    exact kk M w H locs ls hW (by rw [show C = i by omega]; exact hm) hM hP hS (lv_sub hl [3, 4] rfl)
  | succ n ih =>
    intro i h1 h2 M w hW hm hM H locs hP hS ls hl
    have wi : z_w i = i := z_w_id (by omega) (by omega)
    have wG : z_w C = C := z_w_id (by omega) (by omega)
    refine lv_iload hx hb (by decide +kernel : decode code 76 = .ok (.iload 4, 2)) (lv_at hl 0 rfl) ?_
    refine lv_iload_n hx hb (by decide +kernel : decode code 78 = .ok (.iload_n 3, 1)) rfl (lv_at hl 1 rfl) ?_
    refine lv_icmp_ge (tgt := 150) hx hb (by decide +kernel : decode code 79 = .ok (.if_icmp .ge 71, 3)) (by decide) (fun cc => absurd ((z_ile wG wi).mp cc) (by omega)) (fun _ => ?_)
    refine lv_aload_n hx hb (by decide +kernel : decode code 82 = .ok (.aload_n 0, 1)) rfl (lv_at hl 4 rfl) ?_
    refine lv_iconst (v := Int32.ofInt 5) hx hb (by decide +kernel : decode code 83 = .ok (.iconst 5, 1)) (by decide) ?_
    refine lv_iload hx hb (by decide +kernel : decode code 84 = .ok (.iload 4, 2)) (lv_at hl 0 rfl) ?_
    refine lv_iadd hx hb (by decide +kernel : decode code 86 = .ok (.iadd, 1)) ?_
    rw [i_sum]
    refine z_lcell (k := Int32.ofInt (5 + i)) (rest := []) hL (i_pos0 (by omega) (by omega)) F hX hbl hbA ⟨(Nat.le_of_ble_eq_true rfl), (Nat.le_of_ble_eq_true rfl)⟩ ⟨(Nat.le_of_ble_eq_true rfl), (Nat.le_of_ble_eq_true rfl)⟩ (z_m2 (i := 83) rfl rfl) hl hP hS (by decide +kernel : decode code 87 = .ok (.invokestatic 90, 3)) (by simp [Value.category]) (fun v H locs hv hP hS => ?_)
    refine lv_istore (lv' := [(5, .int (Int32.ofInt v)), (4, .int (Int32.ofInt i)), (3, .int (Int32.ofInt C)), (2, .int (Int32.ofInt G)), (1, .ref (ad (z_ix 0 21))), (0, .ref b)]) hx hb (by decide +kernel : decode code 90 = .ok (.istore 5, 2)) hl (by decide) rfl (fun ls hl => ?_)
    refine lv_aload_n hx hb (by decide +kernel : decode code 92 = .ok (.aload_n 1, 1)) rfl (lv_at hl 4 rfl) ?_
    refine lv_iload hx hb (by decide +kernel : decode code 93 = .ok (.iload 5, 2)) (lv_at hl 0 rfl) ?_
    refine lv_iload_n hx hb (by decide +kernel : decode code 95 = .ok (.iload_n 2, 1)) rfl (lv_at hl 3 rfl) ?_
    obtain ⟨gl, gh⟩ := z_low_in v (n := G) (by omega)
    refine z_lstat (k := 90) (as := [.inl v, .inl G]) (rest := [.ref (ad (z_ix 0 21))]) F hM ⟨(Nat.le_of_ble_eq_true rfl), (Nat.le_of_ble_eq_true rfl)⟩ z_mt90 rfl rfl rfl (Nat.le_of_ble_eq_true rfl) ⟨(Nat.le_of_ble_eq_true rfl), (Nat.le_of_ble_eq_true rfl)⟩ (z_m2 (i := 87) rfl rfl) (i_oks2 (hv) (z_w_id (by omega) (by omega))) (k_low v (by omega)) hl hP hS (by decide +kernel : decode code 96 = .ok (.invokestatic 49, 3)) (by simp [Value.category]) (fun H locs hP _ hS => ?_)
    generalize z_low v G = g at gl gh ⊢
    refine lv_iconst (v := Int32.ofInt 1) hx hb (by decide +kernel : decode code 99 = .ok (.iconst 1, 1)) (by decide) ?_
    refine lv_iload hx hb (by decide +kernel : decode code 100 = .ok (.iload 5, 2)) (lv_at hl 0 rfl) ?_
    refine lv_iconst (v := Int32.ofInt 3) hx hb (by decide +kernel : decode code 102 = .ok (.iconst 3, 1)) (by decide) ?_
    refine lv_ishr hx hb (by decide +kernel : decode code 103 = .ok (.ishr, 1)) ?_
    refine z_topi (fun v1 hv1 _ => ?_)
    refine lv_bipush (v := Int32.ofInt 120) hx hb (by decide +kernel : decode code 104 = .ok (.bipush 120, 2)) (by decide) ?_
    obtain ⟨yl, yh⟩ := z_low_in v1 (n := 120) (by omega)
    refine z_lstat (k := 90) (as := [.inl v1, .inl 120]) (rest := [.int (Int32.ofInt 1), .int (Int32.ofInt g), .ref (ad (z_ix 0 21))]) F hM ⟨(Nat.le_of_ble_eq_true rfl), (Nat.le_of_ble_eq_true rfl)⟩ z_mt90 rfl rfl rfl (Nat.le_of_ble_eq_true rfl) ⟨(Nat.le_of_ble_eq_true rfl), (Nat.le_of_ble_eq_true rfl)⟩ (z_m2 (i := 87) rfl rfl) (i_oks2 (hv1) (z_w_id (by omega) (by omega))) (k_low v1 (by omega)) hl hP hS (by decide +kernel : decode code 106 = .ok (.invokestatic 49, 3)) (by simp [Value.category]) (fun H locs hP _ hS => ?_)
    generalize z_low v1 120 = y at yl yh ⊢
    refine lv_iadd hx hb (by decide +kernel : decode code 109 = .ok (.iadd, 1)) ?_
    rw [i_sum]
    refine lv_bipush (v := Int32.ofInt 100) hx hb (by decide +kernel : decode code 110 = .ok (.bipush 100, 2)) (by decide) ?_
    refine lv_iload hx hb (by decide +kernel : decode code 112 = .ok (.iload 5, 2)) (lv_at hl 0 rfl) ?_
    refine lv_bipush (v := Int32.ofInt 9) hx hb (by decide +kernel : decode code 114 = .ok (.bipush 9, 2)) (by decide) ?_
    refine lv_ishr hx hb (by decide +kernel : decode code 116 = .ok (.ishr, 1)) ?_
    refine z_topi (fun v2 hv2 _ => ?_)
    refine lv_sipush (v := Int32.ofInt 401) hx hb (by decide +kernel : decode code 117 = .ok (.sipush 401, 3)) (by decide) ?_
    obtain ⟨zl, zh⟩ := z_low_in v2 (n := 401) (by omega)
    refine z_lstat (k := 90) (as := [.inl v2, .inl 401]) (rest := [.int (Int32.ofInt 100), .int (Int32.ofInt (1 + y)), .int (Int32.ofInt g), .ref (ad (z_ix 0 21))]) F hM ⟨(Nat.le_of_ble_eq_true rfl), (Nat.le_of_ble_eq_true rfl)⟩ z_mt90 rfl rfl rfl (Nat.le_of_ble_eq_true rfl) ⟨(Nat.le_of_ble_eq_true rfl), (Nat.le_of_ble_eq_true rfl)⟩ (z_m2 (i := 87) rfl rfl) (i_oks2 (hv2) (z_w_id (by omega) (by omega))) (k_low v2 (by omega)) hl hP hS (by decide +kernel : decode code 120 = .ok (.invokestatic 49, 3)) (by simp [Value.category]) (fun H locs hP _ hS => ?_)
    generalize z_low v2 401 = z at zl zh ⊢
    refine lv_iadd hx hb (by decide +kernel : decode code 123 = .ok (.iadd, 1)) ?_
    rw [i_sum]
    refine lv_iload hx hb (by decide +kernel : decode code 124 = .ok (.iload 5, 2)) (lv_at hl 0 rfl) ?_
    refine lv_bipush (v := Int32.ofInt 15) hx hb (by decide +kernel : decode code 126 = .ok (.bipush 15, 2)) (by decide) ?_
    refine lv_ishr hx hb (by decide +kernel : decode code 128 = .ok (.ishr, 1)) ?_
    refine z_topi (fun v3 hv3 _ => ?_)
    refine lv_bipush (v := Int32.ofInt 21) hx hb (by decide +kernel : decode code 129 = .ok (.bipush 21, 2)) (by decide) ?_
    obtain ⟨fl, fh⟩ := z_low_in v3 (n := 21) (by omega)
    refine z_lstat (k := 90) (as := [.inl v3, .inl 21]) (rest := [.int (Int32.ofInt (100 + z)), .int (Int32.ofInt (1 + y)), .int (Int32.ofInt g), .ref (ad (z_ix 0 21))]) F hM ⟨(Nat.le_of_ble_eq_true rfl), (Nat.le_of_ble_eq_true rfl)⟩ z_mt90 rfl rfl rfl (Nat.le_of_ble_eq_true rfl) ⟨(Nat.le_of_ble_eq_true rfl), (Nat.le_of_ble_eq_true rfl)⟩ (z_m2 (i := 87) rfl rfl) (i_oks2 (hv3) (z_w_id (by omega) (by omega))) (k_low v3 (by omega)) hl hP hS (by decide +kernel : decode code 131 = .ok (.invokestatic 49, 3)) (by simp [Value.category]) (fun H locs hP _ hS => ?_)
    generalize z_low v3 21 = f at fl fh ⊢
    obtain ⟨M1, e1, hW1, -, f1⟩ := k_addClass hW (g := g) (q := 1 + y) (z := 100 + z) (f := f) (by omega) (by omega) (by omega) (by omega) (by omega)
    refine z_lvir (k := 62) (o := 21) (vs := [g, 1 + y, 100 + z, f]) (rest := []) (fun v hv => by
      simp only [List.mem_cons, List.not_mem_nil, or_false] at hv
      rcases hv with rfl | rfl | rfl | rfl <;> exact z_w_id (by omega) (by omega)) F hM ⟨(Nat.le_of_ble_eq_true rfl), (Nat.le_of_ble_eq_true rfl)⟩ z_mt62 rfl rfl (Nat.le_of_ble_eq_true rfl) ⟨(Nat.le_of_ble_eq_true rfl), (Nat.le_of_ble_eq_true rfl)⟩ (z_m2 (i := 71) rfl rfl) rfl rfl rfl (by decide) e1 hl hP hS (by decide +kernel : decode code 134 = .ok (.invokevirtual 69, 3)) (by simp [Value.category]) (fun H locs hP hM hS => ?_)
    refine lv_iload hx hb (by decide +kernel : decode code 137 = .ok (.iload 4, 2)) (lv_at hl 1 rfl) ?_
    refine lv_icmp_eq (tgt := 144) hx hb (by decide +kernel : decode code 139 = .ok (.if_icmp .eq 5, 3)) (by decide) (fun _ => ?_) (fun cc => absurd (congrArg Int32.ofInt hm.2.1) cc)
    have hl := lv_sub hl [1, 2, 3, 4, 5] rfl
    refine lv_iinc (v := Int32.ofInt (i + 1)) (lv' := [(4, .int (Int32.ofInt (i + 1))), (3, .int (Int32.ofInt C)), (2, .int (Int32.ofInt G)), (1, .ref (ad (z_ix 0 21))), (0, .ref b)]) hx hb (by decide +kernel : decode code 144 = .ok (.iinc 4 1, 3)) hl (k := 0) rfl (i_sum i 1) (by decide) rfl (fun ls hl => ?_)
    refine lv_goto (tgt := 76) hx hb (by decide +kernel : decode code 147 = .ok (.goto (-71), 3)) (by decide) ?_
    refine ih (i + 1) (by omega) (by omega) hW1 ⟨?_, ?_, ?_, ?_⟩ hM hP hS hl
    · rw [f1 1 0 (by decide)]; exact hm.1
    · rw [f1 2 0 (by decide), show a_addClass (M 0) g (1 + y) (100 + z) f 2 0 = M 0 2 0 + 1 from a_u_same _ _ _ _, hm.2.1]
    · rw [f1 0 3 (by decide)]; exact hm.2.2.1
    · rw [f1 3 0 (by decide)]; exact hm.2.2.2
set_option maxHeartbeats 4000000 in
set_option maxRecDepth 100000 in
theorem law_acts {p : Program} {e : Env} {s : State} {m : MethodId} {below : List Frame} {meth : Method} {c : Code} {l : Launch} {b L : Nat} {xs : Nat → Int32} (hL : L ≤ 260) (C0 : lw_At p s m meth c b L xs) {D : va_G} {cA : Nat → ClassId} {ad : Nat → Nat} (E : lw_K s D cA ad) :
    ∀ (n i : Nat), i + n = 40 → ∀ {M : z_M} {w : List Nat}, w_M M w → (1 ≤ M 0 1 0 ∧ 1 ≤ M 0 2 0 ∧ M 0 0 3 ≤ 60 * (i : Int) ∧ M 0 3 0 ≤ (i : Int)) → z_okM M → ∀ {H : Heap} {locs : List Loc}, va_P D z_cl (z_ws 156 ad cA M) H → va_S (fun q : Nat => s.heap.size ≤ q) s.heap H locs → ∀ {ls : Array Slot}, lv_has ls 6 [(4, .int (Int32.ofInt (i : Int))), (1, .ref (ad (z_ix 0 21))), (0, .ref b)] → W p l e room_1 s m #[Value.ref b] below meth c H locs (156 + 3 * i) (6889 + 180 * i) (lw_Z below #[Value.ref b] s) (F0 m 153 ls []) := by
  obtain ⟨hx, hb, hr, hml, hown, htsL, hX, hbl, hlocks, hgv⟩ := id C0
  have hbA : ¬ (fun q : Nat => s.heap.size ≤ q) b := Nat.not_le.mpr hbl
  have F := lw_F C0 E
  intro n
  induction n with
  | zero =>
    intro i h1 M w hW hm hM H locs hP hS ls hl
    refine lv_iload hx hb (by decide +kernel : decode code 153 = .ok (.iload 4, 2)) (lv_at hl 0 rfl) ?_
    refine lv_bipush (v := Int32.ofInt 40) hx hb (by decide +kernel : decode code 155 = .ok (.bipush 40, 2)) (by decide) ?_
    have wi : z_w (i : Int) = (i : Int) := z_w_id (by omega) (by omega)
    refine lv_icmp_ge (tgt := 221) hx hb (by decide +kernel : decode code 157 = .ok (.if_icmp .ge 64, 3)) (by decide) (fun _ => ?_) (fun cc => absurd ((z_ile (by decide) wi).mpr (by omega)) cc)
    refine lv_aload_n hx hb (by decide +kernel : decode code 221 = .ok (.aload_n 1, 1)) rfl (lv_at hl 1 rfl) ?_
    obtain ⟨M1, e1⟩ := q_errors hW hm.1 hm.2.1
    refine z_lstat (k := 89) (as := [.inr (some (0, 21))]) (rest := []) F hM ⟨(show 156 + 3 * i ≤ 600000 by omega), (show 6889 + 180 * i ≤ 7302250 by omega)⟩ z_mt89 rfl rfl rfl (Nat.le_of_ble_eq_true rfl) ⟨(Nat.le_of_ble_eq_true rfl), (Nat.le_of_ble_eq_true rfl)⟩ (z_m3 (i := 140) rfl rfl) (z_okS_cons.mpr ⟨z_okR (by decide), fun _ h => by cases h⟩) e1 hl hP hS (by decide +kernel : decode code 222 = .ok (.invokestatic 105, 3)) (by simp) (fun H locs hP _ hS => ?_)
    refine va_forget hS.2.2 ?_
    refine W.widen (k := 600000) (n := 7302250) (by omega) (by omega) ?_
    exact lw_ret hx hb hr hlocks (by decide +kernel : decode code 225 = .ok (.ireturn, 1))
  | succ n ih =>
    intro i h1 M w hW hm hM H locs hP hS ls hl
    have wi : z_w (i : Int) = (i : Int) := z_w_id (by omega) (by omega)
    refine lv_iload hx hb (by decide +kernel : decode code 153 = .ok (.iload 4, 2)) (lv_at hl 0 rfl) ?_
    refine lv_bipush (v := Int32.ofInt 40) hx hb (by decide +kernel : decode code 155 = .ok (.bipush 40, 2)) (by decide) ?_
    refine lv_icmp_ge (tgt := 221) hx hb (by decide +kernel : decode code 157 = .ok (.if_icmp .ge 64, 3)) (by decide) (fun cc => absurd ((z_ile (by decide) wi).mp cc) (by omega)) (fun _ => ?_)
    have step : ∀ (M2 : z_M) (w2 : List Nat) (H1 : Heap) (locs1 : List Loc), w_M M2 w2 → (1 ≤ M2 0 1 0 ∧ 1 ≤ M2 0 2 0 ∧ M2 0 0 3 ≤ 60 * (((i + 1 : Nat) : Int) : Int) ∧ M2 0 3 0 ≤ (((i + 1 : Nat) : Int) : Int)) → z_okM M2 → va_P D z_cl (z_ws 156 ad cA M2) H1 → va_S (fun q : Nat => s.heap.size ≤ q) s.heap H1 locs1 → W p l e room_1 s m #[Value.ref b] below meth c H1 locs1 (156 + 3 * (i + 1)) (6889 + 180 * (i + 1)) (lw_Z below #[Value.ref b] s) (F0 m 215 ls []) := by
      intro M2 w2 H1 locs1 hW2 hm2 hM2 hP2 hS2
      refine lv_iinc (v := Int32.ofInt ((i + 1 : Nat) : Int)) (lv' := [(4, .int (Int32.ofInt ((i + 1 : Nat) : Int))), (1, .ref (ad (z_ix 0 21))), (0, .ref b)]) hx hb (by decide +kernel : decode code 215 = .ok (.iinc 4 1, 3)) hl (k := 0) rfl (i_sum i 1) (by decide) rfl (fun ls hl => ?_)
      refine lv_goto (tgt := 153) hx hb (by decide +kernel : decode code 218 = .ok (.goto (-65), 3)) (by decide) ?_
      exact ih (i + 1) (by omega) hW2 hm2 hM2 hP2 hS2 hl
    refine lv_aload_n hx hb (by decide +kernel : decode code 160 = .ok (.aload_n 1, 1)) rfl (lv_at hl 1 rfl) ?_
    refine lv_aload_n hx hb (by decide +kernel : decode code 161 = .ok (.aload_n 0, 1)) rfl (lv_at hl 2 rfl) ?_
    refine lv_bipush (v := Int32.ofInt 14) hx hb (by decide +kernel : decode code 162 = .ok (.bipush 14, 2)) (by decide) ?_
    refine lv_iconst (v := Int32.ofInt 2) hx hb (by decide +kernel : decode code 164 = .ok (.iconst 2, 1)) (by decide) ?_
    refine lv_iload hx hb (by decide +kernel : decode code 165 = .ok (.iload 4, 2)) (lv_at hl 0 rfl) ?_
    refine lv_imul hx hb (by decide +kernel : decode code 167 = .ok (.imul, 1)) ?_
    rw [i_mul]
    refine lv_iadd hx hb (by decide +kernel : decode code 168 = .ok (.iadd, 1)) ?_
    rw [i_sum]
    refine z_lcell (k := Int32.ofInt (14 + (2 * (i : Int)))) (rest := [.ref (ad (z_ix 0 21))]) hL (i_pos0 (by omega) (by omega)) F hX hbl hbA ⟨(show 156 + 3 * i ≤ 600000 by omega), (show 6889 + 180 * i ≤ 7302250 by omega)⟩ ⟨(Nat.le_of_ble_eq_true rfl), (Nat.le_of_ble_eq_true rfl)⟩ (z_m2 (i := 83) rfl rfl) hl hP hS (by decide +kernel : decode code 169 = .ok (.invokestatic 90, 3)) (by simp [Value.category]) (fun v H locs hv hP hS => ?_)
    refine lv_aload_n hx hb (by decide +kernel : decode code 172 = .ok (.aload_n 0, 1)) rfl (lv_at hl 2 rfl) ?_
    refine lv_bipush (v := Int32.ofInt 15) hx hb (by decide +kernel : decode code 173 = .ok (.bipush 15, 2)) (by decide) ?_
    refine lv_iconst (v := Int32.ofInt 2) hx hb (by decide +kernel : decode code 175 = .ok (.iconst 2, 1)) (by decide) ?_
    refine lv_iload hx hb (by decide +kernel : decode code 176 = .ok (.iload 4, 2)) (lv_at hl 0 rfl) ?_
    refine lv_imul hx hb (by decide +kernel : decode code 178 = .ok (.imul, 1)) ?_
    rw [i_mul]
    refine lv_iadd hx hb (by decide +kernel : decode code 179 = .ok (.iadd, 1)) ?_
    rw [i_sum]
    refine z_lcell (k := Int32.ofInt (15 + (2 * (i : Int)))) (rest := [.int (Int32.ofInt v), .ref (ad (z_ix 0 21))]) hL (i_pos0 (by omega) (by omega)) F hX hbl hbA ⟨(show 156 + 3 * i ≤ 600000 by omega), (show 6889 + 180 * i ≤ 7302250 by omega)⟩ ⟨(Nat.le_of_ble_eq_true rfl), (Nat.le_of_ble_eq_true rfl)⟩ (z_m2 (i := 83) rfl rfl) hl hP hS (by decide +kernel : decode code 180 = .ok (.invokestatic 90, 3)) (by simp [Value.category]) (fun u H locs hu hP hS => ?_)
    obtain ⟨M1, w1, e1, hW1, g1, g2, g3, g4, -⟩ := q_acts hW hm.1 hm.2.1 (by omega) v u
    refine z_lstat (k := 87) (as := [.inr (some (0, 21)), .inl v, .inl u]) (rest := []) F hM ⟨(show 156 + 3 * i ≤ 600000 by omega), (show 6889 + 180 * i ≤ 7302250 by omega)⟩ z_mt87 rfl rfl rfl (Nat.le_of_ble_eq_true rfl) ⟨(Nat.le_of_ble_eq_true rfl), (Nat.le_of_ble_eq_true rfl)⟩ (z_m3 (i := 100) rfl rfl) (z_okS_cons.mpr ⟨z_okR (by decide), i_oks2 hv hu⟩) e1 hl hP hS (by decide +kernel : decode code 183 = .ok (.invokestatic 94, 3)) (by simp) (fun H locs hP hM hS => ?_)
    refine lv_if_eq (tgt := 213) hx hb (by decide +kernel : decode code 186 = .ok (.ifCond .eq 27, 3)) (by decide) (fun h => absurd h (by decide)) (fun _ => ?_)
    refine lv_aload_n hx hb (by decide +kernel : decode code 189 = .ok (.aload_n 1, 1)) rfl (lv_at hl 1 rfl) ?_
    refine z_lstat (k := 91) (as := [.inr (some (0, 21))]) (rest := []) F hM ⟨(show 156 + 3 * i ≤ 600000 by omega), (show 6889 + 180 * i ≤ 7302250 by omega)⟩ z_mt91 rfl rfl rfl (Nat.le_of_ble_eq_true rfl) ⟨(Nat.le_of_ble_eq_true rfl), (Nat.le_of_ble_eq_true rfl)⟩ (z_m2 (i := 91) rfl rfl) (z_okS_cons.mpr ⟨z_okR (by decide), fun _ h => by cases h⟩) (q_sums hW1 (by omega)) hl hP hS (by decide +kernel : decode code 190 = .ok (.invokestatic 98, 3)) (by simp) (fun H locs hP hM hS => ?_)
    refine lv_if_eq (tgt := 213) hx hb (by decide +kernel : decode code 193 = .ok (.ifCond .eq 20, 3)) (by decide) (fun h => absurd h (by decide)) (fun _ => ?_)
    refine lv_iload hx hb (by decide +kernel : decode code 196 = .ok (.iload 4, 2)) (lv_at hl 0 rfl) ?_
    refine lv_bipush (v := Int32.ofInt 8) hx hb (by decide +kernel : decode code 198 = .ok (.bipush 8, 2)) (by decide) ?_
    refine lv_irem hx hb (by decide +kernel : decode code 200 = .ok (.irem, 1)) (by decide) ?_
    refine z_topi (fun t ht _ => ?_)
    refine lv_bipush (v := Int32.ofInt 7) hx hb (by decide +kernel : decode code 201 = .ok (.bipush 7, 2)) (by decide) ?_
    have hm1 : 1 ≤ M1 0 1 0 ∧ 1 ≤ M1 0 2 0 ∧ M1 0 0 3 ≤ 60 * ((i + 1 : Nat) : Int) ∧ M1 0 3 0 ≤ ((i + 1 : Nat) : Int) := ⟨by omega, by omega, by omega, by omega⟩
    refine lv_icmp_ne (tgt := 215) hx hb (by decide +kernel : decode code 203 = .ok (.if_icmp .ne 12, 3)) (by decide) (fun _ => ?_) (fun _ => ?_)
    · exact W.widen (k := 156 + 3 * (i + 1)) (n := 6889 + 180 * (i + 1)) (by omega) (by omega) (step M1 w1 H locs hW1 hm1 hM hP hS)
    refine lv_aload_n hx hb (by decide +kernel : decode code 206 = .ok (.aload_n 1, 1)) rfl (lv_at hl 1 rfl) ?_
    have hlen := hW1.2.1.1.2.2.2.2.2.2.2.2.2
    obtain ⟨M2, e2, hW2, f2, -⟩ := q_comes (z_fr_M hW1) (by omega) (show z_fr M1 0 0 3 ≤ 3000 by rw [show z_fr M1 0 0 3 = M1 0 0 3 from rfl]; omega)
    refine z_lcomes (rest := []) F (fun _ h => h) hM hW1.2.1.1.2.2.2.2.1.1 e2 ⟨(show 156 + 3 * i + 3 ≤ 600000 by omega), (show 6889 + 180 * i + 180 ≤ 7302250 by omega)⟩ ⟨(Nat.le_of_ble_eq_true rfl), (Nat.le_of_ble_eq_true rfl)⟩ (z_m2 (i := 212) rfl rfl) hl hP hS (by decide +kernel : decode code 207 = .ok (.invokestatic 102, 3)) (by simp) (fun H locs hP hM hS => ?_)
    refine lv_if_ne (tgt := 215) hx hb (by decide +kernel : decode code 210 = .ok (.ifCond .ne 5, 3)) (by decide) (fun _ => ?_) (fun h => absurd h (by decide))
    refine W.widen (k := 156 + 3 * (i + 1)) (n := 6889 + 180 * (i + 1)) (by omega) (by omega) (step M2 w1 H locs hW2 ⟨?_, ?_, ?_, ?_⟩ hM hP hS)
    · rw [f2 1 0 (by decide)]; exact hm1.1
    · rw [f2 2 0 (by decide)]; exact hm1.2.1
    · rw [f2 0 3 (by decide)]; exact hm1.2.2.1
    · rw [f2 3 0 (by decide)]; exact hm1.2.2.2
set_option maxHeartbeats 4000000 in
set_option maxRecDepth 100000 in
theorem law_from8 {p : Program} {e : Env} {s : State} {m : MethodId} {below : List Frame} {meth : Method} {c : Code} {l : Launch} {b L : Nat} {xs : Nat → Int32} (hL : L ≤ 260) (C0 : lw_At p s m meth c b L xs) {D : va_G} {cA : Nat → ClassId} {ad : Nat → Nat} (E : lw_K s D cA ad) {H : Heap} {locs : List Loc} {ls : Array Slot} (hP : va_P D z_cl (z_ws 156 ad cA m0) H) (hS : va_S (fun q : Nat => s.heap.size ≤ q) s.heap H locs) (hl : lv_has ls 6 [(1, .ref (ad (z_ix 0 21))), (0, .ref b)]) : W p l e room_1 s m #[Value.ref b] below meth c H locs (156) (6889) (lw_Z below #[Value.ref b] s) (F0 m 8 ls []) := by
  obtain ⟨hx, hb, hr, hml, hown, htsL, hX, hbl, hlocks, hgv⟩ := id C0
  have hbA : ¬ (fun q : Nat => s.heap.size ≤ q) b := Nat.not_le.mpr hbl
  have F := lw_F C0 E
  have hM := m0_ok
  refine lv_iconst (v := Int32.ofInt 1) hx hb (by decide +kernel : decode code 8 = .ok (.iconst 1, 1)) (by decide) ?_
  refine lv_aload_n hx hb (by decide +kernel : decode code 9 = .ok (.aload_n 0, 1)) rfl (lv_at hl 1 rfl) ?_
  refine lv_iconst (v := Int32.ofInt 0) hx hb (by decide +kernel : decode code 10 = .ok (.iconst 0, 1)) (by decide) ?_
  refine z_lcell (k := Int32.ofInt 0) (rest := [.int (Int32.ofInt 1)]) hL (i_pos0 (by omega) (by omega)) F hX hbl hbA ⟨(Nat.le_of_ble_eq_true rfl), (Nat.le_of_ble_eq_true rfl)⟩ ⟨(Nat.le_of_ble_eq_true rfl), (Nat.le_of_ble_eq_true rfl)⟩ (z_m2 (i := 83) rfl rfl) hl hP hS (by decide +kernel : decode code 11 = .ok (.invokestatic 90, 3)) (by simp [Value.category]) (fun v H locs hv hP hS => ?_)
  refine lv_iconst (v := Int32.ofInt 3) hx hb (by decide +kernel : decode code 14 = .ok (.iconst 3, 1)) (by decide) ?_
  obtain ⟨gl, gh⟩ := z_low_in v (n := 3) (by omega)
  refine z_lstat (k := 90) (as := [.inl v, .inl 3]) (rest := [.int (Int32.ofInt 1)]) F hM ⟨(Nat.le_of_ble_eq_true rfl), (Nat.le_of_ble_eq_true rfl)⟩ z_mt90 rfl rfl rfl (Nat.le_of_ble_eq_true rfl) ⟨(Nat.le_of_ble_eq_true rfl), (Nat.le_of_ble_eq_true rfl)⟩ (z_m2 (i := 87) rfl rfl) (i_oks2 (hv) (z_w_id (by omega) (by omega))) (k_low v (by omega)) hl hP hS (by decide +kernel : decode code 15 = .ok (.invokestatic 49, 3)) (by simp [Value.category]) (fun H locs hP _ hS => ?_)
  generalize z_low v 3 = g at gl gh ⊢
  refine lv_iadd hx hb (by decide +kernel : decode code 18 = .ok (.iadd, 1)) ?_
  rw [i_sum]
  refine lv_istore_n (lv' := [(2, .int (Int32.ofInt (1 + g))), (1, .ref (ad (z_ix 0 21))), (0, .ref b)]) hx hb (by decide +kernel : decode code 19 = .ok (.istore_n 2, 1)) rfl hl (by decide) rfl (fun ls hl => ?_)
  refine lv_iconst (v := Int32.ofInt 0) hx hb (by decide +kernel : decode code 20 = .ok (.iconst 0, 1)) (by decide) ?_
  refine lv_istore_n (lv' := [(3, .int (Int32.ofInt 0)), (2, .int (Int32.ofInt (1 + g))), (1, .ref (ad (z_ix 0 21))), (0, .ref b)]) hx hb (by decide +kernel : decode code 21 = .ok (.istore_n 3, 1)) rfl hl (by decide) rfl (fun ls hl => ?_)
  refine law_groups hL C0 E (G := 1 + g) (by omega) (fun M w H locs ls hW hm hM hP hS hl => ?_) (1 + g).toNat 0 (by omega) (by omega) m0_M ⟨rfl, rfl, rfl, rfl⟩ m0_ok hP hS hl
  refine lv_iconst (v := Int32.ofInt 1) hx hb (by decide +kernel : decode code 57 = .ok (.iconst 1, 1)) (by decide) ?_
  refine lv_aload_n hx hb (by decide +kernel : decode code 58 = .ok (.aload_n 0, 1)) rfl (lv_at hl 2 rfl) ?_
  refine lv_iconst (v := Int32.ofInt 0) hx hb (by decide +kernel : decode code 59 = .ok (.iconst 0, 1)) (by decide) ?_
  refine z_lcell (k := Int32.ofInt 0) (rest := [.int (Int32.ofInt 1)]) hL (i_pos0 (by omega) (by omega)) F hX hbl hbA ⟨(Nat.le_of_ble_eq_true rfl), (Nat.le_of_ble_eq_true rfl)⟩ ⟨(Nat.le_of_ble_eq_true rfl), (Nat.le_of_ble_eq_true rfl)⟩ (z_m2 (i := 83) rfl rfl) hl hP hS (by decide +kernel : decode code 60 = .ok (.invokestatic 90, 3)) (by simp [Value.category]) (fun u H locs hu hP hS => ?_)
  refine lv_bipush (v := Int32.ofInt 8) hx hb (by decide +kernel : decode code 63 = .ok (.bipush 8, 2)) (by decide) ?_
  refine lv_ishr hx hb (by decide +kernel : decode code 65 = .ok (.ishr, 1)) ?_
  refine z_topi (fun t ht _ => ?_)
  refine lv_bipush (v := Int32.ofInt 8) hx hb (by decide +kernel : decode code 66 = .ok (.bipush 8, 2)) (by decide) ?_
  obtain ⟨kl, kh⟩ := z_low_in t (n := 8) (by omega)
  refine z_lstat (k := 90) (as := [.inl t, .inl 8]) (rest := [.int (Int32.ofInt 1)]) F hM ⟨(Nat.le_of_ble_eq_true rfl), (Nat.le_of_ble_eq_true rfl)⟩ z_mt90 rfl rfl rfl (Nat.le_of_ble_eq_true rfl) ⟨(Nat.le_of_ble_eq_true rfl), (Nat.le_of_ble_eq_true rfl)⟩ (z_m2 (i := 87) rfl rfl) (i_oks2 (ht) (z_w_id (by omega) (by omega))) (k_low t (by omega)) hl hP hS (by decide +kernel : decode code 68 = .ok (.invokestatic 49, 3)) (by simp [Value.category]) (fun H locs hP _ hS => ?_)
  generalize z_low t 8 = k at kl kh ⊢
  refine lv_iadd hx hb (by decide +kernel : decode code 71 = .ok (.iadd, 1)) ?_
  rw [i_sum]
  refine lv_istore_n (lv' := [(3, .int (Int32.ofInt (1 + k))), (2, .int (Int32.ofInt (1 + g))), (1, .ref (ad (z_ix 0 21))), (0, .ref b)]) hx hb (by decide +kernel : decode code 72 = .ok (.istore_n 3, 1)) rfl hl (by decide) rfl (fun ls hl => ?_)
  refine lv_iconst (v := Int32.ofInt 0) hx hb (by decide +kernel : decode code 73 = .ok (.iconst 0, 1)) (by decide) ?_
  refine lv_istore (lv' := [(4, .int (Int32.ofInt 0)), (3, .int (Int32.ofInt (1 + k))), (2, .int (Int32.ofInt (1 + g))), (1, .ref (ad (z_ix 0 21))), (0, .ref b)]) hx hb (by decide +kernel : decode code 74 = .ok (.istore 4, 2)) hl (by decide) rfl (fun ls hl => ?_)
  refine law_classes hL C0 E (G := 1 + g) (C := 1 + k) (by omega) (by omega) (fun M w H locs ls hW hm hM hP hS hl => ?_) (1 + k).toNat 0 (by omega) (by omega) hW hm hM hP hS hl
  refine lv_iconst (v := Int32.ofInt 0) hx hb (by decide +kernel : decode code 150 = .ok (.iconst 0, 1)) (by decide) ?_
  refine lv_istore (lv' := [(4, .int (Int32.ofInt 0)), (1, .ref (ad (z_ix 0 21))), (0, .ref b)]) hx hb (by decide +kernel : decode code 151 = .ok (.istore 4, 2)) hl (by decide) rfl (fun ls hl => ?_)
  exact law_acts hL C0 E 40 0 (by omega) hW ⟨by omega, by omega, by omega, by omega⟩ hM hP hS hl
