/-! the class itself and the model, made; by gen_init.py -/
def w_ma (a : Nat → Nat → Nat) (f : Nat → Option Nat) (k d c b : ClassId) : va_W := [(a 7 0, .inr (7, [.ref (a 0 0), .ref (a 1 0), .int 0, .ref (a 2 0), .ref (a 7 1), .ref (a 7 3), .ref (a 7 5)]))] ++ w_st (a 0) k ++ w_st (a 1) k ++ w_st (a 2) k ++ w_hi (a 7 1) (a 7 2) f a k d ++ w_te (fun o => a 7 (o - 21)) c ++ w_tu (fun o => a 7 (o - 21)) k b
set_option maxHeartbeats 4000000 in
set_option maxRecDepth 100000 in
theorem i_Main (l : Launch) (D : va_G) (h0 sz : Nat) : Met l yX7_init (Cond.code yX7_init cX7_init 1 none :: z_G) ({ frames := 4, cells := 155, slots := 6882, locals := 73 }) (va_Pc [.ref h0] (fun U => U.heap.size = sz ∧ va_P D z_cl [(h0, .inr (7, [.null, .null, .int 0, .null, .null, .null, .null]))] U.heap ∧ va_K D z_cl [] U ∧ va_D (fun _ => True) [(h0, .inr (7, [.null, .null, .int 0, .null, .null, .null, .null]))] ∧ i_N U))
    (va_Qv (fun _ : Unit => True) (fun _ t => ∃ (a : Nat → Nat → Nat) (f : Nat → Option Nat) (k d c b : ClassId), (a 7 0 = h0 ∧ ∀ j, j < 4 → f j = some (a (3 + j) 0)) ∧ va_P D z_cl (w_ma a f k d c b) t.heap ∧ va_K D z_cl [(k, .int), (d, .object RX4), (c, .char), (b, .boolean)] t ∧ va_D (va_A [(h0, .inr (7, [.null, .null, .int 0, .null, .null, .null, .null]))] sz) (w_ma a f k d c b)) (va_A [(h0, .inr (7, [.null, .null, .int 0, .null, .null, .null, .null]))] sz)) 155 6882 (va_A [(h0, .inr (7, [.null, .null, .int 0, .null, .null, .null, .null]))] sz) := by
  refine Met.ofW (cc := cX7_init) (maxL := 1) (ret := none) (by decide) rfl ?_
  intro p e s m args below meth c s₁ B hml hv
  obtain ⟨rfl, hsz, hP, hK, hD0, hO⟩ := hv
  have hx := B.exec
  have hb := B.bytes
  have hr := B.returns
  have hts0 := atoms_spec (ws := Cond.code yX7_init cX7_init 1 none :: z_G) B.pre
  have hts : ∀ w ∈ z_G, w.before ([Value.ref h0].toArray) s = true := fun w hw => hts0 w (List.mem_cons_of_mem _ hw)
  have hown : s.vm.findClass RX7 = some m.cls := findClass_of_methodNamed B.named
  have hlocks := B.notSynchronized
  have hin : meth.name = "<init>" := (name_of_methodNamed B.named B.method).1
  subst hsz
  have hD := hD0.self (sz := s.heap.size)
  generalize hAe : va_A [(h0, .inr (7, [.null, .null, .int 0, .null, .null, .null, .null]))] s.heap.size = A at hD ⊢
  have hA : ∀ q : Nat, s.heap.size ≤ q → A q := fun q h => by rw [← hAe]; exact Or.inr h
  have hS : va_S A s.heap s.heap [] := va_S.rf
  have hl := lv_entry ([.ref h0]) (n := 1) (Nat.le_of_ble_eq_true rfl)
  rw [lg_entry_eq]
  generalize (lg_sl ([.ref h0]) ++ List.replicate (1 - (lg_sl ([.ref h0])).length) Slot.unset).toArray = ls at hl ⊢
  have hl : lv_has ls 1 [(0, .ref h0)] := hl
  refine lv_aload_n hx hb (by decide +kernel : decode cX7_init 0 = .ok (.aload_n 0, 1)) rfl (lv_at hl 0 rfl) ?_
  refine W.objInit hx hb hown (hts _ (z_m1 (i := 16) rfl rfl)) (hts _ (z_m1 (i := 17) rfl rfl)) (hts _ (z_m1 (i := 18) rfl rfl)) rfl (by rw [hml]; exact hl.1) rfl (by decide +kernel : decode cX7_init 1 = .ok (.invokespecial 1, 3)) (Nat.le_of_ble_eq_true rfl) (Nat.le_of_ble_eq_true rfl) ?_
  refine W.eq (g2 := F0 m 4 ls []) rfl ?_
  refine lv_aload_n hx hb (by decide +kernel : decode cX7_init 4 = .ok (.aload_n 0, 1)) rfl (lv_at hl 0 rfl) ?_
  refine va_new (ci := 4) (fs := [.null, .null, .null, .int 0, .int 0, .int 0, .int 0, .int 0, .int 0]) (C := RX4) (T := TX4) (N := 9) hx hb hts z_lays_4 tyX4 tyX4_ok hown (hts _ (z_m1 (i := 19) rfl rfl)) (hts _ (z_m1 (i := 20) rfl rfl)) (hts _ (z_m1 (i := 2) rfl rfl)) hK hP hD hS hA rfl (fun j hj => by rcases (show j = 0 ∨ j = 1 ∨ j = 2 ∨ j = 3 ∨ j = 4 ∨ j = 5 ∨ j = 6 ∨ j = 7 ∨ j = 8 by omega) with rfl | rfl | rfl | rfl | rfl | rfl | rfl | rfl | rfl <;> rfl) (Nat.le_of_ble_eq_true rfl) (Nat.le_of_ble_eq_true rfl) (by decide +kernel : decode cX7_init 5 = .ok (.new 7, 3)) (fun q5 H hP hD hS => ?_)
  have hP : va_P D z_cl ([(h0, .inr (7, [.null, .null, .int 0, .null, .null, .null, .null]))] ++ [(q5, .inr (4, [.null, .null, .null, .int 0, .int 0, .int 0, .int 0, .int 0, .int 0]))]) H := hP
  have hD : va_D A ([(h0, .inr (7, [.null, .null, .int 0, .null, .null, .null, .null]))] ++ [(q5, .inr (4, [.null, .null, .null, .int 0, .int 0, .int 0, .int 0, .int 0, .int 0]))]) := hD
  refine W.widen (k := 1) (n := 9) (by omega) (by omega) ?_
  refine lv_dup hx hb (by decide +kernel : decode cX7_init 8 = .ok (.dup, 1)) rfl ?_
  have hPc := va_lastP hP
  have hDc := va_lastD hD
  have hKc : va_K D z_cl [] s := hK.sub [] rfl
  have hFc := va_freeT hD hS hA
  refine va_callv (va_runIN (As := []) (rest := [.ref q5, .ref h0]) ⟨hx, hb, hml, hown, hts⟩ (i_State l D q5 H.size) ⟨va_cnB 0 hts i_gd4 rfl rfl rfl (hO.1 _ (List.mem_of_getElem? (i := 4) rfl)) (hts _ (z_m1 (i := 2) rfl rfl)) (by decide +kernel) ⟨Nat.le_of_ble_eq_true rfl, Nat.le_of_ble_eq_true rfl⟩, rfl, (hts _ (z_m1 (i := 22) rfl rfl))⟩ ⟨fun a U g mk q => by obtain ⟨q0, q1, qP, qK, qD, qO⟩ := q; exact ⟨q0, q1, qP, va_K.moved (u := U) (U := U.calling g mk a) (Vm.Alike.refl U.vm) qK, qD, i_N.same (s := U) (U := U.calling g mk a) rfl qO⟩, fun U hU hW => ⟨rfl, by rw [hU], by rw [hU]; exact hPc, va_K.moved hW.alike hKc, hDc.weaken (fun _ _ _ _ => trivial), i_N.warm hW hO⟩⟩ rfl rfl hl.1 rfl (lv_room (Nat.le_of_ble_eq_true rfl)) (by decide +kernel : decode cX7_init 9 = .ok (.invokespecial 9, 3)) ⟨Nat.le_of_ble_eq_true rfl, Nat.le_of_ble_eq_true rfl⟩) hS (fun q _ h => hFc q h) hFc (fun _ t H1 locs ht hvm _ hB hz1 hk1 hS => ?_)
  obtain ⟨b0, k0, e0, hP1, hK1, hD1⟩ := hB
  subst e0
  rw [ht] at hP1
  have hK1 := va_K.moved hvm.symm hK1
  obtain ⟨hP, hD⟩ := va_joinT hP hD hk1 hFc hP1 hD1
  generalize H1 = H at hP hS ⊢
  have hK := hK.app hK1
  have hK : va_K D z_cl [(k0, .int)] s := hK.sub [0] rfl
  refine W.widen (k := 21) (n := 971) (by omega) (by omega) ?_
  have hP : va_P D z_cl ([(h0, .inr (7, [.null, .null, .int 0, .null, .null, .null, .null]))] ++ w_st b0 k0) H := hP
  have hD : va_D A ([(h0, .inr (7, [.null, .null, .int 0, .null, .null, .null, .null]))] ++ w_st b0 k0) := hD
  refine va_putF (D := D) (ci := 7) (v := .ref (b0 0)) (ty := .object "DeficitCircles$State") (C := RX7) (T := TX7) (N := 7) hx hb hts z_lays_7 tyX7 tyX7_ok nmX7 hown hK hP hD hS 0 rfl rfl 0 (by decide) (hts _ (z_m2 (i := 2) rfl rfl)) (fun _ h9 => h9) rfl hin rfl (by decide +kernel) rfl rfl (Nat.le_of_ble_eq_true rfl) (by decide +kernel : decode cX7_init 12 = .ok (.putfield 10, 3)) (fun H locs hP hD hS => ?_)
  have hP : va_P D z_cl ([(h0, .inr (7, [.ref (b0 0), .null, .int 0, .null, .null, .null, .null]))] ++ w_st b0 k0) H := hP
  have hD : va_D A ([(h0, .inr (7, [.ref (b0 0), .null, .int 0, .null, .null, .null, .null]))] ++ w_st b0 k0) := hD
  refine lv_aload_n hx hb (by decide +kernel : decode cX7_init 15 = .ok (.aload_n 0, 1)) rfl (lv_at hl 0 rfl) ?_
  refine va_new (ci := 4) (fs := [.null, .null, .null, .int 0, .int 0, .int 0, .int 0, .int 0, .int 0]) (C := RX4) (T := TX4) (N := 9) hx hb hts z_lays_4 tyX4 tyX4_ok hown (hts _ (z_m1 (i := 19) rfl rfl)) (hts _ (z_m1 (i := 20) rfl rfl)) (hts _ (z_m1 (i := 2) rfl rfl)) hK hP hD hS hA rfl (fun j hj => by rcases (show j = 0 ∨ j = 1 ∨ j = 2 ∨ j = 3 ∨ j = 4 ∨ j = 5 ∨ j = 6 ∨ j = 7 ∨ j = 8 by omega) with rfl | rfl | rfl | rfl | rfl | rfl | rfl | rfl | rfl <;> rfl) (Nat.le_of_ble_eq_true rfl) (Nat.le_of_ble_eq_true rfl) (by decide +kernel : decode cX7_init 16 = .ok (.new 7, 3)) (fun q16 H hP hD hS => ?_)
  have hP : va_P D z_cl ([(h0, .inr (7, [.ref (b0 0), .null, .int 0, .null, .null, .null, .null]))] ++ w_st b0 k0 ++ [(q16, .inr (4, [.null, .null, .null, .int 0, .int 0, .int 0, .int 0, .int 0, .int 0]))]) H := hP
  have hD : va_D A ([(h0, .inr (7, [.ref (b0 0), .null, .int 0, .null, .null, .null, .null]))] ++ w_st b0 k0 ++ [(q16, .inr (4, [.null, .null, .null, .int 0, .int 0, .int 0, .int 0, .int 0, .int 0]))]) := hD
  refine W.widen (k := 22) (n := 980) (by omega) (by omega) ?_
  refine lv_dup hx hb (by decide +kernel : decode cX7_init 19 = .ok (.dup, 1)) rfl ?_
  have hPc := va_lastP hP
  have hDc := va_lastD hD
  have hKc : va_K D z_cl [] s := hK.sub [] rfl
  have hFc := va_freeT hD hS hA
  refine va_callv (va_runIN (As := []) (rest := [.ref q16, .ref h0]) ⟨hx, hb, hml, hown, hts⟩ (i_State l D q16 H.size) ⟨va_cnB 0 hts i_gd4 rfl rfl rfl (hO.1 _ (List.mem_of_getElem? (i := 4) rfl)) (hts _ (z_m1 (i := 2) rfl rfl)) (by decide +kernel) ⟨Nat.le_of_ble_eq_true rfl, Nat.le_of_ble_eq_true rfl⟩, rfl, (hts _ (z_m1 (i := 22) rfl rfl))⟩ ⟨fun a U g mk q => by obtain ⟨q0, q1, qP, qK, qD, qO⟩ := q; exact ⟨q0, q1, qP, va_K.moved (u := U) (U := U.calling g mk a) (Vm.Alike.refl U.vm) qK, qD, i_N.same (s := U) (U := U.calling g mk a) rfl qO⟩, fun U hU hW => ⟨rfl, by rw [hU], by rw [hU]; exact hPc, va_K.moved hW.alike hKc, hDc.weaken (fun _ _ _ _ => trivial), i_N.warm hW hO⟩⟩ rfl rfl hl.1 rfl (lv_room (Nat.le_of_ble_eq_true rfl)) (by decide +kernel : decode cX7_init 20 = .ok (.invokespecial 9, 3)) ⟨Nat.le_of_ble_eq_true rfl, Nat.le_of_ble_eq_true rfl⟩) hS (fun q _ h => hFc q h) hFc (fun _ t H1 locs ht hvm _ hB hz1 hk1 hS => ?_)
  obtain ⟨b1, k1, e1, hP1, hK1, hD1⟩ := hB
  subst e1
  rw [ht] at hP1
  have hK1 := va_K.moved hvm.symm hK1
  obtain ⟨hP, hD⟩ := va_joinT hP hD hk1 hFc hP1 hD1
  generalize H1 = H at hP hS ⊢
  have hK := hK.app hK1
  have ek1 : k0 = k1 := Option.some.inj ((hK.2 0 _ rfl).2.symm.trans (hK.2 1 _ rfl).2)
  subst ek1
  have hK : va_K D z_cl [(k0, .int)] s := hK.sub [0] rfl
  refine W.widen (k := 42) (n := 1942) (by omega) (by omega) ?_
  have hP : va_P D z_cl ([(h0, .inr (7, [.ref (b0 0), .null, .int 0, .null, .null, .null, .null]))] ++ w_st b0 k0 ++ w_st b1 k0) H := hP
  have hD : va_D A ([(h0, .inr (7, [.ref (b0 0), .null, .int 0, .null, .null, .null, .null]))] ++ w_st b0 k0 ++ w_st b1 k0) := hD
  refine va_putF (D := D) (ci := 7) (v := .ref (b1 0)) (ty := .object "DeficitCircles$State") (C := RX7) (T := TX7) (N := 7) hx hb hts z_lays_7 tyX7 tyX7_ok nmX7 hown hK hP hD hS 0 rfl rfl 1 (by decide) (hts _ (z_m2 (i := 3) rfl rfl)) (fun _ h9 => h9) rfl hin rfl (by decide +kernel) rfl rfl (Nat.le_of_ble_eq_true rfl) (by decide +kernel : decode cX7_init 23 = .ok (.putfield 16, 3)) (fun H locs hP hD hS => ?_)
  have hP : va_P D z_cl ([(h0, .inr (7, [.ref (b0 0), .ref (b1 0), .int 0, .null, .null, .null, .null]))] ++ w_st b0 k0 ++ w_st b1 k0) H := hP
  have hD : va_D A ([(h0, .inr (7, [.ref (b0 0), .ref (b1 0), .int 0, .null, .null, .null, .null]))] ++ w_st b0 k0 ++ w_st b1 k0) := hD
  refine lv_aload_n hx hb (by decide +kernel : decode cX7_init 26 = .ok (.aload_n 0, 1)) rfl (lv_at hl 0 rfl) ?_
  refine lv_iconst (v := 0) hx hb (by decide +kernel : decode cX7_init 27 = .ok (.iconst 0, 1)) (by decide) ?_
  refine va_put (D := D) (ci := 7) (v := .int 0) (ty := .boolean) (C := RX7) (T := TX7) (N := 7) hx hb hts z_lays_7 tyX7 tyX7_ok nmX7 hown hK hP hD hS 0 rfl rfl 2 (by decide) (hts _ (z_m2 (i := 4) rfl rfl)) (fun _ h9 => h9) rfl (by decide +kernel) rfl rfl (Nat.le_of_ble_eq_true rfl) (by decide +kernel : decode cX7_init 28 = .ok (.putfield 19, 3)) (fun H locs hP hD hS => ?_)
  have hP : va_P D z_cl ([(h0, .inr (7, [.ref (b0 0), .ref (b1 0), .int 0, .null, .null, .null, .null]))] ++ w_st b0 k0 ++ w_st b1 k0) H := hP
  have hD : va_D A ([(h0, .inr (7, [.ref (b0 0), .ref (b1 0), .int 0, .null, .null, .null, .null]))] ++ w_st b0 k0 ++ w_st b1 k0) := hD
  refine lv_aload_n hx hb (by decide +kernel : decode cX7_init 31 = .ok (.aload_n 0, 1)) rfl (lv_at hl 0 rfl) ?_
  refine va_new (ci := 4) (fs := [.null, .null, .null, .int 0, .int 0, .int 0, .int 0, .int 0, .int 0]) (C := RX4) (T := TX4) (N := 9) hx hb hts z_lays_4 tyX4 tyX4_ok hown (hts _ (z_m1 (i := 19) rfl rfl)) (hts _ (z_m1 (i := 20) rfl rfl)) (hts _ (z_m1 (i := 2) rfl rfl)) hK hP hD hS hA rfl (fun j hj => by rcases (show j = 0 ∨ j = 1 ∨ j = 2 ∨ j = 3 ∨ j = 4 ∨ j = 5 ∨ j = 6 ∨ j = 7 ∨ j = 8 by omega) with rfl | rfl | rfl | rfl | rfl | rfl | rfl | rfl | rfl <;> rfl) (Nat.le_of_ble_eq_true rfl) (Nat.le_of_ble_eq_true rfl) (by decide +kernel : decode cX7_init 32 = .ok (.new 7, 3)) (fun q32 H hP hD hS => ?_)
  have hP : va_P D z_cl ([(h0, .inr (7, [.ref (b0 0), .ref (b1 0), .int 0, .null, .null, .null, .null]))] ++ w_st b0 k0 ++ w_st b1 k0 ++ [(q32, .inr (4, [.null, .null, .null, .int 0, .int 0, .int 0, .int 0, .int 0, .int 0]))]) H := hP
  have hD : va_D A ([(h0, .inr (7, [.ref (b0 0), .ref (b1 0), .int 0, .null, .null, .null, .null]))] ++ w_st b0 k0 ++ w_st b1 k0 ++ [(q32, .inr (4, [.null, .null, .null, .int 0, .int 0, .int 0, .int 0, .int 0, .int 0]))]) := hD
  refine W.widen (k := 43) (n := 1951) (by omega) (by omega) ?_
  refine lv_dup hx hb (by decide +kernel : decode cX7_init 35 = .ok (.dup, 1)) rfl ?_
  have hPc := va_lastP hP
  have hDc := va_lastD hD
  have hKc : va_K D z_cl [] s := hK.sub [] rfl
  have hFc := va_freeT hD hS hA
  refine va_callv (va_runIN (As := []) (rest := [.ref q32, .ref h0]) ⟨hx, hb, hml, hown, hts⟩ (i_State l D q32 H.size) ⟨va_cnB 0 hts i_gd4 rfl rfl rfl (hO.1 _ (List.mem_of_getElem? (i := 4) rfl)) (hts _ (z_m1 (i := 2) rfl rfl)) (by decide +kernel) ⟨Nat.le_of_ble_eq_true rfl, Nat.le_of_ble_eq_true rfl⟩, rfl, (hts _ (z_m1 (i := 22) rfl rfl))⟩ ⟨fun a U g mk q => by obtain ⟨q0, q1, qP, qK, qD, qO⟩ := q; exact ⟨q0, q1, qP, va_K.moved (u := U) (U := U.calling g mk a) (Vm.Alike.refl U.vm) qK, qD, i_N.same (s := U) (U := U.calling g mk a) rfl qO⟩, fun U hU hW => ⟨rfl, by rw [hU], by rw [hU]; exact hPc, va_K.moved hW.alike hKc, hDc.weaken (fun _ _ _ _ => trivial), i_N.warm hW hO⟩⟩ rfl rfl hl.1 rfl (lv_room (Nat.le_of_ble_eq_true rfl)) (by decide +kernel : decode cX7_init 36 = .ok (.invokespecial 9, 3)) ⟨Nat.le_of_ble_eq_true rfl, Nat.le_of_ble_eq_true rfl⟩) hS (fun q _ h => hFc q h) hFc (fun _ t H1 locs ht hvm _ hB hz1 hk1 hS => ?_)
  obtain ⟨b2, k2, e2, hP1, hK1, hD1⟩ := hB
  subst e2
  rw [ht] at hP1
  have hK1 := va_K.moved hvm.symm hK1
  obtain ⟨hP, hD⟩ := va_joinT hP hD hk1 hFc hP1 hD1
  generalize H1 = H at hP hS ⊢
  have hK := hK.app hK1
  have ek2 : k0 = k2 := Option.some.inj ((hK.2 0 _ rfl).2.symm.trans (hK.2 1 _ rfl).2)
  subst ek2
  have hK : va_K D z_cl [(k0, .int)] s := hK.sub [0] rfl
  refine W.widen (k := 63) (n := 2913) (by omega) (by omega) ?_
  have hP : va_P D z_cl ([(h0, .inr (7, [.ref (b0 0), .ref (b1 0), .int 0, .null, .null, .null, .null]))] ++ w_st b0 k0 ++ w_st b1 k0 ++ w_st b2 k0) H := hP
  have hD : va_D A ([(h0, .inr (7, [.ref (b0 0), .ref (b1 0), .int 0, .null, .null, .null, .null]))] ++ w_st b0 k0 ++ w_st b1 k0 ++ w_st b2 k0) := hD
  refine va_putF (D := D) (ci := 7) (v := .ref (b2 0)) (ty := .object "DeficitCircles$State") (C := RX7) (T := TX7) (N := 7) hx hb hts z_lays_7 tyX7 tyX7_ok nmX7 hown hK hP hD hS 0 rfl rfl 3 (by decide) (hts _ (z_m2 (i := 5) rfl rfl)) (fun _ h9 => h9) rfl hin rfl (by decide +kernel) rfl rfl (Nat.le_of_ble_eq_true rfl) (by decide +kernel : decode cX7_init 39 = .ok (.putfield 23, 3)) (fun H locs hP hD hS => ?_)
  have hP : va_P D z_cl ([(h0, .inr (7, [.ref (b0 0), .ref (b1 0), .int 0, .ref (b2 0), .null, .null, .null]))] ++ w_st b0 k0 ++ w_st b1 k0 ++ w_st b2 k0) H := hP
  have hD : va_D A ([(h0, .inr (7, [.ref (b0 0), .ref (b1 0), .int 0, .ref (b2 0), .null, .null, .null]))] ++ w_st b0 k0 ++ w_st b1 k0 ++ w_st b2 k0) := hD
  refine lv_aload_n hx hb (by decide +kernel : decode cX7_init 42 = .ok (.aload_n 0, 1)) rfl (lv_at hl 0 rfl) ?_
  refine va_new (ci := 2) (fs := [.int 0, .null]) (C := RX2) (T := TX2) (N := 2) hx hb hts z_lays_2 tyX2 tyX2_ok hown (hts _ (z_m1 (i := 193) rfl rfl)) (hts _ (z_m1 (i := 194) rfl rfl)) (hts _ (z_m1 (i := 6) rfl rfl)) hK hP hD hS hA rfl (fun j hj => by rcases (show j = 0 ∨ j = 1 by omega) with rfl | rfl <;> rfl) (Nat.le_of_ble_eq_true rfl) (Nat.le_of_ble_eq_true rfl) (by decide +kernel : decode cX7_init 43 = .ok (.new 26, 3)) (fun q43 H hP hD hS => ?_)
  have hP : va_P D z_cl ([(h0, .inr (7, [.ref (b0 0), .ref (b1 0), .int 0, .ref (b2 0), .null, .null, .null]))] ++ w_st b0 k0 ++ w_st b1 k0 ++ w_st b2 k0 ++ [(q43, .inr (2, [.int 0, .null]))]) H := hP
  have hD : va_D A ([(h0, .inr (7, [.ref (b0 0), .ref (b1 0), .int 0, .ref (b2 0), .null, .null, .null]))] ++ w_st b0 k0 ++ w_st b1 k0 ++ w_st b2 k0 ++ [(q43, .inr (2, [.int 0, .null]))]) := hD
  refine W.widen (k := 64) (n := 2915) (by omega) (by omega) ?_
  refine lv_dup hx hb (by decide +kernel : decode cX7_init 46 = .ok (.dup, 1)) rfl ?_
  have hPc := va_lastP hP
  have hDc := va_lastD hD
  have hKc : va_K D z_cl [] s := hK.sub [] rfl
  have hFc := va_freeT hD hS hA
  refine va_callv (va_runI (As := []) (rest := [.ref q43, .ref h0]) ⟨hx, hb, hml, hown, hts⟩ (i_History l D q43 H.size) (cwI 0 hts i_gd2 rfl rfl rfl (hts _ (z_m1 (i := 6) rfl rfl)) (hts _ (z_m1 (i := 195) rfl rfl)) (hts _ (z_m1 (i := 196) rfl rfl)) rfl (by decide +kernel) ⟨Nat.le_of_ble_eq_true rfl, Nat.le_of_ble_eq_true rfl⟩) ⟨fun a U g mk q => by obtain ⟨q0, q1, qP, qK, qD, qO⟩ := q; exact ⟨q0, q1, qP, va_K.moved (u := U) (U := U.calling g mk a) (Vm.Alike.refl U.vm) qK, qD, i_N.same (s := U) (U := U.calling g mk a) rfl qO⟩, fun U hU hW => ⟨rfl, by rw [hU], by rw [hU]; exact hPc, va_K.moved hW.alike hKc, hDc.weaken (fun _ _ _ _ => trivial), i_N.warm hW hO⟩⟩ rfl rfl hl.1 rfl (lv_room (Nat.le_of_ble_eq_true rfl)) (by decide +kernel : decode cX7_init 47 = .ok (.invokespecial 28, 3)) ⟨Nat.le_of_ble_eq_true rfl, Nat.le_of_ble_eq_true rfl⟩) hS (fun q _ h => hFc q h) hFc (fun _ t H1 locs ht hvm _ hB hz1 hk1 hS => ?_)
  obtain ⟨r, f, aH, kH, d, hf, hP1, hK1, hD1⟩ := hB
  rw [ht] at hP1
  have hK1 := va_K.moved hvm.symm hK1
  obtain ⟨hP, hD⟩ := va_joinT hP hD hk1 hFc hP1 hD1
  generalize H1 = H at hP hS ⊢
  have hK := hK.app hK1
  have ekH : k0 = kH := Option.some.inj ((hK.2 0 _ rfl).2.symm.trans (hK.2 1 _ rfl).2)
  subst ekH
  have hK : va_K D z_cl [(k0, .int), (d, .object RX4)] s := hK.sub [0, 2] rfl
  refine W.widen (k := 149) (n := 6803) (by omega) (by omega) ?_
  have hP : va_P D z_cl ([(h0, .inr (7, [.ref (b0 0), .ref (b1 0), .int 0, .ref (b2 0), .null, .null, .null]))] ++ w_st b0 k0 ++ w_st b1 k0 ++ w_st b2 k0 ++ w_hi q43 r f aH k0 d) H := hP
  have hD : va_D A ([(h0, .inr (7, [.ref (b0 0), .ref (b1 0), .int 0, .ref (b2 0), .null, .null, .null]))] ++ w_st b0 k0 ++ w_st b1 k0 ++ w_st b2 k0 ++ w_hi q43 r f aH k0 d) := hD
  refine va_putF (D := D) (ci := 7) (v := .ref (q43)) (ty := .object "DeficitCircles$History") (C := RX7) (T := TX7) (N := 7) hx hb hts z_lays_7 tyX7 tyX7_ok nmX7 hown hK hP hD hS 0 rfl rfl 4 (by decide) (hts _ (z_m2 (i := 6) rfl rfl)) (fun _ h9 => h9) rfl hin rfl (by decide +kernel) rfl rfl (Nat.le_of_ble_eq_true rfl) (by decide +kernel : decode cX7_init 50 = .ok (.putfield 29, 3)) (fun H locs hP hD hS => ?_)
  have hP : va_P D z_cl ([(h0, .inr (7, [.ref (b0 0), .ref (b1 0), .int 0, .ref (b2 0), .ref (q43), .null, .null]))] ++ w_st b0 k0 ++ w_st b1 k0 ++ w_st b2 k0 ++ w_hi q43 r f aH k0 d) H := hP
  have hD : va_D A ([(h0, .inr (7, [.ref (b0 0), .ref (b1 0), .int 0, .ref (b2 0), .ref (q43), .null, .null]))] ++ w_st b0 k0 ++ w_st b1 k0 ++ w_st b2 k0 ++ w_hi q43 r f aH k0 d) := hD
  refine lv_aload_n hx hb (by decide +kernel : decode cX7_init 53 = .ok (.aload_n 0, 1)) rfl (lv_at hl 0 rfl) ?_
  refine va_new (ci := 5) (fs := [.int 0, .null]) (C := RX5) (T := TX5) (N := 2) hx hb hts z_lays_5 tyX5 tyX5_ok hown (hts _ (z_m1 (i := 210) rfl rfl)) (hts _ (z_m1 (i := 211) rfl rfl)) (hts _ (z_m1 (i := 7) rfl rfl)) hK hP hD hS hA rfl (fun j hj => by rcases (show j = 0 ∨ j = 1 by omega) with rfl | rfl <;> rfl) (Nat.le_of_ble_eq_true rfl) (Nat.le_of_ble_eq_true rfl) (by decide +kernel : decode cX7_init 54 = .ok (.new 33, 3)) (fun q54 H hP hD hS => ?_)
  have hP : va_P D z_cl ([(h0, .inr (7, [.ref (b0 0), .ref (b1 0), .int 0, .ref (b2 0), .ref (q43), .null, .null]))] ++ w_st b0 k0 ++ w_st b1 k0 ++ w_st b2 k0 ++ w_hi q43 r f aH k0 d ++ [(q54, .inr (5, [.int 0, .null]))]) H := hP
  have hD : va_D A ([(h0, .inr (7, [.ref (b0 0), .ref (b1 0), .int 0, .ref (b2 0), .ref (q43), .null, .null]))] ++ w_st b0 k0 ++ w_st b1 k0 ++ w_st b2 k0 ++ w_hi q43 r f aH k0 d ++ [(q54, .inr (5, [.int 0, .null]))]) := hD
  refine W.widen (k := 150) (n := 6805) (by omega) (by omega) ?_
  refine lv_dup hx hb (by decide +kernel : decode cX7_init 57 = .ok (.dup, 1)) rfl ?_
  have hPc := va_lastP hP
  have hDc := va_lastD hD
  have hKc : va_K D z_cl [] s := hK.sub [] rfl
  have hFc := va_freeT hD hS hA
  refine va_callv (va_runIN (As := []) (rest := [.ref q54, .ref h0]) ⟨hx, hb, hml, hown, hts⟩ (i_Text l D q54 H.size) ⟨va_cnB 0 hts i_gd5 rfl rfl rfl (hO.1 _ (List.mem_of_getElem? (i := 5) rfl)) (hts _ (z_m1 (i := 7) rfl rfl)) (by decide +kernel) ⟨Nat.le_of_ble_eq_true rfl, Nat.le_of_ble_eq_true rfl⟩, rfl, (hts _ (z_m1 (i := 213) rfl rfl))⟩ ⟨fun a U g mk q => by obtain ⟨q0, q1, qP, qK, qD⟩ := q; exact ⟨q0, q1, qP, va_K.moved (u := U) (U := U.calling g mk a) (Vm.Alike.refl U.vm) qK, qD⟩, fun U hU hW => ⟨rfl, by rw [hU], by rw [hU]; exact hPc, va_K.moved hW.alike hKc, hDc.weaken (fun _ _ _ _ => trivial)⟩⟩ rfl rfl hl.1 rfl (lv_room (Nat.le_of_ble_eq_true rfl)) (by decide +kernel : decode cX7_init 58 = .ok (.invokespecial 35, 3)) ⟨Nat.le_of_ble_eq_true rfl, Nat.le_of_ble_eq_true rfl⟩) hS (fun q _ h => hFc q h) hFc (fun _ t H1 locs ht hvm _ hB hz1 hk1 hS => ?_)
  obtain ⟨aT, c, eT, hP1, hK1, hD1⟩ := hB
  subst eT
  rw [ht] at hP1
  have hK1 := va_K.moved hvm.symm hK1
  obtain ⟨hP, hD⟩ := va_joinT hP hD hk1 hFc hP1 hD1
  generalize H1 = H at hP hS ⊢
  have hK := hK.app hK1
  have hK : va_K D z_cl [(k0, .int), (d, .object RX4), (c, .char)] s := hK.sub [0, 1, 2] rfl
  refine W.widen (k := 151) (n := 6865) (by omega) (by omega) ?_
  have hP : va_P D z_cl ([(h0, .inr (7, [.ref (b0 0), .ref (b1 0), .int 0, .ref (b2 0), .ref (q43), .null, .null]))] ++ w_st b0 k0 ++ w_st b1 k0 ++ w_st b2 k0 ++ w_hi q43 r f aH k0 d ++ w_te aT c) H := hP
  have hD : va_D A ([(h0, .inr (7, [.ref (b0 0), .ref (b1 0), .int 0, .ref (b2 0), .ref (q43), .null, .null]))] ++ w_st b0 k0 ++ w_st b1 k0 ++ w_st b2 k0 ++ w_hi q43 r f aH k0 d ++ w_te aT c) := hD
  refine va_putF (D := D) (ci := 7) (v := .ref (aT 24)) (ty := .object "DeficitCircles$Text") (C := RX7) (T := TX7) (N := 7) hx hb hts z_lays_7 tyX7 tyX7_ok nmX7 hown hK hP hD hS 0 rfl rfl 5 (by decide) (hts _ (z_m2 (i := 7) rfl rfl)) (fun _ h9 => h9) rfl hin rfl (by decide +kernel) rfl rfl (Nat.le_of_ble_eq_true rfl) (by decide +kernel : decode cX7_init 61 = .ok (.putfield 36, 3)) (fun H locs hP hD hS => ?_)
  have hP : va_P D z_cl ([(h0, .inr (7, [.ref (b0 0), .ref (b1 0), .int 0, .ref (b2 0), .ref (q43), .ref (aT 24), .null]))] ++ w_st b0 k0 ++ w_st b1 k0 ++ w_st b2 k0 ++ w_hi q43 r f aH k0 d ++ w_te aT c) H := hP
  have hD : va_D A ([(h0, .inr (7, [.ref (b0 0), .ref (b1 0), .int 0, .ref (b2 0), .ref (q43), .ref (aT 24), .null]))] ++ w_st b0 k0 ++ w_st b1 k0 ++ w_st b2 k0 ++ w_hi q43 r f aH k0 d ++ w_te aT c) := hD
  refine lv_aload_n hx hb (by decide +kernel : decode cX7_init 64 = .ok (.aload_n 0, 1)) rfl (lv_at hl 0 rfl) ?_
  refine va_new (ci := 6) (fs := [.null, .null, .null]) (C := RX6) (T := TX6) (N := 3) hx hb hts z_lays_6 tyX6 tyX6_ok hown (hts _ (z_m1 (i := 225) rfl rfl)) (hts _ (z_m1 (i := 226) rfl rfl)) (hts _ (z_m1 (i := 8) rfl rfl)) hK hP hD hS hA rfl (fun j hj => by rcases (show j = 0 ∨ j = 1 ∨ j = 2 by omega) with rfl | rfl | rfl <;> rfl) (Nat.le_of_ble_eq_true rfl) (Nat.le_of_ble_eq_true rfl) (by decide +kernel : decode cX7_init 65 = .ok (.new 40, 3)) (fun q65 H hP hD hS => ?_)
  have hP : va_P D z_cl ([(h0, .inr (7, [.ref (b0 0), .ref (b1 0), .int 0, .ref (b2 0), .ref (q43), .ref (aT 24), .null]))] ++ w_st b0 k0 ++ w_st b1 k0 ++ w_st b2 k0 ++ w_hi q43 r f aH k0 d ++ w_te aT c ++ [(q65, .inr (6, [.null, .null, .null]))]) H := hP
  have hD : va_D A ([(h0, .inr (7, [.ref (b0 0), .ref (b1 0), .int 0, .ref (b2 0), .ref (q43), .ref (aT 24), .null]))] ++ w_st b0 k0 ++ w_st b1 k0 ++ w_st b2 k0 ++ w_hi q43 r f aH k0 d ++ w_te aT c ++ [(q65, .inr (6, [.null, .null, .null]))]) := hD
  refine W.widen (k := 152) (n := 6868) (by omega) (by omega) ?_
  refine lv_dup hx hb (by decide +kernel : decode cX7_init 68 = .ok (.dup, 1)) rfl ?_
  have hPc := va_lastP hP
  have hDc := va_lastD hD
  have hKc : va_K D z_cl [] s := hK.sub [] rfl
  have hFc := va_freeT hD hS hA
  refine va_callv (va_runIN (As := []) (rest := [.ref q65, .ref h0]) ⟨hx, hb, hml, hown, hts⟩ (i_Turns l D q65 H.size) ⟨va_cnB 0 hts i_gd6 rfl rfl rfl (hO.1 _ (List.mem_of_getElem? (i := 6) rfl)) (hts _ (z_m1 (i := 8) rfl rfl)) (by decide +kernel) ⟨Nat.le_of_ble_eq_true rfl, Nat.le_of_ble_eq_true rfl⟩, rfl, (hts _ (z_m1 (i := 228) rfl rfl))⟩ ⟨fun a U g mk q => by obtain ⟨q0, q1, qP, qK, qD⟩ := q; exact ⟨q0, q1, qP, va_K.moved (u := U) (U := U.calling g mk a) (Vm.Alike.refl U.vm) qK, qD⟩, fun U hU hW => ⟨rfl, by rw [hU], by rw [hU]; exact hPc, va_K.moved hW.alike hKc, hDc.weaken (fun _ _ _ _ => trivial)⟩⟩ rfl rfl hl.1 rfl (lv_room (Nat.le_of_ble_eq_true rfl)) (by decide +kernel : decode cX7_init 69 = .ok (.invokespecial 42, 3)) ⟨Nat.le_of_ble_eq_true rfl, Nat.le_of_ble_eq_true rfl⟩) hS (fun q _ h => hFc q h) hFc (fun _ t H1 locs ht hvm _ hB hz1 hk1 hS => ?_)
  obtain ⟨aU, kU, b, eU, hP1, hK1, hD1⟩ := hB
  subst eU
  rw [ht] at hP1
  have hK1 := va_K.moved hvm.symm hK1
  obtain ⟨hP, hD⟩ := va_joinT hP hD hk1 hFc hP1 hD1
  generalize H1 = H at hP hS ⊢
  have hK := hK.app hK1
  have ekU : k0 = kU := Option.some.inj ((hK.2 0 _ rfl).2.symm.trans (hK.2 3 _ rfl).2)
  subst ekU
  have hK : va_K D z_cl [(k0, .int), (d, .object RX4), (c, .char), (b, .boolean)] s := hK.sub [0, 1, 2, 4] rfl
  refine W.widen (k := 155) (n := 6882) (by omega) (by omega) ?_
  have hP : va_P D z_cl ([(h0, .inr (7, [.ref (b0 0), .ref (b1 0), .int 0, .ref (b2 0), .ref (q43), .ref (aT 24), .null]))] ++ w_st b0 k0 ++ w_st b1 k0 ++ w_st b2 k0 ++ w_hi q43 r f aH k0 d ++ w_te aT c ++ w_tu aU k0 b) H := hP
  have hD : va_D A ([(h0, .inr (7, [.ref (b0 0), .ref (b1 0), .int 0, .ref (b2 0), .ref (q43), .ref (aT 24), .null]))] ++ w_st b0 k0 ++ w_st b1 k0 ++ w_st b2 k0 ++ w_hi q43 r f aH k0 d ++ w_te aT c ++ w_tu aU k0 b) := hD
  refine va_putF (D := D) (ci := 7) (v := .ref (aU 26)) (ty := .object "DeficitCircles$Turns") (C := RX7) (T := TX7) (N := 7) hx hb hts z_lays_7 tyX7 tyX7_ok nmX7 hown hK hP hD hS 0 rfl rfl 6 (by decide) (hts _ (z_m2 (i := 8) rfl rfl)) (fun _ h9 => h9) rfl hin rfl (by decide +kernel) rfl rfl (Nat.le_of_ble_eq_true rfl) (by decide +kernel : decode cX7_init 72 = .ok (.putfield 43, 3)) (fun H locs hP hD hS => ?_)
  have hP : va_P D z_cl ([(h0, .inr (7, [.ref (b0 0), .ref (b1 0), .int 0, .ref (b2 0), .ref (q43), .ref (aT 24), .ref (aU 26)]))] ++ w_st b0 k0 ++ w_st b1 k0 ++ w_st b2 k0 ++ w_hi q43 r f aH k0 d ++ w_te aT c ++ w_tu aU k0 b) H := hP
  have hD : va_D A ([(h0, .inr (7, [.ref (b0 0), .ref (b1 0), .int 0, .ref (b2 0), .ref (q43), .ref (aT 24), .ref (aU 26)]))] ++ w_st b0 k0 ++ w_st b1 k0 ++ w_st b2 k0 ++ w_hi q43 r f aH k0 d ++ w_te aT c ++ w_tu aU k0 b) := hD
  have hK : va_K D z_cl [(k0, .int), (d, .object RX4), (c, .char), (b, .boolean)] s := hK.sub [0, 1, 2, 3] rfl
  have hf2 : ∀ j, j < 4 → f j = some ((fun i : Nat => if i = 0 then b0 else if i = 1 then b1 else if i = 2 then b2 else if i = 7 then (fun o : Nat => if o = 0 then h0 else if o = 1 then q43 else if o = 2 then r else if o = 3 then aT 24 else if o = 4 then aT 25 else if o = 5 then aU 26 else if o = 6 then aU 27 else if o = 7 then aU 28 else if o = 8 then aU 29 else 0) else aH i) (3 + j) 0) := fun j hj => by
    rcases (show j = 0 ∨ j = 1 ∨ j = 2 ∨ j = 3 by omega) with rfl | rfl | rfl | rfl <;> exact hf _ (by decide)
  have hP9 : va_P D z_cl (w_ma (fun i : Nat => if i = 0 then b0 else if i = 1 then b1 else if i = 2 then b2 else if i = 7 then (fun o : Nat => if o = 0 then h0 else if o = 1 then q43 else if o = 2 then r else if o = 3 then aT 24 else if o = 4 then aT 25 else if o = 5 then aU 26 else if o = 6 then aU 27 else if o = 7 then aU 28 else if o = 8 then aU 29 else 0) else aH i) f k0 d c b) H := hP
  have hD9 : va_D A (w_ma (fun i : Nat => if i = 0 then b0 else if i = 1 then b1 else if i = 2 then b2 else if i = 7 then (fun o : Nat => if o = 0 then h0 else if o = 1 then q43 else if o = 2 then r else if o = 3 then aT 24 else if o = 4 then aT 25 else if o = 5 then aU 26 else if o = 6 then aU 27 else if o = 7 then aU 28 else if o = 8 then aU 29 else 0) else aH i) f k0 d c b) := hD
  refine W.widen (k := 155) (n := 6882) (by omega) (by omega) ?_
  exact W.vret hx hb hr (fun t ht hW => ⟨⟨(), rfl, trivial, (fun i : Nat => if i = 0 then b0 else if i = 1 then b1 else if i = 2 then b2 else if i = 7 then (fun o : Nat => if o = 0 then h0 else if o = 1 then q43 else if o = 2 then r else if o = 3 then aT 24 else if o = 4 then aT 25 else if o = 5 then aU 26 else if o = 6 then aU 27 else if o = 7 then aU 28 else if o = 8 then aU 29 else 0) else aH i), f, k0, d, c, b, ⟨rfl, hf2⟩, by rw [ht]; exact hP9, va_K.moved hW.alike hK, hD9⟩, hS.F ht⟩) hS.2.2 (by decide +kernel : decode cX7_init 75 = .ok (.return_, 1))
