/-! constructors that make objects; by gen_init.py -/
def i_nest : List Cond := [.methodLinkNest RX4 11 yX1_init RX7, .methodLinkNest RX4 20 yX0_init RX7, .methodLinkNest RX4 27 yX3_init RX7, .methodLinkNest RX2 21 yX4_init RX7, .methodLinkNest RX7 9 yX4_init RX7, .methodLinkNest RX7 35 yX5_init RX7, .methodLinkNest RX7 42 yX6_init RX7]
/-- what the calls of private constructors, and the making of an array of states, take of the tables -/
def i_N (U : State) : Prop := (∀ w ∈ i_nest, va_Nw w U) ∧ va_AO RX4 U
theorem i_N.warm {s U : State} (hW : s.WarmedH U.vm) (h : i_N s) : i_N U := by
  refine ⟨fun w hw => ?_, va_AO.moved hW.alike h.2⟩
  have h1 := h.1 w hw
  unfold i_nest at hw
  simp only [List.mem_cons, List.not_mem_nil, or_false] at hw
  rcases hw with rfl | rfl | rfl | rfl | rfl | rfl | rfl <;> exact va_Nw.warmM hW h1
theorem i_N.same {s U : State} (hv : s.vm = U.vm) (h : i_N s) : i_N U := by
  refine ⟨fun w hw => ?_, va_AO.moved (hv ▸ Vm.Alike.refl _) h.2⟩
  have h1 := h.1 w hw
  unfold i_nest at hw
  simp only [List.mem_cons, List.not_mem_nil, or_false] at hw
  rcases hw with rfl | rfl | rfl | rfl | rfl | rfl | rfl <;> exact va_Nw.same rfl hv h1
def w_st (a : Nat → Nat) (c : ClassId) : va_W := [(a 0, .inr (4, [.ref (a 1), .ref (a 2), .ref (a 3), .int 0, .int (-5), .int (-5), .int 0, .int 0, .int 0]))] ++ w_gr a c ++ w_cl a c ++ w_jo a c
set_option maxHeartbeats 4000000 in
set_option maxRecDepth 100000 in
theorem i_State (l : Launch) (D : va_G) (h0 sz : Nat) : Met l yX4_init (Cond.code yX4_init cX4_init 1 none :: z_G) ({ frames := 2, cells := 20, slots := 962, locals := 32 }) (va_Pc [.ref h0] (fun U => U.heap.size = sz ∧ va_P D z_cl [(h0, .inr (4, [.null, .null, .null, .int 0, .int 0, .int 0, .int 0, .int 0, .int 0]))] U.heap ∧ va_K D z_cl [] U ∧ va_D (fun _ => True) [(h0, .inr (4, [.null, .null, .null, .int 0, .int 0, .int 0, .int 0, .int 0, .int 0]))] ∧ i_N U))
    (va_Qv (fun _ : Unit => True) (fun _ t => ∃ (a : Nat → Nat) (k : ClassId), a 0 = h0 ∧ va_P D z_cl (w_st a k) t.heap ∧ va_K D z_cl [(k, .int)] t ∧ va_D (va_A [(h0, .inr (4, [.null, .null, .null, .int 0, .int 0, .int 0, .int 0, .int 0, .int 0]))] sz) (w_st a k)) (va_A [(h0, .inr (4, [.null, .null, .null, .int 0, .int 0, .int 0, .int 0, .int 0, .int 0]))] sz)) 20 962 (va_A [(h0, .inr (4, [.null, .null, .null, .int 0, .int 0, .int 0, .int 0, .int 0, .int 0]))] sz) := by
  refine Met.ofW (cc := cX4_init) (maxL := 1) (ret := none) (by decide) rfl ?_
  intro p e s m args below meth c s₁ B hml hv
  obtain ⟨rfl, hsz, hP, hK, hD0, hO⟩ := hv
  have hx := B.exec
  have hb := B.bytes
  have hr := B.returns
  have hts0 := atoms_spec (ws := Cond.code yX4_init cX4_init 1 none :: z_G) B.pre
  have hts : ∀ w ∈ z_G, w.before ([Value.ref h0].toArray) s = true := fun w hw => hts0 w (List.mem_cons_of_mem _ hw)
  have hown : s.vm.findClass RX4 = some m.cls := findClass_of_methodNamed B.named
  have hlocks := B.notSynchronized
  have hin : meth.name = "<init>" := (name_of_methodNamed B.named B.method).1
  subst hsz
  have hD := hD0.self (sz := s.heap.size)
  generalize hAe : va_A [(h0, .inr (4, [.null, .null, .null, .int 0, .int 0, .int 0, .int 0, .int 0, .int 0]))] s.heap.size = A at hD ⊢
  have hA : ∀ q : Nat, s.heap.size ≤ q → A q := fun q h => by rw [← hAe]; exact Or.inr h
  have hS : va_S A s.heap s.heap [] := va_S.rf
  have hl := lv_entry ([.ref h0]) (n := 1) (Nat.le_of_ble_eq_true rfl)
  rw [lg_entry_eq]
  generalize (lg_sl ([.ref h0]) ++ List.replicate (1 - (lg_sl ([.ref h0])).length) Slot.unset).toArray = ls at hl ⊢
  have hl : lv_has ls 1 [(0, .ref h0)] := hl
  refine lv_aload_n hx hb (by decide +kernel : decode cX4_init 0 = .ok (.aload_n 0, 1)) rfl (lv_at hl 0 rfl) ?_
  refine W.objInit hx hb hown (hts _ (z_m1 (i := 24) rfl rfl)) (hts _ (z_m1 (i := 17) rfl rfl)) (hts _ (z_m1 (i := 18) rfl rfl)) rfl (by rw [hml]; exact hl.1) rfl (by decide +kernel : decode cX4_init 1 = .ok (.invokespecial 3, 3)) (Nat.le_of_ble_eq_true rfl) (Nat.le_of_ble_eq_true rfl) ?_
  refine W.eq (g2 := F0 m 4 ls []) rfl ?_
  refine lv_aload_n hx hb (by decide +kernel : decode cX4_init 4 = .ok (.aload_n 0, 1)) rfl (lv_at hl 0 rfl) ?_
  refine va_new (ci := 1) (fs := [.int 0, .null, .null, .null]) (C := RX1) (T := TX1) (N := 4) hx hb hts z_lays_1 tyX1 tyX1_ok hown (hts _ (z_m1 (i := 25) rfl rfl)) (hts _ (z_m1 (i := 26) rfl rfl)) (hts _ (z_m1 (i := 3) rfl rfl)) hK hP hD hS hA rfl (fun j hj => by rcases (show j = 0 ∨ j = 1 ∨ j = 2 ∨ j = 3 by omega) with rfl | rfl | rfl | rfl <;> rfl) (Nat.le_of_ble_eq_true rfl) (Nat.le_of_ble_eq_true rfl) (by decide +kernel : decode cX4_init 5 = .ok (.new 9, 3)) (fun q5 H hP hD hS => ?_)
  have hP : va_P D z_cl ([(h0, .inr (4, [.null, .null, .null, .int 0, .int 0, .int 0, .int 0, .int 0, .int 0]))] ++ [(q5, .inr (1, [.int 0, .null, .null, .null]))]) H := hP
  have hD : va_D A ([(h0, .inr (4, [.null, .null, .null, .int 0, .int 0, .int 0, .int 0, .int 0, .int 0]))] ++ [(q5, .inr (1, [.int 0, .null, .null, .null]))]) := hD
  refine W.widen (k := 1) (n := 4) (by omega) (by omega) ?_
  refine lv_dup hx hb (by decide +kernel : decode cX4_init 8 = .ok (.dup, 1)) rfl ?_
  have hPc := va_lastP hP
  have hDc := va_lastD hD
  have hKc : va_K D z_cl [] s := hK.sub [] rfl
  have hFc := va_freeT hD hS hA
  refine va_callv (va_runIN (As := []) (rest := [.ref q5, .ref h0]) ⟨hx, hb, hml, hown, hts⟩ (i_Groups l D q5 H.size) ⟨va_cnB 0 hts i_gd1 rfl rfl rfl (hO.1 _ (List.mem_of_getElem? (i := 0) rfl)) (hts _ (z_m1 (i := 3) rfl rfl)) (by decide +kernel) ⟨Nat.le_of_ble_eq_true rfl, Nat.le_of_ble_eq_true rfl⟩, rfl, (hts _ (z_m1 (i := 28) rfl rfl))⟩ ⟨fun a U g mk q => by obtain ⟨q0, q1, qP, qK, qD⟩ := q; exact ⟨q0, q1, qP, va_K.moved (u := U) (U := U.calling g mk a) (Vm.Alike.refl U.vm) qK, qD⟩, fun U hU hW => ⟨rfl, by rw [hU], by rw [hU]; exact hPc, va_K.moved hW.alike hKc, hDc.weaken (fun _ _ _ _ => trivial)⟩⟩ rfl rfl hl.1 rfl (lv_room (Nat.le_of_ble_eq_true rfl)) (by decide +kernel : decode cX4_init 9 = .ok (.invokespecial 11, 3)) ⟨Nat.le_of_ble_eq_true rfl, Nat.le_of_ble_eq_true rfl⟩) hS (fun q _ h => hFc q h) hFc (fun _ t H1 locs ht hvm _ hB hz1 hk1 hS => ?_)
  obtain ⟨a1, ka1, ea1, hP1, hK1, hD1⟩ := hB
  subst ea1
  rw [ht] at hP1
  have hK1 := va_K.moved hvm.symm hK1
  obtain ⟨hP, hD⟩ := va_joinT hP hD hk1 hFc hP1 hD1
  generalize H1 = H at hP hS ⊢
  have hK := hK.app hK1
  have hK : va_K D z_cl [(ka1, .int)] s := hK.sub [0] rfl
  refine W.widen (k := 4) (n := 13) (by omega) (by omega) ?_
  have hP : va_P D z_cl ([(h0, .inr (4, [.null, .null, .null, .int 0, .int 0, .int 0, .int 0, .int 0, .int 0]))] ++ w_gr a1 ka1) H := hP
  have hD : va_D A ([(h0, .inr (4, [.null, .null, .null, .int 0, .int 0, .int 0, .int 0, .int 0, .int 0]))] ++ w_gr a1 ka1) := hD
  refine va_putF (D := D) (ci := 4) (v := .ref (a1 1)) (ty := .object "DeficitCircles$Groups") (C := RX4) (T := TX4) (N := 9) hx hb hts z_lays_4 tyX4 tyX4_ok nmX4 hown hK hP hD hS 0 rfl rfl 0 (by decide) (hts _ (z_m1 (i := 152) rfl rfl)) (fun _ h9 => h9) rfl hin rfl (by decide +kernel) rfl rfl (Nat.le_of_ble_eq_true rfl) (by decide +kernel : decode cX4_init 12 = .ok (.putfield 12, 3)) (fun H locs hP hD hS => ?_)
  have hP : va_P D z_cl ([(h0, .inr (4, [.ref (a1 1), .null, .null, .int 0, .int 0, .int 0, .int 0, .int 0, .int 0]))] ++ w_gr a1 ka1) H := hP
  have hD : va_D A ([(h0, .inr (4, [.ref (a1 1), .null, .null, .int 0, .int 0, .int 0, .int 0, .int 0, .int 0]))] ++ w_gr a1 ka1) := hD
  refine lv_aload_n hx hb (by decide +kernel : decode cX4_init 15 = .ok (.aload_n 0, 1)) rfl (lv_at hl 0 rfl) ?_
  refine va_new (ci := 0) (fs := [.int 0, .null, .null, .null, .null, .null, .null, .null, .null, .null]) (C := RX0) (T := TX0) (N := 10) hx hb hts z_lays_0 tyX0 tyX0_ok hown (hts _ (z_m1 (i := 54) rfl rfl)) (hts _ (z_m1 (i := 55) rfl rfl)) (hts _ (z_m1 (i := 4) rfl rfl)) hK hP hD hS hA rfl (fun j hj => by rcases (show j = 0 ∨ j = 1 ∨ j = 2 ∨ j = 3 ∨ j = 4 ∨ j = 5 ∨ j = 6 ∨ j = 7 ∨ j = 8 ∨ j = 9 by omega) with rfl | rfl | rfl | rfl | rfl | rfl | rfl | rfl | rfl | rfl <;> rfl) (Nat.le_of_ble_eq_true rfl) (Nat.le_of_ble_eq_true rfl) (by decide +kernel : decode cX4_init 16 = .ok (.new 18, 3)) (fun q16 H hP hD hS => ?_)
  have hP : va_P D z_cl ([(h0, .inr (4, [.ref (a1 1), .null, .null, .int 0, .int 0, .int 0, .int 0, .int 0, .int 0]))] ++ w_gr a1 ka1 ++ [(q16, .inr (0, [.int 0, .null, .null, .null, .null, .null, .null, .null, .null, .null]))]) H := hP
  have hD : va_D A ([(h0, .inr (4, [.ref (a1 1), .null, .null, .int 0, .int 0, .int 0, .int 0, .int 0, .int 0]))] ++ w_gr a1 ka1 ++ [(q16, .inr (0, [.int 0, .null, .null, .null, .null, .null, .null, .null, .null, .null]))]) := hD
  refine W.widen (k := 5) (n := 23) (by omega) (by omega) ?_
  refine lv_dup hx hb (by decide +kernel : decode cX4_init 19 = .ok (.dup, 1)) rfl ?_
  have hPc := va_lastP hP
  have hDc := va_lastD hD
  have hKc : va_K D z_cl [] s := hK.sub [] rfl
  have hFc := va_freeT hD hS hA
  refine va_callv (va_runIN (As := []) (rest := [.ref q16, .ref h0]) ⟨hx, hb, hml, hown, hts⟩ (i_Classes l D q16 H.size) ⟨va_cnB 0 hts i_gd0 rfl rfl rfl (hO.1 _ (List.mem_of_getElem? (i := 1) rfl)) (hts _ (z_m1 (i := 4) rfl rfl)) (by decide +kernel) ⟨Nat.le_of_ble_eq_true rfl, Nat.le_of_ble_eq_true rfl⟩, rfl, (hts _ (z_m1 (i := 57) rfl rfl))⟩ ⟨fun a U g mk q => by obtain ⟨q0, q1, qP, qK, qD⟩ := q; exact ⟨q0, q1, qP, va_K.moved (u := U) (U := U.calling g mk a) (Vm.Alike.refl U.vm) qK, qD⟩, fun U hU hW => ⟨rfl, by rw [hU], by rw [hU]; exact hPc, va_K.moved hW.alike hKc, hDc.weaken (fun _ _ _ _ => trivial)⟩⟩ rfl rfl hl.1 rfl (lv_room (Nat.le_of_ble_eq_true rfl)) (by decide +kernel : decode cX4_init 20 = .ok (.invokespecial 20, 3)) ⟨Nat.le_of_ble_eq_true rfl, Nat.le_of_ble_eq_true rfl⟩) hS (fun q _ h => hFc q h) hFc (fun _ t H1 locs ht hvm _ hB hz1 hk1 hS => ?_)
  obtain ⟨a2, ka2, ea2, hP1, hK1, hD1⟩ := hB
  subst ea2
  rw [ht] at hP1
  have hK1 := va_K.moved hvm.symm hK1
  obtain ⟨hP, hD⟩ := va_joinT hP hD hk1 hFc hP1 hD1
  generalize H1 = H at hP hS ⊢
  have hK := hK.app hK1
  have eka2 : ka1 = ka2 := Option.some.inj ((hK.2 0 _ rfl).2.symm.trans (hK.2 1 _ rfl).2)
  subst eka2
  have hK : va_K D z_cl [(ka1, .int)] s := hK.sub [0] rfl
  refine W.widen (k := 14) (n := 95) (by omega) (by omega) ?_
  have hP : va_P D z_cl ([(h0, .inr (4, [.ref (a1 1), .null, .null, .int 0, .int 0, .int 0, .int 0, .int 0, .int 0]))] ++ w_gr a1 ka1 ++ w_cl a2 ka1) H := hP
  have hD : va_D A ([(h0, .inr (4, [.ref (a1 1), .null, .null, .int 0, .int 0, .int 0, .int 0, .int 0, .int 0]))] ++ w_gr a1 ka1 ++ w_cl a2 ka1) := hD
  refine va_putF (D := D) (ci := 4) (v := .ref (a2 2)) (ty := .object "DeficitCircles$Classes") (C := RX4) (T := TX4) (N := 9) hx hb hts z_lays_4 tyX4 tyX4_ok nmX4 hown hK hP hD hS 0 rfl rfl 1 (by decide) (hts _ (z_m1 (i := 155) rfl rfl)) (fun _ h9 => h9) rfl hin rfl (by decide +kernel) rfl rfl (Nat.le_of_ble_eq_true rfl) (by decide +kernel : decode cX4_init 23 = .ok (.putfield 21, 3)) (fun H locs hP hD hS => ?_)
  have hP : va_P D z_cl ([(h0, .inr (4, [.ref (a1 1), .ref (a2 2), .null, .int 0, .int 0, .int 0, .int 0, .int 0, .int 0]))] ++ w_gr a1 ka1 ++ w_cl a2 ka1) H := hP
  have hD : va_D A ([(h0, .inr (4, [.ref (a1 1), .ref (a2 2), .null, .int 0, .int 0, .int 0, .int 0, .int 0, .int 0]))] ++ w_gr a1 ka1 ++ w_cl a2 ka1) := hD
  refine lv_aload_n hx hb (by decide +kernel : decode cX4_init 26 = .ok (.aload_n 0, 1)) rfl (lv_at hl 0 rfl) ?_
  refine va_new (ci := 3) (fs := [.int 0, .null, .null, .null, .null, .int 0, .null]) (C := RX3) (T := TX3) (N := 7) hx hb hts z_lays_3 tyX3 tyX3_ok hown (hts _ (z_m1 (i := 109) rfl rfl)) (hts _ (z_m1 (i := 110) rfl rfl)) (hts _ (z_m1 (i := 5) rfl rfl)) hK hP hD hS hA rfl (fun j hj => by rcases (show j = 0 ∨ j = 1 ∨ j = 2 ∨ j = 3 ∨ j = 4 ∨ j = 5 ∨ j = 6 by omega) with rfl | rfl | rfl | rfl | rfl | rfl | rfl <;> rfl) (Nat.le_of_ble_eq_true rfl) (Nat.le_of_ble_eq_true rfl) (by decide +kernel : decode cX4_init 27 = .ok (.new 25, 3)) (fun q27 H hP hD hS => ?_)
  have hP : va_P D z_cl ([(h0, .inr (4, [.ref (a1 1), .ref (a2 2), .null, .int 0, .int 0, .int 0, .int 0, .int 0, .int 0]))] ++ w_gr a1 ka1 ++ w_cl a2 ka1 ++ [(q27, .inr (3, [.int 0, .null, .null, .null, .null, .int 0, .null]))]) H := hP
  have hD : va_D A ([(h0, .inr (4, [.ref (a1 1), .ref (a2 2), .null, .int 0, .int 0, .int 0, .int 0, .int 0, .int 0]))] ++ w_gr a1 ka1 ++ w_cl a2 ka1 ++ [(q27, .inr (3, [.int 0, .null, .null, .null, .null, .int 0, .null]))]) := hD
  refine W.widen (k := 15) (n := 102) (by omega) (by omega) ?_
  refine lv_dup hx hb (by decide +kernel : decode cX4_init 30 = .ok (.dup, 1)) rfl ?_
  have hPc := va_lastP hP
  have hDc := va_lastD hD
  have hKc : va_K D z_cl [] s := hK.sub [] rfl
  have hFc := va_freeT hD hS hA
  refine va_callv (va_runIN (As := []) (rest := [.ref q27, .ref h0]) ⟨hx, hb, hml, hown, hts⟩ (i_Jobs l D q27 H.size) ⟨va_cnB 0 hts i_gd3 rfl rfl rfl (hO.1 _ (List.mem_of_getElem? (i := 2) rfl)) (hts _ (z_m1 (i := 5) rfl rfl)) (by decide +kernel) ⟨Nat.le_of_ble_eq_true rfl, Nat.le_of_ble_eq_true rfl⟩, rfl, (hts _ (z_m1 (i := 112) rfl rfl))⟩ ⟨fun a U g mk q => by obtain ⟨q0, q1, qP, qK, qD⟩ := q; exact ⟨q0, q1, qP, va_K.moved (u := U) (U := U.calling g mk a) (Vm.Alike.refl U.vm) qK, qD⟩, fun U hU hW => ⟨rfl, by rw [hU], by rw [hU]; exact hPc, va_K.moved hW.alike hKc, hDc.weaken (fun _ _ _ _ => trivial)⟩⟩ rfl rfl hl.1 rfl (lv_room (Nat.le_of_ble_eq_true rfl)) (by decide +kernel : decode cX4_init 31 = .ok (.invokespecial 27, 3)) ⟨Nat.le_of_ble_eq_true rfl, Nat.le_of_ble_eq_true rfl⟩) hS (fun q _ h => hFc q h) hFc (fun _ t H1 locs ht hvm _ hB hz1 hk1 hS => ?_)
  obtain ⟨a3, ka3, ea3, hP1, hK1, hD1⟩ := hB
  subst ea3
  rw [ht] at hP1
  have hK1 := va_K.moved hvm.symm hK1
  obtain ⟨hP, hD⟩ := va_joinT hP hD hk1 hFc hP1 hD1
  generalize H1 = H at hP hS ⊢
  have hK := hK.app hK1
  have eka3 : ka1 = ka3 := Option.some.inj ((hK.2 0 _ rfl).2.symm.trans (hK.2 1 _ rfl).2)
  subst eka3
  have hK : va_K D z_cl [(ka1, .int)] s := hK.sub [0] rfl
  refine W.widen (k := 20) (n := 962) (by omega) (by omega) ?_
  have hP : va_P D z_cl ([(h0, .inr (4, [.ref (a1 1), .ref (a2 2), .null, .int 0, .int 0, .int 0, .int 0, .int 0, .int 0]))] ++ w_gr a1 ka1 ++ w_cl a2 ka1 ++ w_jo a3 ka1) H := hP
  have hD : va_D A ([(h0, .inr (4, [.ref (a1 1), .ref (a2 2), .null, .int 0, .int 0, .int 0, .int 0, .int 0, .int 0]))] ++ w_gr a1 ka1 ++ w_cl a2 ka1 ++ w_jo a3 ka1) := hD
  refine va_putF (D := D) (ci := 4) (v := .ref (a3 3)) (ty := .object "DeficitCircles$Jobs") (C := RX4) (T := TX4) (N := 9) hx hb hts z_lays_4 tyX4 tyX4_ok nmX4 hown hK hP hD hS 0 rfl rfl 2 (by decide) (hts _ (z_m1 (i := 158) rfl rfl)) (fun _ h9 => h9) rfl hin rfl (by decide +kernel) rfl rfl (Nat.le_of_ble_eq_true rfl) (by decide +kernel : decode cX4_init 34 = .ok (.putfield 28, 3)) (fun H locs hP hD hS => ?_)
  have hP : va_P D z_cl ([(h0, .inr (4, [.ref (a1 1), .ref (a2 2), .ref (a3 3), .int 0, .int 0, .int 0, .int 0, .int 0, .int 0]))] ++ w_gr a1 ka1 ++ w_cl a2 ka1 ++ w_jo a3 ka1) H := hP
  have hD : va_D A ([(h0, .inr (4, [.ref (a1 1), .ref (a2 2), .ref (a3 3), .int 0, .int 0, .int 0, .int 0, .int 0, .int 0]))] ++ w_gr a1 ka1 ++ w_cl a2 ka1 ++ w_jo a3 ka1) := hD
  refine lv_aload_n hx hb (by decide +kernel : decode cX4_init 37 = .ok (.aload_n 0, 1)) rfl (lv_at hl 0 rfl) ?_
  refine lv_iconst (v := 0) hx hb (by decide +kernel : decode cX4_init 38 = .ok (.iconst 0, 1)) (by decide) ?_
  refine va_put (D := D) (ci := 4) (v := .int 0) (ty := .int) (C := RX4) (T := TX4) (N := 9) hx hb hts z_lays_4 tyX4 tyX4_ok nmX4 hown hK hP hD hS 0 rfl rfl 3 (by decide) (hts _ (z_m1 (i := 161) rfl rfl)) (fun _ h9 => h9) rfl (by decide +kernel) rfl rfl (Nat.le_of_ble_eq_true rfl) (by decide +kernel : decode cX4_init 39 = .ok (.putfield 32, 3)) (fun H locs hP hD hS => ?_)
  have hP : va_P D z_cl ([(h0, .inr (4, [.ref (a1 1), .ref (a2 2), .ref (a3 3), .int 0, .int 0, .int 0, .int 0, .int 0, .int 0]))] ++ w_gr a1 ka1 ++ w_cl a2 ka1 ++ w_jo a3 ka1) H := hP
  have hD : va_D A ([(h0, .inr (4, [.ref (a1 1), .ref (a2 2), .ref (a3 3), .int 0, .int 0, .int 0, .int 0, .int 0, .int 0]))] ++ w_gr a1 ka1 ++ w_cl a2 ka1 ++ w_jo a3 ka1) := hD
  refine lv_aload_n hx hb (by decide +kernel : decode cX4_init 42 = .ok (.aload_n 0, 1)) rfl (lv_at hl 0 rfl) ?_
  refine lv_bipush (v := (-5)) hx hb (by decide +kernel : decode cX4_init 43 = .ok (.bipush (-5), 2)) (by decide) ?_
  refine va_put (D := D) (ci := 4) (v := .int (-5)) (ty := .int) (C := RX4) (T := TX4) (N := 9) hx hb hts z_lays_4 tyX4 tyX4_ok nmX4 hown hK hP hD hS 0 rfl rfl 4 (by decide) (hts _ (z_m1 (i := 163) rfl rfl)) (fun _ h9 => h9) rfl (by decide +kernel) rfl rfl (Nat.le_of_ble_eq_true rfl) (by decide +kernel : decode cX4_init 45 = .ok (.putfield 36, 3)) (fun H locs hP hD hS => ?_)
  have hP : va_P D z_cl ([(h0, .inr (4, [.ref (a1 1), .ref (a2 2), .ref (a3 3), .int 0, .int (-5), .int 0, .int 0, .int 0, .int 0]))] ++ w_gr a1 ka1 ++ w_cl a2 ka1 ++ w_jo a3 ka1) H := hP
  have hD : va_D A ([(h0, .inr (4, [.ref (a1 1), .ref (a2 2), .ref (a3 3), .int 0, .int (-5), .int 0, .int 0, .int 0, .int 0]))] ++ w_gr a1 ka1 ++ w_cl a2 ka1 ++ w_jo a3 ka1) := hD
  refine lv_aload_n hx hb (by decide +kernel : decode cX4_init 48 = .ok (.aload_n 0, 1)) rfl (lv_at hl 0 rfl) ?_
  refine lv_bipush (v := (-5)) hx hb (by decide +kernel : decode cX4_init 49 = .ok (.bipush (-5), 2)) (by decide) ?_
  refine va_put (D := D) (ci := 4) (v := .int (-5)) (ty := .int) (C := RX4) (T := TX4) (N := 9) hx hb hts z_lays_4 tyX4 tyX4_ok nmX4 hown hK hP hD hS 0 rfl rfl 5 (by decide) (hts _ (z_m1 (i := 166) rfl rfl)) (fun _ h9 => h9) rfl (by decide +kernel) rfl rfl (Nat.le_of_ble_eq_true rfl) (by decide +kernel : decode cX4_init 51 = .ok (.putfield 39, 3)) (fun H locs hP hD hS => ?_)
  have hP : va_P D z_cl ([(h0, .inr (4, [.ref (a1 1), .ref (a2 2), .ref (a3 3), .int 0, .int (-5), .int (-5), .int 0, .int 0, .int 0]))] ++ w_gr a1 ka1 ++ w_cl a2 ka1 ++ w_jo a3 ka1) H := hP
  have hD : va_D A ([(h0, .inr (4, [.ref (a1 1), .ref (a2 2), .ref (a3 3), .int 0, .int (-5), .int (-5), .int 0, .int 0, .int 0]))] ++ w_gr a1 ka1 ++ w_cl a2 ka1 ++ w_jo a3 ka1) := hD
  refine lv_aload_n hx hb (by decide +kernel : decode cX4_init 54 = .ok (.aload_n 0, 1)) rfl (lv_at hl 0 rfl) ?_
  refine lv_iconst (v := 0) hx hb (by decide +kernel : decode cX4_init 55 = .ok (.iconst 0, 1)) (by decide) ?_
  refine va_put (D := D) (ci := 4) (v := .int 0) (ty := .int) (C := RX4) (T := TX4) (N := 9) hx hb hts z_lays_4 tyX4 tyX4_ok nmX4 hown hK hP hD hS 0 rfl rfl 6 (by decide) (hts _ (z_m1 (i := 168) rfl rfl)) (fun _ h9 => h9) rfl (by decide +kernel) rfl rfl (Nat.le_of_ble_eq_true rfl) (by decide +kernel : decode cX4_init 56 = .ok (.putfield 42, 3)) (fun H locs hP hD hS => ?_)
  have hP : va_P D z_cl ([(h0, .inr (4, [.ref (a1 1), .ref (a2 2), .ref (a3 3), .int 0, .int (-5), .int (-5), .int 0, .int 0, .int 0]))] ++ w_gr a1 ka1 ++ w_cl a2 ka1 ++ w_jo a3 ka1) H := hP
  have hD : va_D A ([(h0, .inr (4, [.ref (a1 1), .ref (a2 2), .ref (a3 3), .int 0, .int (-5), .int (-5), .int 0, .int 0, .int 0]))] ++ w_gr a1 ka1 ++ w_cl a2 ka1 ++ w_jo a3 ka1) := hD
  refine lv_aload_n hx hb (by decide +kernel : decode cX4_init 59 = .ok (.aload_n 0, 1)) rfl (lv_at hl 0 rfl) ?_
  refine lv_iconst (v := 0) hx hb (by decide +kernel : decode cX4_init 60 = .ok (.iconst 0, 1)) (by decide) ?_
  refine va_put (D := D) (ci := 4) (v := .int 0) (ty := .int) (C := RX4) (T := TX4) (N := 9) hx hb hts z_lays_4 tyX4 tyX4_ok nmX4 hown hK hP hD hS 0 rfl rfl 7 (by decide) (hts _ (z_m1 (i := 170) rfl rfl)) (fun _ h9 => h9) rfl (by decide +kernel) rfl rfl (Nat.le_of_ble_eq_true rfl) (by decide +kernel : decode cX4_init 61 = .ok (.putfield 45, 3)) (fun H locs hP hD hS => ?_)
  have hP : va_P D z_cl ([(h0, .inr (4, [.ref (a1 1), .ref (a2 2), .ref (a3 3), .int 0, .int (-5), .int (-5), .int 0, .int 0, .int 0]))] ++ w_gr a1 ka1 ++ w_cl a2 ka1 ++ w_jo a3 ka1) H := hP
  have hD : va_D A ([(h0, .inr (4, [.ref (a1 1), .ref (a2 2), .ref (a3 3), .int 0, .int (-5), .int (-5), .int 0, .int 0, .int 0]))] ++ w_gr a1 ka1 ++ w_cl a2 ka1 ++ w_jo a3 ka1) := hD
  refine lv_aload_n hx hb (by decide +kernel : decode cX4_init 64 = .ok (.aload_n 0, 1)) rfl (lv_at hl 0 rfl) ?_
  refine lv_iconst (v := 0) hx hb (by decide +kernel : decode cX4_init 65 = .ok (.iconst 0, 1)) (by decide) ?_
  refine va_put (D := D) (ci := 4) (v := .int 0) (ty := .int) (C := RX4) (T := TX4) (N := 9) hx hb hts z_lays_4 tyX4 tyX4_ok nmX4 hown hK hP hD hS 0 rfl rfl 8 (by decide) (hts _ (z_m1 (i := 172) rfl rfl)) (fun _ h9 => h9) rfl (by decide +kernel) rfl rfl (Nat.le_of_ble_eq_true rfl) (by decide +kernel : decode cX4_init 66 = .ok (.putfield 48, 3)) (fun H locs hP hD hS => ?_)
  have hP : va_P D z_cl ([(h0, .inr (4, [.ref (a1 1), .ref (a2 2), .ref (a3 3), .int 0, .int (-5), .int (-5), .int 0, .int 0, .int 0]))] ++ w_gr a1 ka1 ++ w_cl a2 ka1 ++ w_jo a3 ka1) H := hP
  have hD : va_D A ([(h0, .inr (4, [.ref (a1 1), .ref (a2 2), .ref (a3 3), .int 0, .int (-5), .int (-5), .int 0, .int 0, .int 0]))] ++ w_gr a1 ka1 ++ w_cl a2 ka1 ++ w_jo a3 ka1) := hD
  have hP9 : va_P D z_cl (w_st (fun o : Nat => if o = 0 then h0 else if o = 1 then a1 1 else if o = 2 then a2 2 else if o = 3 then a3 3 else if o = 4 then a1 4 else if o = 5 then a1 5 else if o = 6 then a1 6 else if o = 7 then a2 7 else if o = 8 then a2 8 else if o = 9 then a2 9 else if o = 10 then a2 10 else if o = 11 then a2 11 else if o = 12 then a2 12 else if o = 13 then a2 13 else if o = 14 then a2 14 else if o = 15 then a2 15 else if o = 16 then a3 16 else if o = 17 then a3 17 else if o = 18 then a3 18 else if o = 19 then a3 19 else if o = 20 then a3 20 else 0) ka1) H := hP
  have hD9 : va_D A (w_st (fun o : Nat => if o = 0 then h0 else if o = 1 then a1 1 else if o = 2 then a2 2 else if o = 3 then a3 3 else if o = 4 then a1 4 else if o = 5 then a1 5 else if o = 6 then a1 6 else if o = 7 then a2 7 else if o = 8 then a2 8 else if o = 9 then a2 9 else if o = 10 then a2 10 else if o = 11 then a2 11 else if o = 12 then a2 12 else if o = 13 then a2 13 else if o = 14 then a2 14 else if o = 15 then a2 15 else if o = 16 then a3 16 else if o = 17 then a3 17 else if o = 18 then a3 18 else if o = 19 then a3 19 else if o = 20 then a3 20 else 0) ka1) := hD
  refine W.widen (k := 20) (n := 962) (by omega) (by omega) ?_
  exact W.vret hx hb hr (fun t ht hW => ⟨⟨(), rfl, trivial, (fun o : Nat => if o = 0 then h0 else if o = 1 then a1 1 else if o = 2 then a2 2 else if o = 3 then a3 3 else if o = 4 then a1 4 else if o = 5 then a1 5 else if o = 6 then a1 6 else if o = 7 then a2 7 else if o = 8 then a2 8 else if o = 9 then a2 9 else if o = 10 then a2 10 else if o = 11 then a2 11 else if o = 12 then a2 12 else if o = 13 then a2 13 else if o = 14 then a2 14 else if o = 15 then a2 15 else if o = 16 then a3 16 else if o = 17 then a3 17 else if o = 18 then a3 18 else if o = 19 then a3 19 else if o = 20 then a3 20 else 0), ka1, rfl, by rw [ht]; exact hP9, va_K.moved hW.alike hK, hD9⟩, hS.F ht⟩) hS.2.2 (by decide +kernel : decode cX4_init 69 = .ok (.return_, 1))
def w_hi (h r : Nat) (f : Nat → Option Nat) (a : Nat → Nat → Nat) (c d : ClassId) : va_W := [(h, .inr (2, [.int 0, .ref r]))] ++ [(r, .inl (d, 4, .inr (.inr (.inr (.inr f)))))] ++ w_st (a 3) c ++ w_st (a 4) c ++ w_st (a 5) c ++ w_st (a 6) c
set_option maxHeartbeats 4000000 in
set_option maxRecDepth 100000 in
theorem i_History (l : Launch) (D : va_G) (h0 sz : Nat) : Met l yX2_init (Cond.code yX2_init cX2_init 2 none :: z_G) ({ frames := 3, cells := 85, slots := 3888, locals := 52 }) (va_Pc [.ref h0] (fun U => U.heap.size = sz ∧ va_P D z_cl [(h0, .inr (2, [.int 0, .null]))] U.heap ∧ va_K D z_cl [] U ∧ va_D (fun _ => True) [(h0, .inr (2, [.int 0, .null]))] ∧ i_N U))
    (va_Qv (fun _ : Unit => True) (fun _ t => ∃ (r : Nat) (f : Nat → Option Nat) (a : Nat → Nat → Nat) (k d : ClassId), (∀ j, j < 4 → f j = some (a (3 + j) 0)) ∧ va_P D z_cl (w_hi h0 r f a k d) t.heap ∧ va_K D z_cl [(k, .int), (d, .object RX4)] t ∧ va_D (va_A [(h0, .inr (2, [.int 0, .null]))] sz) (w_hi h0 r f a k d)) (va_A [(h0, .inr (2, [.int 0, .null]))] sz)) 85 3888 (va_A [(h0, .inr (2, [.int 0, .null]))] sz) := by
  refine Met.ofW (cc := cX2_init) (maxL := 2) (ret := none) (by decide) rfl ?_
  intro p e s m args below meth c s₁ B hml hv
  obtain ⟨rfl, hsz, hP, hK, hD0, hO⟩ := hv
  have hx := B.exec
  have hb := B.bytes
  have hr := B.returns
  have hts0 := atoms_spec (ws := Cond.code yX2_init cX2_init 2 none :: z_G) B.pre
  have hts : ∀ w ∈ z_G, w.before ([Value.ref h0].toArray) s = true := fun w hw => hts0 w (List.mem_cons_of_mem _ hw)
  have hown : s.vm.findClass RX2 = some m.cls := findClass_of_methodNamed B.named
  have hlocks := B.notSynchronized
  have hin : meth.name = "<init>" := (name_of_methodNamed B.named B.method).1
  subst hsz
  have hD := hD0.self (sz := s.heap.size)
  generalize hAe : va_A [(h0, .inr (2, [.int 0, .null]))] s.heap.size = A at hD ⊢
  have hA : ∀ q : Nat, s.heap.size ≤ q → A q := fun q h => by rw [← hAe]; exact Or.inr h
  have hS : va_S A s.heap s.heap [] := va_S.rf
  have hl := lv_entry ([.ref h0]) (n := 2) (Nat.le_of_ble_eq_true rfl)
  rw [lg_entry_eq]
  generalize (lg_sl ([.ref h0]) ++ List.replicate (2 - (lg_sl ([.ref h0])).length) Slot.unset).toArray = ls at hl ⊢
  have hl : lv_has ls 2 [(0, .ref h0)] := hl
  refine lv_aload_n hx hb (by decide +kernel : decode cX2_init 0 = .ok (.aload_n 0, 1)) rfl (lv_at hl 0 rfl) ?_
  refine W.objInit hx hb hown (hts _ (z_m1 (i := 198) rfl rfl)) (hts _ (z_m1 (i := 17) rfl rfl)) (hts _ (z_m1 (i := 18) rfl rfl)) rfl (by rw [hml]; exact hl.1) rfl (by decide +kernel : decode cX2_init 1 = .ok (.invokespecial 3, 3)) (Nat.le_of_ble_eq_true rfl) (Nat.le_of_ble_eq_true rfl) ?_
  refine W.eq (g2 := F0 m 4 ls []) rfl ?_
  have hl : lv_has ls 2 [(0, .ref h0)] := hl
  refine lv_aload_n hx hb (by decide +kernel : decode cX2_init 4 = .ok (.aload_n 0, 1)) rfl (lv_at hl 0 rfl) ?_
  refine lv_iconst (v := 0) hx hb (by decide +kernel : decode cX2_init 5 = .ok (.iconst 0, 1)) (by decide) ?_
  refine va_put (D := D) (ci := 2) (v := .int 0) (ty := .int) (C := RX2) (T := TX2) (N := 2) hx hb hts z_lays_2 tyX2 tyX2_ok nmX2 hown hK hP hD hS 0 rfl rfl 0 (by decide) (hts _ (z_m1 (i := 202) rfl rfl)) (fun _ h9 => h9) rfl (by decide +kernel) rfl rfl (Nat.le_of_ble_eq_true rfl) (by decide +kernel : decode cX2_init 6 = .ok (.putfield 9, 3)) (fun H locs hP hD hS => ?_)
  have hP : va_P D z_cl [(h0, .inr (2, [.int 0, .null]))] H := hP
  have hD : va_D A [(h0, .inr (2, [.int 0, .null]))] := hD
  refine lv_aload_n hx hb (by decide +kernel : decode cX2_init 9 = .ok (.aload_n 0, 1)) rfl (lv_at hl 0 rfl) ?_
  refine lv_iconst (v := 4) hx hb (by decide +kernel : decode cX2_init 10 = .ok (.iconst 4, 1)) (by decide) ?_
  refine va_newq (C := RX4) (N' := 4) hx hb hown (hts _ (z_m1 (i := 199) rfl rfl)) hO.2 hK hP hD hS hA (by decide) rfl (Nat.le_of_ble_eq_true rfl) (Nat.le_of_ble_eq_true rfl) (Nat.le_of_ble_eq_true rfl) (by decide +kernel : decode cX2_init 11 = .ok (.anewarray 15, 3)) (fun q11 d H hK hP hD hS => ?_)
  have hK : va_K D z_cl [(d, .object RX4)] s := hK
  have hP : va_P D z_cl ([(h0, .inr (2, [.int 0, .null]))] ++ [(q11, .inl (d, 4, .inr (.inr (.inr (.inr (fun _ => none))))))]) H := hP
  have hD : va_D A ([(h0, .inr (2, [.int 0, .null]))] ++ [(q11, .inl (d, 4, .inr (.inr (.inr (.inr (fun _ => none))))))]) := hD
  refine W.widen (k := 1) (n := 4) (by omega) (by omega) ?_
  refine va_putF (D := D) (ci := 2) (v := .ref q11) (ty := .array (.object "DeficitCircles$State")) (C := RX2) (T := TX2) (N := 2) hx hb hts z_lays_2 tyX2 tyX2_ok nmX2 hown hK hP hD hS 0 rfl rfl 1 (by decide) (hts _ (z_m1 (i := 204) rfl rfl)) (fun _ h9 => h9) rfl hin rfl (by decide +kernel) rfl rfl (Nat.le_of_ble_eq_true rfl) (by decide +kernel : decode cX2_init 14 = .ok (.putfield 17, 3)) (fun H locs hP hD hS => ?_)
  have hP : va_P D z_cl ([(h0, .inr (2, [.int 0, .ref q11]))] ++ [(q11, .inl (d, 4, .inr (.inr (.inr (.inr (fun _ => none))))))]) H := hP
  have hD : va_D A ([(h0, .inr (2, [.int 0, .ref q11]))] ++ [(q11, .inl (d, 4, .inr (.inr (.inr (.inr (fun _ => none))))))]) := hD
  refine lv_iconst (v := 0) hx hb (by decide +kernel : decode cX2_init 17 = .ok (.iconst 0, 1)) (by decide) ?_
  refine lv_istore_n (lv' := [(1, .int 0), (0, .ref h0)]) hx hb (by decide +kernel : decode cX2_init 18 = .ok (.istore_n 1, 1)) rfl hl (by decide) rfl (fun ls hl => ?_)
  refine lv_iload_n (x := 0) hx hb (by decide +kernel : decode cX2_init 19 = .ok (.iload_n 1, 1)) rfl (lv_at hl 0 rfl) ?_
  refine lv_iconst (v := 4) hx hb (by decide +kernel : decode cX2_init 20 = .ok (.iconst 4, 1)) (by decide) ?_
  refine lv_icmp_ge (tgt := 43) hx hb (by decide +kernel : decode cX2_init 21 = .ok (.if_icmp .ge 22, 3)) (by decide) (fun cc => absurd cc (by decide)) (fun _ => ?_)
  refine lv_aload_n hx hb (by decide +kernel : decode cX2_init 24 = .ok (.aload_n 0, 1)) rfl (lv_at hl 1 rfl) ?_
  refine va_get (D := D) (ci := 2) (v := .ref q11) (C := RX2) (T := TX2) (N := 2) hx hb hts z_lays_2 hown hK hP 0 rfl rfl 1 (by decide) (hts _ (z_m1 (i := 204) rfl rfl)) (fun _ h9 => h9) rfl (by decide +kernel : decode cX2_init 25 = .ok (.getfield 17, 3)) ?_
  refine lv_iload_n (x := 0) hx hb (by decide +kernel : decode cX2_init 28 = .ok (.iload_n 1, 1)) rfl (lv_at hl 0 rfl) ?_
  refine va_new (ci := 4) (fs := [.null, .null, .null, .int 0, .int 0, .int 0, .int 0, .int 0, .int 0]) (C := RX4) (T := TX4) (N := 9) hx hb hts z_lays_4 tyX4 tyX4_ok hown (hts _ (z_m1 (i := 199) rfl rfl)) (hts _ (z_m1 (i := 20) rfl rfl)) (hts _ (z_m1 (i := 2) rfl rfl)) hK hP hD hS hA rfl (fun j hj => by rcases (show j = 0 ∨ j = 1 ∨ j = 2 ∨ j = 3 ∨ j = 4 ∨ j = 5 ∨ j = 6 ∨ j = 7 ∨ j = 8 by omega) with rfl | rfl | rfl | rfl | rfl | rfl | rfl | rfl | rfl <;> rfl) (Nat.le_of_ble_eq_true rfl) (Nat.le_of_ble_eq_true rfl) (by decide +kernel : decode cX2_init 29 = .ok (.new 15, 3)) (fun p0 H hP hD hS => ?_)
  have hP : va_P D z_cl ([(h0, .inr (2, [.int 0, .ref q11]))] ++ [(q11, .inl (d, 4, .inr (.inr (.inr (.inr (fun _ => none))))))] ++ [(p0, .inr (4, [.null, .null, .null, .int 0, .int 0, .int 0, .int 0, .int 0, .int 0]))]) H := hP
  have hD : va_D A ([(h0, .inr (2, [.int 0, .ref q11]))] ++ [(q11, .inl (d, 4, .inr (.inr (.inr (.inr (fun _ => none))))))] ++ [(p0, .inr (4, [.null, .null, .null, .int 0, .int 0, .int 0, .int 0, .int 0, .int 0]))]) := hD
  refine W.widen (k := 2) (n := 13) (by omega) (by omega) ?_
  refine lv_dup hx hb (by decide +kernel : decode cX2_init 32 = .ok (.dup, 1)) rfl ?_
  have hPc := va_lastP hP
  have hDc := va_lastD hD
  have hKc : va_K D z_cl [] s := hK.sub [] rfl
  have hFc := va_freeT hD hS hA
  refine va_callv (va_runIN (As := []) (rest := [.ref p0, .int 0, .ref q11]) ⟨hx, hb, hml, hown, hts⟩ (i_State l D p0 H.size) ⟨va_cnB 0 hts i_gd4 rfl rfl rfl (hO.1 _ (List.mem_of_getElem? (i := 3) rfl)) (hts _ (z_m1 (i := 2) rfl rfl)) (by decide +kernel) ⟨Nat.le_of_ble_eq_true rfl, Nat.le_of_ble_eq_true rfl⟩, rfl, (hts _ (z_m1 (i := 22) rfl rfl))⟩ ⟨fun a U g mk q => by obtain ⟨q0, q1, qP, qK, qD, qO⟩ := q; exact ⟨q0, q1, qP, va_K.moved (u := U) (U := U.calling g mk a) (Vm.Alike.refl U.vm) qK, qD, i_N.same (s := U) (U := U.calling g mk a) rfl qO⟩, fun U hU hW => ⟨rfl, by rw [hU], by rw [hU]; exact hPc, va_K.moved hW.alike hKc, hDc.weaken (fun _ _ _ _ => trivial), i_N.warm hW hO⟩⟩ rfl rfl hl.1 rfl (lv_room (Nat.le_of_ble_eq_true rfl)) (by decide +kernel : decode cX2_init 33 = .ok (.invokespecial 21, 3)) ⟨Nat.le_of_ble_eq_true rfl, Nat.le_of_ble_eq_true rfl⟩) hS (fun q _ h => hFc q h) hFc (fun _ t H1 locs ht hvm _ hB hz1 hk1 hS => ?_)
  obtain ⟨b0, k0, e0, hP1, hK1, hD1⟩ := hB
  subst e0
  rw [ht] at hP1
  have hK1 := va_K.moved hvm.symm hK1
  obtain ⟨hP, hD⟩ := va_joinT hP hD hk1 hFc hP1 hD1
  generalize H1 = H at hP hS ⊢
  have hK := hK.app hK1
  have hK : va_K D z_cl [(d, .object RX4), (k0, .int)] s := hK.sub [0, 1] rfl
  refine W.widen (k := 22) (n := 975) (by omega) (by omega) ?_
  have hP : va_P D z_cl ([(h0, .inr (2, [.int 0, .ref q11]))] ++ [(q11, .inl (d, 4, .inr (.inr (.inr (.inr (fun _ => none))))))] ++ w_st b0 k0) H := hP
  have hD : va_D A ([(h0, .inr (2, [.int 0, .ref q11]))] ++ [(q11, .inl (d, 4, .inr (.inr (.inr (.inr (fun _ => none))))))] ++ w_st b0 k0) := hD
  refine va_astq (r := (RX4, TX4, 9)) hx hb hK hP hD hS 1 0 2 4 rfl rfl rfl rfl (by unfold vp_in; decide) (by decide +kernel : decode cX2_init 36 = .ok (.aastore, 1)) (fun H locs hP hD hS => ?_)
  have hP : va_P D z_cl ([(h0, .inr (2, [.int 0, .ref q11]))] ++ [(q11, .inl (d, 4, .inr (.inr (.inr (.inr (va_up (fun _ => none) (0 : Int32).toNatClampNeg (some (b0 0))))))))] ++ w_st b0 k0) H := hP
  have hD : va_D A ([(h0, .inr (2, [.int 0, .ref q11]))] ++ [(q11, .inl (d, 4, .inr (.inr (.inr (.inr (va_up (fun _ => none) (0 : Int32).toNatClampNeg (some (b0 0))))))))] ++ w_st b0 k0) := hD
  refine lv_iinc (v := 1) (lv' := [(1, .int 1), (0, .ref h0)]) hx hb (by decide +kernel : decode cX2_init 37 = .ok (.iinc 1 1, 3)) hl (k := 0) rfl (by decide) (by decide) rfl (fun ls hl => ?_)
  refine lv_goto (tgt := 19) hx hb (by decide +kernel : decode cX2_init 40 = .ok (.goto (-21), 3)) (by decide) ?_
  refine lv_iload_n (x := 1) hx hb (by decide +kernel : decode cX2_init 19 = .ok (.iload_n 1, 1)) rfl (lv_at hl 0 rfl) ?_
  refine lv_iconst (v := 4) hx hb (by decide +kernel : decode cX2_init 20 = .ok (.iconst 4, 1)) (by decide) ?_
  refine lv_icmp_ge (tgt := 43) hx hb (by decide +kernel : decode cX2_init 21 = .ok (.if_icmp .ge 22, 3)) (by decide) (fun cc => absurd cc (by decide)) (fun _ => ?_)
  refine lv_aload_n hx hb (by decide +kernel : decode cX2_init 24 = .ok (.aload_n 0, 1)) rfl (lv_at hl 1 rfl) ?_
  refine va_get (D := D) (ci := 2) (v := .ref q11) (C := RX2) (T := TX2) (N := 2) hx hb hts z_lays_2 hown hK hP 0 rfl rfl 1 (by decide) (hts _ (z_m1 (i := 204) rfl rfl)) (fun _ h9 => h9) rfl (by decide +kernel : decode cX2_init 25 = .ok (.getfield 17, 3)) ?_
  refine lv_iload_n (x := 1) hx hb (by decide +kernel : decode cX2_init 28 = .ok (.iload_n 1, 1)) rfl (lv_at hl 0 rfl) ?_
  refine va_new (ci := 4) (fs := [.null, .null, .null, .int 0, .int 0, .int 0, .int 0, .int 0, .int 0]) (C := RX4) (T := TX4) (N := 9) hx hb hts z_lays_4 tyX4 tyX4_ok hown (hts _ (z_m1 (i := 199) rfl rfl)) (hts _ (z_m1 (i := 20) rfl rfl)) (hts _ (z_m1 (i := 2) rfl rfl)) hK hP hD hS hA rfl (fun j hj => by rcases (show j = 0 ∨ j = 1 ∨ j = 2 ∨ j = 3 ∨ j = 4 ∨ j = 5 ∨ j = 6 ∨ j = 7 ∨ j = 8 by omega) with rfl | rfl | rfl | rfl | rfl | rfl | rfl | rfl | rfl <;> rfl) (Nat.le_of_ble_eq_true rfl) (Nat.le_of_ble_eq_true rfl) (by decide +kernel : decode cX2_init 29 = .ok (.new 15, 3)) (fun p1 H hP hD hS => ?_)
  have hP : va_P D z_cl ([(h0, .inr (2, [.int 0, .ref q11]))] ++ [(q11, .inl (d, 4, .inr (.inr (.inr (.inr (va_up (fun _ => none) (0 : Int32).toNatClampNeg (some (b0 0))))))))] ++ w_st b0 k0 ++ [(p1, .inr (4, [.null, .null, .null, .int 0, .int 0, .int 0, .int 0, .int 0, .int 0]))]) H := hP
  have hD : va_D A ([(h0, .inr (2, [.int 0, .ref q11]))] ++ [(q11, .inl (d, 4, .inr (.inr (.inr (.inr (va_up (fun _ => none) (0 : Int32).toNatClampNeg (some (b0 0))))))))] ++ w_st b0 k0 ++ [(p1, .inr (4, [.null, .null, .null, .int 0, .int 0, .int 0, .int 0, .int 0, .int 0]))]) := hD
  refine W.widen (k := 23) (n := 984) (by omega) (by omega) ?_
  refine lv_dup hx hb (by decide +kernel : decode cX2_init 32 = .ok (.dup, 1)) rfl ?_
  have hPc := va_lastP hP
  have hDc := va_lastD hD
  have hKc : va_K D z_cl [] s := hK.sub [] rfl
  have hFc := va_freeT hD hS hA
  refine va_callv (va_runIN (As := []) (rest := [.ref p1, .int 1, .ref q11]) ⟨hx, hb, hml, hown, hts⟩ (i_State l D p1 H.size) ⟨va_cnB 0 hts i_gd4 rfl rfl rfl (hO.1 _ (List.mem_of_getElem? (i := 3) rfl)) (hts _ (z_m1 (i := 2) rfl rfl)) (by decide +kernel) ⟨Nat.le_of_ble_eq_true rfl, Nat.le_of_ble_eq_true rfl⟩, rfl, (hts _ (z_m1 (i := 22) rfl rfl))⟩ ⟨fun a U g mk q => by obtain ⟨q0, q1, qP, qK, qD, qO⟩ := q; exact ⟨q0, q1, qP, va_K.moved (u := U) (U := U.calling g mk a) (Vm.Alike.refl U.vm) qK, qD, i_N.same (s := U) (U := U.calling g mk a) rfl qO⟩, fun U hU hW => ⟨rfl, by rw [hU], by rw [hU]; exact hPc, va_K.moved hW.alike hKc, hDc.weaken (fun _ _ _ _ => trivial), i_N.warm hW hO⟩⟩ rfl rfl hl.1 rfl (lv_room (Nat.le_of_ble_eq_true rfl)) (by decide +kernel : decode cX2_init 33 = .ok (.invokespecial 21, 3)) ⟨Nat.le_of_ble_eq_true rfl, Nat.le_of_ble_eq_true rfl⟩) hS (fun q _ h => hFc q h) hFc (fun _ t H1 locs ht hvm _ hB hz1 hk1 hS => ?_)
  obtain ⟨b1, k1, e1, hP1, hK1, hD1⟩ := hB
  subst e1
  rw [ht] at hP1
  have hK1 := va_K.moved hvm.symm hK1
  obtain ⟨hP, hD⟩ := va_joinT hP hD hk1 hFc hP1 hD1
  generalize H1 = H at hP hS ⊢
  have hK := hK.app hK1
  have ek1 : k0 = k1 := Option.some.inj ((hK.2 1 _ rfl).2.symm.trans (hK.2 2 _ rfl).2)
  subst ek1
  have hK : va_K D z_cl [(d, .object RX4), (k0, .int)] s := hK.sub [0, 1] rfl
  refine W.widen (k := 43) (n := 1946) (by omega) (by omega) ?_
  have hP : va_P D z_cl ([(h0, .inr (2, [.int 0, .ref q11]))] ++ [(q11, .inl (d, 4, .inr (.inr (.inr (.inr (va_up (fun _ => none) (0 : Int32).toNatClampNeg (some (b0 0))))))))] ++ w_st b0 k0 ++ w_st b1 k0) H := hP
  have hD : va_D A ([(h0, .inr (2, [.int 0, .ref q11]))] ++ [(q11, .inl (d, 4, .inr (.inr (.inr (.inr (va_up (fun _ => none) (0 : Int32).toNatClampNeg (some (b0 0))))))))] ++ w_st b0 k0 ++ w_st b1 k0) := hD
  refine va_astq (r := (RX4, TX4, 9)) hx hb hK hP hD hS 1 0 23 4 rfl rfl rfl rfl (by unfold vp_in; decide) (by decide +kernel : decode cX2_init 36 = .ok (.aastore, 1)) (fun H locs hP hD hS => ?_)
  have hP : va_P D z_cl ([(h0, .inr (2, [.int 0, .ref q11]))] ++ [(q11, .inl (d, 4, .inr (.inr (.inr (.inr (va_up (va_up (fun _ => none) (0 : Int32).toNatClampNeg (some (b0 0))) (1 : Int32).toNatClampNeg (some (b1 0))))))))] ++ w_st b0 k0 ++ w_st b1 k0) H := hP
  have hD : va_D A ([(h0, .inr (2, [.int 0, .ref q11]))] ++ [(q11, .inl (d, 4, .inr (.inr (.inr (.inr (va_up (va_up (fun _ => none) (0 : Int32).toNatClampNeg (some (b0 0))) (1 : Int32).toNatClampNeg (some (b1 0))))))))] ++ w_st b0 k0 ++ w_st b1 k0) := hD
  refine lv_iinc (v := 2) (lv' := [(1, .int 2), (0, .ref h0)]) hx hb (by decide +kernel : decode cX2_init 37 = .ok (.iinc 1 1, 3)) hl (k := 0) rfl (by decide) (by decide) rfl (fun ls hl => ?_)
  refine lv_goto (tgt := 19) hx hb (by decide +kernel : decode cX2_init 40 = .ok (.goto (-21), 3)) (by decide) ?_
  refine lv_iload_n (x := 2) hx hb (by decide +kernel : decode cX2_init 19 = .ok (.iload_n 1, 1)) rfl (lv_at hl 0 rfl) ?_
  refine lv_iconst (v := 4) hx hb (by decide +kernel : decode cX2_init 20 = .ok (.iconst 4, 1)) (by decide) ?_
  refine lv_icmp_ge (tgt := 43) hx hb (by decide +kernel : decode cX2_init 21 = .ok (.if_icmp .ge 22, 3)) (by decide) (fun cc => absurd cc (by decide)) (fun _ => ?_)
  refine lv_aload_n hx hb (by decide +kernel : decode cX2_init 24 = .ok (.aload_n 0, 1)) rfl (lv_at hl 1 rfl) ?_
  refine va_get (D := D) (ci := 2) (v := .ref q11) (C := RX2) (T := TX2) (N := 2) hx hb hts z_lays_2 hown hK hP 0 rfl rfl 1 (by decide) (hts _ (z_m1 (i := 204) rfl rfl)) (fun _ h9 => h9) rfl (by decide +kernel : decode cX2_init 25 = .ok (.getfield 17, 3)) ?_
  refine lv_iload_n (x := 2) hx hb (by decide +kernel : decode cX2_init 28 = .ok (.iload_n 1, 1)) rfl (lv_at hl 0 rfl) ?_
  refine va_new (ci := 4) (fs := [.null, .null, .null, .int 0, .int 0, .int 0, .int 0, .int 0, .int 0]) (C := RX4) (T := TX4) (N := 9) hx hb hts z_lays_4 tyX4 tyX4_ok hown (hts _ (z_m1 (i := 199) rfl rfl)) (hts _ (z_m1 (i := 20) rfl rfl)) (hts _ (z_m1 (i := 2) rfl rfl)) hK hP hD hS hA rfl (fun j hj => by rcases (show j = 0 ∨ j = 1 ∨ j = 2 ∨ j = 3 ∨ j = 4 ∨ j = 5 ∨ j = 6 ∨ j = 7 ∨ j = 8 by omega) with rfl | rfl | rfl | rfl | rfl | rfl | rfl | rfl | rfl <;> rfl) (Nat.le_of_ble_eq_true rfl) (Nat.le_of_ble_eq_true rfl) (by decide +kernel : decode cX2_init 29 = .ok (.new 15, 3)) (fun p2 H hP hD hS => ?_)
  have hP : va_P D z_cl ([(h0, .inr (2, [.int 0, .ref q11]))] ++ [(q11, .inl (d, 4, .inr (.inr (.inr (.inr (va_up (va_up (fun _ => none) (0 : Int32).toNatClampNeg (some (b0 0))) (1 : Int32).toNatClampNeg (some (b1 0))))))))] ++ w_st b0 k0 ++ w_st b1 k0 ++ [(p2, .inr (4, [.null, .null, .null, .int 0, .int 0, .int 0, .int 0, .int 0, .int 0]))]) H := hP
  have hD : va_D A ([(h0, .inr (2, [.int 0, .ref q11]))] ++ [(q11, .inl (d, 4, .inr (.inr (.inr (.inr (va_up (va_up (fun _ => none) (0 : Int32).toNatClampNeg (some (b0 0))) (1 : Int32).toNatClampNeg (some (b1 0))))))))] ++ w_st b0 k0 ++ w_st b1 k0 ++ [(p2, .inr (4, [.null, .null, .null, .int 0, .int 0, .int 0, .int 0, .int 0, .int 0]))]) := hD
  refine W.widen (k := 44) (n := 1955) (by omega) (by omega) ?_
  refine lv_dup hx hb (by decide +kernel : decode cX2_init 32 = .ok (.dup, 1)) rfl ?_
  have hPc := va_lastP hP
  have hDc := va_lastD hD
  have hKc : va_K D z_cl [] s := hK.sub [] rfl
  have hFc := va_freeT hD hS hA
  refine va_callv (va_runIN (As := []) (rest := [.ref p2, .int 2, .ref q11]) ⟨hx, hb, hml, hown, hts⟩ (i_State l D p2 H.size) ⟨va_cnB 0 hts i_gd4 rfl rfl rfl (hO.1 _ (List.mem_of_getElem? (i := 3) rfl)) (hts _ (z_m1 (i := 2) rfl rfl)) (by decide +kernel) ⟨Nat.le_of_ble_eq_true rfl, Nat.le_of_ble_eq_true rfl⟩, rfl, (hts _ (z_m1 (i := 22) rfl rfl))⟩ ⟨fun a U g mk q => by obtain ⟨q0, q1, qP, qK, qD, qO⟩ := q; exact ⟨q0, q1, qP, va_K.moved (u := U) (U := U.calling g mk a) (Vm.Alike.refl U.vm) qK, qD, i_N.same (s := U) (U := U.calling g mk a) rfl qO⟩, fun U hU hW => ⟨rfl, by rw [hU], by rw [hU]; exact hPc, va_K.moved hW.alike hKc, hDc.weaken (fun _ _ _ _ => trivial), i_N.warm hW hO⟩⟩ rfl rfl hl.1 rfl (lv_room (Nat.le_of_ble_eq_true rfl)) (by decide +kernel : decode cX2_init 33 = .ok (.invokespecial 21, 3)) ⟨Nat.le_of_ble_eq_true rfl, Nat.le_of_ble_eq_true rfl⟩) hS (fun q _ h => hFc q h) hFc (fun _ t H1 locs ht hvm _ hB hz1 hk1 hS => ?_)
  obtain ⟨b2, k2, e2, hP1, hK1, hD1⟩ := hB
  subst e2
  rw [ht] at hP1
  have hK1 := va_K.moved hvm.symm hK1
  obtain ⟨hP, hD⟩ := va_joinT hP hD hk1 hFc hP1 hD1
  generalize H1 = H at hP hS ⊢
  have hK := hK.app hK1
  have ek2 : k0 = k2 := Option.some.inj ((hK.2 1 _ rfl).2.symm.trans (hK.2 2 _ rfl).2)
  subst ek2
  have hK : va_K D z_cl [(d, .object RX4), (k0, .int)] s := hK.sub [0, 1] rfl
  refine W.widen (k := 64) (n := 2917) (by omega) (by omega) ?_
  have hP : va_P D z_cl ([(h0, .inr (2, [.int 0, .ref q11]))] ++ [(q11, .inl (d, 4, .inr (.inr (.inr (.inr (va_up (va_up (fun _ => none) (0 : Int32).toNatClampNeg (some (b0 0))) (1 : Int32).toNatClampNeg (some (b1 0))))))))] ++ w_st b0 k0 ++ w_st b1 k0 ++ w_st b2 k0) H := hP
  have hD : va_D A ([(h0, .inr (2, [.int 0, .ref q11]))] ++ [(q11, .inl (d, 4, .inr (.inr (.inr (.inr (va_up (va_up (fun _ => none) (0 : Int32).toNatClampNeg (some (b0 0))) (1 : Int32).toNatClampNeg (some (b1 0))))))))] ++ w_st b0 k0 ++ w_st b1 k0 ++ w_st b2 k0) := hD
  refine va_astq (r := (RX4, TX4, 9)) hx hb hK hP hD hS 1 0 44 4 rfl rfl rfl rfl (by unfold vp_in; decide) (by decide +kernel : decode cX2_init 36 = .ok (.aastore, 1)) (fun H locs hP hD hS => ?_)
  have hP : va_P D z_cl ([(h0, .inr (2, [.int 0, .ref q11]))] ++ [(q11, .inl (d, 4, .inr (.inr (.inr (.inr (va_up (va_up (va_up (fun _ => none) (0 : Int32).toNatClampNeg (some (b0 0))) (1 : Int32).toNatClampNeg (some (b1 0))) (2 : Int32).toNatClampNeg (some (b2 0))))))))] ++ w_st b0 k0 ++ w_st b1 k0 ++ w_st b2 k0) H := hP
  have hD : va_D A ([(h0, .inr (2, [.int 0, .ref q11]))] ++ [(q11, .inl (d, 4, .inr (.inr (.inr (.inr (va_up (va_up (va_up (fun _ => none) (0 : Int32).toNatClampNeg (some (b0 0))) (1 : Int32).toNatClampNeg (some (b1 0))) (2 : Int32).toNatClampNeg (some (b2 0))))))))] ++ w_st b0 k0 ++ w_st b1 k0 ++ w_st b2 k0) := hD
  refine lv_iinc (v := 3) (lv' := [(1, .int 3), (0, .ref h0)]) hx hb (by decide +kernel : decode cX2_init 37 = .ok (.iinc 1 1, 3)) hl (k := 0) rfl (by decide) (by decide) rfl (fun ls hl => ?_)
  refine lv_goto (tgt := 19) hx hb (by decide +kernel : decode cX2_init 40 = .ok (.goto (-21), 3)) (by decide) ?_
  refine lv_iload_n (x := 3) hx hb (by decide +kernel : decode cX2_init 19 = .ok (.iload_n 1, 1)) rfl (lv_at hl 0 rfl) ?_
  refine lv_iconst (v := 4) hx hb (by decide +kernel : decode cX2_init 20 = .ok (.iconst 4, 1)) (by decide) ?_
  refine lv_icmp_ge (tgt := 43) hx hb (by decide +kernel : decode cX2_init 21 = .ok (.if_icmp .ge 22, 3)) (by decide) (fun cc => absurd cc (by decide)) (fun _ => ?_)
  refine lv_aload_n hx hb (by decide +kernel : decode cX2_init 24 = .ok (.aload_n 0, 1)) rfl (lv_at hl 1 rfl) ?_
  refine va_get (D := D) (ci := 2) (v := .ref q11) (C := RX2) (T := TX2) (N := 2) hx hb hts z_lays_2 hown hK hP 0 rfl rfl 1 (by decide) (hts _ (z_m1 (i := 204) rfl rfl)) (fun _ h9 => h9) rfl (by decide +kernel : decode cX2_init 25 = .ok (.getfield 17, 3)) ?_
  refine lv_iload_n (x := 3) hx hb (by decide +kernel : decode cX2_init 28 = .ok (.iload_n 1, 1)) rfl (lv_at hl 0 rfl) ?_
  refine va_new (ci := 4) (fs := [.null, .null, .null, .int 0, .int 0, .int 0, .int 0, .int 0, .int 0]) (C := RX4) (T := TX4) (N := 9) hx hb hts z_lays_4 tyX4 tyX4_ok hown (hts _ (z_m1 (i := 199) rfl rfl)) (hts _ (z_m1 (i := 20) rfl rfl)) (hts _ (z_m1 (i := 2) rfl rfl)) hK hP hD hS hA rfl (fun j hj => by rcases (show j = 0 ∨ j = 1 ∨ j = 2 ∨ j = 3 ∨ j = 4 ∨ j = 5 ∨ j = 6 ∨ j = 7 ∨ j = 8 by omega) with rfl | rfl | rfl | rfl | rfl | rfl | rfl | rfl | rfl <;> rfl) (Nat.le_of_ble_eq_true rfl) (Nat.le_of_ble_eq_true rfl) (by decide +kernel : decode cX2_init 29 = .ok (.new 15, 3)) (fun p3 H hP hD hS => ?_)
  have hP : va_P D z_cl ([(h0, .inr (2, [.int 0, .ref q11]))] ++ [(q11, .inl (d, 4, .inr (.inr (.inr (.inr (va_up (va_up (va_up (fun _ => none) (0 : Int32).toNatClampNeg (some (b0 0))) (1 : Int32).toNatClampNeg (some (b1 0))) (2 : Int32).toNatClampNeg (some (b2 0))))))))] ++ w_st b0 k0 ++ w_st b1 k0 ++ w_st b2 k0 ++ [(p3, .inr (4, [.null, .null, .null, .int 0, .int 0, .int 0, .int 0, .int 0, .int 0]))]) H := hP
  have hD : va_D A ([(h0, .inr (2, [.int 0, .ref q11]))] ++ [(q11, .inl (d, 4, .inr (.inr (.inr (.inr (va_up (va_up (va_up (fun _ => none) (0 : Int32).toNatClampNeg (some (b0 0))) (1 : Int32).toNatClampNeg (some (b1 0))) (2 : Int32).toNatClampNeg (some (b2 0))))))))] ++ w_st b0 k0 ++ w_st b1 k0 ++ w_st b2 k0 ++ [(p3, .inr (4, [.null, .null, .null, .int 0, .int 0, .int 0, .int 0, .int 0, .int 0]))]) := hD
  refine W.widen (k := 65) (n := 2926) (by omega) (by omega) ?_
  refine lv_dup hx hb (by decide +kernel : decode cX2_init 32 = .ok (.dup, 1)) rfl ?_
  have hPc := va_lastP hP
  have hDc := va_lastD hD
  have hKc : va_K D z_cl [] s := hK.sub [] rfl
  have hFc := va_freeT hD hS hA
  refine va_callv (va_runIN (As := []) (rest := [.ref p3, .int 3, .ref q11]) ⟨hx, hb, hml, hown, hts⟩ (i_State l D p3 H.size) ⟨va_cnB 0 hts i_gd4 rfl rfl rfl (hO.1 _ (List.mem_of_getElem? (i := 3) rfl)) (hts _ (z_m1 (i := 2) rfl rfl)) (by decide +kernel) ⟨Nat.le_of_ble_eq_true rfl, Nat.le_of_ble_eq_true rfl⟩, rfl, (hts _ (z_m1 (i := 22) rfl rfl))⟩ ⟨fun a U g mk q => by obtain ⟨q0, q1, qP, qK, qD, qO⟩ := q; exact ⟨q0, q1, qP, va_K.moved (u := U) (U := U.calling g mk a) (Vm.Alike.refl U.vm) qK, qD, i_N.same (s := U) (U := U.calling g mk a) rfl qO⟩, fun U hU hW => ⟨rfl, by rw [hU], by rw [hU]; exact hPc, va_K.moved hW.alike hKc, hDc.weaken (fun _ _ _ _ => trivial), i_N.warm hW hO⟩⟩ rfl rfl hl.1 rfl (lv_room (Nat.le_of_ble_eq_true rfl)) (by decide +kernel : decode cX2_init 33 = .ok (.invokespecial 21, 3)) ⟨Nat.le_of_ble_eq_true rfl, Nat.le_of_ble_eq_true rfl⟩) hS (fun q _ h => hFc q h) hFc (fun _ t H1 locs ht hvm _ hB hz1 hk1 hS => ?_)
  obtain ⟨b3, k3, e3, hP1, hK1, hD1⟩ := hB
  subst e3
  rw [ht] at hP1
  have hK1 := va_K.moved hvm.symm hK1
  obtain ⟨hP, hD⟩ := va_joinT hP hD hk1 hFc hP1 hD1
  generalize H1 = H at hP hS ⊢
  have hK := hK.app hK1
  have ek3 : k0 = k3 := Option.some.inj ((hK.2 1 _ rfl).2.symm.trans (hK.2 2 _ rfl).2)
  subst ek3
  have hK : va_K D z_cl [(d, .object RX4), (k0, .int)] s := hK.sub [0, 1] rfl
  refine W.widen (k := 85) (n := 3888) (by omega) (by omega) ?_
  have hP : va_P D z_cl ([(h0, .inr (2, [.int 0, .ref q11]))] ++ [(q11, .inl (d, 4, .inr (.inr (.inr (.inr (va_up (va_up (va_up (fun _ => none) (0 : Int32).toNatClampNeg (some (b0 0))) (1 : Int32).toNatClampNeg (some (b1 0))) (2 : Int32).toNatClampNeg (some (b2 0))))))))] ++ w_st b0 k0 ++ w_st b1 k0 ++ w_st b2 k0 ++ w_st b3 k0) H := hP
  have hD : va_D A ([(h0, .inr (2, [.int 0, .ref q11]))] ++ [(q11, .inl (d, 4, .inr (.inr (.inr (.inr (va_up (va_up (va_up (fun _ => none) (0 : Int32).toNatClampNeg (some (b0 0))) (1 : Int32).toNatClampNeg (some (b1 0))) (2 : Int32).toNatClampNeg (some (b2 0))))))))] ++ w_st b0 k0 ++ w_st b1 k0 ++ w_st b2 k0 ++ w_st b3 k0) := hD
  refine va_astq (r := (RX4, TX4, 9)) hx hb hK hP hD hS 1 0 65 4 rfl rfl rfl rfl (by unfold vp_in; decide) (by decide +kernel : decode cX2_init 36 = .ok (.aastore, 1)) (fun H locs hP hD hS => ?_)
  have hP : va_P D z_cl ([(h0, .inr (2, [.int 0, .ref q11]))] ++ [(q11, .inl (d, 4, .inr (.inr (.inr (.inr (va_up (va_up (va_up (va_up (fun _ => none) (0 : Int32).toNatClampNeg (some (b0 0))) (1 : Int32).toNatClampNeg (some (b1 0))) (2 : Int32).toNatClampNeg (some (b2 0))) (3 : Int32).toNatClampNeg (some (b3 0))))))))] ++ w_st b0 k0 ++ w_st b1 k0 ++ w_st b2 k0 ++ w_st b3 k0) H := hP
  have hD : va_D A ([(h0, .inr (2, [.int 0, .ref q11]))] ++ [(q11, .inl (d, 4, .inr (.inr (.inr (.inr (va_up (va_up (va_up (va_up (fun _ => none) (0 : Int32).toNatClampNeg (some (b0 0))) (1 : Int32).toNatClampNeg (some (b1 0))) (2 : Int32).toNatClampNeg (some (b2 0))) (3 : Int32).toNatClampNeg (some (b3 0))))))))] ++ w_st b0 k0 ++ w_st b1 k0 ++ w_st b2 k0 ++ w_st b3 k0) := hD
  refine lv_iinc (v := 4) (lv' := [(1, .int 4), (0, .ref h0)]) hx hb (by decide +kernel : decode cX2_init 37 = .ok (.iinc 1 1, 3)) hl (k := 0) rfl (by decide) (by decide) rfl (fun ls hl => ?_)
  refine lv_goto (tgt := 19) hx hb (by decide +kernel : decode cX2_init 40 = .ok (.goto (-21), 3)) (by decide) ?_
  refine lv_iload_n (x := 4) hx hb (by decide +kernel : decode cX2_init 19 = .ok (.iload_n 1, 1)) rfl (lv_at hl 0 rfl) ?_
  refine lv_iconst (v := 4) hx hb (by decide +kernel : decode cX2_init 20 = .ok (.iconst 4, 1)) (by decide) ?_
  refine lv_icmp_ge (tgt := 43) hx hb (by decide +kernel : decode cX2_init 21 = .ok (.if_icmp .ge 22, 3)) (by decide) (fun _ => ?_) (fun cc => absurd (by decide) cc)
  have hK : va_K D z_cl [(k0, .int), (d, .object RX4)] s := hK.sub [1, 0] rfl
  have hf : ∀ j, j < 4 → (va_up (va_up (va_up (va_up (fun _ => none) (0 : Int32).toNatClampNeg (some (b0 0))) (1 : Int32).toNatClampNeg (some (b1 0))) (2 : Int32).toNatClampNeg (some (b2 0))) (3 : Int32).toNatClampNeg (some (b3 0))) j = some (((fun o : Nat => if o = 3 then b0 else if o = 4 then b1 else if o = 5 then b2 else b3)) (3 + j) 0) := fun j hj => by
    rcases (show j = 0 ∨ j = 1 ∨ j = 2 ∨ j = 3 by omega) with rfl | rfl | rfl | rfl <;> rfl
  have hP9 : va_P D z_cl (w_hi h0 q11 (va_up (va_up (va_up (va_up (fun _ => none) (0 : Int32).toNatClampNeg (some (b0 0))) (1 : Int32).toNatClampNeg (some (b1 0))) (2 : Int32).toNatClampNeg (some (b2 0))) (3 : Int32).toNatClampNeg (some (b3 0))) (fun o : Nat => if o = 3 then b0 else if o = 4 then b1 else if o = 5 then b2 else b3) k0 d) H := hP
  have hD9 : va_D A (w_hi h0 q11 (va_up (va_up (va_up (va_up (fun _ => none) (0 : Int32).toNatClampNeg (some (b0 0))) (1 : Int32).toNatClampNeg (some (b1 0))) (2 : Int32).toNatClampNeg (some (b2 0))) (3 : Int32).toNatClampNeg (some (b3 0))) (fun o : Nat => if o = 3 then b0 else if o = 4 then b1 else if o = 5 then b2 else b3) k0 d) := hD
  refine W.widen (k := 85) (n := 3888) (by omega) (by omega) ?_
  exact W.vret hx hb hr (fun t ht hW => ⟨⟨(), rfl, trivial, q11, va_up (va_up (va_up (va_up (fun _ => none) (0 : Int32).toNatClampNeg (some (b0 0))) (1 : Int32).toNatClampNeg (some (b1 0))) (2 : Int32).toNatClampNeg (some (b2 0))) (3 : Int32).toNatClampNeg (some (b3 0)), (fun o : Nat => if o = 3 then b0 else if o = 4 then b1 else if o = 5 then b2 else b3), k0, d, hf, by rw [ht]; exact hP9, va_K.moved hW.alike hK, hD9⟩, hS.F ht⟩) hS.2.2 (by decide +kernel : decode cX2_init 43 = .ok (.return_, 1))
