/-! constructors that make arrays alone; by gen_init.py -/
theorem va_joinT {A0 : Nat → Prop} {D : va_G} {cl : List vw_C} {wr wc w1 : va_W} {H H1 : Heap} (hP : va_P D cl (wr ++ wc) H) (hD : va_D A0 (wr ++ wc)) (hk : ∀ q : Nat, q < H.size → ¬ va_A wc H.size q → H1[q]? = H[q]?) (hF : ∀ q, va_A wc H.size q → A0 q) (hP1 : va_P D cl w1 H1) (hD1 : va_D (va_A wc H.size) w1) : va_P D cl (wr ++ w1) H1 ∧ va_D A0 (wr ++ w1) := by
  have inl : ∀ (k : Nat) (q : Nat × va_E), wr[k]? = some q → (wr ++ wc)[k]? = some q := fun k q h => by
    rw [List.getElem?_append_left (List.getElem?_eq_some_iff.mp h).1]; exact h
  have apart : ∀ (k : Nat) (q : Nat × va_E), wr[k]? = some q → q.1 < H.size ∧ ¬ va_A wc H.size q.1 := by
    intro k q hq
    have hl := (hP k q (inl k q hq)).lt
    refine ⟨hl, fun h => ?_⟩
    rcases h with ⟨k2, e, h⟩ | h
    · have h2 : (wr ++ wc)[wr.length + k2]? = some (q.1, e) := by
        rw [List.getElem?_append_right (by omega), Nat.add_sub_cancel_left]; exact h
      have := hD.1 k (wr.length + k2) q (q.1, e) (inl k q hq) h2 rfl
      have := (List.getElem?_eq_some_iff.mp hq).1
      omega
    · omega
  have hDr : va_D A0 wr := ⟨fun i j x y hi hj hxy => hD.1 i j x y (inl i x hi) (inl j y hj) hxy, fun k q hq => hD.2 k q (inl k q hq)⟩
  refine ⟨va_P.app (fun k q hq => ?_) hP1, va_D.app hDr (hD1.weaken (fun k q _ h => hF q.1 h)) (fun i j x y hx hy hxy => ?_)⟩
  · obtain ⟨g1, g2⟩ := apart k q hq
    exact (hP k q (inl k q hq)).kept (hk q.1 g1 g2)
  · exact (apart i x hx).2 (by rw [hxy]; exact hD1.2 j y hy)
theorem va_freeT {A0 : Nat → Prop} {wr wc : va_W} {H0 H : Heap} {locs : List Loc} (hD : va_D A0 (wr ++ wc)) (hS : va_S A0 H0 H locs) (hA : ∀ q, H0.size ≤ q → A0 q) : ∀ q, va_A wc H.size q → A0 q := by
  intro q h
  rcases h with ⟨k, e, h⟩ | h
  · exact hD.2 (wr.length + k) (q, e) (by rw [List.getElem?_append_right (by omega), Nat.add_sub_cancel_left]; exact h)
  · exact hA q (Nat.le_trans hS.1 h)
theorem va_lastP {D : va_G} {cl : List vw_C} {wr wc : va_W} {H : Heap} (h : va_P D cl (wr ++ wc) H) : va_P D cl wc H := fun k q hq => h (wr.length + k) q (by rw [List.getElem?_append_right (by omega), Nat.add_sub_cancel_left]; exact hq)
theorem va_lastD {A : Nat → Prop} {wr wc : va_W} (h : va_D A (wr ++ wc)) : va_D A wc := ⟨fun i j x y hi hj hxy => by
  have := h.1 (wr.length + i) (wr.length + j) x y (by rw [List.getElem?_append_right (by omega), Nat.add_sub_cancel_left]; exact hi) (by rw [List.getElem?_append_right (by omega), Nat.add_sub_cancel_left]; exact hj) hxy
  omega, fun k q hq => h.2 (wr.length + k) q (by rw [List.getElem?_append_right (by omega), Nat.add_sub_cancel_left]; exact hq)⟩
theorem i_wd0 : Cond.code yX0_init cX0_init 1 none ∈ z_G := (z_m1 (i := 58) rfl rfl)
theorem i_gd0 : GoodIn z_G (Cond.code yX0_init cX0_init 1 none :: z_G) := fun w hw => z_G_good w (by
  rcases List.mem_cons.mp hw with rfl | hw
  · exact i_wd0
  · exact hw)
theorem i_wd1 : Cond.code yX1_init cX1_init 1 none ∈ z_G := (z_m1 (i := 29) rfl rfl)
theorem i_gd1 : GoodIn z_G (Cond.code yX1_init cX1_init 1 none :: z_G) := fun w hw => z_G_good w (by
  rcases List.mem_cons.mp hw with rfl | hw
  · exact i_wd1
  · exact hw)
theorem i_wd2 : Cond.code yX2_init cX2_init 2 none ∈ z_G := (z_m1 (i := 197) rfl rfl)
theorem i_gd2 : GoodIn z_G (Cond.code yX2_init cX2_init 2 none :: z_G) := fun w hw => z_G_good w (by
  rcases List.mem_cons.mp hw with rfl | hw
  · exact i_wd2
  · exact hw)
theorem i_wd3 : Cond.code yX3_init cX3_init 1 none ∈ z_G := (z_m1 (i := 113) rfl rfl)
theorem i_gd3 : GoodIn z_G (Cond.code yX3_init cX3_init 1 none :: z_G) := fun w hw => z_G_good w (by
  rcases List.mem_cons.mp hw with rfl | hw
  · exact i_wd3
  · exact hw)
theorem i_wd4 : Cond.code yX4_init cX4_init 1 none ∈ z_G := (z_m1 (i := 23) rfl rfl)
theorem i_gd4 : GoodIn z_G (Cond.code yX4_init cX4_init 1 none :: z_G) := fun w hw => z_G_good w (by
  rcases List.mem_cons.mp hw with rfl | hw
  · exact i_wd4
  · exact hw)
theorem i_wd5 : Cond.code yX5_init cX5_init 1 none ∈ z_G := (z_m1 (i := 214) rfl rfl)
theorem i_gd5 : GoodIn z_G (Cond.code yX5_init cX5_init 1 none :: z_G) := fun w hw => z_G_good w (by
  rcases List.mem_cons.mp hw with rfl | hw
  · exact i_wd5
  · exact hw)
theorem i_wd6 : Cond.code yX6_init cX6_init 1 none ∈ z_G := (z_m1 (i := 229) rfl rfl)
theorem i_gd6 : GoodIn z_G (Cond.code yX6_init cX6_init 1 none :: z_G) := fun w hw => z_G_good w (by
  rcases List.mem_cons.mp hw with rfl | hw
  · exact i_wd6
  · exact hw)
theorem i_wd7 : Cond.code yX7_init cX7_init 1 none ∈ z_G := (z_m1 (i := 15) rfl rfl)
theorem i_gd7 : GoodIn z_G (Cond.code yX7_init cX7_init 1 none :: z_G) := fun w hw => z_G_good w (by
  rcases List.mem_cons.mp hw with rfl | hw
  · exact i_wd7
  · exact hw)
def w_gr (a : Nat → Nat) (c : ClassId) : va_W := [(a 1, .inr (1, [.int 0, .ref (a 4), .ref (a 5), .ref (a 6)])), (a 4, .inl (c, 3, .inl fun _ => 0)), (a 5, .inl (c, 3, .inl fun _ => 0)), (a 6, .inl (c, 3, .inl fun _ => 0))]
def w_cl (a : Nat → Nat) (c : ClassId) : va_W := [(a 2, .inr (0, [.int 0, .ref (a 7), .ref (a 8), .ref (a 9), .ref (a 10), .ref (a 11), .ref (a 12), .ref (a 13), .ref (a 14), .ref (a 15)])), (a 7, .inl (c, 8, .inl fun _ => 0)), (a 8, .inl (c, 8, .inl fun _ => 0)), (a 9, .inl (c, 8, .inl fun _ => 0)), (a 10, .inl (c, 8, .inl fun _ => 0)), (a 11, .inl (c, 8, .inl fun _ => 0)), (a 12, .inl (c, 8, .inl fun _ => 0)), (a 13, .inl (c, 8, .inl fun _ => 0)), (a 14, .inl (c, 8, .inl fun _ => 0)), (a 15, .inl (c, 8, .inl fun _ => 0))]
def w_jo (a : Nat → Nat) (c : ClassId) : va_W := [(a 3, .inr (3, [.int 0, .ref (a 16), .ref (a 17), .ref (a 18), .ref (a 19), .int 0, .ref (a 20)])), (a 16, .inl (c, 200, .inl fun _ => 0)), (a 17, .inl (c, 200, .inl fun _ => 0)), (a 18, .inl (c, 200, .inl fun _ => 0)), (a 19, .inl (c, 200, .inl fun _ => 0)), (a 20, .inl (c, 60, .inl fun _ => 0))]
def w_te (a : Nat → Nat) (c : ClassId) : va_W := [(a 24, .inr (5, [.int 0, .ref (a 25)])), (a 25, .inl (c, 60, .inl fun _ => 0))]
def w_tu (a : Nat → Nat) (c d : ClassId) : va_W := [(a 26, .inr (6, [.ref (a 27), .ref (a 28), .ref (a 29)])), (a 27, .inl (c, 8, .inl fun _ => 0)), (a 28, .inl (c, 3, .inl fun _ => 0)), (a 29, .inl (d, 3, .inl fun _ => 0))]
set_option maxHeartbeats 4000000 in
set_option maxRecDepth 100000 in
theorem i_Groups (l : Launch) (D : va_G) (h0 sz : Nat) : Met l yX1_init (Cond.code yX1_init cX1_init 1 none :: z_G) ({ frames := 1, cells := 3, slots := 9, locals := 12 }) (va_Pc [.ref h0] (fun U => U.heap.size = sz ∧ va_P D z_cl [(h0, .inr (1, [.int 0, .null, .null, .null]))] U.heap ∧ va_K D z_cl [] U ∧ va_D (fun _ => True) [(h0, .inr (1, [.int 0, .null, .null, .null]))]))
    (va_Qv (fun _ : Unit => True) (fun _ t => ∃ (a : Nat → Nat) (k : ClassId), a 1 = h0 ∧ va_P D z_cl (w_gr a k) t.heap ∧ va_K D z_cl [(k, .int)] t ∧ va_D (va_A [(h0, .inr (1, [.int 0, .null, .null, .null]))] sz) (w_gr a k)) (va_A [(h0, .inr (1, [.int 0, .null, .null, .null]))] sz)) 3 9 (va_A [(h0, .inr (1, [.int 0, .null, .null, .null]))] sz) := by
  refine Met.ofW (cc := cX1_init) (maxL := 1) (ret := none) (by decide) rfl ?_
  intro p e s m args below meth c s₁ B hml hv
  obtain ⟨rfl, hsz, hP, hK, hD0⟩ := hv
  have hx := B.exec
  have hb := B.bytes
  have hr := B.returns
  have hts0 := atoms_spec (ws := Cond.code yX1_init cX1_init 1 none :: z_G) B.pre
  have hts : ∀ w ∈ z_G, w.before ([Value.ref h0].toArray) s = true := fun w hw => hts0 w (List.mem_cons_of_mem _ hw)
  have hown : s.vm.findClass RX1 = some m.cls := findClass_of_methodNamed B.named
  have hlocks := B.notSynchronized
  have hin : meth.name = "<init>" := (name_of_methodNamed B.named B.method).1
  subst hsz
  have hD := hD0.self (sz := s.heap.size)
  generalize hAe : va_A [(h0, .inr (1, [.int 0, .null, .null, .null]))] s.heap.size = A at hD ⊢
  have hA : ∀ q : Nat, s.heap.size ≤ q → A q := fun q h => by rw [← hAe]; exact Or.inr h
  have hS : va_S A s.heap s.heap [] := va_S.rf
  have hl := lv_entry ([.ref h0]) (n := 1) (Nat.le_of_ble_eq_true rfl)
  rw [lg_entry_eq]
  generalize (lg_sl ([.ref h0]) ++ List.replicate (1 - (lg_sl ([.ref h0])).length) Slot.unset).toArray = ls at hl ⊢
  have hl : lv_has ls 1 [(0, .ref h0)] := hl
  refine lv_aload_n hx hb (by decide +kernel : decode cX1_init 0 = .ok (.aload_n 0, 1)) rfl (lv_at hl 0 rfl) ?_
  refine W.objInit hx hb hown (hts _ (z_m1 (i := 30) rfl rfl)) (hts _ (z_m1 (i := 17) rfl rfl)) (hts _ (z_m1 (i := 18) rfl rfl)) rfl (by rw [hml]; exact hl.1) rfl (by decide +kernel : decode cX1_init 1 = .ok (.invokespecial 3, 3)) (Nat.le_of_ble_eq_true rfl) (Nat.le_of_ble_eq_true rfl) ?_
  refine W.eq (g2 := F0 m 4 ls []) rfl ?_
  refine lv_aload_n hx hb (by decide +kernel : decode cX1_init 4 = .ok (.aload_n 0, 1)) rfl (lv_at hl 0 rfl) ?_
  refine lv_iconst (v := 0) hx hb (by decide +kernel : decode cX1_init 5 = .ok (.iconst 0, 1)) (by decide) ?_
  refine va_put (D := D) (ci := 1) (v := .int 0) (ty := .int) (C := RX1) (T := TX1) (N := 4) hx hb hts z_lays_1 tyX1 tyX1_ok nmX1 hown hK hP hD hS 0 rfl rfl 0 (by decide) (hts _ (z_m1 (i := 31) rfl rfl)) (fun _ h9 => h9) rfl (by decide +kernel) rfl rfl (Nat.le_of_ble_eq_true rfl) (by decide +kernel : decode cX1_init 6 = .ok (.putfield 9, 3)) (fun H locs hP hD hS => ?_)
  have hP : va_P D z_cl [(h0, .inr (1, [.int 0, .null, .null, .null]))] H := hP
  have hD : va_D A [(h0, .inr (1, [.int 0, .null, .null, .null]))] := hD
  refine lv_aload_n hx hb (by decide +kernel : decode cX1_init 9 = .ok (.aload_n 0, 1)) rfl (lv_at hl 0 rfl) ?_
  refine lv_iconst (v := 3) hx hb (by decide +kernel : decode cX1_init 10 = .ok (.iconst 3, 1)) (by decide) ?_
  refine va_newa (atype := .int) (ty := .int) (a0 := (3, .inl fun _ => 0)) (N' := 3) hx hb (hts _ (z_m1 (i := 53) rfl rfl)) rfl hK hP hD hS hA (fun _ => rfl) (by decide) rfl (Nat.le_of_ble_eq_true rfl) (Nat.le_of_ble_eq_true rfl) (Nat.le_of_ble_eq_true rfl) (by decide +kernel : decode cX1_init 11 = .ok (.newarray .int, 2)) (fun q11 cn H hK hP hD hS => ?_)
  obtain ⟨cint, ecn⟩ : ∃ z, z = cn := ⟨_, rfl⟩
  subst ecn
  have hK : va_K D z_cl [(cint, .int)] s := hK
  have hP : va_P D z_cl [(h0, .inr (1, [.int 0, .null, .null, .null])), (q11, .inl (cint, 3, .inl fun _ => 0))] H := hP
  have hD : va_D A [(h0, .inr (1, [.int 0, .null, .null, .null])), (q11, .inl (cint, 3, .inl fun _ => 0))] := hD
  refine W.widen (k := 1) (n := 3) (by omega) (by omega) ?_
  refine va_putF (D := D) (ci := 1) (v := .ref q11) (ty := .array .int) (C := RX1) (T := TX1) (N := 4) hx hb hts z_lays_1 tyX1 tyX1_ok nmX1 hown hK hP hD hS 0 rfl rfl 1 (by decide) (hts _ (z_m1 (i := 34) rfl rfl)) (fun _ h9 => h9) rfl hin rfl (by decide +kernel) rfl rfl (Nat.le_of_ble_eq_true rfl) (by decide +kernel : decode cX1_init 13 = .ok (.putfield 15, 3)) (fun H locs hP hD hS => ?_)
  have hP : va_P D z_cl [(h0, .inr (1, [.int 0, .ref q11, .null, .null])), (q11, .inl (cint, 3, .inl fun _ => 0))] H := hP
  have hD : va_D A [(h0, .inr (1, [.int 0, .ref q11, .null, .null])), (q11, .inl (cint, 3, .inl fun _ => 0))] := hD
  refine lv_aload_n hx hb (by decide +kernel : decode cX1_init 16 = .ok (.aload_n 0, 1)) rfl (lv_at hl 0 rfl) ?_
  refine lv_iconst (v := 3) hx hb (by decide +kernel : decode cX1_init 17 = .ok (.iconst 3, 1)) (by decide) ?_
  refine va_newa (atype := .int) (ty := .int) (a0 := (3, .inl fun _ => 0)) (N' := 3) hx hb (hts _ (z_m1 (i := 53) rfl rfl)) rfl hK hP hD hS hA (fun _ => rfl) (by decide) rfl (Nat.le_of_ble_eq_true rfl) (Nat.le_of_ble_eq_true rfl) (Nat.le_of_ble_eq_true rfl) (by decide +kernel : decode cX1_init 18 = .ok (.newarray .int, 2)) (fun q18 cn H hK hP hD hS => ?_)
  have ecn : cint = cn := Option.some.inj ((hK.2 0 _ rfl).2.symm.trans (hK.2 1 _ rfl).2)
  subst ecn
  have hK : va_K D z_cl [(cint, .int)] s := hK.sub [0] rfl
  have hP : va_P D z_cl [(h0, .inr (1, [.int 0, .ref q11, .null, .null])), (q11, .inl (cint, 3, .inl fun _ => 0)), (q18, .inl (cint, 3, .inl fun _ => 0))] H := hP
  have hD : va_D A [(h0, .inr (1, [.int 0, .ref q11, .null, .null])), (q11, .inl (cint, 3, .inl fun _ => 0)), (q18, .inl (cint, 3, .inl fun _ => 0))] := hD
  refine W.widen (k := 2) (n := 6) (by omega) (by omega) ?_
  refine va_putF (D := D) (ci := 1) (v := .ref q18) (ty := .array .int) (C := RX1) (T := TX1) (N := 4) hx hb hts z_lays_1 tyX1 tyX1_ok nmX1 hown hK hP hD hS 0 rfl rfl 2 (by decide) (hts _ (z_m1 (i := 37) rfl rfl)) (fun _ h9 => h9) rfl hin rfl (by decide +kernel) rfl rfl (Nat.le_of_ble_eq_true rfl) (by decide +kernel : decode cX1_init 20 = .ok (.putfield 19, 3)) (fun H locs hP hD hS => ?_)
  have hP : va_P D z_cl [(h0, .inr (1, [.int 0, .ref q11, .ref q18, .null])), (q11, .inl (cint, 3, .inl fun _ => 0)), (q18, .inl (cint, 3, .inl fun _ => 0))] H := hP
  have hD : va_D A [(h0, .inr (1, [.int 0, .ref q11, .ref q18, .null])), (q11, .inl (cint, 3, .inl fun _ => 0)), (q18, .inl (cint, 3, .inl fun _ => 0))] := hD
  refine lv_aload_n hx hb (by decide +kernel : decode cX1_init 23 = .ok (.aload_n 0, 1)) rfl (lv_at hl 0 rfl) ?_
  refine lv_iconst (v := 3) hx hb (by decide +kernel : decode cX1_init 24 = .ok (.iconst 3, 1)) (by decide) ?_
  refine va_newa (atype := .int) (ty := .int) (a0 := (3, .inl fun _ => 0)) (N' := 3) hx hb (hts _ (z_m1 (i := 53) rfl rfl)) rfl hK hP hD hS hA (fun _ => rfl) (by decide) rfl (Nat.le_of_ble_eq_true rfl) (Nat.le_of_ble_eq_true rfl) (Nat.le_of_ble_eq_true rfl) (by decide +kernel : decode cX1_init 25 = .ok (.newarray .int, 2)) (fun q25 cn H hK hP hD hS => ?_)
  have ecn : cint = cn := Option.some.inj ((hK.2 0 _ rfl).2.symm.trans (hK.2 1 _ rfl).2)
  subst ecn
  have hK : va_K D z_cl [(cint, .int)] s := hK.sub [0] rfl
  have hP : va_P D z_cl [(h0, .inr (1, [.int 0, .ref q11, .ref q18, .null])), (q11, .inl (cint, 3, .inl fun _ => 0)), (q18, .inl (cint, 3, .inl fun _ => 0)), (q25, .inl (cint, 3, .inl fun _ => 0))] H := hP
  have hD : va_D A [(h0, .inr (1, [.int 0, .ref q11, .ref q18, .null])), (q11, .inl (cint, 3, .inl fun _ => 0)), (q18, .inl (cint, 3, .inl fun _ => 0)), (q25, .inl (cint, 3, .inl fun _ => 0))] := hD
  refine W.widen (k := 3) (n := 9) (by omega) (by omega) ?_
  refine va_putF (D := D) (ci := 1) (v := .ref q25) (ty := .array .int) (C := RX1) (T := TX1) (N := 4) hx hb hts z_lays_1 tyX1 tyX1_ok nmX1 hown hK hP hD hS 0 rfl rfl 3 (by decide) (hts _ (z_m1 (i := 41) rfl rfl)) (fun _ h9 => h9) rfl hin rfl (by decide +kernel) rfl rfl (Nat.le_of_ble_eq_true rfl) (by decide +kernel : decode cX1_init 27 = .ok (.putfield 22, 3)) (fun H locs hP hD hS => ?_)
  have hP : va_P D z_cl [(h0, .inr (1, [.int 0, .ref q11, .ref q18, .ref q25])), (q11, .inl (cint, 3, .inl fun _ => 0)), (q18, .inl (cint, 3, .inl fun _ => 0)), (q25, .inl (cint, 3, .inl fun _ => 0))] H := hP
  have hD : va_D A [(h0, .inr (1, [.int 0, .ref q11, .ref q18, .ref q25])), (q11, .inl (cint, 3, .inl fun _ => 0)), (q18, .inl (cint, 3, .inl fun _ => 0)), (q25, .inl (cint, 3, .inl fun _ => 0))] := hD
  have hP9 : va_P D z_cl (w_gr (fun o : Nat => if o = 4 then q11 else if o = 5 then q18 else if o = 6 then q25 else h0) cint) H := hP
  have hD9 : va_D A (w_gr (fun o : Nat => if o = 4 then q11 else if o = 5 then q18 else if o = 6 then q25 else h0) cint) := hD
  refine W.widen (k := 3) (n := 9) (by omega) (by omega) ?_
  exact W.vret hx hb hr (fun t ht hW => ⟨⟨(), rfl, trivial, (fun o : Nat => if o = 4 then q11 else if o = 5 then q18 else if o = 6 then q25 else h0), cint, rfl, by rw [ht]; exact hP9, va_K.moved hW.alike hK, hD9⟩, hS.F ht⟩) hS.2.2 (by decide +kernel : decode cX1_init 30 = .ok (.return_, 1))
set_option maxHeartbeats 4000000 in
set_option maxRecDepth 100000 in
theorem i_Classes (l : Launch) (D : va_G) (h0 sz : Nat) : Met l yX0_init (Cond.code yX0_init cX0_init 1 none :: z_G) ({ frames := 1, cells := 9, slots := 72, locals := 12 }) (va_Pc [.ref h0] (fun U => U.heap.size = sz ∧ va_P D z_cl [(h0, .inr (0, [.int 0, .null, .null, .null, .null, .null, .null, .null, .null, .null]))] U.heap ∧ va_K D z_cl [] U ∧ va_D (fun _ => True) [(h0, .inr (0, [.int 0, .null, .null, .null, .null, .null, .null, .null, .null, .null]))]))
    (va_Qv (fun _ : Unit => True) (fun _ t => ∃ (a : Nat → Nat) (k : ClassId), a 2 = h0 ∧ va_P D z_cl (w_cl a k) t.heap ∧ va_K D z_cl [(k, .int)] t ∧ va_D (va_A [(h0, .inr (0, [.int 0, .null, .null, .null, .null, .null, .null, .null, .null, .null]))] sz) (w_cl a k)) (va_A [(h0, .inr (0, [.int 0, .null, .null, .null, .null, .null, .null, .null, .null, .null]))] sz)) 9 72 (va_A [(h0, .inr (0, [.int 0, .null, .null, .null, .null, .null, .null, .null, .null, .null]))] sz) := by
  refine Met.ofW (cc := cX0_init) (maxL := 1) (ret := none) (by decide) rfl ?_
  intro p e s m args below meth c s₁ B hml hv
  obtain ⟨rfl, hsz, hP, hK, hD0⟩ := hv
  have hx := B.exec
  have hb := B.bytes
  have hr := B.returns
  have hts0 := atoms_spec (ws := Cond.code yX0_init cX0_init 1 none :: z_G) B.pre
  have hts : ∀ w ∈ z_G, w.before ([Value.ref h0].toArray) s = true := fun w hw => hts0 w (List.mem_cons_of_mem _ hw)
  have hown : s.vm.findClass RX0 = some m.cls := findClass_of_methodNamed B.named
  have hlocks := B.notSynchronized
  have hin : meth.name = "<init>" := (name_of_methodNamed B.named B.method).1
  subst hsz
  have hD := hD0.self (sz := s.heap.size)
  generalize hAe : va_A [(h0, .inr (0, [.int 0, .null, .null, .null, .null, .null, .null, .null, .null, .null]))] s.heap.size = A at hD ⊢
  have hA : ∀ q : Nat, s.heap.size ≤ q → A q := fun q h => by rw [← hAe]; exact Or.inr h
  have hS : va_S A s.heap s.heap [] := va_S.rf
  have hl := lv_entry ([.ref h0]) (n := 1) (Nat.le_of_ble_eq_true rfl)
  rw [lg_entry_eq]
  generalize (lg_sl ([.ref h0]) ++ List.replicate (1 - (lg_sl ([.ref h0])).length) Slot.unset).toArray = ls at hl ⊢
  have hl : lv_has ls 1 [(0, .ref h0)] := hl
  refine lv_aload_n hx hb (by decide +kernel : decode cX0_init 0 = .ok (.aload_n 0, 1)) rfl (lv_at hl 0 rfl) ?_
  refine W.objInit hx hb hown (hts _ (z_m1 (i := 59) rfl rfl)) (hts _ (z_m1 (i := 17) rfl rfl)) (hts _ (z_m1 (i := 18) rfl rfl)) rfl (by rw [hml]; exact hl.1) rfl (by decide +kernel : decode cX0_init 1 = .ok (.invokespecial 3, 3)) (Nat.le_of_ble_eq_true rfl) (Nat.le_of_ble_eq_true rfl) ?_
  refine W.eq (g2 := F0 m 4 ls []) rfl ?_
  refine lv_aload_n hx hb (by decide +kernel : decode cX0_init 4 = .ok (.aload_n 0, 1)) rfl (lv_at hl 0 rfl) ?_
  refine lv_iconst (v := 0) hx hb (by decide +kernel : decode cX0_init 5 = .ok (.iconst 0, 1)) (by decide) ?_
  refine va_put (D := D) (ci := 0) (v := .int 0) (ty := .int) (C := RX0) (T := TX0) (N := 10) hx hb hts z_lays_0 tyX0 tyX0_ok nmX0 hown hK hP hD hS 0 rfl rfl 0 (by decide) (hts _ (z_m1 (i := 60) rfl rfl)) (fun _ h9 => h9) rfl (by decide +kernel) rfl rfl (Nat.le_of_ble_eq_true rfl) (by decide +kernel : decode cX0_init 6 = .ok (.putfield 9, 3)) (fun H locs hP hD hS => ?_)
  have hP : va_P D z_cl [(h0, .inr (0, [.int 0, .null, .null, .null, .null, .null, .null, .null, .null, .null]))] H := hP
  have hD : va_D A [(h0, .inr (0, [.int 0, .null, .null, .null, .null, .null, .null, .null, .null, .null]))] := hD
  refine lv_aload_n hx hb (by decide +kernel : decode cX0_init 9 = .ok (.aload_n 0, 1)) rfl (lv_at hl 0 rfl) ?_
  refine lv_bipush (v := 8) hx hb (by decide +kernel : decode cX0_init 10 = .ok (.bipush 8, 2)) (by decide) ?_
  refine va_newa (atype := .int) (ty := .int) (a0 := (8, .inl fun _ => 0)) (N' := 8) hx hb (hts _ (z_m1 (i := 53) rfl rfl)) rfl hK hP hD hS hA (fun _ => rfl) (by decide) rfl (Nat.le_of_ble_eq_true rfl) (Nat.le_of_ble_eq_true rfl) (Nat.le_of_ble_eq_true rfl) (by decide +kernel : decode cX0_init 12 = .ok (.newarray .int, 2)) (fun q12 cn H hK hP hD hS => ?_)
  obtain ⟨cint, ecn⟩ : ∃ z, z = cn := ⟨_, rfl⟩
  subst ecn
  have hK : va_K D z_cl [(cint, .int)] s := hK
  have hP : va_P D z_cl [(h0, .inr (0, [.int 0, .null, .null, .null, .null, .null, .null, .null, .null, .null])), (q12, .inl (cint, 8, .inl fun _ => 0))] H := hP
  have hD : va_D A [(h0, .inr (0, [.int 0, .null, .null, .null, .null, .null, .null, .null, .null, .null])), (q12, .inl (cint, 8, .inl fun _ => 0))] := hD
  refine W.widen (k := 1) (n := 8) (by omega) (by omega) ?_
  refine va_putF (D := D) (ci := 0) (v := .ref q12) (ty := .array .int) (C := RX0) (T := TX0) (N := 10) hx hb hts z_lays_0 tyX0 tyX0_ok nmX0 hown hK hP hD hS 0 rfl rfl 1 (by decide) (hts _ (z_m1 (i := 63) rfl rfl)) (fun _ h9 => h9) rfl hin rfl (by decide +kernel) rfl rfl (Nat.le_of_ble_eq_true rfl) (by decide +kernel : decode cX0_init 14 = .ok (.putfield 15, 3)) (fun H locs hP hD hS => ?_)
  have hP : va_P D z_cl [(h0, .inr (0, [.int 0, .ref q12, .null, .null, .null, .null, .null, .null, .null, .null])), (q12, .inl (cint, 8, .inl fun _ => 0))] H := hP
  have hD : va_D A [(h0, .inr (0, [.int 0, .ref q12, .null, .null, .null, .null, .null, .null, .null, .null])), (q12, .inl (cint, 8, .inl fun _ => 0))] := hD
  refine lv_aload_n hx hb (by decide +kernel : decode cX0_init 17 = .ok (.aload_n 0, 1)) rfl (lv_at hl 0 rfl) ?_
  refine lv_bipush (v := 8) hx hb (by decide +kernel : decode cX0_init 18 = .ok (.bipush 8, 2)) (by decide) ?_
  refine va_newa (atype := .int) (ty := .int) (a0 := (8, .inl fun _ => 0)) (N' := 8) hx hb (hts _ (z_m1 (i := 53) rfl rfl)) rfl hK hP hD hS hA (fun _ => rfl) (by decide) rfl (Nat.le_of_ble_eq_true rfl) (Nat.le_of_ble_eq_true rfl) (Nat.le_of_ble_eq_true rfl) (by decide +kernel : decode cX0_init 20 = .ok (.newarray .int, 2)) (fun q20 cn H hK hP hD hS => ?_)
  have ecn : cint = cn := Option.some.inj ((hK.2 0 _ rfl).2.symm.trans (hK.2 1 _ rfl).2)
  subst ecn
  have hK : va_K D z_cl [(cint, .int)] s := hK.sub [0] rfl
  have hP : va_P D z_cl [(h0, .inr (0, [.int 0, .ref q12, .null, .null, .null, .null, .null, .null, .null, .null])), (q12, .inl (cint, 8, .inl fun _ => 0)), (q20, .inl (cint, 8, .inl fun _ => 0))] H := hP
  have hD : va_D A [(h0, .inr (0, [.int 0, .ref q12, .null, .null, .null, .null, .null, .null, .null, .null])), (q12, .inl (cint, 8, .inl fun _ => 0)), (q20, .inl (cint, 8, .inl fun _ => 0))] := hD
  refine W.widen (k := 2) (n := 16) (by omega) (by omega) ?_
  refine va_putF (D := D) (ci := 0) (v := .ref q20) (ty := .array .int) (C := RX0) (T := TX0) (N := 10) hx hb hts z_lays_0 tyX0 tyX0_ok nmX0 hown hK hP hD hS 0 rfl rfl 2 (by decide) (hts _ (z_m1 (i := 67) rfl rfl)) (fun _ h9 => h9) rfl hin rfl (by decide +kernel) rfl rfl (Nat.le_of_ble_eq_true rfl) (by decide +kernel : decode cX0_init 22 = .ok (.putfield 19, 3)) (fun H locs hP hD hS => ?_)
  have hP : va_P D z_cl [(h0, .inr (0, [.int 0, .ref q12, .ref q20, .null, .null, .null, .null, .null, .null, .null])), (q12, .inl (cint, 8, .inl fun _ => 0)), (q20, .inl (cint, 8, .inl fun _ => 0))] H := hP
  have hD : va_D A [(h0, .inr (0, [.int 0, .ref q12, .ref q20, .null, .null, .null, .null, .null, .null, .null])), (q12, .inl (cint, 8, .inl fun _ => 0)), (q20, .inl (cint, 8, .inl fun _ => 0))] := hD
  refine lv_aload_n hx hb (by decide +kernel : decode cX0_init 25 = .ok (.aload_n 0, 1)) rfl (lv_at hl 0 rfl) ?_
  refine lv_bipush (v := 8) hx hb (by decide +kernel : decode cX0_init 26 = .ok (.bipush 8, 2)) (by decide) ?_
  refine va_newa (atype := .int) (ty := .int) (a0 := (8, .inl fun _ => 0)) (N' := 8) hx hb (hts _ (z_m1 (i := 53) rfl rfl)) rfl hK hP hD hS hA (fun _ => rfl) (by decide) rfl (Nat.le_of_ble_eq_true rfl) (Nat.le_of_ble_eq_true rfl) (Nat.le_of_ble_eq_true rfl) (by decide +kernel : decode cX0_init 28 = .ok (.newarray .int, 2)) (fun q28 cn H hK hP hD hS => ?_)
  have ecn : cint = cn := Option.some.inj ((hK.2 0 _ rfl).2.symm.trans (hK.2 1 _ rfl).2)
  subst ecn
  have hK : va_K D z_cl [(cint, .int)] s := hK.sub [0] rfl
  have hP : va_P D z_cl [(h0, .inr (0, [.int 0, .ref q12, .ref q20, .null, .null, .null, .null, .null, .null, .null])), (q12, .inl (cint, 8, .inl fun _ => 0)), (q20, .inl (cint, 8, .inl fun _ => 0)), (q28, .inl (cint, 8, .inl fun _ => 0))] H := hP
  have hD : va_D A [(h0, .inr (0, [.int 0, .ref q12, .ref q20, .null, .null, .null, .null, .null, .null, .null])), (q12, .inl (cint, 8, .inl fun _ => 0)), (q20, .inl (cint, 8, .inl fun _ => 0)), (q28, .inl (cint, 8, .inl fun _ => 0))] := hD
  refine W.widen (k := 3) (n := 24) (by omega) (by omega) ?_
  refine va_putF (D := D) (ci := 0) (v := .ref q28) (ty := .array .int) (C := RX0) (T := TX0) (N := 10) hx hb hts z_lays_0 tyX0 tyX0_ok nmX0 hown hK hP hD hS 0 rfl rfl 3 (by decide) (hts _ (z_m1 (i := 70) rfl rfl)) (fun _ h9 => h9) rfl hin rfl (by decide +kernel) rfl rfl (Nat.le_of_ble_eq_true rfl) (by decide +kernel : decode cX0_init 30 = .ok (.putfield 22, 3)) (fun H locs hP hD hS => ?_)
  have hP : va_P D z_cl [(h0, .inr (0, [.int 0, .ref q12, .ref q20, .ref q28, .null, .null, .null, .null, .null, .null])), (q12, .inl (cint, 8, .inl fun _ => 0)), (q20, .inl (cint, 8, .inl fun _ => 0)), (q28, .inl (cint, 8, .inl fun _ => 0))] H := hP
  have hD : va_D A [(h0, .inr (0, [.int 0, .ref q12, .ref q20, .ref q28, .null, .null, .null, .null, .null, .null])), (q12, .inl (cint, 8, .inl fun _ => 0)), (q20, .inl (cint, 8, .inl fun _ => 0)), (q28, .inl (cint, 8, .inl fun _ => 0))] := hD
  refine lv_aload_n hx hb (by decide +kernel : decode cX0_init 33 = .ok (.aload_n 0, 1)) rfl (lv_at hl 0 rfl) ?_
  refine lv_bipush (v := 8) hx hb (by decide +kernel : decode cX0_init 34 = .ok (.bipush 8, 2)) (by decide) ?_
  refine va_newa (atype := .int) (ty := .int) (a0 := (8, .inl fun _ => 0)) (N' := 8) hx hb (hts _ (z_m1 (i := 53) rfl rfl)) rfl hK hP hD hS hA (fun _ => rfl) (by decide) rfl (Nat.le_of_ble_eq_true rfl) (Nat.le_of_ble_eq_true rfl) (Nat.le_of_ble_eq_true rfl) (by decide +kernel : decode cX0_init 36 = .ok (.newarray .int, 2)) (fun q36 cn H hK hP hD hS => ?_)
  have ecn : cint = cn := Option.some.inj ((hK.2 0 _ rfl).2.symm.trans (hK.2 1 _ rfl).2)
  subst ecn
  have hK : va_K D z_cl [(cint, .int)] s := hK.sub [0] rfl
  have hP : va_P D z_cl [(h0, .inr (0, [.int 0, .ref q12, .ref q20, .ref q28, .null, .null, .null, .null, .null, .null])), (q12, .inl (cint, 8, .inl fun _ => 0)), (q20, .inl (cint, 8, .inl fun _ => 0)), (q28, .inl (cint, 8, .inl fun _ => 0)), (q36, .inl (cint, 8, .inl fun _ => 0))] H := hP
  have hD : va_D A [(h0, .inr (0, [.int 0, .ref q12, .ref q20, .ref q28, .null, .null, .null, .null, .null, .null])), (q12, .inl (cint, 8, .inl fun _ => 0)), (q20, .inl (cint, 8, .inl fun _ => 0)), (q28, .inl (cint, 8, .inl fun _ => 0)), (q36, .inl (cint, 8, .inl fun _ => 0))] := hD
  refine W.widen (k := 4) (n := 32) (by omega) (by omega) ?_
  refine va_putF (D := D) (ci := 0) (v := .ref q36) (ty := .array .int) (C := RX0) (T := TX0) (N := 10) hx hb hts z_lays_0 tyX0 tyX0_ok nmX0 hown hK hP hD hS 0 rfl rfl 4 (by decide) (hts _ (z_m1 (i := 74) rfl rfl)) (fun _ h9 => h9) rfl hin rfl (by decide +kernel) rfl rfl (Nat.le_of_ble_eq_true rfl) (by decide +kernel : decode cX0_init 38 = .ok (.putfield 25, 3)) (fun H locs hP hD hS => ?_)
  have hP : va_P D z_cl [(h0, .inr (0, [.int 0, .ref q12, .ref q20, .ref q28, .ref q36, .null, .null, .null, .null, .null])), (q12, .inl (cint, 8, .inl fun _ => 0)), (q20, .inl (cint, 8, .inl fun _ => 0)), (q28, .inl (cint, 8, .inl fun _ => 0)), (q36, .inl (cint, 8, .inl fun _ => 0))] H := hP
  have hD : va_D A [(h0, .inr (0, [.int 0, .ref q12, .ref q20, .ref q28, .ref q36, .null, .null, .null, .null, .null])), (q12, .inl (cint, 8, .inl fun _ => 0)), (q20, .inl (cint, 8, .inl fun _ => 0)), (q28, .inl (cint, 8, .inl fun _ => 0)), (q36, .inl (cint, 8, .inl fun _ => 0))] := hD
  refine lv_aload_n hx hb (by decide +kernel : decode cX0_init 41 = .ok (.aload_n 0, 1)) rfl (lv_at hl 0 rfl) ?_
  refine lv_bipush (v := 8) hx hb (by decide +kernel : decode cX0_init 42 = .ok (.bipush 8, 2)) (by decide) ?_
  refine va_newa (atype := .int) (ty := .int) (a0 := (8, .inl fun _ => 0)) (N' := 8) hx hb (hts _ (z_m1 (i := 53) rfl rfl)) rfl hK hP hD hS hA (fun _ => rfl) (by decide) rfl (Nat.le_of_ble_eq_true rfl) (Nat.le_of_ble_eq_true rfl) (Nat.le_of_ble_eq_true rfl) (by decide +kernel : decode cX0_init 44 = .ok (.newarray .int, 2)) (fun q44 cn H hK hP hD hS => ?_)
  have ecn : cint = cn := Option.some.inj ((hK.2 0 _ rfl).2.symm.trans (hK.2 1 _ rfl).2)
  subst ecn
  have hK : va_K D z_cl [(cint, .int)] s := hK.sub [0] rfl
  have hP : va_P D z_cl [(h0, .inr (0, [.int 0, .ref q12, .ref q20, .ref q28, .ref q36, .null, .null, .null, .null, .null])), (q12, .inl (cint, 8, .inl fun _ => 0)), (q20, .inl (cint, 8, .inl fun _ => 0)), (q28, .inl (cint, 8, .inl fun _ => 0)), (q36, .inl (cint, 8, .inl fun _ => 0)), (q44, .inl (cint, 8, .inl fun _ => 0))] H := hP
  have hD : va_D A [(h0, .inr (0, [.int 0, .ref q12, .ref q20, .ref q28, .ref q36, .null, .null, .null, .null, .null])), (q12, .inl (cint, 8, .inl fun _ => 0)), (q20, .inl (cint, 8, .inl fun _ => 0)), (q28, .inl (cint, 8, .inl fun _ => 0)), (q36, .inl (cint, 8, .inl fun _ => 0)), (q44, .inl (cint, 8, .inl fun _ => 0))] := hD
  refine W.widen (k := 5) (n := 40) (by omega) (by omega) ?_
  refine va_putF (D := D) (ci := 0) (v := .ref q44) (ty := .array .int) (C := RX0) (T := TX0) (N := 10) hx hb hts z_lays_0 tyX0 tyX0_ok nmX0 hown hK hP hD hS 0 rfl rfl 5 (by decide) (hts _ (z_m1 (i := 75) rfl rfl)) (fun _ h9 => h9) rfl hin rfl (by decide +kernel) rfl rfl (Nat.le_of_ble_eq_true rfl) (by decide +kernel : decode cX0_init 46 = .ok (.putfield 28, 3)) (fun H locs hP hD hS => ?_)
  have hP : va_P D z_cl [(h0, .inr (0, [.int 0, .ref q12, .ref q20, .ref q28, .ref q36, .ref q44, .null, .null, .null, .null])), (q12, .inl (cint, 8, .inl fun _ => 0)), (q20, .inl (cint, 8, .inl fun _ => 0)), (q28, .inl (cint, 8, .inl fun _ => 0)), (q36, .inl (cint, 8, .inl fun _ => 0)), (q44, .inl (cint, 8, .inl fun _ => 0))] H := hP
  have hD : va_D A [(h0, .inr (0, [.int 0, .ref q12, .ref q20, .ref q28, .ref q36, .ref q44, .null, .null, .null, .null])), (q12, .inl (cint, 8, .inl fun _ => 0)), (q20, .inl (cint, 8, .inl fun _ => 0)), (q28, .inl (cint, 8, .inl fun _ => 0)), (q36, .inl (cint, 8, .inl fun _ => 0)), (q44, .inl (cint, 8, .inl fun _ => 0))] := hD
  refine lv_aload_n hx hb (by decide +kernel : decode cX0_init 49 = .ok (.aload_n 0, 1)) rfl (lv_at hl 0 rfl) ?_
  refine lv_bipush (v := 8) hx hb (by decide +kernel : decode cX0_init 50 = .ok (.bipush 8, 2)) (by decide) ?_
  refine va_newa (atype := .int) (ty := .int) (a0 := (8, .inl fun _ => 0)) (N' := 8) hx hb (hts _ (z_m1 (i := 53) rfl rfl)) rfl hK hP hD hS hA (fun _ => rfl) (by decide) rfl (Nat.le_of_ble_eq_true rfl) (Nat.le_of_ble_eq_true rfl) (Nat.le_of_ble_eq_true rfl) (by decide +kernel : decode cX0_init 52 = .ok (.newarray .int, 2)) (fun q52 cn H hK hP hD hS => ?_)
  have ecn : cint = cn := Option.some.inj ((hK.2 0 _ rfl).2.symm.trans (hK.2 1 _ rfl).2)
  subst ecn
  have hK : va_K D z_cl [(cint, .int)] s := hK.sub [0] rfl
  have hP : va_P D z_cl [(h0, .inr (0, [.int 0, .ref q12, .ref q20, .ref q28, .ref q36, .ref q44, .null, .null, .null, .null])), (q12, .inl (cint, 8, .inl fun _ => 0)), (q20, .inl (cint, 8, .inl fun _ => 0)), (q28, .inl (cint, 8, .inl fun _ => 0)), (q36, .inl (cint, 8, .inl fun _ => 0)), (q44, .inl (cint, 8, .inl fun _ => 0)), (q52, .inl (cint, 8, .inl fun _ => 0))] H := hP
  have hD : va_D A [(h0, .inr (0, [.int 0, .ref q12, .ref q20, .ref q28, .ref q36, .ref q44, .null, .null, .null, .null])), (q12, .inl (cint, 8, .inl fun _ => 0)), (q20, .inl (cint, 8, .inl fun _ => 0)), (q28, .inl (cint, 8, .inl fun _ => 0)), (q36, .inl (cint, 8, .inl fun _ => 0)), (q44, .inl (cint, 8, .inl fun _ => 0)), (q52, .inl (cint, 8, .inl fun _ => 0))] := hD
  refine W.widen (k := 6) (n := 48) (by omega) (by omega) ?_
  refine va_putF (D := D) (ci := 0) (v := .ref q52) (ty := .array .int) (C := RX0) (T := TX0) (N := 10) hx hb hts z_lays_0 tyX0 tyX0_ok nmX0 hown hK hP hD hS 0 rfl rfl 6 (by decide) (hts _ (z_m1 (i := 76) rfl rfl)) (fun _ h9 => h9) rfl hin rfl (by decide +kernel) rfl rfl (Nat.le_of_ble_eq_true rfl) (by decide +kernel : decode cX0_init 54 = .ok (.putfield 31, 3)) (fun H locs hP hD hS => ?_)
  have hP : va_P D z_cl [(h0, .inr (0, [.int 0, .ref q12, .ref q20, .ref q28, .ref q36, .ref q44, .ref q52, .null, .null, .null])), (q12, .inl (cint, 8, .inl fun _ => 0)), (q20, .inl (cint, 8, .inl fun _ => 0)), (q28, .inl (cint, 8, .inl fun _ => 0)), (q36, .inl (cint, 8, .inl fun _ => 0)), (q44, .inl (cint, 8, .inl fun _ => 0)), (q52, .inl (cint, 8, .inl fun _ => 0))] H := hP
  have hD : va_D A [(h0, .inr (0, [.int 0, .ref q12, .ref q20, .ref q28, .ref q36, .ref q44, .ref q52, .null, .null, .null])), (q12, .inl (cint, 8, .inl fun _ => 0)), (q20, .inl (cint, 8, .inl fun _ => 0)), (q28, .inl (cint, 8, .inl fun _ => 0)), (q36, .inl (cint, 8, .inl fun _ => 0)), (q44, .inl (cint, 8, .inl fun _ => 0)), (q52, .inl (cint, 8, .inl fun _ => 0))] := hD
  refine lv_aload_n hx hb (by decide +kernel : decode cX0_init 57 = .ok (.aload_n 0, 1)) rfl (lv_at hl 0 rfl) ?_
  refine lv_bipush (v := 8) hx hb (by decide +kernel : decode cX0_init 58 = .ok (.bipush 8, 2)) (by decide) ?_
  refine va_newa (atype := .int) (ty := .int) (a0 := (8, .inl fun _ => 0)) (N' := 8) hx hb (hts _ (z_m1 (i := 53) rfl rfl)) rfl hK hP hD hS hA (fun _ => rfl) (by decide) rfl (Nat.le_of_ble_eq_true rfl) (Nat.le_of_ble_eq_true rfl) (Nat.le_of_ble_eq_true rfl) (by decide +kernel : decode cX0_init 60 = .ok (.newarray .int, 2)) (fun q60 cn H hK hP hD hS => ?_)
  have ecn : cint = cn := Option.some.inj ((hK.2 0 _ rfl).2.symm.trans (hK.2 1 _ rfl).2)
  subst ecn
  have hK : va_K D z_cl [(cint, .int)] s := hK.sub [0] rfl
  have hP : va_P D z_cl [(h0, .inr (0, [.int 0, .ref q12, .ref q20, .ref q28, .ref q36, .ref q44, .ref q52, .null, .null, .null])), (q12, .inl (cint, 8, .inl fun _ => 0)), (q20, .inl (cint, 8, .inl fun _ => 0)), (q28, .inl (cint, 8, .inl fun _ => 0)), (q36, .inl (cint, 8, .inl fun _ => 0)), (q44, .inl (cint, 8, .inl fun _ => 0)), (q52, .inl (cint, 8, .inl fun _ => 0)), (q60, .inl (cint, 8, .inl fun _ => 0))] H := hP
  have hD : va_D A [(h0, .inr (0, [.int 0, .ref q12, .ref q20, .ref q28, .ref q36, .ref q44, .ref q52, .null, .null, .null])), (q12, .inl (cint, 8, .inl fun _ => 0)), (q20, .inl (cint, 8, .inl fun _ => 0)), (q28, .inl (cint, 8, .inl fun _ => 0)), (q36, .inl (cint, 8, .inl fun _ => 0)), (q44, .inl (cint, 8, .inl fun _ => 0)), (q52, .inl (cint, 8, .inl fun _ => 0)), (q60, .inl (cint, 8, .inl fun _ => 0))] := hD
  refine W.widen (k := 7) (n := 56) (by omega) (by omega) ?_
  refine va_putF (D := D) (ci := 0) (v := .ref q60) (ty := .array .int) (C := RX0) (T := TX0) (N := 10) hx hb hts z_lays_0 tyX0 tyX0_ok nmX0 hown hK hP hD hS 0 rfl rfl 7 (by decide) (hts _ (z_m1 (i := 79) rfl rfl)) (fun _ h9 => h9) rfl hin rfl (by decide +kernel) rfl rfl (Nat.le_of_ble_eq_true rfl) (by decide +kernel : decode cX0_init 62 = .ok (.putfield 34, 3)) (fun H locs hP hD hS => ?_)
  have hP : va_P D z_cl [(h0, .inr (0, [.int 0, .ref q12, .ref q20, .ref q28, .ref q36, .ref q44, .ref q52, .ref q60, .null, .null])), (q12, .inl (cint, 8, .inl fun _ => 0)), (q20, .inl (cint, 8, .inl fun _ => 0)), (q28, .inl (cint, 8, .inl fun _ => 0)), (q36, .inl (cint, 8, .inl fun _ => 0)), (q44, .inl (cint, 8, .inl fun _ => 0)), (q52, .inl (cint, 8, .inl fun _ => 0)), (q60, .inl (cint, 8, .inl fun _ => 0))] H := hP
  have hD : va_D A [(h0, .inr (0, [.int 0, .ref q12, .ref q20, .ref q28, .ref q36, .ref q44, .ref q52, .ref q60, .null, .null])), (q12, .inl (cint, 8, .inl fun _ => 0)), (q20, .inl (cint, 8, .inl fun _ => 0)), (q28, .inl (cint, 8, .inl fun _ => 0)), (q36, .inl (cint, 8, .inl fun _ => 0)), (q44, .inl (cint, 8, .inl fun _ => 0)), (q52, .inl (cint, 8, .inl fun _ => 0)), (q60, .inl (cint, 8, .inl fun _ => 0))] := hD
  refine lv_aload_n hx hb (by decide +kernel : decode cX0_init 65 = .ok (.aload_n 0, 1)) rfl (lv_at hl 0 rfl) ?_
  refine lv_bipush (v := 8) hx hb (by decide +kernel : decode cX0_init 66 = .ok (.bipush 8, 2)) (by decide) ?_
  refine va_newa (atype := .int) (ty := .int) (a0 := (8, .inl fun _ => 0)) (N' := 8) hx hb (hts _ (z_m1 (i := 53) rfl rfl)) rfl hK hP hD hS hA (fun _ => rfl) (by decide) rfl (Nat.le_of_ble_eq_true rfl) (Nat.le_of_ble_eq_true rfl) (Nat.le_of_ble_eq_true rfl) (by decide +kernel : decode cX0_init 68 = .ok (.newarray .int, 2)) (fun q68 cn H hK hP hD hS => ?_)
  have ecn : cint = cn := Option.some.inj ((hK.2 0 _ rfl).2.symm.trans (hK.2 1 _ rfl).2)
  subst ecn
  have hK : va_K D z_cl [(cint, .int)] s := hK.sub [0] rfl
  have hP : va_P D z_cl [(h0, .inr (0, [.int 0, .ref q12, .ref q20, .ref q28, .ref q36, .ref q44, .ref q52, .ref q60, .null, .null])), (q12, .inl (cint, 8, .inl fun _ => 0)), (q20, .inl (cint, 8, .inl fun _ => 0)), (q28, .inl (cint, 8, .inl fun _ => 0)), (q36, .inl (cint, 8, .inl fun _ => 0)), (q44, .inl (cint, 8, .inl fun _ => 0)), (q52, .inl (cint, 8, .inl fun _ => 0)), (q60, .inl (cint, 8, .inl fun _ => 0)), (q68, .inl (cint, 8, .inl fun _ => 0))] H := hP
  have hD : va_D A [(h0, .inr (0, [.int 0, .ref q12, .ref q20, .ref q28, .ref q36, .ref q44, .ref q52, .ref q60, .null, .null])), (q12, .inl (cint, 8, .inl fun _ => 0)), (q20, .inl (cint, 8, .inl fun _ => 0)), (q28, .inl (cint, 8, .inl fun _ => 0)), (q36, .inl (cint, 8, .inl fun _ => 0)), (q44, .inl (cint, 8, .inl fun _ => 0)), (q52, .inl (cint, 8, .inl fun _ => 0)), (q60, .inl (cint, 8, .inl fun _ => 0)), (q68, .inl (cint, 8, .inl fun _ => 0))] := hD
  refine W.widen (k := 8) (n := 64) (by omega) (by omega) ?_
  refine va_putF (D := D) (ci := 0) (v := .ref q68) (ty := .array .int) (C := RX0) (T := TX0) (N := 10) hx hb hts z_lays_0 tyX0 tyX0_ok nmX0 hown hK hP hD hS 0 rfl rfl 8 (by decide) (hts _ (z_m1 (i := 82) rfl rfl)) (fun _ h9 => h9) rfl hin rfl (by decide +kernel) rfl rfl (Nat.le_of_ble_eq_true rfl) (by decide +kernel : decode cX0_init 70 = .ok (.putfield 37, 3)) (fun H locs hP hD hS => ?_)
  have hP : va_P D z_cl [(h0, .inr (0, [.int 0, .ref q12, .ref q20, .ref q28, .ref q36, .ref q44, .ref q52, .ref q60, .ref q68, .null])), (q12, .inl (cint, 8, .inl fun _ => 0)), (q20, .inl (cint, 8, .inl fun _ => 0)), (q28, .inl (cint, 8, .inl fun _ => 0)), (q36, .inl (cint, 8, .inl fun _ => 0)), (q44, .inl (cint, 8, .inl fun _ => 0)), (q52, .inl (cint, 8, .inl fun _ => 0)), (q60, .inl (cint, 8, .inl fun _ => 0)), (q68, .inl (cint, 8, .inl fun _ => 0))] H := hP
  have hD : va_D A [(h0, .inr (0, [.int 0, .ref q12, .ref q20, .ref q28, .ref q36, .ref q44, .ref q52, .ref q60, .ref q68, .null])), (q12, .inl (cint, 8, .inl fun _ => 0)), (q20, .inl (cint, 8, .inl fun _ => 0)), (q28, .inl (cint, 8, .inl fun _ => 0)), (q36, .inl (cint, 8, .inl fun _ => 0)), (q44, .inl (cint, 8, .inl fun _ => 0)), (q52, .inl (cint, 8, .inl fun _ => 0)), (q60, .inl (cint, 8, .inl fun _ => 0)), (q68, .inl (cint, 8, .inl fun _ => 0))] := hD
  refine lv_aload_n hx hb (by decide +kernel : decode cX0_init 73 = .ok (.aload_n 0, 1)) rfl (lv_at hl 0 rfl) ?_
  refine lv_bipush (v := 8) hx hb (by decide +kernel : decode cX0_init 74 = .ok (.bipush 8, 2)) (by decide) ?_
  refine va_newa (atype := .int) (ty := .int) (a0 := (8, .inl fun _ => 0)) (N' := 8) hx hb (hts _ (z_m1 (i := 53) rfl rfl)) rfl hK hP hD hS hA (fun _ => rfl) (by decide) rfl (Nat.le_of_ble_eq_true rfl) (Nat.le_of_ble_eq_true rfl) (Nat.le_of_ble_eq_true rfl) (by decide +kernel : decode cX0_init 76 = .ok (.newarray .int, 2)) (fun q76 cn H hK hP hD hS => ?_)
  have ecn : cint = cn := Option.some.inj ((hK.2 0 _ rfl).2.symm.trans (hK.2 1 _ rfl).2)
  subst ecn
  have hK : va_K D z_cl [(cint, .int)] s := hK.sub [0] rfl
  have hP : va_P D z_cl [(h0, .inr (0, [.int 0, .ref q12, .ref q20, .ref q28, .ref q36, .ref q44, .ref q52, .ref q60, .ref q68, .null])), (q12, .inl (cint, 8, .inl fun _ => 0)), (q20, .inl (cint, 8, .inl fun _ => 0)), (q28, .inl (cint, 8, .inl fun _ => 0)), (q36, .inl (cint, 8, .inl fun _ => 0)), (q44, .inl (cint, 8, .inl fun _ => 0)), (q52, .inl (cint, 8, .inl fun _ => 0)), (q60, .inl (cint, 8, .inl fun _ => 0)), (q68, .inl (cint, 8, .inl fun _ => 0)), (q76, .inl (cint, 8, .inl fun _ => 0))] H := hP
  have hD : va_D A [(h0, .inr (0, [.int 0, .ref q12, .ref q20, .ref q28, .ref q36, .ref q44, .ref q52, .ref q60, .ref q68, .null])), (q12, .inl (cint, 8, .inl fun _ => 0)), (q20, .inl (cint, 8, .inl fun _ => 0)), (q28, .inl (cint, 8, .inl fun _ => 0)), (q36, .inl (cint, 8, .inl fun _ => 0)), (q44, .inl (cint, 8, .inl fun _ => 0)), (q52, .inl (cint, 8, .inl fun _ => 0)), (q60, .inl (cint, 8, .inl fun _ => 0)), (q68, .inl (cint, 8, .inl fun _ => 0)), (q76, .inl (cint, 8, .inl fun _ => 0))] := hD
  refine W.widen (k := 9) (n := 72) (by omega) (by omega) ?_
  refine va_putF (D := D) (ci := 0) (v := .ref q76) (ty := .array .int) (C := RX0) (T := TX0) (N := 10) hx hb hts z_lays_0 tyX0 tyX0_ok nmX0 hown hK hP hD hS 0 rfl rfl 9 (by decide) (hts _ (z_m1 (i := 85) rfl rfl)) (fun _ h9 => h9) rfl hin rfl (by decide +kernel) rfl rfl (Nat.le_of_ble_eq_true rfl) (by decide +kernel : decode cX0_init 78 = .ok (.putfield 40, 3)) (fun H locs hP hD hS => ?_)
  have hP : va_P D z_cl [(h0, .inr (0, [.int 0, .ref q12, .ref q20, .ref q28, .ref q36, .ref q44, .ref q52, .ref q60, .ref q68, .ref q76])), (q12, .inl (cint, 8, .inl fun _ => 0)), (q20, .inl (cint, 8, .inl fun _ => 0)), (q28, .inl (cint, 8, .inl fun _ => 0)), (q36, .inl (cint, 8, .inl fun _ => 0)), (q44, .inl (cint, 8, .inl fun _ => 0)), (q52, .inl (cint, 8, .inl fun _ => 0)), (q60, .inl (cint, 8, .inl fun _ => 0)), (q68, .inl (cint, 8, .inl fun _ => 0)), (q76, .inl (cint, 8, .inl fun _ => 0))] H := hP
  have hD : va_D A [(h0, .inr (0, [.int 0, .ref q12, .ref q20, .ref q28, .ref q36, .ref q44, .ref q52, .ref q60, .ref q68, .ref q76])), (q12, .inl (cint, 8, .inl fun _ => 0)), (q20, .inl (cint, 8, .inl fun _ => 0)), (q28, .inl (cint, 8, .inl fun _ => 0)), (q36, .inl (cint, 8, .inl fun _ => 0)), (q44, .inl (cint, 8, .inl fun _ => 0)), (q52, .inl (cint, 8, .inl fun _ => 0)), (q60, .inl (cint, 8, .inl fun _ => 0)), (q68, .inl (cint, 8, .inl fun _ => 0)), (q76, .inl (cint, 8, .inl fun _ => 0))] := hD
  have hP9 : va_P D z_cl (w_cl (fun o : Nat => if o = 7 then q12 else if o = 8 then q20 else if o = 9 then q28 else if o = 10 then q36 else if o = 11 then q44 else if o = 12 then q52 else if o = 13 then q60 else if o = 14 then q68 else if o = 15 then q76 else h0) cint) H := hP
  have hD9 : va_D A (w_cl (fun o : Nat => if o = 7 then q12 else if o = 8 then q20 else if o = 9 then q28 else if o = 10 then q36 else if o = 11 then q44 else if o = 12 then q52 else if o = 13 then q60 else if o = 14 then q68 else if o = 15 then q76 else h0) cint) := hD
  refine W.widen (k := 9) (n := 72) (by omega) (by omega) ?_
  exact W.vret hx hb hr (fun t ht hW => ⟨⟨(), rfl, trivial, (fun o : Nat => if o = 7 then q12 else if o = 8 then q20 else if o = 9 then q28 else if o = 10 then q36 else if o = 11 then q44 else if o = 12 then q52 else if o = 13 then q60 else if o = 14 then q68 else if o = 15 then q76 else h0), cint, rfl, by rw [ht]; exact hP9, va_K.moved hW.alike hK, hD9⟩, hS.F ht⟩) hS.2.2 (by decide +kernel : decode cX0_init 81 = .ok (.return_, 1))
set_option maxHeartbeats 4000000 in
set_option maxRecDepth 100000 in
theorem i_Jobs (l : Launch) (D : va_G) (h0 sz : Nat) : Met l yX3_init (Cond.code yX3_init cX3_init 1 none :: z_G) ({ frames := 1, cells := 5, slots := 860, locals := 12 }) (va_Pc [.ref h0] (fun U => U.heap.size = sz ∧ va_P D z_cl [(h0, .inr (3, [.int 0, .null, .null, .null, .null, .int 0, .null]))] U.heap ∧ va_K D z_cl [] U ∧ va_D (fun _ => True) [(h0, .inr (3, [.int 0, .null, .null, .null, .null, .int 0, .null]))]))
    (va_Qv (fun _ : Unit => True) (fun _ t => ∃ (a : Nat → Nat) (k : ClassId), a 3 = h0 ∧ va_P D z_cl (w_jo a k) t.heap ∧ va_K D z_cl [(k, .int)] t ∧ va_D (va_A [(h0, .inr (3, [.int 0, .null, .null, .null, .null, .int 0, .null]))] sz) (w_jo a k)) (va_A [(h0, .inr (3, [.int 0, .null, .null, .null, .null, .int 0, .null]))] sz)) 5 860 (va_A [(h0, .inr (3, [.int 0, .null, .null, .null, .null, .int 0, .null]))] sz) := by
  refine Met.ofW (cc := cX3_init) (maxL := 1) (ret := none) (by decide) rfl ?_
  intro p e s m args below meth c s₁ B hml hv
  obtain ⟨rfl, hsz, hP, hK, hD0⟩ := hv
  have hx := B.exec
  have hb := B.bytes
  have hr := B.returns
  have hts0 := atoms_spec (ws := Cond.code yX3_init cX3_init 1 none :: z_G) B.pre
  have hts : ∀ w ∈ z_G, w.before ([Value.ref h0].toArray) s = true := fun w hw => hts0 w (List.mem_cons_of_mem _ hw)
  have hown : s.vm.findClass RX3 = some m.cls := findClass_of_methodNamed B.named
  have hlocks := B.notSynchronized
  have hin : meth.name = "<init>" := (name_of_methodNamed B.named B.method).1
  subst hsz
  have hD := hD0.self (sz := s.heap.size)
  generalize hAe : va_A [(h0, .inr (3, [.int 0, .null, .null, .null, .null, .int 0, .null]))] s.heap.size = A at hD ⊢
  have hA : ∀ q : Nat, s.heap.size ≤ q → A q := fun q h => by rw [← hAe]; exact Or.inr h
  have hS : va_S A s.heap s.heap [] := va_S.rf
  have hl := lv_entry ([.ref h0]) (n := 1) (Nat.le_of_ble_eq_true rfl)
  rw [lg_entry_eq]
  generalize (lg_sl ([.ref h0]) ++ List.replicate (1 - (lg_sl ([.ref h0])).length) Slot.unset).toArray = ls at hl ⊢
  have hl : lv_has ls 1 [(0, .ref h0)] := hl
  refine lv_aload_n hx hb (by decide +kernel : decode cX3_init 0 = .ok (.aload_n 0, 1)) rfl (lv_at hl 0 rfl) ?_
  refine W.objInit hx hb hown (hts _ (z_m1 (i := 114) rfl rfl)) (hts _ (z_m1 (i := 17) rfl rfl)) (hts _ (z_m1 (i := 18) rfl rfl)) rfl (by rw [hml]; exact hl.1) rfl (by decide +kernel : decode cX3_init 1 = .ok (.invokespecial 3, 3)) (Nat.le_of_ble_eq_true rfl) (Nat.le_of_ble_eq_true rfl) ?_
  refine W.eq (g2 := F0 m 4 ls []) rfl ?_
  refine lv_aload_n hx hb (by decide +kernel : decode cX3_init 4 = .ok (.aload_n 0, 1)) rfl (lv_at hl 0 rfl) ?_
  refine lv_iconst (v := 0) hx hb (by decide +kernel : decode cX3_init 5 = .ok (.iconst 0, 1)) (by decide) ?_
  refine va_put (D := D) (ci := 3) (v := .int 0) (ty := .int) (C := RX3) (T := TX3) (N := 7) hx hb hts z_lays_3 tyX3 tyX3_ok nmX3 hown hK hP hD hS 0 rfl rfl 0 (by decide) (hts _ (z_m1 (i := 115) rfl rfl)) (fun _ h9 => h9) rfl (by decide +kernel) rfl rfl (Nat.le_of_ble_eq_true rfl) (by decide +kernel : decode cX3_init 6 = .ok (.putfield 9, 3)) (fun H locs hP hD hS => ?_)
  have hP : va_P D z_cl [(h0, .inr (3, [.int 0, .null, .null, .null, .null, .int 0, .null]))] H := hP
  have hD : va_D A [(h0, .inr (3, [.int 0, .null, .null, .null, .null, .int 0, .null]))] := hD
  refine lv_aload_n hx hb (by decide +kernel : decode cX3_init 9 = .ok (.aload_n 0, 1)) rfl (lv_at hl 0 rfl) ?_
  refine lv_sipush (v := 200) hx hb (by decide +kernel : decode cX3_init 10 = .ok (.sipush 200, 3)) (by decide) ?_
  refine va_newa (atype := .int) (ty := .int) (a0 := (200, .inl fun _ => 0)) (N' := 200) hx hb (hts _ (z_m1 (i := 53) rfl rfl)) rfl hK hP hD hS hA (fun _ => rfl) (by decide) rfl (Nat.le_of_ble_eq_true rfl) (Nat.le_of_ble_eq_true rfl) (Nat.le_of_ble_eq_true rfl) (by decide +kernel : decode cX3_init 13 = .ok (.newarray .int, 2)) (fun q13 cn H hK hP hD hS => ?_)
  obtain ⟨cint, ecn⟩ : ∃ z, z = cn := ⟨_, rfl⟩
  subst ecn
  have hK : va_K D z_cl [(cint, .int)] s := hK
  have hP : va_P D z_cl [(h0, .inr (3, [.int 0, .null, .null, .null, .null, .int 0, .null])), (q13, .inl (cint, 200, .inl fun _ => 0))] H := hP
  have hD : va_D A [(h0, .inr (3, [.int 0, .null, .null, .null, .null, .int 0, .null])), (q13, .inl (cint, 200, .inl fun _ => 0))] := hD
  refine W.widen (k := 1) (n := 200) (by omega) (by omega) ?_
  refine va_putF (D := D) (ci := 3) (v := .ref q13) (ty := .array .int) (C := RX3) (T := TX3) (N := 7) hx hb hts z_lays_3 tyX3 tyX3_ok nmX3 hown hK hP hD hS 0 rfl rfl 1 (by decide) (hts _ (z_m1 (i := 118) rfl rfl)) (fun _ h9 => h9) rfl hin rfl (by decide +kernel) rfl rfl (Nat.le_of_ble_eq_true rfl) (by decide +kernel : decode cX3_init 15 = .ok (.putfield 15, 3)) (fun H locs hP hD hS => ?_)
  have hP : va_P D z_cl [(h0, .inr (3, [.int 0, .ref q13, .null, .null, .null, .int 0, .null])), (q13, .inl (cint, 200, .inl fun _ => 0))] H := hP
  have hD : va_D A [(h0, .inr (3, [.int 0, .ref q13, .null, .null, .null, .int 0, .null])), (q13, .inl (cint, 200, .inl fun _ => 0))] := hD
  refine lv_aload_n hx hb (by decide +kernel : decode cX3_init 18 = .ok (.aload_n 0, 1)) rfl (lv_at hl 0 rfl) ?_
  refine lv_sipush (v := 200) hx hb (by decide +kernel : decode cX3_init 19 = .ok (.sipush 200, 3)) (by decide) ?_
  refine va_newa (atype := .int) (ty := .int) (a0 := (200, .inl fun _ => 0)) (N' := 200) hx hb (hts _ (z_m1 (i := 53) rfl rfl)) rfl hK hP hD hS hA (fun _ => rfl) (by decide) rfl (Nat.le_of_ble_eq_true rfl) (Nat.le_of_ble_eq_true rfl) (Nat.le_of_ble_eq_true rfl) (by decide +kernel : decode cX3_init 22 = .ok (.newarray .int, 2)) (fun q22 cn H hK hP hD hS => ?_)
  have ecn : cint = cn := Option.some.inj ((hK.2 0 _ rfl).2.symm.trans (hK.2 1 _ rfl).2)
  subst ecn
  have hK : va_K D z_cl [(cint, .int)] s := hK.sub [0] rfl
  have hP : va_P D z_cl [(h0, .inr (3, [.int 0, .ref q13, .null, .null, .null, .int 0, .null])), (q13, .inl (cint, 200, .inl fun _ => 0)), (q22, .inl (cint, 200, .inl fun _ => 0))] H := hP
  have hD : va_D A [(h0, .inr (3, [.int 0, .ref q13, .null, .null, .null, .int 0, .null])), (q13, .inl (cint, 200, .inl fun _ => 0)), (q22, .inl (cint, 200, .inl fun _ => 0))] := hD
  refine W.widen (k := 2) (n := 400) (by omega) (by omega) ?_
  refine va_putF (D := D) (ci := 3) (v := .ref q22) (ty := .array .int) (C := RX3) (T := TX3) (N := 7) hx hb hts z_lays_3 tyX3 tyX3_ok nmX3 hown hK hP hD hS 0 rfl rfl 2 (by decide) (hts _ (z_m1 (i := 122) rfl rfl)) (fun _ h9 => h9) rfl hin rfl (by decide +kernel) rfl rfl (Nat.le_of_ble_eq_true rfl) (by decide +kernel : decode cX3_init 24 = .ok (.putfield 19, 3)) (fun H locs hP hD hS => ?_)
  have hP : va_P D z_cl [(h0, .inr (3, [.int 0, .ref q13, .ref q22, .null, .null, .int 0, .null])), (q13, .inl (cint, 200, .inl fun _ => 0)), (q22, .inl (cint, 200, .inl fun _ => 0))] H := hP
  have hD : va_D A [(h0, .inr (3, [.int 0, .ref q13, .ref q22, .null, .null, .int 0, .null])), (q13, .inl (cint, 200, .inl fun _ => 0)), (q22, .inl (cint, 200, .inl fun _ => 0))] := hD
  refine lv_aload_n hx hb (by decide +kernel : decode cX3_init 27 = .ok (.aload_n 0, 1)) rfl (lv_at hl 0 rfl) ?_
  refine lv_sipush (v := 200) hx hb (by decide +kernel : decode cX3_init 28 = .ok (.sipush 200, 3)) (by decide) ?_
  refine va_newa (atype := .int) (ty := .int) (a0 := (200, .inl fun _ => 0)) (N' := 200) hx hb (hts _ (z_m1 (i := 53) rfl rfl)) rfl hK hP hD hS hA (fun _ => rfl) (by decide) rfl (Nat.le_of_ble_eq_true rfl) (Nat.le_of_ble_eq_true rfl) (Nat.le_of_ble_eq_true rfl) (by decide +kernel : decode cX3_init 31 = .ok (.newarray .int, 2)) (fun q31 cn H hK hP hD hS => ?_)
  have ecn : cint = cn := Option.some.inj ((hK.2 0 _ rfl).2.symm.trans (hK.2 1 _ rfl).2)
  subst ecn
  have hK : va_K D z_cl [(cint, .int)] s := hK.sub [0] rfl
  have hP : va_P D z_cl [(h0, .inr (3, [.int 0, .ref q13, .ref q22, .null, .null, .int 0, .null])), (q13, .inl (cint, 200, .inl fun _ => 0)), (q22, .inl (cint, 200, .inl fun _ => 0)), (q31, .inl (cint, 200, .inl fun _ => 0))] H := hP
  have hD : va_D A [(h0, .inr (3, [.int 0, .ref q13, .ref q22, .null, .null, .int 0, .null])), (q13, .inl (cint, 200, .inl fun _ => 0)), (q22, .inl (cint, 200, .inl fun _ => 0)), (q31, .inl (cint, 200, .inl fun _ => 0))] := hD
  refine W.widen (k := 3) (n := 600) (by omega) (by omega) ?_
  refine va_putF (D := D) (ci := 3) (v := .ref q31) (ty := .array .int) (C := RX3) (T := TX3) (N := 7) hx hb hts z_lays_3 tyX3 tyX3_ok nmX3 hown hK hP hD hS 0 rfl rfl 3 (by decide) (hts _ (z_m1 (i := 126) rfl rfl)) (fun _ h9 => h9) rfl hin rfl (by decide +kernel) rfl rfl (Nat.le_of_ble_eq_true rfl) (by decide +kernel : decode cX3_init 33 = .ok (.putfield 22, 3)) (fun H locs hP hD hS => ?_)
  have hP : va_P D z_cl [(h0, .inr (3, [.int 0, .ref q13, .ref q22, .ref q31, .null, .int 0, .null])), (q13, .inl (cint, 200, .inl fun _ => 0)), (q22, .inl (cint, 200, .inl fun _ => 0)), (q31, .inl (cint, 200, .inl fun _ => 0))] H := hP
  have hD : va_D A [(h0, .inr (3, [.int 0, .ref q13, .ref q22, .ref q31, .null, .int 0, .null])), (q13, .inl (cint, 200, .inl fun _ => 0)), (q22, .inl (cint, 200, .inl fun _ => 0)), (q31, .inl (cint, 200, .inl fun _ => 0))] := hD
  refine lv_aload_n hx hb (by decide +kernel : decode cX3_init 36 = .ok (.aload_n 0, 1)) rfl (lv_at hl 0 rfl) ?_
  refine lv_sipush (v := 200) hx hb (by decide +kernel : decode cX3_init 37 = .ok (.sipush 200, 3)) (by decide) ?_
  refine va_newa (atype := .int) (ty := .int) (a0 := (200, .inl fun _ => 0)) (N' := 200) hx hb (hts _ (z_m1 (i := 53) rfl rfl)) rfl hK hP hD hS hA (fun _ => rfl) (by decide) rfl (Nat.le_of_ble_eq_true rfl) (Nat.le_of_ble_eq_true rfl) (Nat.le_of_ble_eq_true rfl) (by decide +kernel : decode cX3_init 40 = .ok (.newarray .int, 2)) (fun q40 cn H hK hP hD hS => ?_)
  have ecn : cint = cn := Option.some.inj ((hK.2 0 _ rfl).2.symm.trans (hK.2 1 _ rfl).2)
  subst ecn
  have hK : va_K D z_cl [(cint, .int)] s := hK.sub [0] rfl
  have hP : va_P D z_cl [(h0, .inr (3, [.int 0, .ref q13, .ref q22, .ref q31, .null, .int 0, .null])), (q13, .inl (cint, 200, .inl fun _ => 0)), (q22, .inl (cint, 200, .inl fun _ => 0)), (q31, .inl (cint, 200, .inl fun _ => 0)), (q40, .inl (cint, 200, .inl fun _ => 0))] H := hP
  have hD : va_D A [(h0, .inr (3, [.int 0, .ref q13, .ref q22, .ref q31, .null, .int 0, .null])), (q13, .inl (cint, 200, .inl fun _ => 0)), (q22, .inl (cint, 200, .inl fun _ => 0)), (q31, .inl (cint, 200, .inl fun _ => 0)), (q40, .inl (cint, 200, .inl fun _ => 0))] := hD
  refine W.widen (k := 4) (n := 800) (by omega) (by omega) ?_
  refine va_putF (D := D) (ci := 3) (v := .ref q40) (ty := .array .int) (C := RX3) (T := TX3) (N := 7) hx hb hts z_lays_3 tyX3 tyX3_ok nmX3 hown hK hP hD hS 0 rfl rfl 4 (by decide) (hts _ (z_m1 (i := 129) rfl rfl)) (fun _ h9 => h9) rfl hin rfl (by decide +kernel) rfl rfl (Nat.le_of_ble_eq_true rfl) (by decide +kernel : decode cX3_init 42 = .ok (.putfield 25, 3)) (fun H locs hP hD hS => ?_)
  have hP : va_P D z_cl [(h0, .inr (3, [.int 0, .ref q13, .ref q22, .ref q31, .ref q40, .int 0, .null])), (q13, .inl (cint, 200, .inl fun _ => 0)), (q22, .inl (cint, 200, .inl fun _ => 0)), (q31, .inl (cint, 200, .inl fun _ => 0)), (q40, .inl (cint, 200, .inl fun _ => 0))] H := hP
  have hD : va_D A [(h0, .inr (3, [.int 0, .ref q13, .ref q22, .ref q31, .ref q40, .int 0, .null])), (q13, .inl (cint, 200, .inl fun _ => 0)), (q22, .inl (cint, 200, .inl fun _ => 0)), (q31, .inl (cint, 200, .inl fun _ => 0)), (q40, .inl (cint, 200, .inl fun _ => 0))] := hD
  refine lv_aload_n hx hb (by decide +kernel : decode cX3_init 45 = .ok (.aload_n 0, 1)) rfl (lv_at hl 0 rfl) ?_
  refine lv_iconst (v := 0) hx hb (by decide +kernel : decode cX3_init 46 = .ok (.iconst 0, 1)) (by decide) ?_
  refine va_put (D := D) (ci := 3) (v := .int 0) (ty := .int) (C := RX3) (T := TX3) (N := 7) hx hb hts z_lays_3 tyX3 tyX3_ok nmX3 hown hK hP hD hS 0 rfl rfl 5 (by decide) (hts _ (z_m1 (i := 132) rfl rfl)) (fun _ h9 => h9) rfl (by decide +kernel) rfl rfl (Nat.le_of_ble_eq_true rfl) (by decide +kernel : decode cX3_init 47 = .ok (.putfield 28, 3)) (fun H locs hP hD hS => ?_)
  have hP : va_P D z_cl [(h0, .inr (3, [.int 0, .ref q13, .ref q22, .ref q31, .ref q40, .int 0, .null])), (q13, .inl (cint, 200, .inl fun _ => 0)), (q22, .inl (cint, 200, .inl fun _ => 0)), (q31, .inl (cint, 200, .inl fun _ => 0)), (q40, .inl (cint, 200, .inl fun _ => 0))] H := hP
  have hD : va_D A [(h0, .inr (3, [.int 0, .ref q13, .ref q22, .ref q31, .ref q40, .int 0, .null])), (q13, .inl (cint, 200, .inl fun _ => 0)), (q22, .inl (cint, 200, .inl fun _ => 0)), (q31, .inl (cint, 200, .inl fun _ => 0)), (q40, .inl (cint, 200, .inl fun _ => 0))] := hD
  refine lv_aload_n hx hb (by decide +kernel : decode cX3_init 50 = .ok (.aload_n 0, 1)) rfl (lv_at hl 0 rfl) ?_
  refine lv_bipush (v := 60) hx hb (by decide +kernel : decode cX3_init 51 = .ok (.bipush 60, 2)) (by decide) ?_
  refine va_newa (atype := .int) (ty := .int) (a0 := (60, .inl fun _ => 0)) (N' := 60) hx hb (hts _ (z_m1 (i := 53) rfl rfl)) rfl hK hP hD hS hA (fun _ => rfl) (by decide) rfl (Nat.le_of_ble_eq_true rfl) (Nat.le_of_ble_eq_true rfl) (Nat.le_of_ble_eq_true rfl) (by decide +kernel : decode cX3_init 53 = .ok (.newarray .int, 2)) (fun q53 cn H hK hP hD hS => ?_)
  have ecn : cint = cn := Option.some.inj ((hK.2 0 _ rfl).2.symm.trans (hK.2 1 _ rfl).2)
  subst ecn
  have hK : va_K D z_cl [(cint, .int)] s := hK.sub [0] rfl
  have hP : va_P D z_cl [(h0, .inr (3, [.int 0, .ref q13, .ref q22, .ref q31, .ref q40, .int 0, .null])), (q13, .inl (cint, 200, .inl fun _ => 0)), (q22, .inl (cint, 200, .inl fun _ => 0)), (q31, .inl (cint, 200, .inl fun _ => 0)), (q40, .inl (cint, 200, .inl fun _ => 0)), (q53, .inl (cint, 60, .inl fun _ => 0))] H := hP
  have hD : va_D A [(h0, .inr (3, [.int 0, .ref q13, .ref q22, .ref q31, .ref q40, .int 0, .null])), (q13, .inl (cint, 200, .inl fun _ => 0)), (q22, .inl (cint, 200, .inl fun _ => 0)), (q31, .inl (cint, 200, .inl fun _ => 0)), (q40, .inl (cint, 200, .inl fun _ => 0)), (q53, .inl (cint, 60, .inl fun _ => 0))] := hD
  refine W.widen (k := 5) (n := 860) (by omega) (by omega) ?_
  refine va_putF (D := D) (ci := 3) (v := .ref q53) (ty := .array .int) (C := RX3) (T := TX3) (N := 7) hx hb hts z_lays_3 tyX3 tyX3_ok nmX3 hown hK hP hD hS 0 rfl rfl 6 (by decide) (hts _ (z_m1 (i := 136) rfl rfl)) (fun _ h9 => h9) rfl hin rfl (by decide +kernel) rfl rfl (Nat.le_of_ble_eq_true rfl) (by decide +kernel : decode cX3_init 55 = .ok (.putfield 31, 3)) (fun H locs hP hD hS => ?_)
  have hP : va_P D z_cl [(h0, .inr (3, [.int 0, .ref q13, .ref q22, .ref q31, .ref q40, .int 0, .ref q53])), (q13, .inl (cint, 200, .inl fun _ => 0)), (q22, .inl (cint, 200, .inl fun _ => 0)), (q31, .inl (cint, 200, .inl fun _ => 0)), (q40, .inl (cint, 200, .inl fun _ => 0)), (q53, .inl (cint, 60, .inl fun _ => 0))] H := hP
  have hD : va_D A [(h0, .inr (3, [.int 0, .ref q13, .ref q22, .ref q31, .ref q40, .int 0, .ref q53])), (q13, .inl (cint, 200, .inl fun _ => 0)), (q22, .inl (cint, 200, .inl fun _ => 0)), (q31, .inl (cint, 200, .inl fun _ => 0)), (q40, .inl (cint, 200, .inl fun _ => 0)), (q53, .inl (cint, 60, .inl fun _ => 0))] := hD
  have hP9 : va_P D z_cl (w_jo (fun o : Nat => if o = 16 then q13 else if o = 17 then q22 else if o = 18 then q31 else if o = 19 then q40 else if o = 20 then q53 else h0) cint) H := hP
  have hD9 : va_D A (w_jo (fun o : Nat => if o = 16 then q13 else if o = 17 then q22 else if o = 18 then q31 else if o = 19 then q40 else if o = 20 then q53 else h0) cint) := hD
  refine W.widen (k := 5) (n := 860) (by omega) (by omega) ?_
  exact W.vret hx hb hr (fun t ht hW => ⟨⟨(), rfl, trivial, (fun o : Nat => if o = 16 then q13 else if o = 17 then q22 else if o = 18 then q31 else if o = 19 then q40 else if o = 20 then q53 else h0), cint, rfl, by rw [ht]; exact hP9, va_K.moved hW.alike hK, hD9⟩, hS.F ht⟩) hS.2.2 (by decide +kernel : decode cX3_init 58 = .ok (.return_, 1))
set_option maxHeartbeats 4000000 in
set_option maxRecDepth 100000 in
theorem i_Text (l : Launch) (D : va_G) (h0 sz : Nat) : Met l yX5_init (Cond.code yX5_init cX5_init 1 none :: z_G) ({ frames := 1, cells := 1, slots := 60, locals := 12 }) (va_Pc [.ref h0] (fun U => U.heap.size = sz ∧ va_P D z_cl [(h0, .inr (5, [.int 0, .null]))] U.heap ∧ va_K D z_cl [] U ∧ va_D (fun _ => True) [(h0, .inr (5, [.int 0, .null]))]))
    (va_Qv (fun _ : Unit => True) (fun _ t => ∃ (a : Nat → Nat) (k : ClassId), a 24 = h0 ∧ va_P D z_cl (w_te a k) t.heap ∧ va_K D z_cl [(k, .char)] t ∧ va_D (va_A [(h0, .inr (5, [.int 0, .null]))] sz) (w_te a k)) (va_A [(h0, .inr (5, [.int 0, .null]))] sz)) 1 60 (va_A [(h0, .inr (5, [.int 0, .null]))] sz) := by
  refine Met.ofW (cc := cX5_init) (maxL := 1) (ret := none) (by decide) rfl ?_
  intro p e s m args below meth c s₁ B hml hv
  obtain ⟨rfl, hsz, hP, hK, hD0⟩ := hv
  have hx := B.exec
  have hb := B.bytes
  have hr := B.returns
  have hts0 := atoms_spec (ws := Cond.code yX5_init cX5_init 1 none :: z_G) B.pre
  have hts : ∀ w ∈ z_G, w.before ([Value.ref h0].toArray) s = true := fun w hw => hts0 w (List.mem_cons_of_mem _ hw)
  have hown : s.vm.findClass RX5 = some m.cls := findClass_of_methodNamed B.named
  have hlocks := B.notSynchronized
  have hin : meth.name = "<init>" := (name_of_methodNamed B.named B.method).1
  subst hsz
  have hD := hD0.self (sz := s.heap.size)
  generalize hAe : va_A [(h0, .inr (5, [.int 0, .null]))] s.heap.size = A at hD ⊢
  have hA : ∀ q : Nat, s.heap.size ≤ q → A q := fun q h => by rw [← hAe]; exact Or.inr h
  have hS : va_S A s.heap s.heap [] := va_S.rf
  have hl := lv_entry ([.ref h0]) (n := 1) (Nat.le_of_ble_eq_true rfl)
  rw [lg_entry_eq]
  generalize (lg_sl ([.ref h0]) ++ List.replicate (1 - (lg_sl ([.ref h0])).length) Slot.unset).toArray = ls at hl ⊢
  have hl : lv_has ls 1 [(0, .ref h0)] := hl
  refine lv_aload_n hx hb (by decide +kernel : decode cX5_init 0 = .ok (.aload_n 0, 1)) rfl (lv_at hl 0 rfl) ?_
  refine W.objInit hx hb hown (hts _ (z_m1 (i := 215) rfl rfl)) (hts _ (z_m1 (i := 17) rfl rfl)) (hts _ (z_m1 (i := 18) rfl rfl)) rfl (by rw [hml]; exact hl.1) rfl (by decide +kernel : decode cX5_init 1 = .ok (.invokespecial 3, 3)) (Nat.le_of_ble_eq_true rfl) (Nat.le_of_ble_eq_true rfl) ?_
  refine W.eq (g2 := F0 m 4 ls []) rfl ?_
  refine lv_aload_n hx hb (by decide +kernel : decode cX5_init 4 = .ok (.aload_n 0, 1)) rfl (lv_at hl 0 rfl) ?_
  refine lv_iconst (v := 0) hx hb (by decide +kernel : decode cX5_init 5 = .ok (.iconst 0, 1)) (by decide) ?_
  refine va_put (D := D) (ci := 5) (v := .int 0) (ty := .int) (C := RX5) (T := TX5) (N := 2) hx hb hts z_lays_5 tyX5 tyX5_ok nmX5 hown hK hP hD hS 0 rfl rfl 0 (by decide) (hts _ (z_m1 (i := 216) rfl rfl)) (fun _ h9 => h9) rfl (by decide +kernel) rfl rfl (Nat.le_of_ble_eq_true rfl) (by decide +kernel : decode cX5_init 6 = .ok (.putfield 9, 3)) (fun H locs hP hD hS => ?_)
  have hP : va_P D z_cl [(h0, .inr (5, [.int 0, .null]))] H := hP
  have hD : va_D A [(h0, .inr (5, [.int 0, .null]))] := hD
  refine lv_aload_n hx hb (by decide +kernel : decode cX5_init 9 = .ok (.aload_n 0, 1)) rfl (lv_at hl 0 rfl) ?_
  refine lv_bipush (v := 60) hx hb (by decide +kernel : decode cX5_init 10 = .ok (.bipush 60, 2)) (by decide) ?_
  refine va_newa (atype := .char) (ty := .char) (a0 := (60, .inl fun _ => 0)) (N' := 60) hx hb (hts _ (z_m1 (i := 224) rfl rfl)) rfl hK hP hD hS hA (fun _ => rfl) (by decide) rfl (Nat.le_of_ble_eq_true rfl) (Nat.le_of_ble_eq_true rfl) (Nat.le_of_ble_eq_true rfl) (by decide +kernel : decode cX5_init 12 = .ok (.newarray .char, 2)) (fun q12 cn H hK hP hD hS => ?_)
  obtain ⟨cchar, ecn⟩ : ∃ z, z = cn := ⟨_, rfl⟩
  subst ecn
  have hK : va_K D z_cl [(cchar, .char)] s := hK
  have hP : va_P D z_cl [(h0, .inr (5, [.int 0, .null])), (q12, .inl (cchar, 60, .inl fun _ => 0))] H := hP
  have hD : va_D A [(h0, .inr (5, [.int 0, .null])), (q12, .inl (cchar, 60, .inl fun _ => 0))] := hD
  refine W.widen (k := 1) (n := 60) (by omega) (by omega) ?_
  refine va_putF (D := D) (ci := 5) (v := .ref q12) (ty := .array .char) (C := RX5) (T := TX5) (N := 2) hx hb hts z_lays_5 tyX5 tyX5_ok nmX5 hown hK hP hD hS 0 rfl rfl 1 (by decide) (hts _ (z_m1 (i := 218) rfl rfl)) (fun _ h9 => h9) rfl hin rfl (by decide +kernel) rfl rfl (Nat.le_of_ble_eq_true rfl) (by decide +kernel : decode cX5_init 14 = .ok (.putfield 15, 3)) (fun H locs hP hD hS => ?_)
  have hP : va_P D z_cl [(h0, .inr (5, [.int 0, .ref q12])), (q12, .inl (cchar, 60, .inl fun _ => 0))] H := hP
  have hD : va_D A [(h0, .inr (5, [.int 0, .ref q12])), (q12, .inl (cchar, 60, .inl fun _ => 0))] := hD
  have hP9 : va_P D z_cl (w_te (fun o : Nat => if o = 25 then q12 else h0) cchar) H := hP
  have hD9 : va_D A (w_te (fun o : Nat => if o = 25 then q12 else h0) cchar) := hD
  refine W.widen (k := 1) (n := 60) (by omega) (by omega) ?_
  exact W.vret hx hb hr (fun t ht hW => ⟨⟨(), rfl, trivial, (fun o : Nat => if o = 25 then q12 else h0), cchar, rfl, by rw [ht]; exact hP9, va_K.moved hW.alike hK, hD9⟩, hS.F ht⟩) hS.2.2 (by decide +kernel : decode cX5_init 17 = .ok (.return_, 1))
set_option maxHeartbeats 4000000 in
set_option maxRecDepth 100000 in
theorem i_Turns (l : Launch) (D : va_G) (h0 sz : Nat) : Met l yX6_init (Cond.code yX6_init cX6_init 1 none :: z_G) ({ frames := 1, cells := 3, slots := 14, locals := 12 }) (va_Pc [.ref h0] (fun U => U.heap.size = sz ∧ va_P D z_cl [(h0, .inr (6, [.null, .null, .null]))] U.heap ∧ va_K D z_cl [] U ∧ va_D (fun _ => True) [(h0, .inr (6, [.null, .null, .null]))]))
    (va_Qv (fun _ : Unit => True) (fun _ t => ∃ (a : Nat → Nat) (k d : ClassId), a 26 = h0 ∧ va_P D z_cl (w_tu a k d) t.heap ∧ va_K D z_cl [(k, .int), (d, .boolean)] t ∧ va_D (va_A [(h0, .inr (6, [.null, .null, .null]))] sz) (w_tu a k d)) (va_A [(h0, .inr (6, [.null, .null, .null]))] sz)) 3 14 (va_A [(h0, .inr (6, [.null, .null, .null]))] sz) := by
  refine Met.ofW (cc := cX6_init) (maxL := 1) (ret := none) (by decide) rfl ?_
  intro p e s m args below meth c s₁ B hml hv
  obtain ⟨rfl, hsz, hP, hK, hD0⟩ := hv
  have hx := B.exec
  have hb := B.bytes
  have hr := B.returns
  have hts0 := atoms_spec (ws := Cond.code yX6_init cX6_init 1 none :: z_G) B.pre
  have hts : ∀ w ∈ z_G, w.before ([Value.ref h0].toArray) s = true := fun w hw => hts0 w (List.mem_cons_of_mem _ hw)
  have hown : s.vm.findClass RX6 = some m.cls := findClass_of_methodNamed B.named
  have hlocks := B.notSynchronized
  have hin : meth.name = "<init>" := (name_of_methodNamed B.named B.method).1
  subst hsz
  have hD := hD0.self (sz := s.heap.size)
  generalize hAe : va_A [(h0, .inr (6, [.null, .null, .null]))] s.heap.size = A at hD ⊢
  have hA : ∀ q : Nat, s.heap.size ≤ q → A q := fun q h => by rw [← hAe]; exact Or.inr h
  have hS : va_S A s.heap s.heap [] := va_S.rf
  have hl := lv_entry ([.ref h0]) (n := 1) (Nat.le_of_ble_eq_true rfl)
  rw [lg_entry_eq]
  generalize (lg_sl ([.ref h0]) ++ List.replicate (1 - (lg_sl ([.ref h0])).length) Slot.unset).toArray = ls at hl ⊢
  have hl : lv_has ls 1 [(0, .ref h0)] := hl
  refine lv_aload_n hx hb (by decide +kernel : decode cX6_init 0 = .ok (.aload_n 0, 1)) rfl (lv_at hl 0 rfl) ?_
  refine W.objInit hx hb hown (hts _ (z_m1 (i := 230) rfl rfl)) (hts _ (z_m1 (i := 17) rfl rfl)) (hts _ (z_m1 (i := 18) rfl rfl)) rfl (by rw [hml]; exact hl.1) rfl (by decide +kernel : decode cX6_init 1 = .ok (.invokespecial 3, 3)) (Nat.le_of_ble_eq_true rfl) (Nat.le_of_ble_eq_true rfl) ?_
  refine W.eq (g2 := F0 m 4 ls []) rfl ?_
  refine lv_aload_n hx hb (by decide +kernel : decode cX6_init 4 = .ok (.aload_n 0, 1)) rfl (lv_at hl 0 rfl) ?_
  refine lv_bipush (v := 8) hx hb (by decide +kernel : decode cX6_init 5 = .ok (.bipush 8, 2)) (by decide) ?_
  refine va_newa (atype := .int) (ty := .int) (a0 := (8, .inl fun _ => 0)) (N' := 8) hx hb (hts _ (z_m1 (i := 53) rfl rfl)) rfl hK hP hD hS hA (fun _ => rfl) (by decide) rfl (Nat.le_of_ble_eq_true rfl) (Nat.le_of_ble_eq_true rfl) (Nat.le_of_ble_eq_true rfl) (by decide +kernel : decode cX6_init 7 = .ok (.newarray .int, 2)) (fun q7 cn H hK hP hD hS => ?_)
  obtain ⟨cint, ecn⟩ : ∃ z, z = cn := ⟨_, rfl⟩
  subst ecn
  have hK : va_K D z_cl [(cint, .int)] s := hK
  have hP : va_P D z_cl [(h0, .inr (6, [.null, .null, .null])), (q7, .inl (cint, 8, .inl fun _ => 0))] H := hP
  have hD : va_D A [(h0, .inr (6, [.null, .null, .null])), (q7, .inl (cint, 8, .inl fun _ => 0))] := hD
  refine W.widen (k := 1) (n := 8) (by omega) (by omega) ?_
  refine va_putF (D := D) (ci := 6) (v := .ref q7) (ty := .array .int) (C := RX6) (T := TX6) (N := 3) hx hb hts z_lays_6 tyX6 tyX6_ok nmX6 hown hK hP hD hS 0 rfl rfl 0 (by decide) (hts _ (z_m1 (i := 231) rfl rfl)) (fun _ h9 => h9) rfl hin rfl (by decide +kernel) rfl rfl (Nat.le_of_ble_eq_true rfl) (by decide +kernel : decode cX6_init 9 = .ok (.putfield 9, 3)) (fun H locs hP hD hS => ?_)
  have hP : va_P D z_cl [(h0, .inr (6, [.ref q7, .null, .null])), (q7, .inl (cint, 8, .inl fun _ => 0))] H := hP
  have hD : va_D A [(h0, .inr (6, [.ref q7, .null, .null])), (q7, .inl (cint, 8, .inl fun _ => 0))] := hD
  refine lv_aload_n hx hb (by decide +kernel : decode cX6_init 12 = .ok (.aload_n 0, 1)) rfl (lv_at hl 0 rfl) ?_
  refine lv_iconst (v := 3) hx hb (by decide +kernel : decode cX6_init 13 = .ok (.iconst 3, 1)) (by decide) ?_
  refine va_newa (atype := .int) (ty := .int) (a0 := (3, .inl fun _ => 0)) (N' := 3) hx hb (hts _ (z_m1 (i := 53) rfl rfl)) rfl hK hP hD hS hA (fun _ => rfl) (by decide) rfl (Nat.le_of_ble_eq_true rfl) (Nat.le_of_ble_eq_true rfl) (Nat.le_of_ble_eq_true rfl) (by decide +kernel : decode cX6_init 14 = .ok (.newarray .int, 2)) (fun q14 cn H hK hP hD hS => ?_)
  have ecn : cint = cn := Option.some.inj ((hK.2 0 _ rfl).2.symm.trans (hK.2 1 _ rfl).2)
  subst ecn
  have hK : va_K D z_cl [(cint, .int)] s := hK.sub [0] rfl
  have hP : va_P D z_cl [(h0, .inr (6, [.ref q7, .null, .null])), (q7, .inl (cint, 8, .inl fun _ => 0)), (q14, .inl (cint, 3, .inl fun _ => 0))] H := hP
  have hD : va_D A [(h0, .inr (6, [.ref q7, .null, .null])), (q7, .inl (cint, 8, .inl fun _ => 0)), (q14, .inl (cint, 3, .inl fun _ => 0))] := hD
  refine W.widen (k := 2) (n := 11) (by omega) (by omega) ?_
  refine va_putF (D := D) (ci := 6) (v := .ref q14) (ty := .array .int) (C := RX6) (T := TX6) (N := 3) hx hb hts z_lays_6 tyX6 tyX6_ok nmX6 hown hK hP hD hS 0 rfl rfl 1 (by decide) (hts _ (z_m1 (i := 232) rfl rfl)) (fun _ h9 => h9) rfl hin rfl (by decide +kernel) rfl rfl (Nat.le_of_ble_eq_true rfl) (by decide +kernel : decode cX6_init 16 = .ok (.putfield 15, 3)) (fun H locs hP hD hS => ?_)
  have hP : va_P D z_cl [(h0, .inr (6, [.ref q7, .ref q14, .null])), (q7, .inl (cint, 8, .inl fun _ => 0)), (q14, .inl (cint, 3, .inl fun _ => 0))] H := hP
  have hD : va_D A [(h0, .inr (6, [.ref q7, .ref q14, .null])), (q7, .inl (cint, 8, .inl fun _ => 0)), (q14, .inl (cint, 3, .inl fun _ => 0))] := hD
  refine lv_aload_n hx hb (by decide +kernel : decode cX6_init 19 = .ok (.aload_n 0, 1)) rfl (lv_at hl 0 rfl) ?_
  refine lv_iconst (v := 3) hx hb (by decide +kernel : decode cX6_init 20 = .ok (.iconst 3, 1)) (by decide) ?_
  refine va_newa (atype := .boolean) (ty := .boolean) (a0 := (3, .inl fun _ => 0)) (N' := 3) hx hb (hts _ (z_m2 (i := 1) rfl rfl)) rfl hK hP hD hS hA (fun _ => rfl) (by decide) rfl (Nat.le_of_ble_eq_true rfl) (Nat.le_of_ble_eq_true rfl) (Nat.le_of_ble_eq_true rfl) (by decide +kernel : decode cX6_init 21 = .ok (.newarray .boolean, 2)) (fun q21 cn H hK hP hD hS => ?_)
  obtain ⟨cboolean, ecn⟩ : ∃ z, z = cn := ⟨_, rfl⟩
  subst ecn
  have hK : va_K D z_cl [(cint, .int), (cboolean, .boolean)] s := hK
  have hP : va_P D z_cl [(h0, .inr (6, [.ref q7, .ref q14, .null])), (q7, .inl (cint, 8, .inl fun _ => 0)), (q14, .inl (cint, 3, .inl fun _ => 0)), (q21, .inl (cboolean, 3, .inl fun _ => 0))] H := hP
  have hD : va_D A [(h0, .inr (6, [.ref q7, .ref q14, .null])), (q7, .inl (cint, 8, .inl fun _ => 0)), (q14, .inl (cint, 3, .inl fun _ => 0)), (q21, .inl (cboolean, 3, .inl fun _ => 0))] := hD
  refine W.widen (k := 3) (n := 14) (by omega) (by omega) ?_
  refine va_putF (D := D) (ci := 6) (v := .ref q21) (ty := .array .boolean) (C := RX6) (T := TX6) (N := 3) hx hb hts z_lays_6 tyX6 tyX6_ok nmX6 hown hK hP hD hS 0 rfl rfl 2 (by decide) (hts _ (z_m1 (i := 233) rfl rfl)) (fun _ h9 => h9) rfl hin rfl (by decide +kernel) rfl rfl (Nat.le_of_ble_eq_true rfl) (by decide +kernel : decode cX6_init 23 = .ok (.putfield 18, 3)) (fun H locs hP hD hS => ?_)
  have hP : va_P D z_cl [(h0, .inr (6, [.ref q7, .ref q14, .ref q21])), (q7, .inl (cint, 8, .inl fun _ => 0)), (q14, .inl (cint, 3, .inl fun _ => 0)), (q21, .inl (cboolean, 3, .inl fun _ => 0))] H := hP
  have hD : va_D A [(h0, .inr (6, [.ref q7, .ref q14, .ref q21])), (q7, .inl (cint, 8, .inl fun _ => 0)), (q14, .inl (cint, 3, .inl fun _ => 0)), (q21, .inl (cboolean, 3, .inl fun _ => 0))] := hD
  have hP9 : va_P D z_cl (w_tu (fun o : Nat => if o = 27 then q7 else if o = 28 then q14 else if o = 29 then q21 else h0) cint cboolean) H := hP
  have hD9 : va_D A (w_tu (fun o : Nat => if o = 27 then q7 else if o = 28 then q14 else if o = 29 then q21 else h0) cint cboolean) := hD
  refine W.widen (k := 3) (n := 14) (by omega) (by omega) ?_
  exact W.vret hx hb hr (fun t ht hW => ⟨⟨(), rfl, trivial, (fun o : Nat => if o = 27 then q7 else if o = 28 then q14 else if o = 29 then q21 else h0), cint, cboolean, rfl, by rw [ht]; exact hP9, va_K.moved hW.alike hK, hD9⟩, hS.F ht⟩) hS.2.2 (by decide +kernel : decode cX6_init 26 = .ok (.return_, 1))
