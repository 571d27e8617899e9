/-! THE CLAIM OUT OF ONE WALK OF THE LAW'S BODY. Your part is whole_start (and what it stands on); all else here is the same for every law, but numbers. -/
def R_law : String := "DeficitCirclesLaw"
def lw_P (b : Addr) (xs : List Int32) (args : Array Value) (s : State) : Prop := args = #[.ref b] ∧ s.IntsAt b xs ∧ xs.length ≤ 260 ∧ (Jvm.Cond.and given_1 narrow_1).before args s = true
def lw_Q (_ : Array Value) (s : State) (o : Outcome) (t : State) : Prop := o = .returned (some (.int 1)) ∧ Framed s o t [] 600000 7302250
def lw_Z (below : List Frame) (a : Array Value) (s : State) : State → Prop := fun t => ∃ o, t.status = .running ∧ Ended t below o ∧ lw_Q a s o t
/-- the law's own end, with 1 on the stack, nothing written that was there before, its room as the claim has it -/
theorem lw_ret {p : Program} {l : Launch} {e : Env} {s : State} {m : MethodId} {below : List Frame} {meth : Method} {c : Code} {b : Nat} (hx : p.tables.exec = Jvm.exec) (hb : c.code = code) (hr : meth.sig.returnType = ret) (hlocks : meth.locks = false) {pc : Nat} {H : Heap} {ls : Array Slot} (hdg : decode code pc = .ok (.ireturn, 1)) : W p l e room_1 s m #[Value.ref b] below meth c H [] 600000 7302250 (lw_Z below #[Value.ref b] s) (F0 m pc ls [.int 1]) := by
  intro T hT X
  obtain ⟨fs, hret, hrun, hended, hW, hframe⟩ := X.leave (v := some (.int 1)) (hlocks := hlocks) (fun h => by rw [hr] at h; cases h)
  have hmeth' : T.vm.method? m = some meth := X.method'
  refine ⟨T.setFrames fs, ?_, .returned (some (.int 1)), hrun, hended, rfl, ⟨_, rfl⟩, hW, hframe⟩
  jvm_step X.here [X.here.top, hx, hb, hdg, hmeth', hr, ret, narrow_b1]
  (try refine ⟨rfl, ?_⟩); (try refine ⟨rfl, ?_⟩)
  first | (intro acts; rw [hret _ acts rfl rfl rfl]) | rw [hret _ _ rfl rfl rfl]
  exact Steps.refl _
/-- what holds at the law's entry: the machine, the code, the tables' words (any of lw_tbl by 'hts w (by decide +kernel)'), the script of L ints xs at the cell b, what the Statement gives of the start (any of its parts by flat_of_before) -/
def lw_At (p : Program) (s : State) (m : MethodId) (meth : Method) (c : Code) (b L : Nat) (xs : Nat → Int32) : Prop :=
  p.tables.exec = Jvm.exec ∧ c.code = code ∧ meth.sig.returnType = ret ∧ c.maxLocals = 6 ∧ s.vm.findClass R_law = some m.cls ∧ (∀ w ∈ lw_tbl, w.before #[Value.ref b] s = true) ∧ va_X b L xs s s.heap ∧ b < s.heap.size ∧ meth.locks = false ∧ (Jvm.Cond.and given_1 narrow_1).before #[Value.ref b] s = true
/-! calls out of the law -/
theorem va_P_map {D : va_G} {cl : List vw_C} {ws ws' : va_W} {H : Heap} (hP : va_P D cl ws H) (is : List Nat) (hs : is.map (fun i => ws[i]?) = ws'.map some) : va_P D cl ws' H := by
  intro k q hk
  have h1 : (is.map (fun i => ws[i]?))[k]? = some (some q) := by rw [hs, List.getElem?_map, hk]; rfl
  rw [List.getElem?_map] at h1
  cases hi : is[k]? with
  | none => rw [hi] at h1; cases h1
  | some i => rw [hi] at h1; exact hP i q (Option.some.inj h1)
theorem va_P_kept {D : va_G} {cl : List vw_C} {ws : va_W} {H H1 : Heap} (hP : va_P D cl ws H) (h : ∀ q : Nat, q < H.size → H1[q]? = H[q]?) : va_P D cl ws H1 := fun k q hq => (hP k q hq).kept (h q.1 (hP k q hq).lt)
theorem i_start {D : va_G} {A : Nat → Prop} {H : Heap} {a : Nat → Nat → Nat} {f : Nat → Option Nat} {k d c b : ClassId} (hf : ∀ j, j < 4 → f j = some (a (3 + j) 0)) (hP : va_P D z_cl (w_ma a f k d c b) H) (hD : va_D A (w_ma a f k d c b)) : va_P D z_cl (z_ws 156 (i_ad a) (i_cA k c b d) m0) H ∧ va_D A (z_ws 156 (i_ad a) (i_cA k c b d) m0) := by
  have hP2 : va_P D z_cl (w_ma a (i_g a) k d c b) H := va_P_cell hP (k := 65) rfl (i_gf hf)
  have hD2 : va_D A (w_ma a (i_g a) k d c b) := hD.set (p := 65) (e := .inl (d, 4, .inr (.inr (.inr (.inr (i_g a)))))) rfl
  exact ⟨va_P_map hP2 i_pos (i_ws a k d c b), hD2.sub i_pos (by decide) (i_ws a k d c b)⟩
theorem i_inj {NC : Nat} {A : Nat → Prop} {ad : Nat → Nat} {cA : Nat → ClassId} {M : z_M} (hD : va_D A (z_ws NC ad cA M)) : z_inj NC ad ∧ ∀ q, z_A NC ad q → A q := by
  refine ⟨fun i j hi hj e => hD.1 i j _ _ (z_ws_at ad cA M hi) (z_ws_at ad cA M hj) e, ?_⟩
  rintro q ⟨k, hk, rfl⟩
  exact hD.2 k _ (z_ws_at ad cA M hk)
section LC
variable {p : Program} {l : Launch} {e : Env} {R : Room} {s : State} {m : MethodId} {args : Array Value} {below : List Frame} {meth : Method} {c : Code} {H : Heap} {locs : List Loc} {cells slots : Nat} {Q : State → Prop}
variable {D : va_G} {cA : Nat → ClassId} {ad : Nat → Nat} {M : z_M} {ls : Array Slot} {pc : Nat} {A0 : Nat → Prop} {cc : ByteArray} {nL : Nat}
theorem z_lback {H0 : Heap} {rest : List Value} {st0 : List Value} {r1 : Option z_V} {M1 : z_M} {a : Array Value} (hr : va_Run p l e R s m args below meth c H locs cells slots 0 0 (F0 m pc ls st0) rest (z_Q 156 D cA ad r1 M1 a) (z_A 156 ad)) (hS : va_S A0 H0 H locs) (hA : ∀ q, z_A 156 ad q → A0 q)
    (kk : ∀ (H1 : Heap) (locs1 : List Loc), va_P D z_cl (z_ws 156 ad cA M1) H1 → z_okM M1 → va_S A0 H0 H1 locs1 → W p l e R s m args below meth c H1 locs1 cells slots Q (F0 m (pc + 3) ls ((r1.map (z_rv ad)).toList ++ rest))) : W p l e R s m args below meth c H locs cells slots Q (F0 m pc ls st0) := by
  intro T hT X
  obtain ⟨v, st₀, t, T', L, h0, X', hL, e1, e2, ⟨⟨hv, hu, hM1, hr1⟩, hz, hk⟩, st⟩ := hr T hT X
  cases hv
  rw [h0] at hz hk
  obtain ⟨t2, a1, b1⟩ := kk T'.heap (locs ++ L) (by rw [e1]; exact hu.1) hM1
    ⟨Nat.le_trans hS.1 (by rw [e1]; exact hz), fun q h1 h2 => by rw [e1, hk q (Nat.lt_of_lt_of_le h1 hS.1) (fun y => h2 (hA q y))]; exact hS.2.1 q h1 h2, fun q hq => by
      rcases List.mem_append.mp hq with h | h
      · exact hS.2.2 q h
      · exact hA _ (hL q h)⟩ T' rfl X'
  exact ⟨t2, st t2 a1, b1⟩
/-- what a frame of the law's own methods stands on -/
def lw_fr (p : Program) (s : State) (m : MethodId) (args : Array Value) (c : Code) (cc : ByteArray) (nL : Nat) (D : va_G) (cA : Nat → ClassId) (ad : Nat → Nat) (A0 : Nat → Prop) : Prop :=
  p.tables.exec = Jvm.exec ∧ c.code = cc ∧ c.maxLocals = nL ∧ s.vm.findClass R_law = some m.cls ∧ (∀ w ∈ z_G, w.before args s = true) ∧ va_K D z_cl (z_tys cA) s ∧ z_Nok s ∧ z_inj 156 ad ∧ ∀ q, z_A 156 ad q → A0 q
theorem z_lvirt {H0 : Heap} {k ix o ci : Nat} {sl : List z_S} {vs : List Int32} {mj : z_I} {r : Int} {M1 : z_M} {rest : List Value} {lv : List (Nat × Value)} (F : lw_fr p s m args c cc nL D cA ad A0) (hM : z_okM M)
    (hRc : cells ≤ R.cells ∧ slots ≤ R.slots) (hmj : z_mts[k]? = some mj) (hsta : z_sta mj = false) (hna : vs.length = z_na mj) (hml9 : z_na mj + 1 ≤ z_ml' mj) (hro : z_dp mj + 1 ≤ R.frames ∧ 8 + (z_ml' mj + 11) + 28 * z_dp mj ≤ R.locals) (hlw : Cond.methodLink R_law ix (z_y mj) ∈ z_G) (hkd : z_kds[o]? = some (.inl (ci, sl))) (hci : ci = z_own mj) (ho : z_lv 0 o = true) (ho2 : z_ix 0 o < 156)
    (hev : z_ev k (.inr (some (0, o)) :: vs.map (fun v => .inl v.toInt)) M = some (some (.inl r), M1))
    (hl : lv_has ls nL lv) (hP : va_P D z_cl (z_ws 156 ad cA M) H) (hS : va_S A0 H0 H locs) (hdg : decode cc pc = .ok (.invokevirtual ix, 3)) (hr8 : (rest.map fun v => v.category).sum ≤ 8)
    (kk : ∀ (H1 : Heap) (locs1 : List Loc), va_P D z_cl (z_ws 156 ad cA M1) H1 → z_okM M1 → va_S A0 H0 H1 locs1 → W p l e R s m args below meth c H1 locs1 cells slots Q (F0 m (pc + 3) ls (.int (Int32.ofInt r) :: rest))) :
    W p l e R s m args below meth c H locs cells slots Q (F0 m pc ls ((vs.map Value.int).reverse ++ .ref (ad (z_ix 0 o)) :: rest)) := by
  obtain ⟨hx, hb, hml, hown, hts, hK, hN, had, hA⟩ := F
  obtain ⟨q1, q2, q3, q4, q5, q6, q7⟩ := z_mts_ok mj (List.mem_of_getElem? hmj)
  have hin := (q7.2 hsta).1
  have hse := (q7.2 hsta).2
  have has : z_okS 156 (.inr (some (0, o)) :: vs.map (fun v => .inl v.toInt)) := by
    intro v hv
    rcases List.mem_cons.mp hv with rfl | hv
    · exact z_okR ho2
    · obtain ⟨x, -, rfl⟩ := List.mem_map.mp hv
      exact z_okI (z_wI x)
  obtain ⟨n0, hrun⟩ := z_ex_iff.mp hev
  have hMet := z_sound ⟨by decide, by decide⟩ l D cA ad had (z_dp mj + 1) k mj _ M n0 _ M1 (Nat.lt_succ_self _) hmj (by simp; omega) hM has hrun
  have hG : GoodIn z_G (wsV R_law ix (z_y mj).cls (z_y mj) (z_wd mj)) := by
    intro w hw
    refine z_G_good w ?_
    unfold wsV z_wd at hw
    rcases List.mem_append.mp hw with hw | hw
    · simp only [List.mem_cons, List.not_mem_nil, or_false] at hw
      rcases hw with rfl | rfl | rfl | rfl
      · exact hlw
      · exact hin
      · exact hse
      · exact q4
    · rcases List.mem_cons.mp hw with rfl | hw
      · exact q3
      · exact hw
  obtain ⟨C', T', N', hc', -⟩ := z_kd_at hkd
  have hC' := z_cn_cl _ _ _ _ hc'
  have he := z_ws_get ad cA M ho ho2
  rw [z_ce_obj hkd] at he
  have hpre : ∀ U : State, U.heap = H → s.WarmedH U.vm → va_Pc ((.inr (some (0, o)) :: vs.map (fun v => (.inl v.toInt : z_V))).map (z_rv ad)) (z_U 156 D cA ad M) ((.inr (some (0, o)) :: vs.map (fun v => (.inl v.toInt : z_V))).map (z_rv ad)).toArray U := fun U hU hW => ⟨rfl, z_U.warm hU hW hP hK hN⟩
  have hav : (vs.map (fun v => (.inl v.toInt : z_V))).map (z_rv ad) = vs.map Value.int := by
    rw [List.map_map]
    refine List.map_congr_left fun v _ => ?_
    show Value.int (Int32.ofInt v.toInt) = Value.int v
    rw [Int32.ofInt_toInt]
  have hav2 : (.inr (some (0, o)) :: vs.map (fun v => (.inl v.toInt : z_V))).map (z_rv ad) = .ref (ad (z_ix 0 o)) :: vs.map Value.int := by
    rw [List.map_cons, hav]; rfl
  rw [hav2] at hpre hMet
  refine z_lback (va_runV (As := vs.map Value.int) (rest := rest) (b := ad (z_ix 0 o)) (⟨hx, hb, hml, hown, hts⟩ : CallFix p m c cc nL s args z_G R_law) hMet
    (cwV (z_na mj) hts hG rfl rfl rfl ⟨rfl, q5.1, q5.2, q6⟩ ⟨hro.1, hro.2⟩)
    ⟨by rw [← hav2]; exact z_blind, ?_, hpre⟩ rfl (by rw [List.length_map, hna]) hl.1 rfl (lv_room hr8) hdg ⟨hRc.1, hRc.2⟩) hS hA kk
  have := va_recv hK hP hc' he
  rw [q1, ← hci, ← hC']
  exact this
theorem z_lstat {H0 : Heap} {k ix : Nat} {as : List z_V} {mj : z_I} {r : Int} {M1 : z_M} {rest : List Value} {lv : List (Nat × Value)} (F : lw_fr p s m args c cc nL D cA ad A0) (hM : z_okM M)
    (hRc : cells ≤ R.cells ∧ slots ≤ R.slots) (hmj : z_mts[k]? = some mj) (hsta : z_sta mj = true) (hown8 : z_own mj = 8) (hna : as.length = z_na mj) (hml9 : z_na mj ≤ z_ml' mj) (hro : z_dp mj + 1 ≤ R.frames ∧ 8 + (z_ml' mj + 11) + 28 * z_dp mj ≤ R.locals) (hlw : Cond.methodLink R_law ix (z_y mj) ∈ z_G) (has : z_okS 156 as)
    (hev : z_ev k as M = some (some (.inl r), M1))
    (hl : lv_has ls nL lv) (hP : va_P D z_cl (z_ws 156 ad cA M) H) (hS : va_S A0 H0 H locs) (hdg : decode cc pc = .ok (.invokestatic ix, 3)) (hr8 : (rest.map fun v => v.category).sum ≤ 8)
    (kk : ∀ (H1 : Heap) (locs1 : List Loc), va_P D z_cl (z_ws 156 ad cA M1) H1 → z_okM M1 → va_S A0 H0 H1 locs1 → W p l e R s m args below meth c H1 locs1 cells slots Q (F0 m (pc + 3) ls (.int (Int32.ofInt r) :: rest))) :
    W p l e R s m args below meth c H locs cells slots Q (F0 m pc ls ((as.map (z_rv ad)).reverse ++ rest)) := by
  obtain ⟨hx, hb, hml, hown, hts, hK, hN, had, hA⟩ := F
  obtain ⟨q1, q2, q3, q4, q5, q6, q7⟩ := z_mts_ok mj (List.mem_of_getElem? hmj)
  have hst := q7.1 hsta
  have hcl : (z_y mj).cls = R_law := by rw [q1, hown8]; rfl
  obtain ⟨n0, hrun⟩ := z_ex_iff.mp hev
  have hMet := z_sound ⟨by decide, by decide⟩ l D cA ad had (z_dp mj + 1) k mj _ M n0 _ M1 (Nat.lt_succ_self _) hmj (by omega) hM has hrun
  have hG : GoodIn z_G (wsS R_law ix (z_y mj) (z_wd mj)) := by
    intro w hw
    refine z_G_good w ?_
    unfold wsS z_wd at hw
    rcases List.mem_append.mp hw with hw | hw
    · simp only [List.mem_cons, List.not_mem_nil, or_false] at hw
      rcases hw with rfl | rfl | rfl
      · exact hlw
      · exact hst
      · rw [← hcl]; exact q4
    · rcases List.mem_cons.mp hw with rfl | hw
      · exact q3
      · exact hw
  have hpre : ∀ U : State, U.heap = H → s.WarmedH U.vm → va_Pc (as.map (z_rv ad)) (z_U 156 D cA ad M) (as.map (z_rv ad)).toArray U := fun U hU hW => ⟨rfl, z_U.warm hU hW hP hK hN⟩
  exact z_lback (va_runS (As := as.map (z_rv ad)) (rest := rest) (⟨hx, hb, hml, hown, hts⟩ : CallFix p m c cc nL s args z_G R_law) hMet
    (cwS (z_na mj) hts hG rfl rfl rfl ⟨hcl, q5.1, q5.2, q6⟩ ⟨hro.1, hro.2⟩)
    ⟨z_blind, hpre⟩ rfl (by rw [List.length_map, hna]) hl.1 rfl (lv_room hr8) hdg ⟨hRc.1, hRc.2⟩) hS hA kk
end LC
