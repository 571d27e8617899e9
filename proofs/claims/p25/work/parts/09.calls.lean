/-! returns, calls, whole methods -/
def z_wd (mi : z_I) : List Cond := Cond.code (z_y mi) (z_cd mi) (z_ml' mi) (z_rt mi) :: z_G
def z_rm (d : Nat) : Room := { frames := d, cells := 0, slots := 0, locals := 28 * d }
def z_yk (k : Nat) : MethodName := match z_mts[k]? with
  | some mj => z_y mj
  | none => ⟨"", "", ""⟩
def z_nw (e : (Nat × Nat) × (Nat × String)) : Cond := .methodLinkNest (z_cn e.1.1) e.1.2 (z_yk e.2.1) e.2.2
def z_Nok (U : State) : Prop := ∀ e ∈ z_nl, va_Nw (z_nw e) U
def z_U (NC : Nat) (D : va_G) (cA : Nat → ClassId) (ad : Nat → Nat) (M : z_M) (U : State) : Prop := va_P D z_cl (z_ws NC ad cA M) U.heap ∧ va_K D z_cl (z_tys cA) U ∧ z_Nok U
def z_Q (NC : Nat) (D : va_G) (cA : Nat → ClassId) (ad : Nat → Nat) (r : Option z_V) (M' : z_M) : Array Value → State → Outcome → State → Prop := fun _ st oc t =>
  (oc = .returned (r.map (z_rv ad)) ∧ z_U NC D cA ad M' t ∧ z_okM M' ∧ z_okS NC r.toList) ∧ va_F (z_A NC ad) st t
theorem z_Nok.warm {s U : State} (hW : s.WarmedH U.vm) (h : z_Nok s) : z_Nok U := fun e he => va_Nw.warmM hW (h e he)
theorem z_Nok.same {s U : State} (hv : s.vm = U.vm) (h : z_Nok s) : z_Nok U := fun e he => va_Nw.same rfl hv (h e he)
theorem z_U.warm {NC : Nat} {D : va_G} {cA : Nat → ClassId} {ad : Nat → Nat} {M : z_M} {s t : State} {H : Heap} (ht : t.heap = H) (hW : s.WarmedH t.vm) (hP : va_P D z_cl (z_ws NC ad cA M) H) (hK : va_K D z_cl (z_tys cA) s) (hN : z_Nok s) : z_U NC D cA ad M t :=
  ⟨by rw [ht]; exact hP, va_K.moved hW.alike hK, hN.warm hW⟩
theorem z_blind {NC : Nat} {D : va_G} {cA : Nat → ClassId} {ad : Nat → Nat} {M : z_M} {av : List Value} : FrameBlind (va_Pc av (z_U NC D cA ad M)) := fun a U g mk h =>
  ⟨h.1, h.2.1, va_K.moved (u := U) (U := U.calling g mk a) (Vm.Alike.refl U.vm) h.2.2.1, h.2.2.2.same rfl⟩
theorem z_cn_cl : ∀ (ci : Nat) (C : String) (T : u_T) (N : Nat), z_cl[ci]? = some (C, T, N) → C = z_cn ci := by
  intro ci C T N h
  match ci, h with
  | 0, h => cases h; rfl
  | 1, h => cases h; rfl
  | 2, h => cases h; rfl
  | 3, h => cases h; rfl
  | 4, h => cases h; rfl
  | 5, h => cases h; rfl
  | 6, h => cases h; rfl
  | 7, h => cases h; rfl
  | k + 8, h => simp [z_cl] at h
section ZC
variable {p : Program} {l : Launch} {e : Env} {R : Room} {s : State} {mm : MethodId} {args : Array Value} {below : List Frame} {meth : Method} {c : Code} {H : Heap} {locs : List Loc} {Q : State → Prop}
variable {cells slots NC : Nat} {mi : z_I} {D : va_G} {cA : Nat → ClassId} {ad : Nat → Nat} {i : Instr} {len pc : Nat} {ls : z_L} {st : List z_V} {M : z_M} {Ls : Array Slot}
theorem z_ret {r : Option z_V} (hx : p.tables.exec = Jvm.exec) (hb : c.code = z_cd mi) (hr : meth.sig.returnType = z_rt mi) (hlocks : meth.locks = false) (hK : va_K D z_cl (z_tys cA) s) (hN : z_Nok s)
    (hdg : decode (z_cd mi) pc = .ok (i, len)) (h : z_stR mi i len st = some r) (hso : z_okS NC st) (hM : z_okM M) (hP : va_P D z_cl (z_ws NC ad cA M) H) (hS : va_S (z_A NC ad) s.heap H locs) :
    W p l e R s mm args below meth c H locs 0 0 (MQ below (z_Q NC D cA ad r M) args s 0 0 (z_A NC ad)) (F0 mm pc Ls (st.map (z_rv ad))) := by
  have hq : ∀ r' : Option z_V, z_okS NC r'.toList → ∀ t : State, t.heap = H → s.WarmedH t.vm → z_Q NC D cA ad r' M args s (.returned (r'.map (z_rv ad))) t := fun r' hr' t ht hW => ⟨⟨rfl, z_U.warm ht hW hP hK hN, hM, hr'⟩, hS.F ht⟩
  unfold z_stR at h
  split at h
  · rename_i v
    split at h
    · rename_i e1
      subst e1
      split at h
      · rename_i e2
        cases h
        exact W.iret hx hb (hr.trans e2) (hq (some (.inl v)) hso) hS.2.2 hdg hlocks
      · rename_i e2
        split at h
        · rename_i e3
          cases h
          exact W.zret hx hb (hr.trans e2) (z_nar01 e3) (hq (some (.inl v)) hso) hS.2.2 hdg hlocks
        · cases h
      · cases h
    · cases h
  · rename_i v
    split at h
    · rename_i e1
      subst e1
      split at h
      · rename_i e2
        cases h
        refine W.aret hx hb (hr.trans e2) (Or.inl ⟨_, rfl⟩) ?_ (hq (some (.inr v)) hso) hS.2.2 hdg hlocks
        cases v with
        | none => exact Or.inl rfl
        | some q => exact Or.inr ⟨_, rfl⟩
      · cases h
    · cases h
  · split at h
    · rename_i e1
      subst e1
      split at h
      · rename_i e2
        cases h
        exact W.vret hx hb (hr.trans e2) (hq none (fun _ h => by cases h)) hS.2.2 hdg hlocks
      · cases h
    · cases h
  · cases h
theorem z_back {A0 : Nat → Prop} (hA0 : ∀ q, z_A NC ad q → A0 q) {H0 : Heap} {rest : List Value} {st0 : List Value} {r1 : Option z_V} {M1 : z_M} {a : Array Value} (hr : va_Run p l e R s mm args below meth c H locs cells slots 0 0 (F0 mm pc Ls st0) rest (z_Q NC D cA ad r1 M1 a) (z_A NC ad)) (hS : va_S A0 H0 H locs)
    (kk : ∀ (H1 : Heap) (locs1 : List Loc), va_P D z_cl (z_ws NC ad cA M1) H1 → z_okM M1 → z_okS NC r1.toList → va_S A0 H0 H1 locs1 → W p l e R s mm args below meth c H1 locs1 cells slots Q (F0 mm (pc + 3) Ls ((r1.map (z_rv ad)).toList ++ rest))) : W p l e R s mm args below meth c H locs cells slots Q (F0 mm pc Ls st0) := by
  intro T hT X
  obtain ⟨v, st₀, t, T', L, h0, X', hL, e1, e2, ⟨⟨hv, hu, hM1, hr1⟩, hz, hk⟩, st⟩ := hr T hT X
  cases hv
  rw [h0] at hz hk
  obtain ⟨t2, a1, b1⟩ := kk T'.heap (locs ++ L) (by rw [e1]; exact hu.1) hM1 hr1
    ⟨Nat.le_trans hS.1 (by rw [e1]; exact hz), fun q h1 h2 => by rw [e1, hk q (Nat.lt_of_lt_of_le h1 hS.1) (fun y => h2 (hA0 q y))]; exact hS.2.1 q h1 h2, fun q hq => by
      rcases List.mem_append.mp hq with h | h
      · exact hS.2.2 q h
      · exact hA0 _ (hL q h)⟩ T' rfl X'
  exact ⟨t2, st t2 a1, b1⟩
theorem z_callW {A0 : Nat → Prop} (hA0 : ∀ q, z_A NC ad q → A0 q) {k : Nat} {as rest : List z_V} {mj : z_I} {r1 : Option z_V} {M1 : z_M} (hcs : cells ≤ R.cells ∧ slots ≤ R.slots) (hso : z_okS NC st) (hx : p.tables.exec = Jvm.exec) (hb : c.code = z_cd mi) (hml : c.maxLocals = z_ml' mi) (hown : s.vm.findClass (z_cn (z_own mi)) = some mm.cls) (hts : ∀ w ∈ z_G, w.before args s = true) (hK : va_K D z_cl (z_tys cA) s) (hN : z_Nok s)
    (hRf : R.frames = z_dp mi) (hRl : R.locals = 28 * z_dp mi) (hdg : decode (z_cd mi) pc = .ok (i, len)) (h : z_stC mi i len st = some (k, as, rest)) (hmj : z_mts[k]? = some mj)
    (hMet : Met l (z_y mj) (z_wd mj) (z_rm (z_dp mj)) (va_Pc (as.map (z_rv ad)) (z_U NC D cA ad M)) (z_Q NC D cA ad r1 M1) 0 0 (z_A NC ad))
    (hl : z_RL ad ls Ls (z_ml' mi)) (hP : va_P D z_cl (z_ws NC ad cA M) H) (hS : va_S A0 s.heap H locs)
    (kk : ∀ (H1 : Heap) (locs1 : List Loc), va_P D z_cl (z_ws NC ad cA M1) H1 → z_okM M1 → z_okS NC r1.toList → va_S A0 s.heap H1 locs1 → W p l e R s mm args below meth c H1 locs1 cells slots Q (F0 mm (pc + 3) Ls ((r1.toList ++ rest).map (z_rv ad)))) :
    W p l e R s mm args below meth c H locs cells slots Q (F0 mm pc Ls (st.map (z_rv ad))) := by
  have kk' : ∀ (H1 : Heap) (locs1 : List Loc), va_P D z_cl (z_ws NC ad cA M1) H1 → z_okM M1 → z_okS NC r1.toList → va_S A0 s.heap H1 locs1 → W p l e R s mm args below meth c H1 locs1 cells slots Q (F0 mm (pc + 3) Ls ((r1.map (z_rv ad)).toList ++ rest.map (z_rv ad))) := fun H1 locs1 a1 a2 a3 a4 => by
    have := kk H1 locs1 a1 a2 a3 a4
    cases r1 <;> exact this
  obtain ⟨q1, q2, q3, q4, q5, q6, q7⟩ := z_mts_ok mj (List.mem_of_getElem? hmj)
  have hS' : CallFix p mm c (z_cd mi) (z_ml' mi) s args z_G (z_cn (z_own mi)) := ⟨hx, hb, hml, hown, hts⟩
  have hpre : ∀ U : State, U.heap = H → s.WarmedH U.vm → va_Pc (as.map (z_rv ad)) (z_U NC D cA ad M) (as.map (z_rv ad)).toArray U := fun U hU hW => ⟨rfl, z_U.warm hU hW hP hK hN⟩
  unfold z_stC at h
  split at h
  · rename_i ix
    split at h
    · rename_i k' hlk
      split at h
      · rename_i mj' hmj'
        split at h
        · rename_i e1
          obtain ⟨rfl, e2, e3, e4, e5⟩ := e1
          split at h
          · rename_i s' o r hdrop
            split at h
            · rename_i ci sl hkd
              split at h
              · rename_i e6
                obtain ⟨rfl, hlv, hr8⟩ := e6
                cases h
                cases hmj.symm.trans hmj'
                obtain ⟨mj2, hmj2, hlw⟩ := z_ml_ok _ (z_look _ _ _ hlk)
                cases hmj.symm.trans hmj2
                obtain ⟨C', T', N', hc', -⟩ := z_kd_at hkd
                have hC' := z_cn_cl _ _ _ _ hc'
                have he := z_ws_get ad cA M hlv ((hso _ (List.drop_subset _ _ (by rw [hdrop]; exact List.mem_cons_self))).2 _ rfl)
                rw [z_ce_obj hkd] at he
                have hin := (q7.2 e2).1
                have hse := (q7.2 e2).2
                have hG : GoodIn z_G (wsV (z_cn (z_own mi)) ix (z_y mj).cls (z_y mj) (z_wd mj)) := by
                  intro w hw
                  refine z_G_good w ?_
                  unfold wsV z_wd at hw
                  rcases List.mem_append.mp hw with hw | hw
                  · simp only [List.mem_cons, List.not_mem_nil, or_false] at hw
                    rcases hw with rfl | rfl | rfl | rfl
                    · exact hlw
                    · exact hin
                    · exact hse
                    · exact q4
                  · rcases List.mem_cons.mp hw with rfl | hw
                    · exact q3
                    · exact hw
                have hlen : (st.take (z_na mj)).length = z_na mj := by
                  rw [List.length_take]
                  have : (st.drop (z_na mj)).length = st.length - z_na mj := List.length_drop
                  rw [hdrop] at this
                  simp only [List.length_cons] at this
                  omega
                have hst : st = st.take (z_na mj) ++ .inr (some (s', o)) :: rest := by rw [← hdrop, List.take_append_drop]
                refine z_back hA0 (va_runV (As := (st.take (z_na mj)).reverse.map (z_rv ad)) (rest := rest.map (z_rv ad)) (b := ad (z_ix s' o)) hS' hMet
                  (cwV (z_na mj) hts hG rfl rfl rfl ⟨rfl, q5.1, q5.2, q6⟩ ⟨by rw [hRf]; show z_dp mj + 1 ≤ _; omega, by rw [hRl]; show 8 + (z_ml' mj + 11) + 28 * z_dp mj ≤ _; omega⟩)
                  ⟨z_blind, ?_, hpre⟩ rfl (by rw [List.length_map, List.length_reverse, hlen]) hl.1 ?_ (lv_room (by rw [z_rv_cats]; exact hr8)) hdg hcs) hS kk'
                · have := va_recv hK hP hc' he
                  rw [q1, ← hC']
                  exact this
                · show st.map (z_rv ad) = _
                  rw [← List.map_reverse, List.reverse_reverse]
                  conv => lhs; rw [hst]
                  rw [List.map_append]
                  rfl
              · cases h
            · cases h
          · cases h
        · cases h
      · cases h
    · cases h
  · rename_i ix
    split at h
    · rename_i k' hlk
      split at h
      · rename_i mj' hmj'
        split at h
        · rename_i e1
          obtain ⟨rfl, e2, e3, e4, e5, e6, e7, e8⟩ := e1
          cases h
          cases hmj.symm.trans hmj'
          obtain ⟨mj2, hmj2, hlw⟩ := z_ml_ok _ (z_look _ _ _ hlk)
          cases hmj.symm.trans hmj2
          have hG : GoodIn z_G (wsS (z_cn (z_own mi)) ix (z_y mj) (z_wd mj)) := by
            intro w hw
            refine z_G_good w ?_
            unfold wsS z_wd at hw
            rcases List.mem_append.mp hw with hw | hw
            · simp only [List.mem_cons, List.not_mem_nil, or_false] at hw
              rcases hw with rfl | rfl | rfl
              · exact hlw
              · exact q7.1 e2
              · rw [← e3, ← q1]; exact q4
            · rcases List.mem_cons.mp hw with rfl | hw
              · exact q3
              · exact hw
          refine z_back hA0 (va_runS (As := (st.take (z_na mj)).reverse.map (z_rv ad)) (rest := (st.drop (z_na mj)).map (z_rv ad)) hS' hMet
            (cwS (z_na mj) hts hG rfl rfl rfl ⟨by rw [← e3]; exact q1, q5.1, q5.2, q6⟩ ⟨by rw [hRf]; show z_dp mj + 1 ≤ _; omega, by rw [hRl]; show 8 + (z_ml' mj + 11) + 28 * z_dp mj ≤ _; omega⟩)
            ⟨z_blind, hpre⟩ rfl (by rw [List.length_map, List.length_reverse, List.length_take]; omega) hl.1 ?_ (lv_room (by rw [z_rv_cats]; exact e8)) hdg hcs) hS kk'
          show st.map (z_rv ad) = _
          rw [← List.map_reverse, List.reverse_reverse, ← List.map_append, List.take_append_drop]
        · cases h
      · cases h
    · split at h
      · rename_i k' host hlk
        split at h
        · rename_i mj' hmj'
          split at h
          · rename_i e1
            obtain ⟨rfl, e2, e4, e5, e6, e7, e8⟩ := e1
            cases h
            cases hmj.symm.trans hmj'
            have hnn := hN _ (z_look _ _ _ hlk)
            have hyk : z_yk k = z_y mj := by unfold z_yk; rw [hmj]
            unfold z_nw at hnn
            dsimp only at hnn
            rw [hyk] at hnn
            have hG : GoodIn z_G (z_wd mj) := by
              intro w hw
              refine z_G_good w ?_
              unfold z_wd at hw
              rcases List.mem_cons.mp hw with rfl | hw
              · exact q3
              · exact hw
            refine z_back hA0 (va_runSN (As := (st.take (z_na mj)).reverse.map (z_rv ad)) (rest := (st.drop (z_na mj)).map (z_rv ad)) hS' hMet
              ⟨va_cnB (z_na mj) hts hG rfl rfl rfl hnn (hts _ q4) ⟨q5.1, q5.2, q6⟩ ⟨by rw [hRf]; show z_dp mj + 1 ≤ _; omega, by rw [hRl]; show 8 + (z_ml' mj + 11) + 28 * z_dp mj ≤ _; omega⟩, hts _ (q7.1 e2), trivial⟩
              ⟨z_blind, hpre⟩ rfl (by rw [List.length_map, List.length_reverse, List.length_take]; omega) hl.1 ?_ (lv_room (by rw [z_rv_cats]; exact e8)) hdg hcs) hS kk'
            show st.map (z_rv ad) = _
            rw [← List.map_reverse, List.reverse_reverse, ← List.map_append, List.take_append_drop]
          · cases h
        · cases h
      · cases h
  · cases h
/-- what a call asks of its arguments' number, and of the depth -/
theorem z_stC_len {k : Nat} {as rest : List z_V} (h : z_stC mi i len st = some (k, as, rest)) : ∃ mj, z_mts[k]? = some mj ∧ as.length ≤ z_ml' mj ∧ z_dp mj < z_dp mi ∧ ∀ v ∈ as ++ rest, v ∈ st := by
  unfold z_stC at h
  split at h
  · split at h
    · split at h
      · rename_i mj hmj
        split at h
        · rename_i e1
          split at h
          · rename_i s' o r hdrop
            split at h
            · split at h
              · cases h
                refine ⟨mj, hmj, ?_, e1.2.2.1, ?_⟩
                · simp only [List.length_cons, List.length_reverse, List.length_take]
                  omega
                · intro v hv
                  have hst : st = st.take (z_na mj) ++ .inr (some (s', o)) :: rest := by rw [← hdrop, List.take_append_drop]
                  rw [hst]
                  simp only [List.cons_append, List.mem_cons, List.mem_append, List.mem_reverse] at hv ⊢
                  rcases hv with h | h | h
                  · exact Or.inr (Or.inl h)
                  · exact Or.inl h
                  · exact Or.inr (Or.inr h)
              · cases h
            · cases h
          · cases h
        · cases h
      · cases h
    · cases h
  · split at h
    · split at h
      · rename_i mj hmj
        split at h
        · rename_i e1
          cases h
          refine ⟨mj, hmj, ?_, e1.2.2.2.1, ?_⟩
          · simp only [List.length_reverse, List.length_take]
            omega
          · intro v hv
            rw [← List.take_append_drop (z_na mj) st]
            simp only [List.mem_append, List.mem_reverse] at hv ⊢
            exact hv
        · cases h
      · cases h
    · split at h
      · split at h
        · rename_i mj hmj
          split at h
          · rename_i e1
            cases h
            refine ⟨mj, hmj, ?_, e1.2.2.1, ?_⟩
            · simp only [List.length_reverse, List.length_take]
              omega
            · intro v hv
              rw [← List.take_append_drop (z_na mj) st]
              simp only [List.mem_append, List.mem_reverse] at hv ⊢
              exact hv
          · cases h
        · cases h
      · cases h
  · cases h
end ZC
set_option maxHeartbeats 4000000 in
/-- what the machine over positions comes to, the JVM comes to -/
theorem z_sound {NC : Nat} (hNC : 156 ≤ NC ∧ NC ≤ 159) (l : Launch) (D : va_G) (cA : Nat → ClassId) (ad : Nat → Nat) (had : z_inj NC ad) : ∀ (d k : Nat) (mi : z_I) (as : List z_V) (M : z_M) (n0 : Nat) (r : Option z_V) (M' : z_M), z_dp mi < d → z_mts[k]? = some mi → as.length ≤ z_ml' mi → z_okM M → z_okS NC as →
    z_run n0 k 0 (z_en k as) [] M = some (r, M') → Met l (z_y mi) (z_wd mi) (z_rm (z_dp mi)) (va_Pc (as.map (z_rv ad)) (z_U NC D cA ad M)) (z_Q NC D cA ad r M') 0 0 (z_A NC ad) := by
  intro d
  induction d with
  | zero => intro k mi as M n0 r M' hd; exact absurd hd (Nat.not_lt_zero _)
  | succ d ihd =>
    intro k mi as M n0 r M' hd hmi hlen hM has hrun
    obtain ⟨q1, q2, q3, q4, q5, q6, q7⟩ := z_mts_ok mi (List.mem_of_getElem? hmi)
    refine Met.ofW (cc := z_cd mi) (maxL := z_ml' mi) (ret := z_rt mi) q2 rfl ?_
    intro p e s mm args below meth c s₁ B hml hv
    obtain ⟨rfl, hP, hK, hN⟩ := hv
    have hx := B.exec
    have hb := B.bytes
    have hr := B.returns
    have hts0 := atoms_spec (ws := z_wd mi) B.pre
    have hts : ∀ w ∈ z_G, w.before (as.map (z_rv ad)).toArray s = true := fun w hw => hts0 w (List.mem_cons_of_mem _ hw)
    have hown : s.vm.findClass (z_cn (z_own mi)) = some mm.cls := by rw [← q1]; exact findClass_of_methodNamed B.named
    have hlocks := B.notSynchronized
    rw [lg_entry_eq]
    have hen : z_en k as = as.map some ++ List.replicate (z_ml' mi - as.length) none := by unfold z_en; rw [hmi]
    rw [hen] at hrun
    have hl := z_RL_entry (ad := ad) hlen
    have hlo : z_okL NC (as.map some ++ List.replicate (z_ml' mi - as.length) none) := by
      intro j v hj
      have hmem := List.mem_of_getElem? hj
      rcases List.mem_append.mp hmem with h | h
      · obtain ⟨u, hu, e⟩ := List.mem_map.mp h
        cases e
        exact has _ hu
      · have := List.eq_of_mem_replicate h
        cases this
    have hS : va_S (z_A NC ad) s.heap s.heap [] := va_S.rf
    have main : ∀ (n pc : Nat) (ls : z_L) (st : List z_V) (M : z_M) (Ls : Array Slot) (H : Heap) (locs : List Loc), z_okL NC ls → z_okS NC st → z_okM M → z_RL ad ls Ls (z_ml' mi) → va_P D z_cl (z_ws NC ad cA M) H → va_S (z_A NC ad) s.heap H locs → z_run n k pc ls st M = some (r, M') →
        W p l e (headSpec (z_wd mi) (z_rm (z_dp mi))).room s mm (as.map (z_rv ad)).toArray below meth c H locs 0 0 (MQ below (z_Q NC D cA ad r M') (as.map (z_rv ad)).toArray s 0 0 (z_A NC ad)) (F0 mm pc Ls (st.map (z_rv ad))) := by
      intro n
      induction n with
      | zero => intro pc ls st M Ls H locs _ _ _ _ _ _ h; cases h
      | succ n ih =>
        intro pc ls st M Ls H locs hlo hso hM hl hP hS hrun
        unfold z_run at hrun
        split at hrun
        · cases hrun
        · rename_i pc' ls' st' M2 hstp
          unfold z_stp at hstp
          rw [hmi] at hstp
          dsimp only at hstp
          split at hstp
          · rename_i q hdg
            split at hstp
            · rename_i n' hI
              cases hstp
              exact z_next (fun _ h => h) hNC ⟨Nat.zero_le _, Nat.zero_le _⟩ hx hb hml hown hts hK had rfl rfl hdg hI hlo hso hM hl hP hS fun Ls' H' locs' a1 a2 a3 a4 a5 a6 => ih _ _ _ _ Ls' H' locs' a1 a2 a3 a4 a5 a6 hrun
            · split at hstp
              · cases hstp
              · rw [Option.map_eq_some_iff] at hstp
                obtain ⟨x, -, hx2⟩ := hstp
                cases hx2
          · cases hstp
        · rename_i q hstp
          cases hrun
          unfold z_stp at hstp
          rw [hmi] at hstp
          dsimp only at hstp
          split at hstp
          · rename_i q hdg
            split at hstp
            · cases hstp
            · split at hstp
              · rename_i r' hR
                cases hstp
                exact z_ret hx hb hr hlocks hK hN hdg hR hso hM hP hS
              · rw [Option.map_eq_some_iff] at hstp
                obtain ⟨x, -, hx2⟩ := hstp
                cases hx2
          · cases hstp
        · rename_i k2 as2 rest hstp
          unfold z_stp at hstp
          rw [hmi] at hstp
          dsimp only at hstp
          split at hstp
          · rename_i q hdg
            split at hstp
            · cases hstp
            · split at hstp
              · cases hstp
              · rw [Option.map_eq_some_iff] at hstp
                obtain ⟨x, hC, hx2⟩ := hstp
                cases hx2
                obtain ⟨mj, hmj, hlen2, hdp2, hsub⟩ := z_stC_len hC
                have has2 : z_okS NC as2 := fun v hv => hso v (hsub v (List.mem_append_left _ hv))
                have hrest : z_okS NC rest := fun v hv => hso v (hsub v (List.mem_append_right _ hv))
                split at hrun
                · cases hrun
                · rename_i q2 hr2
                  obtain ⟨r1, M1⟩ := q2
                  have hMet := ihd k2 mj as2 M n r1 M1 (by omega) hmj hlen2 hM has2 hr2
                  refine z_callW (fun _ h => h) ⟨Nat.zero_le _, Nat.zero_le _⟩ hso hx hb hml hown hts hK hN rfl rfl hdg hC hmj hMet hl hP hS fun H1 locs1 a1 a2 a3 a4 => ?_
                  refine ih _ _ _ _ Ls H1 locs1 hlo ?_ a2 hl a1 a4 hrun
                  intro v hv
                  rcases List.mem_append.mp hv with h | h
                  · exact a3 v h
                  · exact hrest v h
          · cases hstp
    exact main n0 0 _ [] M _ s.heap [] hlo (fun _ h => by cases h) hM hl hP hS hrun
set_option maxHeartbeats 4000000 in
/-- a method's run from somewhere in its middle -/
theorem z_mid {A0 : Nat → Prop} {NC : Nat} (hNC : 156 ≤ NC ∧ NC ≤ 159) (l : Launch) (D : va_G) (cA : Nat → ClassId) (ad : Nat → Nat) (had : z_inj NC ad) (hA0 : ∀ q, z_A NC ad q → A0 q) {p : Program} {e : Env} {R : Room} {s : State} {mm : MethodId} {args : Array Value} {below : List Frame} {meth : Method} {c : Code} {Q : State → Prop} {cells slots k : Nat} {mi : z_I} (hmi : z_mts[k]? = some mi) (hcs : cells ≤ R.cells ∧ slots ≤ R.slots)
    (hx : p.tables.exec = Jvm.exec) (hb : c.code = z_cd mi) (hml : c.maxLocals = z_ml' mi) (hown : s.vm.findClass (z_cn (z_own mi)) = some mm.cls) (hts : ∀ w ∈ z_G, w.before args s = true) (hK : va_K D z_cl (z_tys cA) s) (hN : z_Nok s) (hRf : R.frames = z_dp mi) (hRl : R.locals = 28 * z_dp mi) {r : Option z_V} {M' : z_M}
    (hret : ∀ (i : Instr) (len pc : Nat) (st : List z_V) (Ls : Array Slot) (H : Heap) (locs : List Loc), decode (z_cd mi) pc = .ok (i, len) → z_stR mi i len st = some r → z_okS NC st → z_okM M' → va_P D z_cl (z_ws NC ad cA M') H → va_S A0 s.heap H locs → W p l e R s mm args below meth c H locs cells slots Q (F0 mm pc Ls (st.map (z_rv ad)))) :
    ∀ (n pc : Nat) (ls : z_L) (st : List z_V) (M : z_M) (Ls : Array Slot) (H : Heap) (locs : List Loc), z_okL NC ls → z_okS NC st → z_okM M → z_RL ad ls Ls (z_ml' mi) → va_P D z_cl (z_ws NC ad cA M) H → va_S A0 s.heap H locs → z_run n k pc ls st M = some (r, M') →
      W p l e R s mm args below meth c H locs cells slots Q (F0 mm pc Ls (st.map (z_rv ad))) := by
  intro n
  induction n with
  | zero => intro pc ls st M Ls H locs _ _ _ _ _ _ h; cases h
  | succ n ih =>
    intro pc ls st M Ls H locs hlo hso hM hl hP hS hrun
    unfold z_run at hrun
    split at hrun
    · cases hrun
    · rename_i pc' ls' st' M2 hstp
      unfold z_stp at hstp
      rw [hmi] at hstp
      dsimp only at hstp
      split at hstp
      · rename_i q hdg
        split at hstp
        · rename_i n' hI
          cases hstp
          exact z_next hA0 hNC hcs hx hb hml hown hts hK had hRf hRl hdg hI hlo hso hM hl hP hS fun Ls' H' locs' a1 a2 a3 a4 a5 a6 => ih _ _ _ _ Ls' H' locs' a1 a2 a3 a4 a5 a6 hrun
        · split at hstp
          · cases hstp
          · rw [Option.map_eq_some_iff] at hstp
            obtain ⟨x, -, hx2⟩ := hstp
            cases hx2
      · cases hstp
    · rename_i q hstp
      cases hrun
      unfold z_stp at hstp
      rw [hmi] at hstp
      dsimp only at hstp
      split at hstp
      · rename_i q hdg
        split at hstp
        · cases hstp
        · split at hstp
          · rename_i r' hR
            cases hstp
            exact hret _ _ _ _ _ _ _ hdg hR hso hM hP hS
          · rw [Option.map_eq_some_iff] at hstp
            obtain ⟨x, -, hx2⟩ := hstp
            cases hx2
      · cases hstp
    · rename_i k2 as2 rest hstp
      unfold z_stp at hstp
      rw [hmi] at hstp
      dsimp only at hstp
      split at hstp
      · rename_i q hdg
        split at hstp
        · cases hstp
        · split at hstp
          · cases hstp
          · rw [Option.map_eq_some_iff] at hstp
            obtain ⟨x, hC, hx2⟩ := hstp
            cases hx2
            obtain ⟨mj, hmj, hlen2, hdp2, hsub⟩ := z_stC_len hC
            have has2 : z_okS NC as2 := fun v hv => hso v (hsub v (List.mem_append_left _ hv))
            have hrest : z_okS NC rest := fun v hv => hso v (hsub v (List.mem_append_right _ hv))
            split at hrun
            · cases hrun
            · rename_i q2 hr2
              obtain ⟨r1, M1⟩ := q2
              have hMet := z_sound hNC l D cA ad had (z_dp mj + 1) k2 mj as2 M n r1 M1 (Nat.lt_succ_self _) hmj hlen2 hM has2 hr2
              refine z_callW hA0 hcs hso hx hb hml hown hts hK hN hRf hRl hdg hC hmj hMet hl hP hS fun H1 locs1 a1 a2 a3 a4 => ?_
              refine ih _ _ _ _ Ls H1 locs1 hlo ?_ a2 hl a1 a4 hrun
              intro v hv
              rcases List.mem_append.mp hv with h | h
              · exact a3 v h
              · exact hrest v h
      · cases hstp
