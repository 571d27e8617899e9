/-! the law's own cell and comes, outside the machine; by gen_comes.py -/
def z_wC : Cond := Cond.code yL_cell cL_cell 2 (some .int)
def z_wK : Cond := Cond.code yL_comes cL_comes 7 (some .boolean)
set_option maxHeartbeats 4000000 in
set_option maxRecDepth 100000 in
theorem i_cell (l : Launch) {b L : Nat} {xs : Nat → Int32} (hL : L ≤ 260) {k : Int32} (hk : 0 ≤ k.toInt) : Met l yL_cell (z_wC :: z_G) (z_rm 0) (va_Pc [.ref b, .int k] (fun U => va_X b L xs U U.heap ∧ b < U.heap.size)) (va_Qi (fun _ (_ : Unit) => True) (fun _ _ => True) (fun _ => False)) 0 0 (fun _ => False) := by
  refine Met.ofW (cc := cL_cell) (maxL := 2) (ret := some .int) (by decide) rfl ?_
  intro p e s m args below meth c s₁ B hml hv
  obtain ⟨rfl, hX, hbl⟩ := hv
  have hx := B.exec
  have hb := B.bytes
  have hr := B.returns
  have hts0 := atoms_spec (ws := z_wC :: z_G) B.pre
  have hts : ∀ w ∈ z_G, w.before ([Value.ref b, .int k].toArray) s = true := fun w hw => hts0 w (List.mem_cons_of_mem _ hw)
  have hown : s.vm.findClass RL = some m.cls := findClass_of_methodNamed B.named
  have hlocks := B.notSynchronized
  have hS : va_S (fun _ : Nat => False) s.heap s.heap [] := va_S.rf
  have hl := lv_entry ([.ref b, .int k]) (n := 2) (Nat.le_of_ble_eq_true rfl)
  rw [lg_entry_eq]
  generalize (lg_sl ([.ref b, .int k]) ++ List.replicate (2 - (lg_sl ([.ref b, .int k])).length) Slot.unset).toArray = ls at hl ⊢
  have hl : lv_has ls 2 [(0, .ref b), (1, .int k)] := hl
  have hq : ∀ v : Int32, ∀ t : State, t.heap = s.heap → s.WarmedH t.vm → va_Qi (fun _ (_ : Unit) => True) (fun _ _ => True) (fun _ => False) ([Value.ref b, .int k].toArray) s (.returned (some (.int v))) t := fun v t ht _ => ⟨⟨v, (), rfl, trivial, trivial⟩, hS.F ht⟩
  refine lv_iload_n hx hb (by decide +kernel : decode cL_cell 0 = .ok (.iload_n 1, 1)) rfl (lv_at hl 1 rfl) ?_
  refine lv_aload_n hx hb (by decide +kernel : decode cL_cell 1 = .ok (.aload_n 0, 1)) rfl (lv_at hl 0 rfl) ?_
  refine va_slen hx hb hX hbl (fun h => h) hS (by decide +kernel : decode cL_cell 2 = .ok (.arraylength, 1)) ?_
  refine lv_icmp_ge (tgt := 12) hx hb (by decide +kernel : decode cL_cell 3 = .ok (.if_icmp .ge 9, 3)) (by decide) (fun _ => ?_) (fun cc => ?_)
  · refine lv_ldc (v := 11070011) hx hb hown (hts _ (z_m2 (i := 86) rfl rfl)) (by decide +kernel : decode cL_cell 12 = .ok (.ldc 7, 2)) ?_
    refine lv_iload_n hx hb (by decide +kernel : decode cL_cell 14 = .ok (.iload_n 1, 1)) rfl (lv_at hl 1 rfl) ?_
    refine lv_imul hx hb (by decide +kernel : decode cL_cell 15 = .ok (.imul, 1)) ?_
    refine lv_sipush (v := 10211) hx hb (by decide +kernel : decode cL_cell 16 = .ok (.sipush 10211, 3)) (by decide) ?_
    refine lv_iadd hx hb (by decide +kernel : decode cL_cell 19 = .ok (.iadd, 1)) ?_
    exact W.iret hx hb hr (hq _) hS.2.2 (by decide +kernel : decode cL_cell 20 = .ok (.ireturn, 1)) hlocks
  · have ek : k = Int32.ofInt k.toInt := (Int32.ofInt_toInt k).symm
    have cc' : ¬ Int32.ofInt (L : Int) ≤ Int32.ofInt k.toInt := by rw [← ek]; exact cc
    rw [z_ile (z_w_id (by omega) (by omega)) (z_wI k)] at cc'
    have hin : vp_in k L := by rw [ek]; exact z_in (z_wI k) hk (by omega)
    refine lv_aload_n hx hb (by decide +kernel : decode cL_cell 6 = .ok (.aload_n 0, 1)) rfl (lv_at hl 0 rfl) ?_
    refine lv_iload_n hx hb (by decide +kernel : decode cL_cell 7 = .ok (.iload_n 1, 1)) rfl (lv_at hl 1 rfl) ?_
    refine va_sld hx hb hX hbl (fun h => h) hS hin (by decide +kernel : decode cL_cell 8 = .ok (.iaload, 1)) ?_
    refine lv_goto (tgt := 20) hx hb (by decide +kernel : decode cL_cell 9 = .ok (.goto 11, 3)) (by decide) ?_
    exact W.iret hx hb hr (hq _) hS.2.2 (by decide +kernel : decode cL_cell 20 = .ok (.ireturn, 1)) hlocks
theorem i_Gc {ix : Nat} (hlw : Cond.methodLink R_law ix yL_cell ∈ z_G) : GoodIn z_G (wsS R_law ix yL_cell (z_wC :: z_G)) := by
  intro w hw
  refine z_G_good w ?_
  unfold wsS at hw
  rcases List.mem_append.mp hw with hw | hw
  · simp only [List.mem_cons, List.not_mem_nil, or_false] at hw
    rcases hw with rfl | rfl | rfl
    · exact hlw
    · exact (z_m2 (i := 84) rfl rfl)
    · exact (z_m1 (i := 0) rfl rfl)
  · rcases List.mem_cons.mp hw with rfl | hw
    · exact (z_m2 (i := 85) rfl rfl)
    · exact hw
theorem i_Gk {ix : Nat} (hlw : Cond.methodLink R_law ix yL_comes ∈ z_G) : GoodIn z_G (wsS R_law ix yL_comes (z_wK :: z_G)) := by
  intro w hw
  refine z_G_good w ?_
  unfold wsS at hw
  rcases List.mem_append.mp hw with hw | hw
  · simp only [List.mem_cons, List.not_mem_nil, or_false] at hw
    rcases hw with rfl | rfl | rfl
    · exact hlw
    · exact (z_m2 (i := 213) rfl rfl)
    · exact (z_m1 (i := 0) rfl rfl)
  · rcases List.mem_cons.mp hw with rfl | hw
    · exact (z_m2 (i := 214) rfl rfl)
    · exact hw
/-! the world with comes' three arrays -/
def z_flc (k : Nat) : Bool := match z_kds[(z_ps k).2]? with
  | some (.inl (_, sl)) => sl.all fun x => match x with
    | .inl _ => true
    | .inr (q, o) => decide (z_ix (q.getD (z_ps k).1) o < 156)
  | _ => true
theorem z_flc_ok : ∀ k, k < 156 → z_flc k = true := by decide +kernel
theorem z_ce_ext {ad ad' : Nat → Nat} {cA : Nat → ClassId} {M M' : z_M} (h : ∀ k, k < 156 → ad' k = ad k) {k : Nat} (hk : k < 156) (hM : ∀ j, M' (z_ps k).1 (z_ps k).2 j = M (z_ps k).1 (z_ps k).2 j) : z_ce ad' cA M' (z_ps k) = z_ce ad cA M (z_ps k) := by
  rw [z_ce_same hM]
  have hf := z_flc_ok k hk
  unfold z_flc at hf
  unfold z_ce
  split
  · rename_i ci sl e
    rw [e] at hf
    refine congrArg (fun q => Sum.inr (ci, q)) (List.ext_getElem? fun j => ?_)
    rw [List.getElem?_mapIdx, List.getElem?_mapIdx]
    cases hj : sl[j]? with
    | none => rfl
    | some x =>
      refine congrArg some ?_
      have hx := List.all_eq_true.mp hf x (List.mem_of_getElem? hj)
      rcases x with t | ⟨q, o⟩
      · rfl
      · unfold z_fv
        dsimp only at hx ⊢
        rw [h _ (of_decide_eq_true hx)]
  · rename_i t n e
    have e2 : ∀ x : Int, z_ix (z_rg x) 0 < 156 := fun x => by
      have := (z_rg x).isLt
      unfold z_ix
      rw [if_pos (by decide)]
      omega
    simp only [h _ (e2 _)]
  · rfl
def z_fr (M : z_M) : z_M := fun s o j => if 30 ≤ o then 0 else M s o j
def z_ad3 (ad : Nat → Nat) (a b c : Nat) : Nat → Nat := fun k => if k < 156 then ad k else if k = 156 then a else if k = 157 then b else c
theorem z_ps30 : ∀ k, k < 156 → (z_ps k).2 < 30 := by decide +kernel
theorem z_ws3 (ad : Nat → Nat) (cA : Nat → ClassId) (M : z_M) (a b c : Nat) : z_ws 159 (z_ad3 ad a b c) cA (z_fr M) = z_ws 156 ad cA M ++ [(a, .inl (cA 0, 60, .inl fun _ => 0))] ++ [(b, .inl (cA 0, 60, .inl fun _ => 0))] ++ [(c, .inl (cA 0, 60, .inl fun _ => 0))] := by
  have hr : List.range 159 = List.range 156 ++ [156] ++ [157] ++ [158] := by rw [List.range_succ, List.range_succ, List.range_succ]
  have h0 : (List.range 156).map (fun k => (z_ad3 ad a b c k, z_ce (z_ad3 ad a b c) cA (z_fr M) (z_ps k))) = z_ws 156 ad cA M := by
    unfold z_ws
    refine List.map_congr_left fun k hk => ?_
    have hk := List.mem_range.mp hk
    have e : ∀ k, k < 156 → z_ad3 ad a b c k = ad k := fun k hk => if_pos hk
    rw [e k hk, z_ce_ext e hk (M := M) fun j => if_neg (by have := z_ps30 k hk; omega)]
  have hz : (fun j : Nat => Int32.ofInt (z_fr M 0 30 j)) = fun _ => 0 := rfl
  rw [← h0]
  unfold z_ws
  rw [hr, List.map_append, List.map_append, List.map_append]
  rfl
theorem z_ws_less {D : va_G} {ad : Nat → Nat} {cA : Nat → ClassId} {M : z_M} {a b c : Nat} {H : Heap} (hP : va_P D z_cl (z_ws 159 (z_ad3 ad a b c) cA M) H) : va_P D z_cl (z_ws 156 ad cA M) H := by
  refine va_P_map hP (List.range 156) ?_
  have e : ∀ k, k < 156 → z_ad3 ad a b c k = ad k := fun k hk => if_pos hk
  conv => rhs; unfold z_ws
  rw [List.map_map]
  refine List.map_congr_left fun k hk => ?_
  have hk := List.mem_range.mp hk
  rw [z_ws_at _ cA M (by omega : k < 159), e k hk, z_ce_ext e hk (M := M) fun j => rfl]
  rfl
theorem z_fr_ok {M : z_M} (h : z_okM M) : z_okM (z_fr M) := by
  intro s o j
  unfold z_fr
  split
  · exact z_w0
  · exact h s o j
theorem z_fr_M {M : z_M} {l : List Nat} (hM : w_M M l) : w_M (z_fr M) l := by
  obtain ⟨hz, hH, h6, hh⟩ := hM
  refine ⟨fun s o j h => ?_, f_H_21 hH fun o i q => if_neg (by omega), ?_, w_h_of hh (if_neg (by decide)) fun j => if_neg (by decide)⟩
  · unfold z_fr
    split
    · rfl
    · exact hz s o j h
  · rw [show z_fr M 0 0 6 = M 0 0 6 from if_neg (by decide)]
    exact h6
def i_A (ad : Nat → Nat) (sz : Nat) : Nat → Prop := fun q => z_A 156 ad q ∨ sz ≤ q
set_option maxHeartbeats 4000000 in
set_option maxRecDepth 100000 in
theorem i_comes (l : Launch) (D : va_G) (cA : Nat → ClassId) (ad : Nat → Nat) (had : z_inj 156 ad) {M M' : z_M} {n sz : Nat} (hM : z_okM M) (hn : M 0 3 5 = (n : Int))
    (hrun : z_ex 88 22 [some (.inr (some (0, 21))), some (.inl (n : Int)), some (.inr (some (0, 30))), some (.inr (some (0, 31))), some (.inr (some (0, 32))), none, none] [] (z_fr M) = some (some (.inl 1), M')) :
    Met l yL_comes (z_wK :: z_G) ({ frames := 7, cells := 3, slots := 180, locals := 196 }) (va_Pc [.ref (ad (z_ix 0 21))] (fun U => U.heap.size = sz ∧ z_U 156 D cA ad M U)) (va_Qi (fun r (_ : Unit) => r = 1 ∧ z_okM M') (fun _ t => z_U 156 D cA ad M' t) (i_A ad sz)) 3 180 (i_A ad sz) := by
  refine Met.ofW (cc := cL_comes) (maxL := 7) (ret := some .boolean) (by decide) rfl ?_
  intro p e s m args below meth c s₁ B hml hv
  obtain ⟨rfl, hsz, hP, hK, hN⟩ := hv
  subst hsz
  have hx := B.exec
  have hb := B.bytes
  have hr := B.returns
  have hts0 := atoms_spec (ws := z_wK :: z_G) B.pre
  have hts : ∀ w ∈ z_G, w.before ([Value.ref (ad (z_ix 0 21))].toArray) s = true := fun w hw => hts0 w (List.mem_cons_of_mem _ hw)
  have hown : s.vm.findClass RL = some m.cls := findClass_of_methodNamed B.named
  have hlocks := B.notSynchronized
  have hA : ∀ q : Nat, s.heap.size ≤ q → i_A ad s.heap.size q := fun q h => Or.inr h
  have hA1 : ∀ q : Nat, z_A 156 ad q → i_A ad s.heap.size q := fun q h => Or.inl h
  have hS : va_S (i_A ad s.heap.size) s.heap s.heap [] := va_S.rf
  have hl := lv_entry ([.ref (ad (z_ix 0 21))]) (n := 7) (Nat.le_of_ble_eq_true rfl)
  rw [lg_entry_eq]
  generalize (lg_sl ([.ref (ad (z_ix 0 21))]) ++ List.replicate (7 - (lg_sl ([.ref (ad (z_ix 0 21))])).length) Slot.unset).toArray = ls at hl ⊢
  have hl : lv_has ls 7 [(0, .ref (ad (z_ix 0 21)))] := hl
  refine lv_aload_n hx hb (by decide +kernel : decode cL_comes 0 = .ok (.aload_n 0, 1)) rfl (lv_at hl 0 rfl) ?_
  refine lv_iconst (v := 4) hx hb (by decide +kernel : decode cL_comes 1 = .ok (.iconst 4, 1)) (by decide) ?_
  refine z_lvirt (k := 69) (o := 21) (vs := [4]) (rest := []) (A0 := i_A ad s.heap.size) ⟨hx, hb, hml, hown, hts, hK, hN, had, hA1⟩ hM ⟨Nat.le_of_ble_eq_true rfl, Nat.le_of_ble_eq_true rfl⟩ z_mt69 rfl rfl (Nat.le_of_ble_eq_true rfl) ⟨Nat.le_of_ble_eq_true rfl, Nat.le_of_ble_eq_true rfl⟩ (z_m2 (i := 94) rfl rfl) rfl rfl rfl (by decide) k_c4 hl hP hS (by decide +kernel : decode cL_comes 2 = .ok (.invokevirtual 9, 3)) (by simp [Value.category]) (fun H locs hP hM hS => ?_)
  rw [hn]
  refine lv_istore_n (lv' := [(1, .int (Int32.ofInt (n : Int))), (0, .ref (ad (z_ix 0 21)))]) hx hb (by decide +kernel : decode cL_comes 5 = .ok (.istore_n 1, 1)) rfl hl (by decide) rfl (fun ls hl => ?_)
  have hD : va_D (i_A ad s.heap.size) (z_ws 156 ad cA M) := (z_Dok had cA M).weaken (fun k q _ h => hA1 q.1 h)
  have hK0 := hK
  refine lv_bipush (v := 60) hx hb (by decide +kernel : decode cL_comes 6 = .ok (.bipush 60, 2)) (by decide) ?_
  refine va_newa (atype := .int) (ty := .int) (a0 := (60, .inl fun _ => 0)) (N' := 60) hx hb (hts _ (z_m1 (i := 53) rfl rfl)) rfl hK hP hD hS hA (fun _ => rfl) (by decide) rfl (Nat.le_of_ble_eq_true rfl) (Nat.le_of_ble_eq_true rfl) (Nat.le_of_ble_eq_true rfl) (by decide +kernel : decode cL_comes 8 = .ok (.newarray .int, 2)) (fun q0 c0 H hK hP hD hS => ?_)
  refine lv_astore_n (lv' := [(2, .ref q0), (1, .int (Int32.ofInt (n : Int))), (0, .ref (ad (z_ix 0 21)))]) hx hb (by decide +kernel : decode cL_comes 10 = .ok (.astore_n 2, 1)) rfl hl (by decide) rfl (fun ls hl => ?_)
  refine lv_bipush (v := 60) hx hb (by decide +kernel : decode cL_comes 11 = .ok (.bipush 60, 2)) (by decide) ?_
  refine va_newa (atype := .int) (ty := .int) (a0 := (60, .inl fun _ => 0)) (N' := 60) hx hb (hts _ (z_m1 (i := 53) rfl rfl)) rfl hK hP hD hS hA (fun _ => rfl) (by decide) rfl (Nat.le_of_ble_eq_true rfl) (Nat.le_of_ble_eq_true rfl) (Nat.le_of_ble_eq_true rfl) (by decide +kernel : decode cL_comes 13 = .ok (.newarray .int, 2)) (fun q1 c1 H hK hP hD hS => ?_)
  refine lv_astore_n (lv' := [(3, .ref q1), (2, .ref q0), (1, .int (Int32.ofInt (n : Int))), (0, .ref (ad (z_ix 0 21)))]) hx hb (by decide +kernel : decode cL_comes 15 = .ok (.astore_n 3, 1)) rfl hl (by decide) rfl (fun ls hl => ?_)
  refine lv_bipush (v := 60) hx hb (by decide +kernel : decode cL_comes 16 = .ok (.bipush 60, 2)) (by decide) ?_
  refine va_newa (atype := .int) (ty := .int) (a0 := (60, .inl fun _ => 0)) (N' := 60) hx hb (hts _ (z_m1 (i := 53) rfl rfl)) rfl hK hP hD hS hA (fun _ => rfl) (by decide) rfl (Nat.le_of_ble_eq_true rfl) (Nat.le_of_ble_eq_true rfl) (Nat.le_of_ble_eq_true rfl) (by decide +kernel : decode cL_comes 18 = .ok (.newarray .int, 2)) (fun q2 c2 H hK hP hD hS => ?_)
  refine lv_astore (lv' := [(4, .ref q2), (3, .ref q1), (2, .ref q0), (1, .int (Int32.ofInt (n : Int))), (0, .ref (ad (z_ix 0 21)))]) hx hb (by decide +kernel : decode cL_comes 20 = .ok (.astore 4, 2)) hl (by decide) rfl (fun ls hl => ?_)
  have e0 : c0 = cA 0 := Option.some.inj ((hK.2 4 _ rfl).2.symm.trans (hK.2 0 _ rfl).2)
  have e1 : c1 = cA 0 := Option.some.inj ((hK.2 5 _ rfl).2.symm.trans (hK.2 0 _ rfl).2)
  have e2 : c2 = cA 0 := Option.some.inj ((hK.2 6 _ rfl).2.symm.trans (hK.2 0 _ rfl).2)
  subst e0
  subst e1
  subst e2
  have hP3 : va_P D z_cl (z_ws 159 (z_ad3 ad q0 q1 q2) cA (z_fr M)) H := by rw [z_ws3]; exact hP
  have hD3 : va_D (i_A ad s.heap.size) (z_ws 159 (z_ad3 ad q0 q1 q2) cA (z_fr M)) := by rw [z_ws3]; exact hD
  obtain ⟨had3, hA3⟩ := i_inj hD3
  obtain ⟨n0, hr0⟩ := z_ex_iff.mp hrun
  have hn0 : z_w (n : Int) = (n : Int) := by rw [← hn]; exact hM 0 3 5
  have hlo : z_okL 159 [some (.inr (some (0, 21))), some (.inl (n : Int)), some (.inr (some (0, 30))), some (.inr (some (0, 31))), some (.inr (some (0, 32))), none, none] := by
    intro j v hj
    have hm := List.mem_of_getElem? hj
    simp only [List.mem_cons, List.not_mem_nil, or_false] at hm
    rcases hm with h | h | h | h | h | h | h
    · cases h; exact z_okR (by decide)
    · cases h; exact z_okI hn0
    · cases h; exact z_okR (by decide)
    · cases h; exact z_okR (by decide)
    · cases h; exact z_okR (by decide)
    · cases h
    · cases h
  have hRL : z_RL (z_ad3 ad q0 q1 q2) [some (.inr (some (0, 21))), some (.inl (n : Int)), some (.inr (some (0, 30))), some (.inr (some (0, 31))), some (.inr (some (0, 32))), none, none] ls 7 := by
    refine ⟨hl.1, hl.2.1, rfl, fun i v hi => ?_⟩
    match i, hi with
    | 0, hi => cases hi; exact lv_at hl 4 rfl
    | 1, hi => cases hi; exact lv_at hl 3 rfl
    | 2, hi => cases hi; exact lv_at hl 2 rfl
    | 3, hi => cases hi; exact lv_at hl 1 rfl
    | 4, hi => cases hi; exact lv_at hl 0 rfl
    | 5, hi => cases hi
    | 6, hi => cases hi
    | k + 7, hi => simp at hi
  refine z_mid (A0 := i_A ad s.heap.size) (NC := 159) ⟨by decide, by decide⟩ l D cA (z_ad3 ad q0 q1 q2) had3 hA3 z_mt88 ⟨Nat.le_of_ble_eq_true rfl, Nat.le_of_ble_eq_true rfl⟩ hx hb hml hown hts hK0 hN rfl rfl ?_ n0 22 _ [] (z_fr M) ls H locs hlo (fun _ h => by cases h) (z_fr_ok hM) hRL hP3 hS hr0
  intro i len pc st Ls H locs hdg hR hso hM' hP hS
  have hP' := z_ws_less hP
  unfold z_stR at hR
  split at hR
  · rename_i v
    split at hR
    · rename_i e1
      subst e1
      split at hR
      · rename_i e2
        exact absurd e2 (by decide)
      · rename_i e2
        split at hR
        · rename_i e3
          cases hR
          exact W.zret hx hb (hr.trans e2) (z_nar01 (v := 1) (Or.inr rfl)) (fun t ht hW => ⟨⟨1, (), rfl, ⟨rfl, hM'⟩, z_U.warm ht hW hP' hK0 hN⟩, hS.F ht⟩) hS.2.2 hdg hlocks
        · cases hR
      · cases hR
    · cases hR
  · split at hR
    · split at hR
      · cases hR
      · cases hR
    · cases hR
  · split at hR
    · split at hR
      · cases hR
      · cases hR
    · cases hR
  · cases hR
section LC
variable {p : Program} {l : Launch} {e : Env} {R : Room} {s : State} {m : MethodId} {args : Array Value} {below : List Frame} {meth : Method} {c : Code} {H : Heap} {locs : List Loc} {cells slots : Nat} {Q : State → Prop}
variable {D : va_G} {cA : Nat → ClassId} {ad : Nat → Nat} {M : z_M} {ls : Array Slot} {pc : Nat} {A0 : Nat → Prop} {cc : ByteArray} {nL : Nat}
theorem z_lcell {H0 : Heap} {b L ix : Nat} {xs : Nat → Int32} (hL : L ≤ 260) {k : Int32} (hk : 0 ≤ k.toInt) {rest : List Value} {lv : List (Nat × Value)} (F : lw_fr p s m args c cc nL D cA ad A0) (hX : va_X b L xs s H0) (hbl : b < H0.size) (hbA : ¬ A0 b)
    (hRc : cells ≤ R.cells ∧ slots ≤ R.slots) (hro : 1 ≤ R.frames ∧ 21 ≤ R.locals) (hlw : Cond.methodLink R_law ix yL_cell ∈ z_G)
    (hl : lv_has ls nL lv) (hP : va_P D z_cl (z_ws 156 ad cA M) H) (hS : va_S A0 H0 H locs) (hdg : decode cc pc = .ok (.invokestatic ix, 3)) (hr8 : (rest.map fun v => v.category).sum ≤ 8)
    (kk : ∀ (v : Int) (H1 : Heap) (locs1 : List Loc), z_w v = v → va_P D z_cl (z_ws 156 ad cA M) H1 → va_S A0 H0 H1 locs1 → W p l e R s m args below meth c H1 locs1 cells slots Q (F0 m (pc + 3) ls (.int (Int32.ofInt v) :: rest))) :
    W p l e R s m args below meth c H locs cells slots Q (F0 m pc ls (.int k :: .ref b :: rest)) := by
  obtain ⟨hx, hb, hml, hown, hts, hK, hN, had, hA⟩ := F
  have hX' : va_X b L xs s H := hX.kept (hS.2.1 b hbl hbA)
  have hbH : b < H.size := Nat.lt_of_lt_of_le hbl hS.1
  refine va_calli (va_runS (As := [.ref b, .int k]) (rest := rest) (⟨hx, hb, hml, hown, hts⟩ : CallFix p m c cc nL s args z_G R_law) (i_cell l hL hk)
    (cwS 2 hts (i_Gc hlw) rfl rfl rfl ⟨rfl, by decide, by decide, by decide +kernel⟩ ⟨hro.1, hro.2⟩)
    ⟨fun a U g mk q => ⟨q.1, va_X.moved (Vm.Alike.refl U.vm) q.2.1, q.2.2⟩, fun U hU hW => ⟨rfl, by rw [hU]; exact va_X.moved hW.alike hX', by rw [hU]; exact hbH⟩⟩ rfl rfl hl.1 rfl (lv_room hr8) hdg ⟨hRc.1, hRc.2⟩) hS (fun _ _ h => h.elim) (fun _ h => h.elim)
    (fun r _ t H1 locs1 ht hvm _ _ hz hk1 hS1 => by
      have := kk r.toInt H1 locs1 (z_wI r) (va_P_kept hP fun q hq => hk1 q hq (fun h => h)) hS1
      rw [Int32.ofInt_toInt] at this
      exact this)
theorem z_lcomes {H0 : Heap} {ix n : Nat} {M1 : z_M} {rest : List Value} {lv : List (Nat × Value)} (F : lw_fr p s m args c cc nL D cA ad A0) (hA0 : ∀ q, H0.size ≤ q → A0 q) (hM : z_okM M) (hn : M 0 3 5 = (n : Int))
    (hrun : z_ex 88 22 [some (.inr (some (0, 21))), some (.inl (n : Int)), some (.inr (some (0, 30))), some (.inr (some (0, 31))), some (.inr (some (0, 32))), none, none] [] (z_fr M) = some (some (.inl 1), M1))
    (hRc : cells + 3 ≤ R.cells ∧ slots + 180 ≤ R.slots) (hro : 8 ≤ R.frames ∧ 222 ≤ R.locals) (hlw : Cond.methodLink R_law ix yL_comes ∈ z_G)
    (hl : lv_has ls nL lv) (hP : va_P D z_cl (z_ws 156 ad cA M) H) (hS : va_S A0 H0 H locs) (hdg : decode cc pc = .ok (.invokestatic ix, 3)) (hr8 : (rest.map fun v => v.category).sum ≤ 8)
    (kk : ∀ (H1 : Heap) (locs1 : List Loc), va_P D z_cl (z_ws 156 ad cA M1) H1 → z_okM M1 → va_S A0 H0 H1 locs1 → W p l e R s m args below meth c H1 locs1 (cells + 3) (slots + 180) Q (F0 m (pc + 3) ls (.int 1 :: rest))) :
    W p l e R s m args below meth c H locs cells slots Q (F0 m pc ls (.ref (ad (z_ix 0 21)) :: rest)) := by
  obtain ⟨hx, hb, hml, hown, hts, hK, hN, had, hA⟩ := F
  have hf : ∀ q, i_A ad H.size q → A0 q := fun q h => h.elim (hA q) (fun h => hA0 q (Nat.le_trans hS.1 h))
  refine va_calli (va_runS (As := [.ref (ad (z_ix 0 21))]) (rest := rest) (⟨hx, hb, hml, hown, hts⟩ : CallFix p m c cc nL s args z_G R_law) (i_comes l D cA ad had (sz := H.size) hM hn hrun)
    (cwS 1 hts (i_Gk hlw) rfl rfl rfl ⟨rfl, by decide, by decide, by decide +kernel⟩ ⟨hro.1, hro.2⟩)
    ⟨fun a U g mk q => ⟨q.1, q.2.1, q.2.2.1, va_K.moved (u := U) (U := U.calling g mk a) (Vm.Alike.refl U.vm) q.2.2.2.1, q.2.2.2.2.same rfl⟩, fun U hU hW => ⟨rfl, by rw [hU], z_U.warm hU hW hP hK hN⟩⟩ rfl rfl hl.1 rfl (lv_room hr8) hdg ⟨hRc.1, hRc.2⟩) hS (fun q _ h => hf q h) hf
    (fun r _ t H1 locs1 ht hvm hp hB hz hk1 hS1 => ?_)
  obtain ⟨rfl, hM1⟩ := hp
  exact kk H1 locs1 (by rw [← ht]; exact hB.1) hM1 hS1
end LC
