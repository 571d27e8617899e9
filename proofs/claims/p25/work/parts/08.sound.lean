/-! the machine follows: steps that are no calls and no returns -/
def z_tys (cA : Nat → ClassId) : List (ClassId × FieldType) := [(cA 0, .int), (cA 1, .char), (cA 2, .boolean), (cA 3, .object RX4)]
def z_A (NC : Nat) (ad : Nat → Nat) : Nat → Prop := fun q => ∃ k, k < NC ∧ q = ad k
def z_inj (NC : Nat) (ad : Nat → Nat) : Prop := ∀ i j, i < NC → j < NC → ad i = ad j → i = j
theorem z_Dok {NC : Nat} {ad : Nat → Nat} (h : z_inj NC ad) (cA : Nat → ClassId) (M : z_M) : va_D (z_A NC ad) (z_ws NC ad cA M) := by
  have hlen : (z_ws NC ad cA M).length = NC := by simp [z_ws]
  refine ⟨fun i j p q hi hj hpq => ?_, fun k q hk => ?_⟩
  · have h1 : i < NC := by rw [← hlen]; exact (List.getElem?_eq_some_iff.mp hi).1
    have h2 : j < NC := by rw [← hlen]; exact (List.getElem?_eq_some_iff.mp hj).1
    rw [z_ws_at ad cA M h1] at hi
    rw [z_ws_at ad cA M h2] at hj
    cases hi; cases hj
    exact h i j h1 h2 hpq
  · have h1 : k < NC := by rw [← hlen]; exact (List.getElem?_eq_some_iff.mp hk).1
    rw [z_ws_at ad cA M h1] at hk
    cases hk
    exact ⟨k, h1, rfl⟩
theorem z_ce_obj {ad : Nat → Nat} {cA : Nat → ClassId} {M : z_M} {s : Fin 7} {o ci : Nat} {sl : List z_S} (h : z_kds[o]? = some (.inl (ci, sl))) : z_ce ad cA M (s, o) = .inr (ci, sl.mapIdx fun j k => z_fv ad s k (M s o j)) := by
  unfold z_ce; dsimp only; rw [h]
theorem z_ce_arr {ad : Nat → Nat} {cA : Nat → ClassId} {M : z_M} {s : Fin 7} {o t n : Nat} (h : z_kds[o]? = some (.inr (t, n))) (ht : t ≠ 3) : z_ce ad cA M (s, o) = .inl (cA t, n, .inl fun j => Int32.ofInt (M s o j)) := by
  unfold z_ce; dsimp only; rw [h]; dsimp only; rw [if_neg ht]
theorem z_ce_arq {ad : Nat → Nat} {cA : Nat → ClassId} {M : z_M} {s : Fin 7} {o n : Nat} (h : z_kds[o]? = some (.inr (3, n))) : z_ce ad cA M (s, o) = .inl (cA 3, n, .inr (.inr (.inr (.inr fun j => some (ad (z_ix (z_rg (M s o j)) 0)))))) := by
  unfold z_ce; dsimp only; rw [h]; dsimp only; rw [if_pos rfl]
theorem z_up_far {M : z_M} {s : Fin 7} {o j : Nat} {v : Int} : ∀ s' o' i, ¬ (s' = s ∧ o' = o) → z_up M s o j v s' o' i = M s' o' i := by
  intro s' o' i h
  unfold z_up
  rw [if_neg (fun q => h ⟨q.1, q.2.1⟩)]
theorem z_cp_far {M : z_M} {s0 s1 : Fin 7} {o0 o1 b d n : Nat} : ∀ s' o' i, ¬ (s' = s1 ∧ o' = o1) → z_cp M s0 o0 s1 o1 b d n s' o' i = M s' o' i := by
  intro s' o' i h
  unfold z_cp
  rw [if_neg (fun q => h ⟨q.1, q.2.1⟩)]
theorem z_obj_set {ad : Nat → Nat} {cA : Nat → ClassId} {M : z_M} {s : Fin 7} {o ci k x : Nat} {sl : List z_S} {v : Int} (h : z_kds[o]? = some (.inl (ci, sl))) (hk : sl[k]? = some (.inl x)) : (Sum.inr (ci, (sl.mapIdx fun j y => z_fv ad s y (M s o j)).set k (.int (Int32.ofInt v))) : va_E) = z_ce ad cA (z_up M s o k v) (s, o) := by
  rw [z_ce_obj h]
  refine congrArg (fun z => Sum.inr (ci, z)) (List.ext_getElem? fun j => ?_)
  rw [List.getElem?_set, List.getElem?_mapIdx, List.getElem?_mapIdx]
  by_cases e : k = j
  · subst e
    rw [if_pos rfl, if_pos (by rw [List.length_mapIdx]; exact (List.getElem?_eq_some_iff.mp hk).1), hk]
    simp [z_fv, z_up]
  · rw [if_neg e]
    cases sl[j]? with
    | none => rfl
    | some y =>
      simp only [Option.map_some]
      unfold z_up
      rw [if_neg (fun q => e q.2.2.symm)]
theorem z_arr_set {ad : Nat → Nat} {cA : Nat → ClassId} {M : z_M} {s : Fin 7} {o t n : Nat} {i v : Int} {w : Int32} (h : z_kds[o]? = some (.inr (t, n))) (ht : t ≠ 3) (hi : z_w i = i) (hw : w = Int32.ofInt v) : (Sum.inl (cA t, n, Sum.inl (upd (fun j => Int32.ofInt (M s o j)) (Int32.ofInt i).toNatClampNeg w)) : va_E) = z_ce ad cA (z_up M s o i.toNat v) (s, o) := by
  rw [z_ce_arr h ht, z_inat hi, hw]
  refine congrArg (fun z => Sum.inl (cA t, n, Sum.inl z)) (funext fun j => ?_)
  unfold upd z_up
  by_cases e : j = i.toNat
  · rw [if_pos e, if_pos ⟨rfl, rfl, e⟩]
  · rw [if_neg e, if_neg (fun q => e q.2.2)]
theorem z_rg_val (q : Fin 7) : z_rg (q.val : Int) = q := by
  revert q; decide
theorem z_arq_set {ad : Nat → Nat} {cA : Nat → ClassId} {M : z_M} {s q : Fin 7} {o n : Nat} {i : Int} (h : z_kds[o]? = some (.inr (3, n))) (hi : z_w i = i) : (Sum.inl (cA 3, n, Sum.inr (Sum.inr (Sum.inr (Sum.inr (va_up (fun j => some (ad (z_ix (z_rg (M s o j)) 0))) (Int32.ofInt i).toNatClampNeg (some (ad (z_ix q 0)))))))) : va_E) = z_ce ad cA (z_up M s o i.toNat (q.val : Int)) (s, o) := by
  rw [z_ce_arq h, z_inat hi]
  refine congrArg (fun z => Sum.inl (cA 3, n, Sum.inr (Sum.inr (Sum.inr (Sum.inr z))))) (funext fun j => ?_)
  unfold va_up z_up
  by_cases e : j = i.toNat
  · rw [if_pos e, if_pos ⟨rfl, rfl, e⟩, z_rg_val]
  · rw [if_neg e, if_neg (fun q => e q.2.2)]
theorem z_arr_cpy {ad : Nat → Nat} {cA : Nat → ClassId} {M : z_M} {s0 s1 : Fin 7} {o0 o1 n1 : Nat} {b d n : Int} (h : z_kds[o1]? = some (.inr (0, n1))) (hb : z_w b = b) (hd : z_w d = d) (hn : z_w n = n) : (Sum.inl (cA 0, n1, Sum.inl (va_cpy (fun j => Int32.ofInt (M s0 o0 j)) (fun j => Int32.ofInt (M s1 o1 j)) (Int32.ofInt b).toNatClampNeg (Int32.ofInt d).toNatClampNeg (Int32.ofInt n).toNatClampNeg)) : va_E) = z_ce ad cA (z_cp M s0 o0 s1 o1 b.toNat d.toNat n.toNat) (s1, o1) := by
  rw [z_ce_arr h (by decide), z_inat hb, z_inat hd, z_inat hn]
  refine congrArg (fun z => Sum.inl (cA 0, n1, Sum.inl z)) (funext fun j => ?_)
  unfold va_cpy z_cp
  by_cases e : d.toNat ≤ j ∧ j < d.toNat + n.toNat
  · rw [if_pos e, if_pos ⟨rfl, rfl, e.1, e.2⟩]
  · rw [if_neg e, if_neg (fun q => e ⟨q.2.2.1, q.2.2.2⟩)]
theorem z_nar01 {v : Int} (h : v = 0 ∨ v = 1) : narrow .boolean (.int (Int32.ofInt v)) = .int (Int32.ofInt v) := by rcases h with rfl | rfl <;> rfl
theorem z_fit01 {v : Int} (h : v = 0 ∨ v = 1) : fits .boolean (.int (Int32.ofInt v)) = true := by rcases h with rfl | rfl <;> rfl
theorem z_char {v : Int} (h : 0 ≤ v ∧ v ≤ 65535) : vp_nar .char (Int32.ofInt v) = Int32.ofInt v := by
  show (Int32.ofInt v).toUInt32.toUInt16.toUInt32.toInt32 = Int32.ofInt v
  obtain ⟨n, rfl⟩ := Int.eq_ofNat_of_zero_le h.1
  have hn : n < 65536 := by omega
  refine Int32.toBitVec.inj ?_
  simp only [UInt32.toBitVec_toInt32, UInt16.toBitVec_toUInt32, UInt32.toBitVec_toUInt16, Int32.toBitVec_toUInt32, Int32.toBitVec_ofInt]
  refine BitVec.eq_of_toNat_eq ?_
  simp only [BitVec.toNat_setWidth, BitVec.ofInt_natCast, BitVec.toNat_ofNat]
  omega
section ZS
variable {p : Program} {l : Launch} {e : Env} {R : Room} {s : State} {mm : MethodId} {args : Array Value} {below : List Frame} {meth : Method} {c : Code} {H : Heap} {locs : List Loc} {Q : State → Prop}
variable {cells slots NC : Nat} {mi : z_I} {D : va_G} {cA : Nat → ClassId} {ad : Nat → Nat} {i : Instr} {len pc : Nat} {ls : z_L} {st : List z_V} {M : z_M} {Ls : Array Slot} {n : z_N}
set_option maxHeartbeats 4000000 in
theorem z_next {A0 : Nat → Prop} (hA0 : ∀ q, z_A NC ad q → A0 q) (hNC : 156 ≤ NC ∧ NC ≤ 159) (hcs : cells ≤ R.cells ∧ slots ≤ R.slots) (hx : p.tables.exec = Jvm.exec) (hb : c.code = z_cd mi) (hml : c.maxLocals = z_ml' mi) (hown : s.vm.findClass (z_cn (z_own mi)) = some mm.cls) (hts : ∀ w ∈ z_G, w.before args s = true) (hK : va_K D z_cl (z_tys cA) s) (had : z_inj NC ad)
    (hRf : R.frames = z_dp mi) (hRl : R.locals = 28 * z_dp mi) (hdg : decode (z_cd mi) pc = .ok (i, len)) (h : z_stI mi i len pc ls st M = some n)
    (hlo : z_okL NC ls) (hso : z_okS NC st) (hM : z_okM M) (hl : z_RL ad ls Ls (z_ml' mi)) (hP : va_P D z_cl (z_ws NC ad cA M) H) (hS : va_S A0 s.heap H locs)
    (K : ∀ (Ls' : Array Slot) (H' : Heap) (locs' : List Loc), z_okL NC n.2.1 → z_okS NC n.2.2.1 → z_okM n.2.2.2 → z_RL ad n.2.1 Ls' (z_ml' mi) → va_P D z_cl (z_ws NC ad cA n.2.2.2) H' → va_S A0 s.heap H' locs' → W p l e R s mm args below meth c H' locs' cells slots Q (F0 mm n.1 Ls' (n.2.2.1.map (z_rv ad)))) :
    W p l e R s mm args below meth c H locs cells slots Q (F0 mm pc Ls (st.map (z_rv ad))) := by
  have hD : va_D A0 (z_ws NC ad cA M) := (z_Dok had cA M).weaken (fun k q _ h => hA0 q.1 h)
  cases i with
  | iconst k =>
    obtain ⟨rfl, t, ht, rfl⟩ := z_nx_i h
    cases ht
    exact lv_iconst (v := Int32.ofInt (z_w k)) hx hb hdg (z_ofw k).symm (K Ls H locs hlo (z_okS_cons.mpr ⟨z_okI (z_ww k), hso⟩) hM hl hP hS)
  | bipush k =>
    obtain ⟨rfl, t, ht, rfl⟩ := z_nx_i h
    cases ht
    exact lv_bipush (v := Int32.ofInt (Int8.ofInt k).toInt32.toInt) hx hb hdg (Int32.ofInt_toInt _).symm (K Ls H locs hlo (z_okS_cons.mpr ⟨z_okI (z_wI _), hso⟩) hM hl hP hS)
  | sipush k =>
    obtain ⟨rfl, t, ht, rfl⟩ := z_nx_i h
    cases ht
    exact lv_sipush (v := Int32.ofInt (Int16.ofInt k).toInt32.toInt) hx hb hdg (Int32.ofInt_toInt _).symm (K Ls H locs hlo (z_okS_cons.mpr ⟨z_okI (z_wI _), hso⟩) hM hl hP hS)
  | ldc ix =>
    obtain ⟨rfl, t, ht, rfl⟩ := z_nx_i h
    rw [Option.map_eq_some_iff] at ht
    obtain ⟨v, hv, rfl⟩ := ht
    have hc := hts _ (z_cs_ok _ (z_look _ _ _ hv))
    refine lv_ldc (v := Int32.ofInt v) hx hb hown hc hdg ?_
    have K' := K Ls H locs hlo (z_okS_cons.mpr ⟨z_okI (z_ww v), hso⟩) hM hl hP hS
    rw [← z_ofw v]
    exact K'
  | aconst_null =>
    obtain ⟨rfl, t, ht, rfl⟩ := z_nx_i h
    cases ht
    exact lv_null hx hb hdg (K Ls H locs hlo (z_okS_cons.mpr ⟨z_okN, hso⟩) hM hl hP hS)
  | iload_n k =>
    obtain ⟨rfl, t, ht, rfl⟩ := z_nx_i h
    obtain ⟨x, hx', rfl⟩ := z_ldi_i ht
    exact lv_iload_n hx hb hdg rfl (hl.2.2.2 _ _ hx') (K Ls H locs hlo (z_okS_cons.mpr ⟨hlo _ _ hx', hso⟩) hM hl hP hS)
  | iload k =>
    obtain ⟨rfl, t, ht, rfl⟩ := z_nx_i h
    obtain ⟨x, hx', rfl⟩ := z_ldi_i ht
    exact lv_iload hx hb hdg (hl.2.2.2 _ _ hx') (K Ls H locs hlo (z_okS_cons.mpr ⟨hlo _ _ hx', hso⟩) hM hl hP hS)
  | aload_n k =>
    obtain ⟨rfl, t, ht, rfl⟩ := z_nx_i h
    obtain ⟨x, hx', rfl⟩ := z_lda_i ht
    have K' := K Ls H locs hlo (z_okS_cons.mpr ⟨hlo _ _ hx', hso⟩) hM hl hP hS
    cases x with
    | none => exact lv_aload_nN hx hb hdg rfl (hl.2.2.2 _ _ hx') K'
    | some q => exact lv_aload_n hx hb hdg rfl (hl.2.2.2 _ _ hx') K'
  | aload k =>
    obtain ⟨rfl, t, ht, rfl⟩ := z_nx_i h
    obtain ⟨x, hx', rfl⟩ := z_lda_i ht
    have K' := K Ls H locs hlo (z_okS_cons.mpr ⟨hlo _ _ hx', hso⟩) hM hl hP hS
    cases x with
    | none => exact lv_aloadN hx hb hdg (hl.2.2.2 _ _ hx') K'
    | some q => exact lv_aload hx hb hdg (hl.2.2.2 _ _ hx') K'
  | istore_n k =>
    obtain ⟨x, r, rfl, rfl, hi, rfl⟩ := z_sti_i h
    rw [z_okS_cons] at hso
    exact lv_istore_n hx hb hdg rfl (z_RL_has hl) (by rw [← hl.2.2.1]; exact hi) rfl fun Ls' h' => K Ls' H locs (z_okL_set hlo hso.1) hso.2 hM (z_RL_set hl rfl h') hP hS
  | istore k =>
    obtain ⟨x, r, rfl, rfl, hi, rfl⟩ := z_sti_i h
    rw [z_okS_cons] at hso
    exact lv_istore hx hb hdg (z_RL_has hl) (by rw [← hl.2.2.1]; exact hi) rfl fun Ls' h' => K Ls' H locs (z_okL_set hlo hso.1) hso.2 hM (z_RL_set hl rfl h') hP hS
  | astore_n k =>
    obtain ⟨x, r, rfl, rfl, hi, rfl⟩ := z_sta_i h
    rw [z_okS_cons] at hso
    cases x with
    | none => exact lv_astore_nN hx hb hdg rfl (z_RL_has hl) (by rw [← hl.2.2.1]; exact hi) rfl fun Ls' h' => K Ls' H locs (z_okL_set hlo hso.1) hso.2 hM (z_RL_set hl rfl h') hP hS
    | some q => exact lv_astore_n hx hb hdg rfl (z_RL_has hl) (by rw [← hl.2.2.1]; exact hi) rfl fun Ls' h' => K Ls' H locs (z_okL_set hlo hso.1) hso.2 hM (z_RL_set hl rfl h') hP hS
  | astore k =>
    obtain ⟨x, r, rfl, rfl, hi, rfl⟩ := z_sta_i h
    rw [z_okS_cons] at hso
    cases x with
    | none => exact lv_astoreN hx hb hdg (z_RL_has hl) (by rw [← hl.2.2.1]; exact hi) rfl fun Ls' h' => K Ls' H locs (z_okL_set hlo hso.1) hso.2 hM (z_RL_set hl rfl h') hP hS
    | some q => exact lv_astore hx hb hdg (z_RL_has hl) (by rw [← hl.2.2.1]; exact hi) rfl fun Ls' h' => K Ls' H locs (z_okL_set hlo hso.1) hso.2 hM (z_RL_set hl rfl h') hP hS
  | iinc k d =>
    obtain ⟨x, hx', rfl, rfl⟩ := z_inc_i h
    obtain ⟨q, hq⟩ := List.mem_iff_getElem?.mp (z_asc_mem (ad := ad).mpr ⟨_, hx', rfl⟩)
    exact lv_iinc hx hb hdg (z_RL_has hl) hq (v := Int32.ofInt (z_w (x + d))) (by rw [z_ofw, Int32.ofInt_add]) (by rw [← hl.2.2.1]; exact (List.getElem?_eq_some_iff.mp hx').1) rfl fun Ls' h' => K Ls' H locs (z_okL_set hlo (z_okI (z_ww _))) hso hM (z_RL_set hl rfl h') hP hS
  | iadd =>
    obtain ⟨rfl, t, ht, rfl⟩ := z_nx_i h
    obtain ⟨x, y, r, rfl, rfl⟩ := z_bin_i ht
    rw [z_okS_cons, z_okS_cons] at hso
    refine lv_iadd hx hb hdg ?_
    rw [← Int32.ofInt_add, ← z_ofw]
    exact K Ls H locs hlo (z_okS_cons.mpr ⟨z_okI (z_ww _), hso.2.2⟩) hM hl hP hS
  | isub =>
    obtain ⟨rfl, t, ht, rfl⟩ := z_nx_i h
    obtain ⟨x, y, r, rfl, rfl⟩ := z_bin_i ht
    rw [z_okS_cons, z_okS_cons] at hso
    refine lv_isub hx hb hdg ?_
    rw [← Int32.ofInt_sub, ← z_ofw]
    exact K Ls H locs hlo (z_okS_cons.mpr ⟨z_okI (z_ww _), hso.2.2⟩) hM hl hP hS
  | imul =>
    obtain ⟨rfl, t, ht, rfl⟩ := z_nx_i h
    obtain ⟨x, y, r, rfl, rfl⟩ := z_bin_i ht
    rw [z_okS_cons, z_okS_cons] at hso
    refine lv_imul hx hb hdg ?_
    rw [← Int32.ofInt_mul, ← z_ofw]
    exact K Ls H locs hlo (z_okS_cons.mpr ⟨z_okI (z_ww _), hso.2.2⟩) hM hl hP hS
  | iand =>
    obtain ⟨rfl, t, ht, rfl⟩ := z_nx_i h
    obtain ⟨x, y, r, rfl, rfl⟩ := z_bin_i ht
    rw [z_okS_cons, z_okS_cons] at hso
    refine lv_iand hx hb hdg ?_
    have e1 : Int32.ofInt x &&& Int32.ofInt y = Int32.ofInt (z_and x y) := (Int32.ofInt_toInt _).symm
    rw [e1]
    exact K Ls H locs hlo (z_okS_cons.mpr ⟨z_okI (z_wI _), hso.2.2⟩) hM hl hP hS
  | ishr =>
    obtain ⟨rfl, t, ht, rfl⟩ := z_nx_i h
    obtain ⟨x, y, r, rfl, rfl⟩ := z_bin_i ht
    rw [z_okS_cons, z_okS_cons] at hso
    refine lv_ishr hx hb hdg ?_
    have e1 : Int32.ofInt x >>> (Int32.ofInt y &&& 31) = Int32.ofInt (z_shr x y) := (Int32.ofInt_toInt _).symm
    rw [e1]
    exact K Ls H locs hlo (z_okS_cons.mpr ⟨z_okI (z_wI _), hso.2.2⟩) hM hl hP hS
  | idiv =>
    obtain ⟨rfl, t, ht, rfl⟩ := z_nx_i h
    obtain ⟨x, y, r, rfl, hy, rfl⟩ := z_div_i ht
    rw [z_okS_cons, z_okS_cons] at hso
    have h1 := hso.1.1 _ rfl
    have h2 := hso.2.1.1 _ rfl
    refine lv_idiv hx hb hdg (by rw [z_i0, z_ieq h1 z_w0]; exact hy) ?_
    have e1 : Int32.ofInt x / Int32.ofInt y = Int32.ofInt (z_w (x.tdiv y)) := by
      refine Int32.toInt_inj.mp ?_
      rw [Int32.toInt_div, show (Int32.ofInt x).toInt = x from h2, show (Int32.ofInt y).toInt = y from h1]
      show _ = z_w (z_w _)
      rw [z_ww]
      unfold z_w
      rw [Int32.toInt_ofInt]
    rw [e1]
    exact K Ls H locs hlo (z_okS_cons.mpr ⟨z_okI (z_ww _), hso.2.2⟩) hM hl hP hS
  | irem =>
    obtain ⟨rfl, t, ht, rfl⟩ := z_nx_i h
    obtain ⟨x, y, r, rfl, hy, rfl⟩ := z_div_i ht
    rw [z_okS_cons, z_okS_cons] at hso
    have h1 := hso.1.1 _ rfl
    have h2 := hso.2.1.1 _ rfl
    refine lv_irem hx hb hdg (by rw [z_i0, z_ieq h1 z_w0]; exact hy) ?_
    have e0 : Int32.ofInt x / Int32.ofInt y = Int32.ofInt (x.tdiv y) := by
      refine Int32.toInt_inj.mp ?_
      rw [Int32.toInt_div, show (Int32.ofInt x).toInt = x from h2, show (Int32.ofInt y).toInt = y from h1, Int32.toInt_ofInt]
    have e1 : Int32.ofInt x - Int32.ofInt x / Int32.ofInt y * Int32.ofInt y = Int32.ofInt (z_w (x.tmod y)) := by
      rw [e0, z_ofw, Int.tmod_def, Int32.ofInt_sub, Int32.ofInt_mul, Int32.mul_comm]
    rw [e1]
    exact K Ls H locs hlo (z_okS_cons.mpr ⟨z_okI (z_ww _), hso.2.2⟩) hM hl hP hS
  | dup =>
    obtain ⟨rfl, t, ht, rfl⟩ := z_nx_i h
    unfold z_dup at ht
    split at ht
    · cases ht
      have hs2 := z_okS_cons.mp hso
      exact lv_dup hx hb hdg (z_rv_cat _ _) (K Ls H locs hlo (z_okS_cons.mpr ⟨hs2.1, hso⟩) hM hl hP hS)
    · cases ht
  | dup2 =>
    obtain ⟨rfl, t, ht, rfl⟩ := z_nx_i h
    unfold z_dup2 at ht
    split at ht
    · cases ht
      have hs2 := z_okS_cons.mp hso
      have hs3 := z_okS_cons.mp hs2.2
      exact lv_dup2_11 hx hb hdg (z_rv_cat _ _) (z_rv_cat _ _) (K Ls H locs hlo (z_okS_cons.mpr ⟨hs2.1, z_okS_cons.mpr ⟨hs3.1, hso⟩⟩) hM hl hP hS)
    · cases ht
  | pop =>
    obtain ⟨rfl, t, ht, rfl⟩ := z_nx_i h
    unfold z_pop at ht
    split at ht
    · cases ht
      exact lv_pop hx hb hdg (z_rv_cat _ _) (K Ls H locs hlo (z_okS_cons.mp hso).2 hM hl hP hS)
    · cases ht
  | goto off =>
    unfold z_stI at h
    dsimp only at h
    split at h
    · rename_i e1
      obtain ⟨rfl, e2⟩ := e1
      cases h
      exact lv_goto (tgt := ((pc : Int) + off).toNat) hx hb hdg (Int.toNat_of_nonneg e2).symm (K Ls H locs hlo hso hM hl hP hS)
    · cases h
  | if_icmp k off =>
    obtain ⟨x, y, r, rfl, rfl, e2, rfl⟩ := z_ic_i h
    rw [z_okS_cons, z_okS_cons] at hso
    have h1 := hso.1.1 _ rfl
    have h2 := hso.2.1.1 _ rfl
    have Kt : z_cc k x y = true → W p l e R s mm args below meth c H locs cells slots Q (F0 mm ((pc : Int) + off).toNat Ls (r.map (z_rv ad))) := fun hc => by
      have K' := K Ls H locs
      rw [if_pos hc] at K'
      exact K' hlo hso.2.2 hM hl hP hS
    have Kf : ¬ z_cc k x y = true → W p l e R s mm args below meth c H locs cells slots Q (F0 mm (pc + 3) Ls (r.map (z_rv ad))) := fun hc => by
      have K' := K Ls H locs
      rw [if_neg hc] at K'
      exact K' hlo hso.2.2 hM hl hP hS
    have ht := (Int.toNat_of_nonneg e2).symm
    cases k with
    | eq => exact lv_icmp_eq (tgt := ((pc : Int) + off).toNat) hx hb hdg ht (fun e => Kt (by rw [z_ieq h2 h1] at e; simp [z_cc, e])) (fun e => Kf (by rw [z_ieq h2 h1] at e; simp [z_cc, e]))
    | ne => exact lv_icmp_ne (tgt := ((pc : Int) + off).toNat) hx hb hdg ht (fun e => Kt (by rw [z_ieq h2 h1] at e; simp [z_cc, e])) (fun e => Kf (by rw [z_ieq h2 h1] at e; simp [z_cc, e]))
    | lt => exact lv_icmp_lt (tgt := ((pc : Int) + off).toNat) hx hb hdg ht (fun e => Kt (by rw [z_ilt h2 h1] at e; simp [z_cc, e])) (fun e => Kf (by rw [z_ilt h2 h1] at e; simpa [z_cc] using e))
    | ge => exact lv_icmp_ge (tgt := ((pc : Int) + off).toNat) hx hb hdg ht (fun e => Kt (by rw [z_ile h1 h2] at e; simp [z_cc, e])) (fun e => Kf (by rw [z_ile h1 h2] at e; simpa [z_cc] using e))
    | gt => exact lv_icmp_gt (tgt := ((pc : Int) + off).toNat) hx hb hdg ht (fun e => Kt (by rw [z_ilt h1 h2] at e; simp [z_cc, e])) (fun e => Kf (by rw [z_ilt h1 h2] at e; simpa [z_cc] using e))
    | le => exact lv_icmp_le (tgt := ((pc : Int) + off).toNat) hx hb hdg ht (fun e => Kt (by rw [z_ile h2 h1] at e; simp [z_cc, e])) (fun e => Kf (by rw [z_ile h2 h1] at e; simpa [z_cc] using e))
  | ifCond k off =>
    obtain ⟨x, r, rfl, rfl, e2, rfl⟩ := z_if_i h
    rw [z_okS_cons] at hso
    have h2 := hso.1.1 _ rfl
    have h1 := z_w0
    have Kt : z_cc k x 0 = true → W p l e R s mm args below meth c H locs cells slots Q (F0 mm ((pc : Int) + off).toNat Ls (r.map (z_rv ad))) := fun hc => by
      have K' := K Ls H locs
      rw [if_pos hc] at K'
      exact K' hlo hso.2 hM hl hP hS
    have Kf : ¬ z_cc k x 0 = true → W p l e R s mm args below meth c H locs cells slots Q (F0 mm (pc + 3) Ls (r.map (z_rv ad))) := fun hc => by
      have K' := K Ls H locs
      rw [if_neg hc] at K'
      exact K' hlo hso.2 hM hl hP hS
    have ht := (Int.toNat_of_nonneg e2).symm
    cases k with
    | eq => exact lv_if_eq (tgt := ((pc : Int) + off).toNat) hx hb hdg ht (fun e => Kt (by rw [z_i0, z_ieq h2 h1] at e; simp [z_cc, e])) (fun e => Kf (by rw [z_i0, z_ieq h2 h1] at e; simp [z_cc, e]))
    | ne => exact lv_if_ne (tgt := ((pc : Int) + off).toNat) hx hb hdg ht (fun e => Kt (by rw [z_i0, z_ieq h2 h1] at e; simp [z_cc, e])) (fun e => Kf (by rw [z_i0, z_ieq h2 h1] at e; simp [z_cc, e]))
    | lt => exact lv_if_lt (tgt := ((pc : Int) + off).toNat) hx hb hdg ht (fun e => Kt (by rw [z_i0, z_ilt h2 h1] at e; simp [z_cc, e])) (fun e => Kf (by rw [z_i0, z_ilt h2 h1] at e; simpa [z_cc] using e))
    | ge => exact lv_if_ge (tgt := ((pc : Int) + off).toNat) hx hb hdg ht (fun e => Kt (by rw [z_i0, z_ile h1 h2] at e; simp [z_cc, e])) (fun e => Kf (by rw [z_i0, z_ile h1 h2] at e; simpa [z_cc] using e))
    | gt => exact lv_if_gt (tgt := ((pc : Int) + off).toNat) hx hb hdg ht (fun e => Kt (by rw [z_i0, z_ilt h1 h2] at e; simp [z_cc, e])) (fun e => Kf (by rw [z_i0, z_ilt h1 h2] at e; simpa [z_cc] using e))
    | le => exact lv_if_le (tgt := ((pc : Int) + off).toNat) hx hb hdg ht (fun e => Kt (by rw [z_i0, z_ile h2 h1] at e; simp [z_cc, e])) (fun e => Kf (by rw [z_i0, z_ile h2 h1] at e; simpa [z_cc] using e))
  | ifnull off =>
    unfold z_stI at h
    dsimp only at h
    unfold z_nul at h
    split at h
    · split at h
      · rename_i e1
        obtain ⟨rfl, e2⟩ := e1
        cases h
        exact lv_ifnullN (tgt := ((pc : Int) + off).toNat) hx hb hdg (Int.toNat_of_nonneg e2).symm (K Ls H locs hlo (z_okS_cons.mp hso).2 hM hl hP hS)
      · cases h
    · split at h
      · rename_i e1
        subst e1
        cases h
        exact lv_ifnull hx hb hdg (K Ls H locs hlo (z_okS_cons.mp hso).2 hM hl hP hS)
      · cases h
    · cases h
  | tableswitch d lo hi offs =>
    unfold z_stI at h
    dsimp only at h
    unfold z_sw at h
    split at h
    · rename_i x r
      rw [z_okS_cons] at hso
      have h2 : (Int32.ofInt x).toInt = x := hso.1.1 _ rfl
      split at h
      · rename_i e1
        split at h
        · rename_i e2
          cases h
          exact lv_tableOut (tgt := ((pc : Int) + d).toNat) hx hb hdg (by rw [h2]; exact e1) (Int.toNat_of_nonneg e2).symm (K Ls H locs hlo hso.2 hM hl hP hS)
        · cases h
      · rename_i e1
        split at h
        · rename_i off e3
          split at h
          · rename_i e2
            cases h
            exact lv_tableIn (tgt := ((pc : Int) + off).toNat) hx hb hdg (by rw [h2]; exact fun q => e1 (Or.inl q)) (by rw [h2]; exact fun q => e1 (Or.inr q)) (by rw [h2]; exact e3) (Int.toNat_of_nonneg e2).symm (K Ls H locs hlo hso.2 hM hl hP hS)
          · cases h
        · cases h
    · cases h
  | getfield ix =>
    obtain ⟨rfl, t, ht, rfl⟩ := z_nx_i h
    obtain ⟨ci, k, s', o, r, sl, x, hf, rfl, hk, hv, hsl, hx2⟩ := z_gf_i ht
    obtain ⟨C, T, N, hc, hkN, hw⟩ := z_fl_at hf
    obtain ⟨hin, -⟩ := z_cl_ok ci C T N hc
    rw [z_okS_cons] at hso
    have he := z_ws_get ad cA M hv (hso.1.2 _ rfl)
    rw [z_ce_obj hk] at he
    rcases hx2 with ⟨u, rfl, rfl⟩ | ⟨q, o', rfl, rfl⟩
    · exact va_get hx hb hts hin hown hK hP _ he hc k hkN (hts _ hw) (fun _ h9 => h9) (v := .int (Int32.ofInt (M s' o k))) (by rw [List.getElem?_mapIdx, hsl]; rfl) hdg (K Ls H locs hlo (z_okS_cons.mpr ⟨z_okI (hM _ _ _), hso.2⟩) hM hl hP hS)
    · exact va_get hx hb hts hin hown hK hP _ he hc k hkN (hts _ hw) (fun _ h9 => h9) (v := .ref (ad (z_ix (q.getD s') o'))) (by rw [List.getElem?_mapIdx, hsl]; rfl) hdg (K Ls H locs hlo (z_okS_cons.mpr ⟨z_okR (Nat.lt_of_lt_of_le (z_kds_rf hk hsl hv) hNC.1), hso.2⟩) hM hl hP hS)
  | putfield ix =>
    unfold z_stI at h
    dsimp only at h
    split at h
    · rename_i e1
      subst e1
      obtain ⟨ci, k, s', o, r, sl, v, x, hf, rfl, hk, hv, hsl, hx2, rfl⟩ := z_pf_i h
      obtain ⟨C, T, N, hc, hkN, hw⟩ := z_fl_at hf
      obtain ⟨hin, ty0, hty, hnm⟩ := z_cl_ok ci C T N hc
      obtain ⟨C', T', N', hc', hlen, hi0, hi1⟩ := z_kd_at hk
      cases hc.symm.trans hc'
      rw [z_okS_cons, z_okS_cons] at hso
      have he := z_ws_get ad cA M hv (hso.2.1.2 _ rfl)
      rw [z_ce_obj hk] at he
      have K' := fun (H1 : Heap) (locs1 : List Loc) (hP1 : va_P D z_cl ((z_ws NC ad cA M).set (z_ix s' o) (ad (z_ix s' o), .inr (ci, (sl.mapIdx fun j y => z_fv ad s' y (M s' o j)).set k (.int (Int32.ofInt v))))) H1) (hS1 : va_S A0 s.heap H1 locs1) => K Ls H1 locs1 hlo hso.2.2 (z_okM_up hM (hso.1.1 _ rfl)) hl (by rw [z_ws_set hNC.2 hv z_up_far (z_obj_set hk hsl)] at hP1; exact hP1) hS1
      rcases hx2 with rfl | ⟨rfl, h01⟩
      · exact va_put hx hb hts hin ty0 hty hnm hown hK hP hD hS _ he hc k hkN (hts _ hw) (fun _ h9 => h9) (hi0 k hsl).1 (hi0 k hsl).2 rfl rfl (by rw [List.length_mapIdx]; rw [hlen]; exact hkN) hdg fun H1 locs1 hP1 _ hS1 => K' H1 locs1 hP1 hS1
      · exact va_put hx hb hts hin ty0 hty hnm hown hK hP hD hS _ he hc k hkN (hts _ hw) (fun _ h9 => h9) (hi1 k hsl).1 (hi1 k hsl).2 (z_nar01 h01) (z_fit01 h01) (by rw [List.length_mapIdx]; rw [hlen]; exact hkN) hdg fun H1 locs1 hP1 _ hS1 => K' H1 locs1 hP1 hS1
    · cases h
  | iaload =>
    obtain ⟨rfl, t, ht, rfl⟩ := z_nx_i h
    obtain ⟨j, s', o, r, N, rfl, hk, hv, h0, h1, rfl⟩ := z_al_i ht
    rw [z_okS_cons, z_okS_cons] at hso
    have hj := hso.1.1 _ rfl
    have he := z_ws_get ad cA M hv (hso.2.1.2 _ rfl)
    rw [z_ce_arr hk (by decide)] at he
    refine va_iald hx hb hK hP _ 0 he rfl (z_in hj h0 h1) hdg ?_
    rw [z_inat hj]
    exact K Ls H locs hlo (z_okS_cons.mpr ⟨z_okI (hM _ _ _), hso.2.2⟩) hM hl hP hS
  | caload =>
    obtain ⟨rfl, t, ht, rfl⟩ := z_nx_i h
    obtain ⟨j, s', o, r, N, rfl, hk, hv, h0, h1, rfl⟩ := z_al_i ht
    rw [z_okS_cons, z_okS_cons] at hso
    have hj := hso.1.1 _ rfl
    have he := z_ws_get ad cA M hv (hso.2.1.2 _ rfl)
    rw [z_ce_arr hk (by decide)] at he
    refine va_cald hx hb hK hP _ 1 he rfl (z_in hj h0 h1) hdg ?_
    rw [z_inat hj]
    exact K Ls H locs hlo (z_okS_cons.mpr ⟨z_okI (hM _ _ _), hso.2.2⟩) hM hl hP hS
  | baload =>
    obtain ⟨rfl, t, ht, rfl⟩ := z_nx_i h
    obtain ⟨j, s', o, r, N, rfl, hk, hv, h0, h1, rfl⟩ := z_al_i ht
    rw [z_okS_cons, z_okS_cons] at hso
    have hj := hso.1.1 _ rfl
    have he := z_ws_get ad cA M hv (hso.2.1.2 _ rfl)
    rw [z_ce_arr hk (by decide)] at he
    refine va_zald hx hb hK hP _ 2 he rfl (z_in hj h0 h1) hdg ?_
    rw [z_inat hj]
    exact K Ls H locs hlo (z_okS_cons.mpr ⟨z_okI (hM _ _ _), hso.2.2⟩) hM hl hP hS
  | aaload =>
    obtain ⟨rfl, t, ht, rfl⟩ := z_nx_i h
    obtain ⟨j, s', o, r, N, rfl, hk, hv, h0, h1, rfl⟩ := z_al_i ht
    rw [z_okS_cons, z_okS_cons] at hso
    have hj := hso.1.1 _ rfl
    have he := z_ws_get ad cA M hv (hso.2.1.2 _ rfl)
    rw [z_ce_arq hk] at he
    refine va_aldq hx hb hK hP _ 3 he rfl (z_in hj h0 h1) hdg ?_
    rw [z_inat hj]
    exact K Ls H locs hlo (z_okS_cons.mpr ⟨z_okR (Nat.lt_of_lt_of_le (z_ix0 _) hNC.1), hso.2.2⟩) hM hl hP hS
  | iastore =>
    unfold z_stI at h
    dsimp only at h
    split at h
    · rename_i e1
      subst e1
      obtain ⟨v, j, s', o, r, N, rfl, hk, hv, h0, h1, hfit, rfl⟩ := z_as_i h
      rw [z_okS_cons, z_okS_cons, z_okS_cons] at hso
      have hj := hso.2.1.1 _ rfl
      have hvv := hso.1.1 _ rfl
      have he := z_ws_get ad cA M hv (hso.2.2.1.2 _ rfl)
      rw [z_ce_arr hk (by decide)] at he
      refine va_iast hx hb hK hP hD hS _ 0 he rfl (z_in hj h0 h1) hdg fun H1 locs1 hP1 _ hS1 => ?_
      rw [z_ws_set hNC.2 hv z_up_far (z_arr_set hk (by decide) hj rfl)] at hP1
      exact K Ls H1 locs1 hlo hso.2.2.2 (z_okM_up hM hvv) hl hP1 hS1
    · cases h
  | castore =>
    unfold z_stI at h
    dsimp only at h
    split at h
    · rename_i e1
      subst e1
      obtain ⟨v, j, s', o, r, N, rfl, hk, hv, h0, h1, hfit, rfl⟩ := z_as_i h
      rw [z_okS_cons, z_okS_cons, z_okS_cons] at hso
      have hj := hso.2.1.1 _ rfl
      have hvv := hso.1.1 _ rfl
      have he := z_ws_get ad cA M hv (hso.2.2.1.2 _ rfl)
      rw [z_ce_arr hk (by decide)] at he
      have hn : vp_nar .char (Int32.ofInt v) = Int32.ofInt v := by
        have h2 : (0 : Int) ≤ v ∧ v ≤ 65535 := by simpa [z_fit] using hfit
        exact z_char h2
      refine va_cast hx hb hK hP hD hS _ 1 he rfl (z_in hj h0 h1) hdg fun H1 locs1 hP1 _ hS1 => ?_
      rw [z_ws_set hNC.2 hv z_up_far (z_arr_set hk (by decide) hj hn)] at hP1
      exact K Ls H1 locs1 hlo hso.2.2.2 (z_okM_up hM hvv) hl hP1 hS1
    · cases h
  | bastore =>
    unfold z_stI at h
    dsimp only at h
    split at h
    · rename_i e1
      subst e1
      obtain ⟨v, j, s', o, r, N, rfl, hk, hv, h0, h1, hfit, rfl⟩ := z_as_i h
      rw [z_okS_cons, z_okS_cons, z_okS_cons] at hso
      have hj := hso.2.1.1 _ rfl
      have hvv := hso.1.1 _ rfl
      have he := z_ws_get ad cA M hv (hso.2.2.1.2 _ rfl)
      rw [z_ce_arr hk (by decide)] at he
      have hn : vp_nar .boolean (Int32.ofInt v) = Int32.ofInt v := by
        have h2 : v = 0 ∨ v = 1 := by simpa [z_fit] using hfit
        rcases h2 with rfl | rfl <;> decide
      refine va_zast hx hb hK hP hD hS _ 2 he rfl (z_in hj h0 h1) hdg fun H1 locs1 hP1 _ hS1 => ?_
      rw [z_ws_set hNC.2 hv z_up_far (z_arr_set hk (by decide) hj hn)] at hP1
      exact K Ls H1 locs1 hlo hso.2.2.2 (z_okM_up hM hvv) hl hP1 hS1
    · cases h
  | aastore =>
    unfold z_stI at h
    dsimp only at h
    split at h
    · rename_i e1
      subst e1
      obtain ⟨q, j, s', o, r, N, rfl, hk, hv, h0, h1, rfl⟩ := z_aa_i h
      rw [z_okS_cons, z_okS_cons, z_okS_cons] at hso
      have hj := hso.2.1.1 _ rfl
      have he := z_ws_get ad cA M hv (hso.2.2.1.2 _ rfl)
      rw [z_ce_arq hk] at he
      have hq := z_ws_get ad cA M (s := q) (o := 0) rfl (Nat.lt_of_lt_of_le (z_ix0 _) hNC.1)
      rw [z_ce_obj (ci := 4) (sl := [.inr (none, 1), .inr (none, 2), .inr (none, 3), .inl 0, .inl 0, .inl 0, .inl 0, .inl 0, .inl 0]) rfl] at hq
      refine va_astq (r := (RX4, TX4, 9)) hx hb hK hP hD hS _ 3 _ 4 he rfl hq rfl (z_in hj h0 h1) hdg fun H1 locs1 hP1 _ hS1 => ?_
      rw [z_ws_set hNC.2 hv z_up_far (z_arq_set hk hj)] at hP1
      refine K Ls H1 locs1 hlo hso.2.2.2 (z_okM_up hM ?_) hl hP1 hS1
      exact z_w_id (by omega) (by have := q.isLt; omega)
    · cases h
  | invokestatic ix =>
    unfold z_stI at h
    dsimp only at h
    split at h
    · rename_i e1
      subst e1
      unfold z_jdk at h
      split at h
      · rename_i y x r hm
        split at h
        · rename_i e2
          cases h
          rw [z_okS_cons, z_okS_cons] at hso
          have h1 := hso.1.1 _ rfl
          have h2 := hso.2.1.1 _ rfl
          have hw := (z_mm_ok _ (z_look _ _ _ hm)).1 rfl
          refine va_mmax hx hb (by rw [hml, hl.1]) hown (hts _ hw) (hts _ z_max_ok.1) (hts _ z_max_ok.2.1) (hts _ z_max_ok.2.2) (by rw [hRf]; exact e2.2) (by rw [z_rv_cats, hRl]; omega) hcs.1 hcs.2 hdg ?_
          have e3 : (Value.int (if Int32.ofInt x < Int32.ofInt y then Int32.ofInt y else Int32.ofInt x)) = z_rv ad (.inl (if x < y then y else x)) := by
            by_cases e4 : x < y
            · rw [if_pos e4, if_pos ((z_ilt h2 h1).mpr e4)]; rfl
            · rw [if_neg e4, if_neg (fun q => e4 ((z_ilt h2 h1).mp q))]; rfl
          rw [e3]
          exact K Ls H locs hlo (z_okS_cons.mpr ⟨z_okI (by split <;> assumption), hso.2.2⟩) hM hl hP hS
        · cases h
      · rename_i y x r hm
        split at h
        · rename_i e2
          cases h
          rw [z_okS_cons, z_okS_cons] at hso
          have h1 := hso.1.1 _ rfl
          have h2 := hso.2.1.1 _ rfl
          have hw := (z_mm_ok _ (z_look _ _ _ hm)).2.1 rfl
          refine va_mmin hx hb (by rw [hml, hl.1]) hown (hts _ hw) (hts _ z_min_ok.1) (hts _ z_min_ok.2.1) (hts _ z_min_ok.2.2) (by rw [hRf]; exact e2.2) (by rw [z_rv_cats, hRl]; omega) hcs.1 hcs.2 hdg ?_
          have e3 : (Value.int (if Int32.ofInt y < Int32.ofInt x then Int32.ofInt y else Int32.ofInt x)) = z_rv ad (.inl (if y < x then y else x)) := by
            by_cases e4 : y < x
            · rw [if_pos e4, if_pos ((z_ilt h1 h2).mpr e4)]; rfl
            · rw [if_neg e4, if_neg (fun q => e4 ((z_ilt h1 h2).mp q))]; rfl
          rw [e3]
          exact K Ls H locs hlo (z_okS_cons.mpr ⟨z_okI (by split <;> assumption), hso.2.2⟩) hM hl hP hS
        · cases h
      · rename_i k d s1 o1 b s0 o0 r hm
        split at h
        · rename_i t0 n0 t1 n1 hk0 hk1
          split at h
          · rename_i e2
            obtain ⟨rfl, rfl, hv0, hv1, hr8, hdp⟩ := e2
            split at h
            · rename_i e3
              obtain ⟨g1, g2, g3, g4, g5⟩ := e3
              cases h
              rw [z_okS_cons, z_okS_cons, z_okS_cons, z_okS_cons, z_okS_cons] at hso
              have h1 := hso.1.1 _ rfl
              have h2 := hso.2.1.1 _ rfl
              have h3 := hso.2.2.2.1.1 _ rfl
              have hw := (z_mm_ok _ (z_look _ _ _ hm)).2.2 rfl
              have he0 := z_ws_get ad cA M hv0 (hso.2.2.2.2.1.2 _ rfl)
              rw [z_ce_arr hk0 (by decide)] at he0
              have he1 := z_ws_get ad cA M hv1 (hso.2.2.1.2 _ rfl)
              rw [z_ce_arr hk1 (by decide)] at he1
              refine va_copyi hx hb (by rw [hml, hl.1]) hown (hts _ hw) (hts _ z_cpy_ok.1) (hts _ z_cpy_ok.2.1) (hts _ z_cpy_ok.2.2) hK hP hD hS _ _ 0 0 he0 he1 rfl rfl rfl (by rw [z_i0, z_ilt h3 z_w0]; omega) (by rw [z_i0, z_ilt h2 z_w0]; omega) (by rw [z_i0, z_ilt h1 z_w0]; omega) (by rw [z_inat h3, z_inat h1]; omega) (by rw [z_inat h2, z_inat h1]; omega) (fun _ _ => rfl) (by rw [hRf]; exact hdp) ?_ hdg fun H1 locs1 hP1 _ hS1 => ?_
              · rw [z_rv_cats, hRl, show nativeFrameWords "java/lang/System" "arraycopy" 5 = 7 by decide]; omega
              · rw [z_ws_set hNC.2 hv1 z_cp_far (z_arr_cpy hk1 h3 h2 h1)] at hP1
                exact K Ls H1 locs1 hlo hso.2.2.2.2.2 (z_okM_cp hM) hl hP1 hS1
            · cases h
          · cases h
        · cases h
      · cases h
    · cases h
  | _ => cases h
end ZS
