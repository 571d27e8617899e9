/-! what the machine's heap is, for a memory over positions -/
theorem z_ofw (x : Int) : Int32.ofInt (z_w x) = Int32.ofInt x := by unfold z_w; rw [Int32.ofInt_toInt]
theorem z_ww (x : Int) : z_w (z_w x) = z_w x := by unfold z_w; rw [Int32.ofInt_toInt]
theorem z_wI (x : Int32) : z_w x.toInt = x.toInt := by unfold z_w; rw [Int32.ofInt_toInt]
theorem z_w_id {x : Int} (h1 : -2147483648 ≤ x) (h2 : x ≤ 2147483647) : z_w x = x := Int32.toInt_ofInt_of_le (by omega) (by omega)
theorem z_w_lo (x : Int) : -2147483648 ≤ z_w x := Int32.le_toInt _
theorem z_w_hi (x : Int) : z_w x ≤ 2147483647 := by have := Int32.toInt_lt (Int32.ofInt x); unfold z_w; omega
theorem z_ilt {x y : Int} (hx : z_w x = x) (hy : z_w y = y) : Int32.ofInt x < Int32.ofInt y ↔ x < y := by
  rw [Int32.lt_iff_toInt_lt]; unfold z_w at hx hy; rw [hx, hy]
theorem z_ile {x y : Int} (hx : z_w x = x) (hy : z_w y = y) : Int32.ofInt x ≤ Int32.ofInt y ↔ x ≤ y := by
  rw [Int32.le_iff_toInt_le]; unfold z_w at hx hy; rw [hx, hy]
theorem z_ieq {x y : Int} (hx : z_w x = x) (hy : z_w y = y) : Int32.ofInt x = Int32.ofInt y ↔ x = y := by
  constructor
  · intro h
    have := congrArg Int32.toInt h
    unfold z_w at hx hy
    rw [hx, hy] at this
    exact this
  · rintro rfl; rfl
theorem z_inat {x : Int} (hx : z_w x = x) : (Int32.ofInt x).toNatClampNeg = x.toNat := by
  rw [← Int32.toNat_toInt]; unfold z_w at hx; rw [hx]
theorem z_i0 : (0 : Int32) = Int32.ofInt 0 := by decide
theorem z_w0 : z_w 0 = 0 := by decide
theorem z_in {x : Int} {n : Nat} (hx : z_w x = x) (h0 : 0 ≤ x) (h1 : x < (n : Int)) : vp_in (Int32.ofInt x) n := by
  unfold vp_in
  rw [z_i0, z_ilt hx z_w0, z_inat hx]
  omega
/-- an index of a position, and back -/
def z_ix (s : Fin 7) (o : Nat) : Nat := if o < 21 then 21 * s.val + o else 126 + o
def z_ps (k : Nat) : z_P := if h : k / 21 < 7 then (⟨k / 21, h⟩, k % 21) else (0, k - 126)
theorem z_ixps : ∀ (s : Fin 7) (o : Nat), o < 33 → z_lv s o = true → z_ix s o < 159 ∧ z_ps (z_ix s o) = (s, o) := by decide +kernel
theorem z_psix : ∀ k, k < 159 → z_lv (z_ps k).1 (z_ps k).2 = true ∧ (z_ps k).2 < 33 ∧ z_ix (z_ps k).1 (z_ps k).2 = k := by decide +kernel
theorem z_lv36 {s : Fin 7} {o : Nat} (h : z_lv s o = true) : o < 33 := by
  unfold z_lv at h
  simp only [Bool.or_eq_true, Bool.and_eq_true, decide_eq_true_eq] at h
  omega
theorem z_lvix {s : Fin 7} {o : Nat} (h : z_lv s o = true) : z_ix s o < 159 ∧ z_ps (z_ix s o) = (s, o) := z_ixps s o (z_lv36 h) h
def z_rv (ad : Nat → Nat) (v : z_V) : Value := match v with
  | .inl x => .int (Int32.ofInt x)
  | .inr none => .null
  | .inr (some q) => .ref (ad (z_ix q.1 q.2))
theorem z_rv_cat (ad : Nat → Nat) (v : z_V) : (z_rv ad v).category = 1 := by
  rcases v with x | _ | q <;> rfl
theorem z_rv_cats (ad : Nat → Nat) (st : List z_V) : ((st.map (z_rv ad)).map fun v => v.category).sum = st.length := by
  induction st with
  | nil => rfl
  | cons v st ih =>
    simp only [List.map_cons, List.sum_cons, List.length_cons, z_rv_cat]
    simp only [List.map_map] at ih ⊢
    rw [ih]; omega
def z_fv (ad : Nat → Nat) (s : Fin 7) (k : z_S) (x : Int) : Value := match k with
  | .inl _ => .int (Int32.ofInt x)
  | .inr (q, o) => .ref (ad (z_ix (q.getD s) o))
def z_ce (ad : Nat → Nat) (cA : Nat → ClassId) (M : z_M) (q : z_P) : va_E := match z_kds[q.2]? with
  | some (.inl (ci, sl)) => .inr (ci, sl.mapIdx fun j k => z_fv ad q.1 k (M q.1 q.2 j))
  | some (.inr (t, n)) => .inl (cA t, n, if t = 3 then .inr (.inr (.inr (.inr fun j => some (ad (z_ix (z_rg (M q.1 q.2 j)) 0))))) else .inl fun j => Int32.ofInt (M q.1 q.2 j))
  | none => .inr (0, [])
def z_ws (NC : Nat) (ad : Nat → Nat) (cA : Nat → ClassId) (M : z_M) : va_W := (List.range NC).map fun k => (ad k, z_ce ad cA M (z_ps k))
theorem z_ws_at {NC : Nat} (ad : Nat → Nat) (cA : Nat → ClassId) (M : z_M) {k : Nat} (h : k < NC) : (z_ws NC ad cA M)[k]? = some (ad k, z_ce ad cA M (z_ps k)) := by
  unfold z_ws
  rw [List.getElem?_map, List.getElem?_range h]; rfl
theorem z_ws_get {NC : Nat} (ad : Nat → Nat) (cA : Nat → ClassId) (M : z_M) {s : Fin 7} {o : Nat} (h : z_lv s o = true) (hn : z_ix s o < NC) : (z_ws NC ad cA M)[z_ix s o]? = some (ad (z_ix s o), z_ce ad cA M (s, o)) := by
  rw [z_ws_at ad cA M hn, (z_lvix h).2]
theorem z_ce_same {ad : Nat → Nat} {cA : Nat → ClassId} {M M' : z_M} {q : z_P} (h : ∀ j, M' q.1 q.2 j = M q.1 q.2 j) : z_ce ad cA M' q = z_ce ad cA M q := by
  unfold z_ce
  simp only [h]
theorem z_ws_set {NC : Nat} (hNC : NC ≤ 159) {ad : Nat → Nat} {cA : Nat → ClassId} {M M' : z_M} {s : Fin 7} {o : Nat} (h : z_lv s o = true) (hM : ∀ s' o' j, ¬ (s' = s ∧ o' = o) → M' s' o' j = M s' o' j) {e : va_E} (he : e = z_ce ad cA M' (s, o)) : (z_ws NC ad cA M).set (z_ix s o) (ad (z_ix s o), e) = z_ws NC ad cA M' := by
  subst he
  refine List.ext_getElem? fun k => ?_
  have hk := z_lvix h
  rcases Nat.lt_or_ge k NC with h1 | h1
  · rw [List.getElem?_set, z_ws_at ad cA M' h1]
    by_cases e : z_ix s o = k
    · subst e
      rw [if_pos rfl, if_pos (by simp [z_ws, h1]), hk.2]
    · rw [if_neg e, z_ws_at ad cA M h1]
      congr 1
      refine Prod.ext rfl ?_
      refine (z_ce_same fun j => hM _ _ j ?_).symm
      rintro ⟨a, b⟩
      have := (z_psix k (Nat.lt_of_lt_of_le h1 hNC)).2.2
      rw [a, b] at this
      exact e this
  · rw [List.getElem?_eq_none (by simpa [z_ws] using h1), List.getElem?_eq_none (by simpa [z_ws] using h1)]
/-- a memory in whose cells are ints of 32 bits -/
def z_okM (M : z_M) : Prop := ∀ s o j, z_w (M s o j) = M s o j
def z_okV (NC : Nat) (v : z_V) : Prop := (∀ x, v = .inl x → z_w x = x) ∧ ∀ q : z_P, v = .inr (some q) → z_ix q.1 q.2 < NC
def z_okS (NC : Nat) (st : List z_V) : Prop := ∀ v ∈ st, z_okV NC v
def z_okL (NC : Nat) (ls : z_L) : Prop := ∀ (i : Nat) (v : z_V), ls[i]? = some (some v) → z_okV NC v
theorem z_okM_up {M : z_M} (h : z_okM M) {s : Fin 7} {o j : Nat} {v : Int} (hv : z_w v = v) : z_okM (z_up M s o j v) := by
  intro s' o' j'
  unfold z_up
  split
  · exact hv
  · exact h _ _ _
theorem z_okM_cp {M : z_M} (h : z_okM M) {s0 s1 : Fin 7} {o0 o1 b d n : Nat} : z_okM (z_cp M s0 o0 s1 o1 b d n) := by
  intro s' o' j'
  unfold z_cp
  split
  · exact h _ _ _
  · exact h _ _ _
theorem z_okI {NC : Nat} {x : Int} (h : z_w x = x) : z_okV NC (.inl x) := ⟨fun y e => (by cases e; exact h), fun q e => (by cases e)⟩
theorem z_okN {NC : Nat} : z_okV NC (.inr none) := ⟨fun y e => (by cases e), fun q e => (by cases e)⟩
theorem z_okR {NC : Nat} {q : z_P} (h : z_ix q.1 q.2 < NC) : z_okV NC (.inr (some q)) := ⟨fun y e => (by cases e), fun p e => (by cases e; exact h)⟩
theorem z_okS_cons {NC : Nat} {v : z_V} {st : List z_V} : z_okS NC (v :: st) ↔ z_okV NC v ∧ z_okS NC st := by
  unfold z_okS
  simp only [List.mem_cons, forall_eq_or_imp]
theorem z_okL_set {NC : Nat} {ls : z_L} (h : z_okL NC ls) {i : Nat} {v : z_V} (hv : z_okV NC v) : z_okL NC (ls.set i (some v)) := by
  intro j w hw
  rw [List.getElem?_set] at hw
  split at hw
  · split at hw
    · cases hw; exact hv
    · cases hw
  · exact h j w hw
/-- the locals -/
def z_RL (ad : Nat → Nat) (ls : z_L) (Ls : Array Slot) (nL : Nat) : Prop := Ls.size = nL ∧ lv_wf Ls ∧ ls.length = nL ∧ ∀ (i : Nat) (v : z_V), ls[i]? = some (some v) → Ls[i]? = some (.val (z_rv ad v))
def z_asc (ad : Nat → Nat) (ls : z_L) : List (Nat × Value) := (List.range ls.length).filterMap fun i => match ls[i]? with
  | some (some v) => some (i, z_rv ad v)
  | _ => none
theorem z_asc_mem {ad : Nat → Nat} {ls : z_L} {i : Nat} {w : Value} : (i, w) ∈ z_asc ad ls ↔ ∃ v, ls[i]? = some (some v) ∧ w = z_rv ad v := by
  unfold z_asc
  rw [List.mem_filterMap]
  constructor
  · rintro ⟨j, hj, h⟩
    split at h
    · rename_i v hv
      cases h
      exact ⟨v, hv, rfl⟩
    · cases h
  · rintro ⟨v, hv, rfl⟩
    refine ⟨i, List.mem_range.mpr (List.getElem?_eq_some_iff.mp hv).1, ?_⟩
    rw [hv]
theorem z_RL_has {ad : Nat → Nat} {ls : z_L} {Ls : Array Slot} {nL : Nat} (h : z_RL ad ls Ls nL) : lv_has Ls nL (z_asc ad ls) := by
  refine ⟨h.1, h.2.1, ?_⟩
  rintro ⟨i, w⟩ hq
  obtain ⟨v, hv, rfl⟩ := z_asc_mem.mp hq
  exact h.2.2.2 i v hv
theorem z_RL_set {ad : Nat → Nat} {ls : z_L} {Ls Ls' : Array Slot} {nL i : Nat} {v : z_V} {w : Value} (h : z_RL ad ls Ls nL) (hw : w = z_rv ad v) (h' : lv_has Ls' nL ((i, w) :: (z_asc ad ls).filter (fun q => !(q.1 == i) && !(q.1 + 1 == i && q.2.category == 2)))) : z_RL ad (ls.set i (some v)) Ls' nL := by
  subst hw
  refine ⟨h'.1, h'.2.1, by rw [List.length_set]; exact h.2.2.1, fun j u hj => ?_⟩
  rw [List.getElem?_set] at hj
  split at hj
  · rename_i e
    split at hj
    · cases hj
      subst e
      exact h'.2.2 (i, _) List.mem_cons_self
    · cases hj
  · rename_i e
    refine h'.2.2 (j, z_rv ad u) (List.mem_cons_of_mem _ (List.mem_filter.mpr ⟨z_asc_mem.mpr ⟨u, hj, rfl⟩, ?_⟩))
    have e' : ¬ j = i := fun x => e x.symm
    simp [e', z_rv_cat]
theorem z_lg_sl (ad : Nat → Nat) (as : List z_V) : lg_sl (as.map (z_rv ad)) = as.map fun v => Slot.val (z_rv ad v) := by
  induction as with
  | nil => rfl
  | cons v as ih =>
    unfold lg_sl at ih ⊢
    rw [List.map_cons, List.flatMap_cons, ih, if_neg (by rw [z_rv_cat]; decide)]
    rfl
theorem z_args_mem {ad : Nat → Nat} : ∀ (as : List z_V) (n i : Nat) (v : z_V), as[i]? = some v → (n + i, z_rv ad v) ∈ lv_args n (as.map (z_rv ad)) := by
  intro as
  induction as with
  | nil => intro n i v h; simp at h
  | cons u as ih =>
    intro n i v h
    rw [List.map_cons]
    unfold lv_args
    rw [if_neg (by rw [z_rv_cat]; decide)]
    cases i with
    | zero => simp at h; subst h; exact List.mem_cons_self
    | succ i =>
      simp at h
      have := ih (n + 1) i v h
      rw [show n + 1 + i = n + (i + 1) by omega] at this
      exact List.mem_cons_of_mem _ this
theorem z_RL_entry {ad : Nat → Nat} {as : List z_V} {n : Nat} (h : as.length ≤ n) : z_RL ad (as.map some ++ List.replicate (n - as.length) none) ((lg_sl (as.map (z_rv ad)) ++ List.replicate (n - (lg_sl (as.map (z_rv ad))).length) Slot.unset).toArray) n := by
  have hl := lv_entry (as.map (z_rv ad)) (n := n) (by rw [z_lg_sl, List.length_map]; exact h)
  refine ⟨hl.1, hl.2.1, by simp; omega, fun i v hv => ?_⟩
  have hi : as[i]? = some v := by
    rw [List.getElem?_append] at hv
    split at hv
    · rw [List.getElem?_map] at hv
      cases hx : as[i]? with
      | none => rw [hx] at hv; cases hv
      | some x => rw [hx] at hv; cases hv; rfl
    · rw [List.getElem?_replicate] at hv
      split at hv <;> cases hv
  have := hl.2.2 _ (z_args_mem (ad := ad) as 0 i v hi)
  rw [Nat.zero_add] at this
  exact this
/-- references in fields lead to cells of the class -/
def z_rfs (s : Fin 7) (o : Nat) : Bool := match z_kds[o]? with
  | some (.inl (_, sl)) => sl.all fun x => match x with
    | .inr (q, o') => decide (z_ix (q.getD s) o' < 156)
    | _ => true
  | _ => true
theorem z_rfs_ok : ∀ (s : Fin 7) (o : Nat), o < 33 → z_lv s o = true → z_rfs s o = true := by decide +kernel
theorem z_kds_rf {s : Fin 7} {o ci k o' : Nat} {sl : List z_S} {q : Option (Fin 7)} (h : z_kds[o]? = some (.inl (ci, sl))) (hk : sl[k]? = some (.inr (q, o'))) (hv : z_lv s o = true) : z_ix (q.getD s) o' < 156 := by
  have h1 := z_rfs_ok s o (z_lv36 hv) hv
  unfold z_rfs at h1
  rw [h] at h1
  have h2 := List.all_eq_true.mp h1 _ (List.mem_of_getElem? hk)
  simpa using h2
theorem z_ix0 (s : Fin 7) : z_ix s 0 < 156 := by
  revert s; decide
