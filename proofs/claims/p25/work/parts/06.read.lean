/-! tables, read -/
theorem z_G_good : ∀ w ∈ z_G, w ∈ z_G ∧ ((w.onTables && w.keeps) = true ∨ ∃ ty, w = .arrayClass ty) := fun w h => ⟨h, good_of_word (List.mem_filter.mp h).2⟩
def z_okk (x : (Nat × List z_S) ⊕ (Nat × Nat)) : Bool := match x with
  | .inl (ci, sl) => match z_cl[ci]? with
    | some (_, T, N) => decide (sl.length = N) && (List.range N).all fun k => match sl[k]? with
      | some (.inl 0) => decide ((T k).2.2.2 = false) && decide (parseFieldDescriptor (T k).2.2.1 = some .int)
      | some (.inl 1) => decide ((T k).2.2.2 = false) && decide (parseFieldDescriptor (T k).2.2.1 = some .boolean)
      | some (.inr _) => true
      | _ => false
    | none => false
  | .inr (t, n) => decide (t < 4) && decide (n ≤ 6000)
set_option maxRecDepth 100000 in
theorem z_kds_ok : z_kds.all z_okk = true := by decide +kernel
theorem z_cl_ok : ∀ (ci : Nat) (C : String) (T : u_T) (N : Nat), z_cl[ci]? = some (C, T, N) → (∀ w ∈ u_ws C T N, w ∈ z_G) ∧ ∃ ty0 : Nat → FieldType, (∀ k, k < N → parseFieldDescriptor (T k).2.2.1 = some (ty0 k)) ∧ ∀ a, a < N → ∀ b, b < N → a ≠ b → (T a).2.1 ≠ (T b).2.1 := by
  intro ci C T N h
  match ci, h with
  | 0, h => cases h; exact ⟨z_lays_0, tyX0, tyX0_ok, nmX0⟩
  | 1, h => cases h; exact ⟨z_lays_1, tyX1, tyX1_ok, nmX1⟩
  | 2, h => cases h; exact ⟨z_lays_2, tyX2, tyX2_ok, nmX2⟩
  | 3, h => cases h; exact ⟨z_lays_3, tyX3, tyX3_ok, nmX3⟩
  | 4, h => cases h; exact ⟨z_lays_4, tyX4, tyX4_ok, nmX4⟩
  | 5, h => cases h; exact ⟨z_lays_5, tyX5, tyX5_ok, nmX5⟩
  | 6, h => cases h; exact ⟨z_lays_6, tyX6, tyX6_ok, nmX6⟩
  | 7, h => cases h; exact ⟨z_lays_7, tyX7, tyX7_ok, nmX7⟩
  | k + 8, h => simp [z_cl] at h
theorem z_look {α : Type} : ∀ (l : List ((Nat × Nat) × α)) (a : Nat × Nat) (b : α), l.lookup a = some b → (a, b) ∈ l := by
  intro l
  induction l with
  | nil => intro a b h; simp at h
  | cons x l ih =>
    intro a b h
    obtain ⟨u, v⟩ := x
    rw [List.lookup_cons] at h
    split at h
    · rename_i e
      cases h
      have e' : a = u := by simpa using e
      rw [e']; exact List.mem_cons_self
    · exact List.mem_cons_of_mem _ (ih a b h)
theorem z_fl_at {own ix ci k : Nat} (h : z_fl.lookup (own, ix) = some (ci, k)) : ∃ (C : String) (T : u_T) (N : Nat), z_cl[ci]? = some (C, T, N) ∧ k < N ∧ Cond.fieldLink (z_cn own) ix (T k).1 (T k).2.1 (T k).2.2.1 ∈ z_G := z_fl_ok _ (z_look _ _ _ h)
theorem z_kd_at {o ci : Nat} {sl : List z_S} (h : z_kds[o]? = some (.inl (ci, sl))) : ∃ (C : String) (T : u_T) (N : Nat), z_cl[ci]? = some (C, T, N) ∧ sl.length = N ∧
    (∀ k, sl[k]? = some (.inl 0) → (T k).2.2.2 = false ∧ parseFieldDescriptor (T k).2.2.1 = some .int) ∧ ∀ k, sl[k]? = some (.inl 1) → (T k).2.2.2 = false ∧ parseFieldDescriptor (T k).2.2.1 = some .boolean := by
  have h1 := List.all_eq_true.mp z_kds_ok _ (List.mem_of_getElem? h)
  unfold z_okk at h1
  dsimp only at h1
  split at h1
  · rename_i C T N hc
    simp only [Bool.and_eq_true, decide_eq_true_eq] at h1
    refine ⟨C, T, N, hc, h1.1, fun k hk => ?_, fun k hk => ?_⟩
    · have h2 := List.all_eq_true.mp h1.2 k (List.mem_range.mpr (by rw [← h1.1]; exact (List.getElem?_eq_some_iff.mp hk).1))
      rw [hk] at h2
      simpa using h2
    · have h2 := List.all_eq_true.mp h1.2 k (List.mem_range.mpr (by rw [← h1.1]; exact (List.getElem?_eq_some_iff.mp hk).1))
      rw [hk] at h2
      simpa using h2
  · cases h1
theorem z_ka_at {o t n : Nat} (h : z_kds[o]? = some (.inr (t, n))) : t < 4 ∧ n ≤ 6000 := by
  have h1 := List.all_eq_true.mp z_kds_ok _ (List.mem_of_getElem? h)
  unfold z_okk at h1
  simpa using h1
