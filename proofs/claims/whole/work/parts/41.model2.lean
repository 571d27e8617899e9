/-! the model: its rows written -/
def r_u (ρ : Nat → Int) (j : Nat) (v : Int) : Nat → Int := fun i => if i = j then v else ρ i
theorem r_u_same (ρ : Nat → Int) (j : Nat) (v : Int) : r_u ρ j v j = v := by unfold r_u; rw [if_pos rfl]
theorem r_u_ne {ρ : Nat → Int} {i j : Nat} {v : Int} (h : i ≠ j) : r_u ρ j v i = ρ i := by unfold r_u; rw [if_neg h]
def z_mr (M : z_M) (ρ : Nat → Int) : z_M := fun s o j => if s = 0 ∧ o = 31 then ρ j else M s o j
theorem z_mr_row (M : z_M) (ρ : Nat → Int) : z_mr M ρ 0 31 = ρ := by funext j; unfold z_mr; rw [if_pos ⟨rfl, rfl⟩]
theorem z_mr_o {M : z_M} {ρ : Nat → Int} {s : Fin 7} {o j : Nat} (h : o ≠ 31) : z_mr M ρ s o j = M s o j := by unfold z_mr; rw [if_neg (fun q => h q.2)]
theorem z_mr_self (M : z_M) : z_mr M (M 0 31) = M := by
  funext s o j
  unfold z_mr
  split
  · rename_i h; rw [h.1, h.2]
  · rfl
theorem z_mr_mr (M : z_M) (ρ ρ' : Nat → Int) : z_mr (z_mr M ρ) ρ' = z_mr M ρ' := by
  funext s o j
  unfold z_mr
  split <;> rfl
theorem z_up_mr {M : z_M} {ρ : Nat → Int} {j : Nat} {v : Int} : z_up (z_mr M ρ) 0 31 j v = z_mr M (r_u ρ j v) := by
  funext s o i
  unfold z_up z_mr r_u
  by_cases h : s = 0 ∧ o = 31
  · rw [if_pos h, if_pos h]
    by_cases h2 : i = j
    · rw [if_pos ⟨h.1, h.2, h2⟩, if_pos h2]
    · rw [if_neg (fun q => h2 q.2.2), if_neg h2]
  · rw [if_neg (fun q => h ⟨q.1, q.2.1⟩), if_neg h, if_neg h]
theorem z_up_mro {M : z_M} {ρ : Nat → Int} {s : Fin 7} {o j : Nat} {v : Int} (h : o ≠ 31) : z_up (z_mr M ρ) s o j v = z_mr (z_up M s o j v) ρ := by
  funext s' o' i
  unfold z_up z_mr
  by_cases h2 : s' = 0 ∧ o' = 31
  · rw [if_pos h2, if_neg (fun q => h (by rw [← q.2.1]; exact h2.2)), if_pos h2]
  · rw [if_neg h2, if_neg h2]
theorem z_up_at (M : z_M) (s : Fin 7) (o j : Nat) (v : Int) : z_up M s o j v s o j = v := by unfold z_up; rw [if_pos ⟨rfl, rfl, rfl⟩]
theorem z_up_ne {M : z_M} {s s' : Fin 7} {o j o' j' : Nat} {v : Int} (h : ¬ (o' = o ∧ j' = j)) : z_up M s o j v s' o' j' = M s' o' j' := by unfold z_up; rw [if_neg (fun q => h q.2)]
/-- a stretch of a row of the model's, set -/
def z_st (M : z_M) (o lo hi : Nat) (f : Nat → Int) : z_M := fun s' o' j => if s' = 0 ∧ o' = o ∧ lo ≤ j ∧ j < hi then f j else M s' o' j
theorem z_st_nil (M : z_M) (o lo : Nat) (f : Nat → Int) : z_st M o lo lo f = M := by
  funext s' o' j
  unfold z_st
  rw [if_neg (fun q => by omega)]
theorem z_st_succ {M : z_M} {o lo hi : Nat} {f : Nat → Int} (h : lo ≤ hi) : z_up (z_st M o lo hi f) 0 o hi (f hi) = z_st M o lo (hi + 1) f := by
  funext s' o' j
  unfold z_up z_st
  by_cases h1 : s' = 0 ∧ o' = o ∧ j = hi
  · rw [if_pos h1, if_pos (show s' = 0 ∧ o' = o ∧ lo ≤ j ∧ j < hi + 1 from ⟨h1.1, h1.2.1, by omega, by omega⟩), h1.2.2]
  · rw [if_neg h1]
    by_cases h2 : s' = 0 ∧ o' = o ∧ lo ≤ j ∧ j < hi
    · rw [if_pos h2, if_pos (show s' = 0 ∧ o' = o ∧ lo ≤ j ∧ j < hi + 1 from ⟨h2.1, h2.2.1, by omega, by omega⟩)]
    · rw [if_neg h2, if_neg (show ¬ (s' = 0 ∧ o' = o ∧ lo ≤ j ∧ j < hi + 1) from fun q => by
        by_cases e : j = hi
        · exact h1 ⟨q.1, q.2.1, e⟩
        · exact h2 ⟨q.1, q.2.1, by omega, by omega⟩)]
theorem z_st_o {M : z_M} {o lo hi : Nat} {f : Nat → Int} {s' : Fin 7} {o' j : Nat} (h : o' ≠ o) : z_st M o lo hi f s' o' j = M s' o' j := by unfold z_st; rw [if_neg (fun q => h q.2.1)]
theorem z_st_ge {M : z_M} {o lo hi : Nat} {f : Nat → Int} {s' : Fin 7} {o' j : Nat} (h : j < lo ∨ hi ≤ j) : z_st M o lo hi f s' o' j = M s' o' j := by unfold z_st; rw [if_neg (fun q => by omega)]
theorem z_st_in {M : z_M} {o lo hi : Nat} {f : Nat → Int} {j : Nat} (h : lo ≤ j ∧ j < hi) : z_st M o lo hi f 0 o j = f j := by unfold z_st; rw [if_pos ⟨rfl, rfl, h⟩]
theorem k_remember_loop {M : z_M} : ∀ n i : Nat, i + n = 1500 → z_ex 127 2 [some (.inr (some (0, 30))), some (.inl (i : Int))] [] (z_st M 34 0 i (M 0 31)) = some (none, z_st M 34 0 1500 (M 0 31)) := by
  intro n
  induction n with
  | zero =>
    intro i e
    obtain rfl : i = 1500 := by omega
    rw [x127_2]
    repeat' (first | (exfalso; omega) | (simp (disch := first | omega | assumption | exact z_b_01) only [x127_0, x127_1, x127_3, x127_6, x127_9, x127_10, x127_13, x127_14, x127_15, x127_18, x127_19, x127_20, x127_21, x127_24, x127_27, Option.bind_some, Option.toList_some, Option.toList_none, List.cons_append, List.nil_append, Int.toNat_natCast, Int.toNat_zero, z_w_id, z_b_0, z_b_1, z_b_n0, z_b_t, z_b_f, ↓reduceIte, Int.reduceEq, Int.reduceLT, Int.reduceLE, Int.reduceToNat, not_true_eq_false, not_false_eq_true, false_and, and_false, true_and, and_true, false_or, or_false, true_or, or_true]) | split)
    all_goals rfl
  | succ n ih =>
    intro i e
    have ih' := ih (i + 1) (by omega)
    rw [← z_st_succ (Nat.zero_le i)] at ih'
    simp only [Int.natCast_add, Int.natCast_one] at ih'
    rw [x127_2]
    repeat' (first | (exfalso; omega) | (simp (disch := first | omega | assumption | exact z_b_01) only [x127_0, x127_1, x127_3, x127_6, x127_9, x127_10, x127_13, x127_14, x127_15, x127_18, x127_19, x127_20, x127_21, x127_24, x127_27, Option.bind_some, Option.toList_some, Option.toList_none, List.cons_append, List.nil_append, Int.toNat_natCast, Int.toNat_zero, z_w_id, z_b_0, z_b_1, z_b_n0, z_b_t, z_b_f, ↓reduceIte, Int.reduceEq, Int.reduceLT, Int.reduceLE, Int.reduceToNat, not_true_eq_false, not_false_eq_true, false_and, and_false, true_and, and_true, false_or, or_false, true_or, or_true, z_st_o, ih']) | split)
    all_goals rfl
theorem k_remember (M : z_M) : z_ev 127 [.inr (some (0, 30))] M = some (none, z_st M 34 0 1500 (M 0 31)) := by
  have h := k_remember_loop (M := M) 1500 0 (by omega)
  rw [z_st_nil] at h
  rw [x127]
  simp (disch := first | omega | assumption) only [x127_0, x127_1, x127_3, x127_6, x127_9, x127_10, x127_13, x127_14, x127_15, x127_18, x127_19, x127_20, x127_21, x127_24, x127_27, Option.bind_some, Option.toList_some, Option.toList_none, List.cons_append, List.nil_append, Int.toNat_natCast, Int.toNat_zero, z_w_id, z_b_0, z_b_1, z_b_n0, z_b_t, z_b_f, ↓reduceIte, Int.reduceEq, Int.reduceLT, Int.reduceLE, Int.reduceToNat, not_true_eq_false, not_false_eq_true, false_and, and_false, true_and, and_true, false_or, or_false, true_or, or_true]
  exact h
theorem k_goBack_loop {M : z_M} : ∀ n i : Nat, i + n = 1500 → z_ex 104 2 [some (.inr (some (0, 30))), some (.inl (i : Int))] [] (z_st M 31 0 i (M 0 34)) = some (none, z_st M 31 0 1500 (M 0 34)) := by
  intro n
  induction n with
  | zero =>
    intro i e
    obtain rfl : i = 1500 := by omega
    rw [x104_2]
    repeat' (first | (exfalso; omega) | (simp (disch := first | omega | assumption | exact z_b_01) only [x104_0, x104_1, x104_3, x104_6, x104_9, x104_10, x104_13, x104_14, x104_15, x104_18, x104_19, x104_20, x104_21, x104_24, x104_27, Option.bind_some, Option.toList_some, Option.toList_none, List.cons_append, List.nil_append, Int.toNat_natCast, Int.toNat_zero, z_w_id, z_b_0, z_b_1, z_b_n0, z_b_t, z_b_f, ↓reduceIte, Int.reduceEq, Int.reduceLT, Int.reduceLE, Int.reduceToNat, not_true_eq_false, not_false_eq_true, false_and, and_false, true_and, and_true, false_or, or_false, true_or, or_true]) | split)
    all_goals rfl
  | succ n ih =>
    intro i e
    have ih' := ih (i + 1) (by omega)
    rw [← z_st_succ (Nat.zero_le i)] at ih'
    simp only [Int.natCast_add, Int.natCast_one] at ih'
    rw [x104_2]
    repeat' (first | (exfalso; omega) | (simp (disch := first | omega | assumption | exact z_b_01) only [x104_0, x104_1, x104_3, x104_6, x104_9, x104_10, x104_13, x104_14, x104_15, x104_18, x104_19, x104_20, x104_21, x104_24, x104_27, Option.bind_some, Option.toList_some, Option.toList_none, List.cons_append, List.nil_append, Int.toNat_natCast, Int.toNat_zero, z_w_id, z_b_0, z_b_1, z_b_n0, z_b_t, z_b_f, ↓reduceIte, Int.reduceEq, Int.reduceLT, Int.reduceLE, Int.reduceToNat, not_true_eq_false, not_false_eq_true, false_and, and_false, true_and, and_true, false_or, or_false, true_or, or_true, z_st_o, ih']) | split)
    all_goals rfl
theorem k_goBack (M : z_M) : z_ev 104 [.inr (some (0, 30))] M = some (none, z_st M 31 0 1500 (M 0 34)) := by
  have h := k_goBack_loop (M := M) 1500 0 (by omega)
  rw [z_st_nil] at h
  rw [x104]
  simp (disch := first | omega | assumption) only [x104_0, x104_1, x104_3, x104_6, x104_9, x104_10, x104_13, x104_14, x104_15, x104_18, x104_19, x104_20, x104_21, x104_24, x104_27, Option.bind_some, Option.toList_some, Option.toList_none, List.cons_append, List.nil_append, Int.toNat_natCast, Int.toNat_zero, z_w_id, z_b_0, z_b_1, z_b_n0, z_b_t, z_b_f, ↓reduceIte, Int.reduceEq, Int.reduceLT, Int.reduceLE, Int.reduceToNat, not_true_eq_false, not_false_eq_true, false_and, and_false, true_and, and_true, false_or, or_false, true_or, or_true]
  exact h
/-- past rows moved down by one state -/
theorem k_shift_loop {M : z_M} : ∀ n i : Nat, i + n = 4500 → z_ex 126 10 [some (.inr (some (0, 30))), some (.inl (i : Int))] [] (z_st M 32 0 i (fun j => M 0 32 (j + 1500))) = z_ex 126 39 [some (.inr (some (0, 30))), some (.inl 4500)] [] (z_st M 32 0 4500 (fun j => M 0 32 (j + 1500))) := by
  intro n
  induction n with
  | zero =>
    intro i e
    obtain rfl : i = 4500 := by omega
    rw [x126_10]
    repeat' (first | (exfalso; omega) | (simp (disch := first | omega | assumption | exact z_b_01) only [x126_0, x126_1, x126_4, x126_5, x126_8, x126_9, x126_11, x126_14, x126_17, x126_18, x126_21, x126_22, x126_23, x126_26, x126_29, x126_30, x126_31, x126_32, x126_33, x126_36, x126_40, x126_41, x126_44, x126_45, x126_46, x126_49, x126_50, x126_52, x126_55, x126_58, x126_59, x126_62, x126_65, x126_66, x126_69, x126_70, x126_71, x126_72, x126_73, x126_76, x126_77, x126_78, x126_79, x126_82, x126_85, x126_86, x126_87, x126_90, x126_91, x126_92, x126_95, Option.bind_some, Option.toList_some, Option.toList_none, List.cons_append, List.nil_append, Int.toNat_natCast, Int.toNat_zero, z_w_id, z_b_0, z_b_1, z_b_n0, z_b_t, z_b_f, ↓reduceIte, Int.reduceEq, Int.reduceLT, Int.reduceLE, Int.reduceToNat, not_true_eq_false, not_false_eq_true, false_and, and_false, true_and, and_true, false_or, or_false, true_or, or_true]) | split)
    all_goals rfl
  | succ n ih =>
    intro i e
    have ih' := ih (i + 1) (by omega)
    rw [← z_st_succ (Nat.zero_le i)] at ih'
    simp only [Int.natCast_add, Int.natCast_one] at ih'
    have ei : (1500 + (i : Int)).toNat = i + 1500 := by omega
    have eg : z_st M 32 0 i (fun j => M 0 32 (j + 1500)) 0 32 (i + 1500) = M 0 32 (i + 1500) := z_st_ge (Or.inr (by omega))
    rw [x126_10]
    repeat' (first | (exfalso; omega) | (simp (disch := first | omega | assumption | exact z_b_01) only [x126_0, x126_1, x126_4, x126_5, x126_8, x126_9, x126_11, x126_14, x126_17, x126_18, x126_21, x126_22, x126_23, x126_26, x126_29, x126_30, x126_31, x126_32, x126_33, x126_36, x126_40, x126_41, x126_44, x126_45, x126_46, x126_49, x126_50, x126_52, x126_55, x126_58, x126_59, x126_62, x126_65, x126_66, x126_69, x126_70, x126_71, x126_72, x126_73, x126_76, x126_77, x126_78, x126_79, x126_82, x126_85, x126_86, x126_87, x126_90, x126_91, x126_92, x126_95, Option.bind_some, Option.toList_some, Option.toList_none, List.cons_append, List.nil_append, Int.toNat_natCast, Int.toNat_zero, z_w_id, z_b_0, z_b_1, z_b_n0, z_b_t, z_b_f, ↓reduceIte, Int.reduceEq, Int.reduceLT, Int.reduceLE, Int.reduceToNat, not_true_eq_false, not_false_eq_true, false_and, and_false, true_and, and_true, false_or, or_false, true_or, or_true, z_st_o, ei, eg, ih']) | split)
    all_goals rfl
theorem k_put_loop {M : z_M} {h : Nat} (hh : h < 4) (hs : M 0 30 4 = (h : Int)) : ∀ n i : Nat, i + n = 1500 → z_ex 126 51 [some (.inr (some (0, 30))), some (.inl (i : Int))] [] (z_st M 32 (1500 * h) (1500 * h + i) (fun j => M 0 34 (j - 1500 * h))) = some (none, z_up (z_st M 32 (1500 * h) (1500 * h + 1500) (fun j => M 0 34 (j - 1500 * h))) 0 30 4 ((h : Int) + 1)) := by
  intro n
  induction n with
  | zero =>
    intro i e
    obtain rfl : i = 1500 := by omega
    rw [x126_51]
    repeat' (first | (exfalso; omega) | (simp (disch := first | omega | assumption | exact z_b_01) only [x126_0, x126_1, x126_4, x126_5, x126_8, x126_9, x126_10, x126_11, x126_14, x126_17, x126_18, x126_21, x126_22, x126_23, x126_26, x126_29, x126_30, x126_31, x126_32, x126_33, x126_36, x126_39, x126_40, x126_41, x126_44, x126_45, x126_46, x126_49, x126_50, x126_52, x126_55, x126_58, x126_59, x126_62, x126_65, x126_66, x126_69, x126_70, x126_71, x126_72, x126_73, x126_76, x126_77, x126_78, x126_79, x126_82, x126_85, x126_86, x126_87, x126_90, x126_91, x126_92, x126_95, Option.bind_some, Option.toList_some, Option.toList_none, List.cons_append, List.nil_append, Int.toNat_natCast, Int.toNat_zero, z_w_id, z_b_0, z_b_1, z_b_n0, z_b_t, z_b_f, ↓reduceIte, Int.reduceEq, Int.reduceLT, Int.reduceLE, Int.reduceToNat, not_true_eq_false, not_false_eq_true, false_and, and_false, true_and, and_true, false_or, or_false, true_or, or_true, z_st_o, hs]) | split)
    all_goals rfl
  | succ n ih =>
    intro i e
    have ih' := ih (i + 1) (by omega)
    rw [show 1500 * h + (i + 1) = 1500 * h + i + 1 by omega, ← z_st_succ (Nat.le_add_right (1500 * h) i)] at ih'
    simp only [Int.natCast_add, Int.natCast_one] at ih'
    rw [show 1500 * h + i - 1500 * h = i by omega] at ih'
    have ei : (1500 * (h : Int) + (i : Int)).toNat = 1500 * h + i := by omega
    rw [x126_51]
    repeat' (first | (exfalso; omega) | (simp (disch := first | omega | assumption | exact z_b_01) only [x126_0, x126_1, x126_4, x126_5, x126_8, x126_9, x126_10, x126_11, x126_14, x126_17, x126_18, x126_21, x126_22, x126_23, x126_26, x126_29, x126_30, x126_31, x126_32, x126_33, x126_36, x126_39, x126_40, x126_41, x126_44, x126_45, x126_46, x126_49, x126_50, x126_52, x126_55, x126_58, x126_59, x126_62, x126_65, x126_66, x126_69, x126_70, x126_71, x126_72, x126_73, x126_76, x126_77, x126_78, x126_79, x126_82, x126_85, x126_86, x126_87, x126_90, x126_91, x126_92, x126_95, Option.bind_some, Option.toList_some, Option.toList_none, List.cons_append, List.nil_append, Int.toNat_natCast, Int.toNat_zero, z_w_id, z_b_0, z_b_1, z_b_n0, z_b_t, z_b_f, ↓reduceIte, Int.reduceEq, Int.reduceLT, Int.reduceLE, Int.reduceToNat, not_true_eq_false, not_false_eq_true, false_and, and_false, true_and, and_true, false_or, or_false, true_or, or_true, z_st_o, hs, ei, ih']) | split)
    all_goals rfl
/-- record: the state that was before goes behind the others -/
def m_rec (M : z_M) : z_M := if M 0 30 4 = 4 then z_up (z_st (z_up (z_st M 32 0 4500 (fun j => M 0 32 (j + 1500))) 0 30 4 3) 32 4500 6000 (fun j => M 0 34 (j - 4500))) 0 30 4 4
  else z_up (z_st M 32 (1500 * (M 0 30 4).toNat) (1500 * (M 0 30 4).toNat + 1500) (fun j => M 0 34 (j - 1500 * (M 0 30 4).toNat))) 0 30 4 (M 0 30 4 + 1)
theorem k_record {M : z_M} (h : 0 ≤ M 0 30 4 ∧ M 0 30 4 ≤ 4) : z_ev 126 [.inr (some (0, 30))] M = some (none, m_rec M) := by
  unfold m_rec
  by_cases h4 : M 0 30 4 = 4
  · rw [if_pos h4]
    have k1 := k_shift_loop (M := M) 4500 0 (by omega)
    rw [z_st_nil] at k1
    have k2 := k_put_loop (M := z_up (z_st M 32 0 4500 (fun j => M 0 32 (j + 1500))) 0 30 4 3) (h := 3) (by decide) (z_up_at _ _ _ _ _) 1500 0 (by omega)
    simp only [Nat.reduceMul, Nat.add_zero, z_st_nil, Nat.reduceAdd, Int.cast_ofNat_Int, Int.natCast_zero, Int.reduceAdd] at k2 k1
    have e34 : ∀ j, z_up (z_st M 32 0 4500 (fun j => M 0 32 (j + 1500))) 0 30 4 3 0 34 j = M 0 34 j := fun j => by rw [z_up_ne (by omega), z_st_o (by decide)]
    simp only [e34] at k2
    rw [x126]
    repeat' (first | (exfalso; omega) | (simp (disch := first | omega | assumption | exact z_b_01) only [x126_0, x126_1, x126_4, x126_5, x126_8, x126_9, x126_11, x126_14, x126_17, x126_18, x126_21, x126_22, x126_23, x126_26, x126_29, x126_30, x126_31, x126_32, x126_33, x126_36, x126_40, x126_41, x126_44, x126_45, x126_46, x126_49, x126_50, x126_52, x126_55, x126_58, x126_59, x126_62, x126_65, x126_66, x126_69, x126_70, x126_71, x126_72, x126_73, x126_76, x126_77, x126_78, x126_79, x126_82, x126_85, x126_86, x126_87, x126_90, x126_91, x126_92, x126_95, Option.bind_some, Option.toList_some, Option.toList_none, List.cons_append, List.nil_append, Int.toNat_natCast, Int.toNat_zero, z_w_id, z_b_0, z_b_1, z_b_n0, z_b_t, z_b_f, ↓reduceIte, Int.reduceEq, Int.reduceLT, Int.reduceLE, Int.reduceToNat, not_true_eq_false, not_false_eq_true, false_and, and_false, true_and, and_true, false_or, or_false, true_or, or_true, h4, k1]) | split)
    rw [x126_39]
    repeat' (first | (exfalso; omega) | (simp (disch := first | omega | assumption | exact z_b_01) only [x126_0, x126_1, x126_4, x126_5, x126_8, x126_9, x126_11, x126_14, x126_17, x126_18, x126_21, x126_22, x126_23, x126_26, x126_29, x126_30, x126_31, x126_32, x126_33, x126_36, x126_40, x126_41, x126_44, x126_45, x126_46, x126_49, x126_50, x126_52, x126_55, x126_58, x126_59, x126_62, x126_65, x126_66, x126_69, x126_70, x126_71, x126_72, x126_73, x126_76, x126_77, x126_78, x126_79, x126_82, x126_85, x126_86, x126_87, x126_90, x126_91, x126_92, x126_95, Option.bind_some, Option.toList_some, Option.toList_none, List.cons_append, List.nil_append, Int.toNat_natCast, Int.toNat_zero, z_w_id, z_b_0, z_b_1, z_b_n0, z_b_t, z_b_f, ↓reduceIte, Int.reduceEq, Int.reduceLT, Int.reduceLE, Int.reduceToNat, not_true_eq_false, not_false_eq_true, false_and, and_false, true_and, and_true, false_or, or_false, true_or, or_true, h4, z_st_o]) | split)
    exact k2
  · rw [if_neg h4]
    obtain ⟨n, hn⟩ : ∃ n : Nat, M 0 30 4 = (n : Int) := ⟨(M 0 30 4).toNat, by omega⟩
    have k2 := k_put_loop (M := M) (h := n) (by omega) hn 1500 0 (by omega)
    rw [Nat.add_zero, z_st_nil] at k2
    simp only [Int.natCast_zero] at k2
    rw [hn, Int.toNat_natCast, x126]
    repeat' (first | (exfalso; omega) | (simp (disch := first | omega | assumption | exact z_b_01) only [x126_0, x126_1, x126_4, x126_5, x126_8, x126_9, x126_11, x126_14, x126_17, x126_18, x126_21, x126_22, x126_23, x126_26, x126_29, x126_30, x126_31, x126_32, x126_33, x126_36, x126_40, x126_41, x126_44, x126_45, x126_46, x126_49, x126_50, x126_52, x126_55, x126_58, x126_59, x126_62, x126_65, x126_66, x126_69, x126_70, x126_71, x126_72, x126_73, x126_76, x126_77, x126_78, x126_79, x126_82, x126_85, x126_86, x126_87, x126_90, x126_91, x126_92, x126_95, Option.bind_some, Option.toList_some, Option.toList_none, List.cons_append, List.nil_append, Int.toNat_natCast, Int.toNat_zero, z_w_id, z_b_0, z_b_1, z_b_n0, z_b_t, z_b_f, ↓reduceIte, Int.reduceEq, Int.reduceLT, Int.reduceLE, Int.reduceToNat, not_true_eq_false, not_false_eq_true, false_and, and_false, true_and, and_true, false_or, or_false, true_or, or_true, hn]) | split)
    all_goals exact k2
theorem k_mbegin {M : z_M} (h : 0 ≤ M 0 30 4 ∧ M 0 30 4 ≤ 4) : z_ev 91 [.inr (some (0, 30))] M = some (none, m_rec (z_st M 34 0 1500 (M 0 31))) := by
  have k1 := k_remember M
  have k2 := k_record (M := z_st M 34 0 1500 (M 0 31)) (by rw [z_st_o (by decide)]; exact h)
  rw [x91]
  repeat' (first | (exfalso; omega) | (simp (disch := first | omega | assumption | exact z_b_01) only [x91_0, x91_1, x91_4, x91_5, x91_8, Option.bind_some, Option.toList_some, Option.toList_none, List.cons_append, List.nil_append, Int.toNat_natCast, Int.toNat_zero, z_w_id, z_b_0, z_b_1, z_b_n0, z_b_t, z_b_f, ↓reduceIte, Int.reduceEq, Int.reduceLT, Int.reduceLE, Int.reduceToNat, not_true_eq_false, not_false_eq_true, false_and, and_false, true_and, and_true, false_or, or_false, true_or, or_true, k1, k2]) | split)
