/-! loops over classes; a job is let in -/
def s_rg (n : Nat) : List Nat := List.range' 0 n
theorem k_heldOf_loop {s : Fin 7} {M : z_M} (h8 : M s 2 0 ≤ 8) (g : Int) : ∀ (n i : Nat) (sum : Int), (i : Int) + n = M s 2 0 → 0 ≤ sum → sum + n ≤ 200 → z_ex 4 4 [some (.inr (some (s, 2))), some (.inl g), some (.inl sum), some (.inl (i : Int))] [] M = some (some (.inl (sum + s_sum (List.range' i n) fun c => if M s 7 c = g then 1 else 0)), M) := by
  intro n
  induction n with
  | zero =>
    intro i sum e hs hb
    rw [x4_4]
    repeat' (first | (exfalso; omega) | (simp (disch := first | omega | assumption | exact z_b_01) only [x4_0, x4_1, x4_2, x4_3, x4_5, x4_6, x4_9, x4_12, x4_13, x4_15, x4_18, x4_19, x4_22, x4_23, x4_24, x4_25, x4_28, x4_31, x4_34, x4_37, x4_38, Option.bind_some, Option.toList_some, Option.toList_none, List.cons_append, List.nil_append, Int.toNat_natCast, Int.toNat_zero, z_w_id, z_b_0, z_b_1, z_b_n0, z_b_t, z_b_f, ↓reduceIte, Int.reduceEq, Int.reduceLT, Int.reduceLE, Int.reduceToNat, not_true_eq_false, not_false_eq_true, false_and, and_false, true_and, and_true, false_or, or_false, true_or, or_true, k_Classes_has]) | split)
    all_goals (refine z_ri ?_ rfl; simp only [List.range'_zero, s_sum_nil]; omega)
  | succ n ih =>
    intro i sum e hs hb
    have ih' := fun (sum : Int) (h1 : 0 ≤ sum) (h2 : sum + n ≤ 200) => ih (i + 1) sum (by omega) h1 h2
    simp only [Int.natCast_add, Int.natCast_one] at ih'
    rw [x4_4]
    repeat' (first | (exfalso; omega) | (simp (disch := first | omega | assumption | exact z_b_01) only [x4_0, x4_1, x4_2, x4_3, x4_5, x4_6, x4_9, x4_12, x4_13, x4_15, x4_18, x4_19, x4_22, x4_23, x4_24, x4_25, x4_28, x4_31, x4_34, x4_37, x4_38, Option.bind_some, Option.toList_some, Option.toList_none, List.cons_append, List.nil_append, Int.toNat_natCast, Int.toNat_zero, z_w_id, z_b_0, z_b_1, z_b_n0, z_b_t, z_b_f, ↓reduceIte, Int.reduceEq, Int.reduceLT, Int.reduceLE, Int.reduceToNat, not_true_eq_false, not_false_eq_true, false_and, and_false, true_and, and_true, false_or, or_false, true_or, or_true, k_Classes_has, ih']) | split)
    all_goals (refine z_ri ?_ rfl; simp only [List.range'_succ, s_sum_cons]; (repeat' split) <;> omega)
theorem k_heldOf {s : Fin 7} {M : z_M} (h0 : 0 ≤ M s 2 0) (h8 : M s 2 0 ≤ 8) (g : Int) : z_ev 4 [.inr (some (s, 2)), .inl g] M = some (some (.inl (s_sum (s_rg (M s 2 0).toNat) fun c => if M s 7 c = g then 1 else 0)), M) := by
  have h := k_heldOf_loop h8 g (M s 2 0).toNat 0 0 (by omega) (by omega) (by omega)
  rw [x4]
  simp (disch := first | omega | assumption) only [x4_0, x4_1, x4_2, x4_3, x4_5, x4_6, x4_9, x4_12, x4_13, x4_15, x4_18, x4_19, x4_22, x4_23, x4_24, x4_25, x4_28, x4_31, x4_34, x4_37, x4_38, Option.bind_some, Option.toList_some, Option.toList_none, List.cons_append, List.nil_append, Int.toNat_natCast, Int.toNat_zero, z_w_id, z_b_0, z_b_1, z_b_n0, z_b_t, z_b_f, ↓reduceIte, Int.reduceEq, Int.reduceLT, Int.reduceLE, Int.reduceToNat, not_true_eq_false, not_false_eq_true, false_and, and_false, true_and, and_true, false_or, or_false, true_or, or_true]
  exact h.trans (z_ri (by unfold s_rg; omega) rfl)
theorem k_unitsOf_loop {s : Fin 7} {M : z_M} (h8 : M s 2 0 ≤ 8) (hu : ∀ c : Nat, (c : Int) < M s 2 0 → 0 ≤ M s 15 c ∧ M s 15 c ≤ 30000) (g : Int) : ∀ (n i : Nat) (sum : Int), (i : Int) + n = M s 2 0 → 0 ≤ sum → sum + 30000 * n ≤ 1000000 → z_ex 6 4 [some (.inr (some (s, 2))), some (.inl g), some (.inl sum), some (.inl (i : Int))] [] M = some (some (.inl (sum + s_sum (List.range' i n) fun c => if M s 7 c = g then M s 15 c else 0)), M) := by
  intro n
  induction n with
  | zero =>
    intro i sum e hs hb
    rw [x6_4]
    repeat' (first | (exfalso; omega) | (simp (disch := first | omega | assumption | exact z_b_01) only [x6_0, x6_1, x6_2, x6_3, x6_5, x6_6, x6_9, x6_12, x6_13, x6_15, x6_18, x6_19, x6_22, x6_23, x6_24, x6_25, x6_28, x6_29, x6_30, x6_33, x6_34, x6_35, x6_36, x6_37, x6_40, x6_43, x6_44, Option.bind_some, Option.toList_some, Option.toList_none, List.cons_append, List.nil_append, Int.toNat_natCast, Int.toNat_zero, z_w_id, z_b_0, z_b_1, z_b_n0, z_b_t, z_b_f, ↓reduceIte, Int.reduceEq, Int.reduceLT, Int.reduceLE, Int.reduceToNat, not_true_eq_false, not_false_eq_true, false_and, and_false, true_and, and_true, false_or, or_false, true_or, or_true, k_Classes_has]) | split)
    all_goals (refine z_ri ?_ rfl; simp only [List.range'_zero, s_sum_nil]; omega)
  | succ n ih =>
    intro i sum e hs hb
    have hu' := hu i (by omega)
    have ih' := fun (sum : Int) (h1 : 0 ≤ sum) (h2 : sum + 30000 * n ≤ 1000000) => ih (i + 1) sum (by omega) h1 h2
    simp only [Int.natCast_add, Int.natCast_one] at ih'
    rw [x6_4]
    repeat' (first | (exfalso; omega) | (simp (disch := first | omega | assumption | exact z_b_01) only [x6_0, x6_1, x6_2, x6_3, x6_5, x6_6, x6_9, x6_12, x6_13, x6_15, x6_18, x6_19, x6_22, x6_23, x6_24, x6_25, x6_28, x6_29, x6_30, x6_33, x6_34, x6_35, x6_36, x6_37, x6_40, x6_43, x6_44, Option.bind_some, Option.toList_some, Option.toList_none, List.cons_append, List.nil_append, Int.toNat_natCast, Int.toNat_zero, z_w_id, z_b_0, z_b_1, z_b_n0, z_b_t, z_b_f, ↓reduceIte, Int.reduceEq, Int.reduceLT, Int.reduceLE, Int.reduceToNat, not_true_eq_false, not_false_eq_true, false_and, and_false, true_and, and_true, false_or, or_false, true_or, or_true, k_Classes_has, ih']) | split)
    all_goals (refine z_ri ?_ rfl; simp only [List.range'_succ, s_sum_cons]; (repeat' split) <;> omega)
theorem k_unitsOf {s : Fin 7} {M : z_M} (h0 : 0 ≤ M s 2 0) (h8 : M s 2 0 ≤ 8) (hu : ∀ c : Nat, (c : Int) < M s 2 0 → 0 ≤ M s 15 c ∧ M s 15 c ≤ 30000) (g : Int) : z_ev 6 [.inr (some (s, 2)), .inl g] M = some (some (.inl (s_sum (s_rg (M s 2 0).toNat) fun c => if M s 7 c = g then M s 15 c else 0)), M) := by
  have h := k_unitsOf_loop h8 hu g (M s 2 0).toNat 0 0 (by omega) (by omega) (by omega)
  rw [x6]
  simp (disch := first | omega | assumption) only [x6_0, x6_1, x6_2, x6_3, x6_5, x6_6, x6_9, x6_12, x6_13, x6_15, x6_18, x6_19, x6_22, x6_23, x6_24, x6_25, x6_28, x6_29, x6_30, x6_33, x6_34, x6_35, x6_36, x6_37, x6_40, x6_43, x6_44, Option.bind_some, Option.toList_some, Option.toList_none, List.cons_append, List.nil_append, Int.toNat_natCast, Int.toNat_zero, z_w_id, z_b_0, z_b_1, z_b_n0, z_b_t, z_b_f, ↓reduceIte, Int.reduceEq, Int.reduceLT, Int.reduceLE, Int.reduceToNat, not_true_eq_false, not_false_eq_true, false_and, and_false, true_and, and_true, false_or, or_false, true_or, or_true]
  exact h.trans (z_ri (by unfold s_rg; omega) rfl)
def a_fill (A : Nat → Nat → Int) (t : Int) (k : Nat) : Nat → Nat → Int := fun o j => if o = 12 ∧ j < k then (if A 12 j + A 11 j * t < A 10 j then A 12 j + A 11 j * t else A 10 j) else A o j
theorem a_fill_o {A : Nat → Nat → Int} {t : Int} {k o j : Nat} (h : o ≠ 12) : a_fill A t k o j = A o j := by unfold a_fill; rw [if_neg (fun q => h q.1)]
theorem a_fill_ge {A : Nat → Nat → Int} {t : Int} {k o j : Nat} (h : k ≤ j) : a_fill A t k o j = A o j := by unfold a_fill; rw [if_neg (fun q => by omega)]
theorem a_fill_succ (A : Nat → Nat → Int) (t : Int) (k : Nat) : a_u (a_fill A t k) 12 k (if A 12 k + A 11 k * t < A 10 k then A 12 k + A 11 k * t else A 10 k) = a_fill A t (k + 1) := by
  funext o j
  unfold a_u a_fill
  by_cases h : o = 12 ∧ j = k
  · rw [if_pos h, if_pos (show o = 12 ∧ j < k + 1 by omega), h.2]
  · rw [if_neg h]
    by_cases h2 : o = 12 ∧ j < k
    · rw [if_pos h2, if_pos (show o = 12 ∧ j < k + 1 by omega)]
    · rw [if_neg h2, if_neg (show ¬ (o = 12 ∧ j < k + 1) by omega)]
theorem k_fill_loop {s : Fin 7} {M : z_M} {A : Nat → Nat → Int} (hC : i_C A) (h8 : A 2 0 ≤ 8) {t : Int} (ht : 0 ≤ t ∧ t ≤ 500) : ∀ (n i : Nat), (i : Int) + n = A 2 0 → z_ex 2 2 [some (.inr (some (s, 2))), some (.inl t), some (.inl (i : Int))] [] (z_ur M s (a_fill A t i)) = some (none, z_ur M s (a_fill A t (i + n))) := by
  intro n
  induction n with
  | zero =>
    intro i e
    rw [x2_2]
    repeat' (first | (exfalso; omega) | (simp (disch := first | omega | assumption | exact z_b_01) only [x2_0, x2_1, x2_3, x2_4, x2_7, x2_10, x2_11, x2_13, x2_16, x2_17, x2_20, x2_21, x2_22, x2_25, x2_26, x2_27, x2_28, x2_31, x2_32, x2_33, x2_34, x2_37, x2_38, x2_39, x2_40, x2_41, x2_42, x2_45, x2_46, x2_49, x2_52, Option.bind_some, Option.toList_some, Option.toList_none, List.cons_append, List.nil_append, Int.toNat_natCast, Int.toNat_zero, z_w_id, z_b_0, z_b_1, z_b_n0, z_b_t, z_b_f, ↓reduceIte, Int.reduceEq, Int.reduceLT, Int.reduceLE, Int.reduceToNat, not_true_eq_false, not_false_eq_true, false_and, and_false, true_and, and_true, false_or, or_false, true_or, or_true, k_Classes_has, z_ur_get, a_fill_o]) | split)
    all_goals rfl
  | succ n ih =>
    intro i e
    have h1 := hC i (by omega)
    have hm : 0 ≤ A 11 i * t ∧ A 11 i * t ≤ 10000 := by
      refine ⟨Int.mul_nonneg (by omega) ht.1, ?_⟩
      have := Int.mul_le_mul (a := A 11 i) (b := t) (c := 20) (d := 500) (by omega) ht.2 ht.1 (by omega)
      omega
    have ih' := ih (i + 1) (by omega)
    simp only [Int.natCast_add, Int.natCast_one] at ih'
    rw [show i + (n + 1) = i + 1 + n by omega, ← ih', ← a_fill_succ]
    rw [x2_2]
    repeat' (first | (exfalso; omega) | (simp (disch := first | omega | assumption | exact z_b_01) only [x2_0, x2_1, x2_3, x2_4, x2_7, x2_10, x2_11, x2_13, x2_16, x2_17, x2_20, x2_21, x2_22, x2_25, x2_26, x2_27, x2_28, x2_31, x2_32, x2_33, x2_34, x2_37, x2_38, x2_39, x2_40, x2_41, x2_42, x2_45, x2_46, x2_49, x2_52, Option.bind_some, Option.toList_some, Option.toList_none, List.cons_append, List.nil_append, Int.toNat_natCast, Int.toNat_zero, z_w_id, z_b_0, z_b_1, z_b_n0, z_b_t, z_b_f, ↓reduceIte, Int.reduceEq, Int.reduceLT, Int.reduceLE, Int.reduceToNat, not_true_eq_false, not_false_eq_true, false_and, and_false, true_and, and_true, false_or, or_false, true_or, or_true, k_Classes_has, z_ur_get, z_up_ur, a_fill_o, a_fill_ge]) | split)
    all_goals rfl
theorem k_fill {s : Fin 7} {M : z_M} {A : Nat → Nat → Int} (hC : i_C A) (h0 : 0 ≤ A 2 0) (h8 : A 2 0 ≤ 8) {t : Int} (ht : 0 ≤ t ∧ t ≤ 500) : z_ev 2 [.inr (some (s, 2)), .inl t] (z_ur M s A) = some (none, z_ur M s (a_fill A t (A 2 0).toNat)) := by
  have h := k_fill_loop (s := s) (M := M) hC h8 ht (A 2 0).toNat 0 (by omega)
  have e0 : a_fill A t 0 = A := by funext o j; exact a_fill_ge (Nat.zero_le _)
  rw [e0, Nat.zero_add] at h
  rw [x2]
  simp (disch := first | omega | assumption) only [x2_0, x2_1, x2_3, x2_4, x2_7, x2_10, x2_11, x2_13, x2_16, x2_17, x2_20, x2_21, x2_22, x2_25, x2_26, x2_27, x2_28, x2_31, x2_32, x2_33, x2_34, x2_37, x2_38, x2_39, x2_40, x2_41, x2_42, x2_45, x2_46, x2_49, x2_52, Option.bind_some, Option.toList_some, Option.toList_none, List.cons_append, List.nil_append, Int.toNat_natCast, Int.toNat_zero, z_w_id, z_b_0, z_b_1, z_b_n0, z_b_t, z_b_f, ↓reduceIte, Int.reduceEq, Int.reduceLT, Int.reduceLE, Int.reduceToNat, not_true_eq_false, not_false_eq_true, false_and, and_false, true_and, and_true, false_or, or_false, true_or, or_true]
  exact h
def a_zero (A : Nat → Nat → Int) (k : Nat) : Nat → Nat → Int := fun o j => if o = 15 ∧ j < k then 0 else A o j
theorem a_zero_o {A : Nat → Nat → Int} {k o j : Nat} (h : o ≠ 15) : a_zero A k o j = A o j := by unfold a_zero; rw [if_neg (fun q => h q.1)]
theorem a_zero_ge {A : Nat → Nat → Int} {k o j : Nat} (h : k ≤ j) : a_zero A k o j = A o j := by unfold a_zero; rw [if_neg (fun q => by omega)]
theorem a_zero_succ (A : Nat → Nat → Int) (k : Nat) : a_u (a_zero A k) 15 k 0 = a_zero A (k + 1) := by
  funext o j
  unfold a_u a_zero
  by_cases h : o = 15 ∧ j = k
  · rw [if_pos h, if_pos (by omega)]
  · rw [if_neg h]
    by_cases h2 : o = 15 ∧ j < k
    · rw [if_pos h2, if_pos (by omega)]
    · rw [if_neg h2, if_neg (by omega)]
theorem k_take_loop {s : Fin 7} {M : z_M} {A : Nat → Nat → Int} (hC : i_C A) (h8 : A 2 0 ≤ 8) : ∀ (n i : Nat) (sum : Int), (i : Int) + n = A 2 0 → 0 ≤ sum → sum + 30000 * n ≤ 1000000 → z_ex 5 4 [some (.inr (some (s, 2))), some (.inl sum), some (.inl (i : Int))] [] (z_ur M s (a_zero A i)) = some (some (.inl (sum + s_sum (List.range' i n) fun c => A 15 c)), z_ur M s (a_zero A (i + n))) := by
  intro n
  induction n with
  | zero =>
    intro i sum e hs hb
    rw [x5_4]
    repeat' (first | (exfalso; omega) | (simp (disch := first | omega | assumption | exact z_b_01) only [x5_0, x5_1, x5_2, x5_3, x5_5, x5_6, x5_9, x5_12, x5_13, x5_15, x5_18, x5_19, x5_20, x5_23, x5_24, x5_25, x5_26, x5_27, x5_28, x5_31, x5_32, x5_33, x5_34, x5_37, x5_40, x5_41, Option.bind_some, Option.toList_some, Option.toList_none, List.cons_append, List.nil_append, Int.toNat_natCast, Int.toNat_zero, z_w_id, z_b_0, z_b_1, z_b_n0, z_b_t, z_b_f, ↓reduceIte, Int.reduceEq, Int.reduceLT, Int.reduceLE, Int.reduceToNat, not_true_eq_false, not_false_eq_true, false_and, and_false, true_and, and_true, false_or, or_false, true_or, or_true, k_Classes_has, z_ur_get, a_zero_o]) | split)
    all_goals (refine z_ri ?_ rfl; simp only [List.range'_zero, s_sum_nil]; omega)
  | succ n ih =>
    intro i sum e hs hb
    have h1 := hC i (by omega)
    have ih' := ih (i + 1) (sum + A 15 i) (by omega) (by omega) (by omega)
    simp only [Int.natCast_add, Int.natCast_one] at ih'
    rw [show i + (n + 1) = i + 1 + n by omega, List.range'_succ, s_sum_cons, ← Int.add_assoc, ← ih', ← a_zero_succ]
    rw [x5_4]
    repeat' (first | (exfalso; omega) | (simp (disch := first | omega | assumption | exact z_b_01) only [x5_0, x5_1, x5_2, x5_3, x5_5, x5_6, x5_9, x5_12, x5_13, x5_15, x5_18, x5_19, x5_20, x5_23, x5_24, x5_25, x5_26, x5_27, x5_28, x5_31, x5_32, x5_33, x5_34, x5_37, x5_40, x5_41, Option.bind_some, Option.toList_some, Option.toList_none, List.cons_append, List.nil_append, Int.toNat_natCast, Int.toNat_zero, z_w_id, z_b_0, z_b_1, z_b_n0, z_b_t, z_b_f, ↓reduceIte, Int.reduceEq, Int.reduceLT, Int.reduceLE, Int.reduceToNat, not_true_eq_false, not_false_eq_true, false_and, and_false, true_and, and_true, false_or, or_false, true_or, or_true, k_Classes_has, z_ur_get, z_up_ur, a_zero_o, a_zero_ge]) | split)
    all_goals rfl
theorem k_take {s : Fin 7} {M : z_M} {A : Nat → Nat → Int} (hC : i_C A) (h0 : 0 ≤ A 2 0) (h8 : A 2 0 ≤ 8) : z_ev 5 [.inr (some (s, 2))] (z_ur M s A) = some (some (.inl (s_sum (s_rg (A 2 0).toNat) fun c => A 15 c)), z_ur M s (a_zero A (A 2 0).toNat)) := by
  have h := k_take_loop (s := s) (M := M) hC h8 (A 2 0).toNat 0 0 (by omega) (by omega) (by omega)
  have e0 : a_zero A 0 = A := by funext o j; exact a_zero_ge (Nat.zero_le _)
  rw [e0, Nat.zero_add] at h
  rw [x5]
  simp (disch := first | omega | assumption) only [x5_0, x5_1, x5_2, x5_3, x5_5, x5_6, x5_9, x5_12, x5_13, x5_15, x5_18, x5_19, x5_20, x5_23, x5_24, x5_25, x5_26, x5_27, x5_28, x5_31, x5_32, x5_33, x5_34, x5_37, x5_40, x5_41, Option.bind_some, Option.toList_some, Option.toList_none, List.cons_append, List.nil_append, Int.toNat_natCast, Int.toNat_zero, z_w_id, z_b_0, z_b_1, z_b_n0, z_b_t, z_b_f, ↓reduceIte, Int.reduceEq, Int.reduceLT, Int.reduceLE, Int.reduceToNat, not_true_eq_false, not_false_eq_true, false_and, and_false, true_and, and_true, false_or, or_false, true_or, or_true]
  exact h.trans (z_ri (by unfold s_rg; omega) rfl)
def a_admit (A : Nat → Nat → Int) (c : Nat) (z : Int) : Nat → Nat → Int := a_append (a_u A 12 c (A 12 c - z)) c z (A 0 3)
theorem k_admit {s : Fin 7} {M : z_M} {A : Nat → Nat → Int} {c : Nat} (hc : (c : Int) < A 2 0) (h8 : A 2 0 ≤ 8) (ht : 0 ≤ A 12 c ∧ A 12 c ≤ 500) {z : Int} (hz : 0 ≤ z ∧ z ≤ 99) (h0 : 0 ≤ A 3 0) (h1 : A 3 0 < 200) (h2 : 0 ≤ A 3 5) (h3 : A 3 5 < 60) :
    z_ev 26 [.inr (some (s, 0)), .inl (c : Int), .inl z] (z_ur M s A) = some (some (.inl (A 3 0)), z_ur M s (a_admit A c z)) := by
  have k := k_Jobs_append (s := s) (M := M) (A := a_u A 12 c (A 12 c - z)) (by rw [a_u_o (by decide)]; exact h0) (by rw [a_u_o (by decide)]; exact h1) (by rw [a_u_o (by decide)]; exact h2) (by rw [a_u_o (by decide)]; exact h3) c z (A 0 3)
  rw [a_u_o (by decide)] at k
  rw [x26]
  repeat' (first | (exfalso; omega) | (simp (disch := first | omega | assumption | exact z_b_01) only [x26_0, x26_1, x26_4, x26_5, x26_8, x26_11, x26_12, x26_13, x26_14, x26_17, x26_20, x26_21, x26_22, x26_23, x26_24, x26_25, x26_26, x26_27, x26_30, x26_31, x26_32, x26_33, x26_36, x26_39, Option.bind_some, Option.toList_some, Option.toList_none, List.cons_append, List.nil_append, Int.toNat_natCast, Int.toNat_zero, z_w_id, z_b_0, z_b_1, z_b_n0, z_b_t, z_b_f, ↓reduceIte, Int.reduceEq, Int.reduceLT, Int.reduceLE, Int.reduceToNat, not_true_eq_false, not_false_eq_true, false_and, and_false, true_and, and_true, false_or, or_false, true_or, or_true, k_Classes_has, z_ur_get, z_up_ur, a_u_o, k]) | split)
  all_goals rfl
