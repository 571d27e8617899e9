/-! State: what is told -/
def i_G (A : Nat → Nat → Int) : Prop := (0 ≤ A 1 0 ∧ A 1 0 ≤ 3) ∧ (0 ≤ A 2 0 ∧ A 2 0 ≤ 8) ∧ 0 ≤ A 0 3 ∧ A 0 3 ≤ 30000
def i_J (A : Nat → Nat → Int) : Prop := ∀ j : Nat, (j : Int) < A 3 0 → (0 ≤ A 16 j ∧ A 16 j < A 2 0) ∧ (1 ≤ A 17 j ∧ A 17 j ≤ 99) ∧ (0 ≤ A 18 j ∧ A 18 j ≤ A 0 3) ∧ (-5 ≤ A 19 j ∧ A 19 j ≤ 30000)
abbrev a_old (A : Nat → Nat → Int) (j : Nat) : Prop := ¬ A 13 (A 16 j).toNat = 0 ∧ A 19 j = -5 ∧ A 13 (A 16 j).toNat ≤ A 0 3 - A 18 j
def a_gr (A : Nat → Nat → Int) (j : Nat) : Int := A 7 (A 16 j).toNat
theorem k_ageFor {s : Fin 7} {M : z_M} (hG : i_G (M s)) (hJ : i_J (M s)) (h200 : M s 3 0 ≤ 200) {j : Nat} (hj : (j : Int) < M s 3 0) : z_ev 27 [.inr (some (s, 0)), .inl (j : Int)] M = some (some (.inl (M s 13 (M s 16 j).toNat)), M) := by
  have h1 := hJ j hj
  have h2 := hG.2.1
  rw [x27]
  repeat' (first | (exfalso; omega) | (simp (disch := first | omega | assumption | exact z_b_01) only [x27_0, x27_1, x27_4, x27_5, x27_8, x27_11, x27_12, x27_15, x27_16, x27_19, x27_22, x27_23, x27_24, x27_27, x27_30, x27_31, x27_32, x27_33, x27_36, x27_39, x27_40, x27_43, x27_46, x27_47, x27_48, x27_49, Option.bind_some, Option.toList_some, Option.toList_none, List.cons_append, List.nil_append, Int.toNat_natCast, Int.toNat_zero, z_w_id, z_b_0, z_b_1, z_b_n0, z_b_t, z_b_f, ↓reduceIte, Int.reduceEq, Int.reduceLT, Int.reduceLE, Int.reduceToNat, not_true_eq_false, not_false_eq_true, false_and, and_false, true_and, and_true, false_or, or_false, true_or, or_true, k_Jobs_has, k_Classes_has]) | split)
  all_goals rfl
theorem k_groupFor {s : Fin 7} {M : z_M} (hG : i_G (M s)) (hJ : i_J (M s)) (h200 : M s 3 0 ≤ 200) {j : Nat} (hj : (j : Int) < M s 3 0) : z_ev 34 [.inr (some (s, 0)), .inl (j : Int)] M = some (some (.inl (a_gr (M s) j)), M) := by
  have h1 := hJ j hj
  have h2 := hG.2.1
  rw [x34]
  repeat' (first | (exfalso; omega) | (simp (disch := first | omega | assumption | exact z_b_01) only [x34_0, x34_1, x34_4, x34_5, x34_8, x34_11, x34_12, x34_15, x34_16, x34_19, x34_22, x34_23, x34_24, x34_27, x34_30, x34_32, x34_33, x34_34, x34_37, x34_40, x34_41, x34_44, x34_47, x34_48, x34_49, x34_50, Option.bind_some, Option.toList_some, Option.toList_none, List.cons_append, List.nil_append, Int.toNat_natCast, Int.toNat_zero, z_w_id, z_b_0, z_b_1, z_b_n0, z_b_t, z_b_f, ↓reduceIte, Int.reduceEq, Int.reduceLT, Int.reduceLE, Int.reduceToNat, not_true_eq_false, not_false_eq_true, false_and, and_false, true_and, and_true, false_or, or_false, true_or, or_true, k_Jobs_has, k_Classes_has]) | split)
  all_goals rfl
theorem k_isOld {s : Fin 7} {M : z_M} (hG : i_G (M s)) (hJ : i_J (M s)) (h200 : M s 3 0 ≤ 200) {j : Nat} (hj : (j : Int) < M s 3 0) : z_ev 35 [.inr (some (s, 0)), .inl (j : Int)] M = some (some (.inl (z_b (a_old (M s) j))), M) := by
  have h1 := hJ j hj
  have h2 := hG.2.1
  have h3 := hG.2.2
  have hc := k_ageFor hG hJ h200 hj
  rw [x35]
  repeat' (first | (exfalso; omega) | (simp (disch := first | omega | assumption | exact z_b_01) only [x35_0, x35_1, x35_2, x35_5, x35_6, x35_7, x35_10, x35_11, x35_14, x35_15, x35_18, x35_21, x35_22, x35_25, x35_26, x35_29, x35_32, x35_33, x35_34, x35_35, x35_36, x35_39, x35_40, x35_43, x35_44, Option.bind_some, Option.toList_some, Option.toList_none, List.cons_append, List.nil_append, Int.toNat_natCast, Int.toNat_zero, z_w_id, z_b_0, z_b_1, z_b_n0, z_b_t, z_b_f, ↓reduceIte, Int.reduceEq, Int.reduceLT, Int.reduceLE, Int.reduceToNat, not_true_eq_false, not_false_eq_true, false_and, and_false, true_and, and_true, false_or, or_false, true_or, or_true, hc, k_isWaiting]) | split)
  all_goals (refine z_ri ?_ rfl; unfold z_b a_old; split <;> omega)

theorem k_firstOld_loop {s : Fin 7} {M : z_M} {l : List Nat} (hG : i_G (M s)) (hJ : i_J (M s)) (hW : c_WL (M s) l) : ∀ (r pre : List Nat) (lj : Option z_V), l = pre ++ r → z_ex 33 2 [some (.inr (some (s, 0))), some (.inl (pre.length : Int)), lj] [] M = some (some (.inl (s_fst r fun j => a_old (M s) j)), M) := by
  intro r
  induction r with
  | nil =>
    intro pre lj e
    have h1 := hW.1
    have h2 := congrArg List.length e
    simp only [List.length_append, List.length_nil] at h2
    rw [x33_2]
    repeat' (first | (exfalso; omega) | (simp (disch := first | omega | assumption | exact z_b_01) only [x33_0, x33_1, x33_3, x33_4, x33_7, x33_10, x33_13, x33_14, x33_17, x33_18, x33_21, x33_22, x33_23, x33_24, x33_27, x33_30, x33_31, x33_32, x33_35, x33_38, x33_40, Option.bind_some, Option.toList_some, Option.toList_none, List.cons_append, List.nil_append, Int.toNat_natCast, Int.toNat_zero, z_w_id, z_b_0, z_b_1, z_b_n0, z_b_t, z_b_f, ↓reduceIte, Int.reduceEq, Int.reduceLT, Int.reduceLE, Int.reduceToNat, not_true_eq_false, not_false_eq_true, false_and, and_false, true_and, and_true, false_or, or_false, true_or, or_true, s_fst_nil]) | split)
    all_goals rfl
  | cons j r ih =>
    intro pre lj e
    have h1 := hW.1
    have h0 := hW.2.1
    have h2 := congrArg List.length e
    simp only [List.length_append, List.length_cons] at h2
    have hp : l[pre.length]? = some j := by rw [e]; simp
    have hj := hW.2.2.2.1 j (List.mem_of_getElem? hp)
    have hc := k_waitingAt hW hp
    have hc2 := k_isOld hG hJ hW.2.2.2.2.1 hj
    have ih' := fun lj => ih (pre ++ [j]) lj (by rw [e]; simp)
    simp only [List.length_append, List.length_cons, List.length_nil, Int.natCast_add, Int.natCast_one, Int.zero_add, Nat.zero_add] at ih'
    rw [x33_2, s_fst_cons]
    by_cases ho : a_old (M s) j
    · rw [z_b_t ho] at hc2
      rw [if_pos ho]
      repeat' (first | (exfalso; omega) | (simp (disch := first | omega | assumption | exact z_b_01) only [x33_0, x33_1, x33_3, x33_4, x33_7, x33_10, x33_13, x33_14, x33_17, x33_18, x33_21, x33_22, x33_23, x33_24, x33_27, x33_30, x33_31, x33_32, x33_35, x33_38, x33_40, Option.bind_some, Option.toList_some, Option.toList_none, List.cons_append, List.nil_append, Int.toNat_natCast, Int.toNat_zero, z_w_id, z_b_0, z_b_1, z_b_n0, z_b_t, z_b_f, ↓reduceIte, Int.reduceEq, Int.reduceLT, Int.reduceLE, Int.reduceToNat, not_true_eq_false, not_false_eq_true, false_and, and_false, true_and, and_true, false_or, or_false, true_or, or_true, hc, hc2]) | split)
      all_goals rfl
    · rw [z_b_f ho] at hc2
      rw [if_neg ho]
      repeat' (first | (exfalso; omega) | (simp (disch := first | omega | assumption | exact z_b_01) only [x33_0, x33_1, x33_3, x33_4, x33_7, x33_10, x33_13, x33_14, x33_17, x33_18, x33_21, x33_22, x33_23, x33_24, x33_27, x33_30, x33_31, x33_32, x33_35, x33_38, x33_40, Option.bind_some, Option.toList_some, Option.toList_none, List.cons_append, List.nil_append, Int.toNat_natCast, Int.toNat_zero, z_w_id, z_b_0, z_b_1, z_b_n0, z_b_t, z_b_f, ↓reduceIte, Int.reduceEq, Int.reduceLT, Int.reduceLE, Int.reduceToNat, not_true_eq_false, not_false_eq_true, false_and, and_false, true_and, and_true, false_or, or_false, true_or, or_true, hc, hc2, ih']) | split)
      all_goals rfl
theorem k_firstOld {s : Fin 7} {M : z_M} {l : List Nat} (hG : i_G (M s)) (hJ : i_J (M s)) (hW : c_WL (M s) l) : z_ev 33 [.inr (some (s, 0))] M = some (some (.inl (s_fst l fun j => a_old (M s) j)), M) := by
  have h := k_firstOld_loop hG hJ hW l [] none rfl
  rw [x33]
  simp (disch := first | omega | assumption) only [x33_0, x33_1, x33_3, x33_4, x33_7, x33_10, x33_13, x33_14, x33_17, x33_18, x33_21, x33_22, x33_23, x33_24, x33_27, x33_30, x33_31, x33_32, x33_35, x33_38, x33_40, Option.bind_some, Option.toList_some, Option.toList_none, List.cons_append, List.nil_append, Int.toNat_natCast, Int.toNat_zero, z_w_id, z_b_0, z_b_1, z_b_n0, z_b_t, z_b_f, ↓reduceIte, Int.reduceEq, Int.reduceLT, Int.reduceLE, Int.reduceToNat, not_true_eq_false, not_false_eq_true, false_and, and_false, true_and, and_true, false_or, or_false, true_or, or_true]
  exact h

theorem k_waitsOfGroup_loop {s : Fin 7} {M : z_M} {l : List Nat} (hW : c_WL (M s) l) (hG : i_G (M s)) (hJ : i_J (M s)) (c : Int) : ∀ (r pre : List Nat) (sum : Int), l = pre ++ r → 0 ≤ sum → sum + 99 * (r.length : Int) ≤ 5940 → z_ex 44 4 [some (.inr (some (s, 0))), some (.inl c), some (.inl sum), some (.inl (pre.length : Int))] [] M = some (some (.inl (sum + s_sum r fun j => if a_gr (M s) j = c then 1 else 0)), M) := by
  intro r
  induction r with
  | nil =>
    intro pre sum e hs hb
    have h1 := hW.1
    have h2 := congrArg List.length e
    simp only [List.length_append, List.length_nil] at h2
    rw [x44_4]
    repeat' (first | (exfalso; omega) | (simp (disch := first | omega | assumption | exact z_b_01) only [x44_0, x44_1, x44_2, x44_3, x44_5, x44_6, x44_9, x44_12, x44_15, x44_16, x44_17, x44_20, x44_21, x44_24, x44_27, x44_28, x44_31, x44_34, x44_37, x44_40, x44_41, Option.bind_some, Option.toList_some, Option.toList_none, List.cons_append, List.nil_append, Int.toNat_natCast, Int.toNat_zero, z_w_id, z_b_0, z_b_1, z_b_n0, z_b_t, z_b_f, ↓reduceIte, Int.reduceEq, Int.reduceLT, Int.reduceLE, Int.reduceToNat, not_true_eq_false, not_false_eq_true, false_and, and_false, true_and, and_true, false_or, or_false, true_or, or_true, s_sum_nil]) | split)
    all_goals (refine z_ri ?_ rfl; omega)
  | cons j r ih =>
    intro pre sum e hs hb
    have h1 := hW.1
    have h0 := hW.2.1
    have h2 := congrArg List.length e
    simp only [List.length_append, List.length_cons] at h2 hb
    have hp : l[pre.length]? = some j := by rw [e]; simp
    have hj := hW.2.2.2.1 j (List.mem_of_getElem? hp)
    have hJ200 := hW.2.2.2.2.1
    have hc := k_waitingAt hW hp
    have hc2 := k_groupFor hG hJ hW.2.2.2.2.1 hj
    have ih' := fun (sum : Int) (h1 : 0 ≤ sum) (h2 : sum + 99 * (r.length : Int) ≤ 5940) => ih (pre ++ [j]) sum (by rw [e]; simp) h1 h2
    simp only [List.length_append, List.length_cons, List.length_nil, Int.natCast_add, Int.natCast_one, Int.zero_add, Nat.zero_add] at ih'
    rw [x44_4]
    repeat' (first | (exfalso; omega) | (simp (disch := first | omega | assumption | exact z_b_01) only [x44_0, x44_1, x44_2, x44_3, x44_5, x44_6, x44_9, x44_12, x44_15, x44_16, x44_17, x44_20, x44_21, x44_24, x44_27, x44_28, x44_31, x44_34, x44_37, x44_40, x44_41, Option.bind_some, Option.toList_some, Option.toList_none, List.cons_append, List.nil_append, Int.toNat_natCast, Int.toNat_zero, z_w_id, z_b_0, z_b_1, z_b_n0, z_b_t, z_b_f, ↓reduceIte, Int.reduceEq, Int.reduceLT, Int.reduceLE, Int.reduceToNat, not_true_eq_false, not_false_eq_true, false_and, and_false, true_and, and_true, false_or, or_false, true_or, or_true, hc, ih', hc2]) | split)
    all_goals (refine z_ri ?_ rfl; simp only [s_sum_cons, hc2]; (repeat' split) <;> omega)
theorem k_waitsOfGroup {s : Fin 7} {M : z_M} {l : List Nat} (hW : c_WL (M s) l) (hG : i_G (M s)) (hJ : i_J (M s)) (c : Int) : z_ev 44 [.inr (some (s, 0)), .inl c] M = some (some (.inl (s_sum l fun j => if a_gr (M s) j = c then 1 else 0)), M) := by
  have h0 := hW.2.1
  have h :=  k_waitsOfGroup_loop hW hG hJ c l [] 0 rfl (by omega) (by omega)
  rw [x44]
  simp (disch := first | omega | assumption) only [x44_0, x44_1, x44_2, x44_3, x44_5, x44_6, x44_9, x44_12, x44_15, x44_16, x44_17, x44_20, x44_21, x44_24, x44_27, x44_28, x44_31, x44_34, x44_37, x44_40, x44_41, Option.bind_some, Option.toList_some, Option.toList_none, List.cons_append, List.nil_append, Int.toNat_natCast, Int.toNat_zero, z_w_id, z_b_0, z_b_1, z_b_n0, z_b_t, z_b_f, ↓reduceIte, Int.reduceEq, Int.reduceLT, Int.reduceLE, Int.reduceToNat, not_true_eq_false, not_false_eq_true, false_and, and_false, true_and, and_true, false_or, or_false, true_or, or_true]
  exact (h).trans (z_ri (by omega) rfl)

theorem k_sizesOfGroup_loop {s : Fin 7} {M : z_M} {l : List Nat} (hW : c_WL (M s) l) (hG : i_G (M s)) (hJ : i_J (M s)) (c : Int) : ∀ (r pre : List Nat) (sum : Int) (lj0 : Option z_V), l = pre ++ r → 0 ≤ sum → sum + 99 * (r.length : Int) ≤ 5940 → z_ex 42 4 [some (.inr (some (s, 0))), some (.inl c), some (.inl sum), some (.inl (pre.length : Int)), lj0] [] M = some (some (.inl (sum + s_sum r fun j => if a_gr (M s) j = c then M s 17 j else 0)), M) := by
  intro r
  induction r with
  | nil =>
    intro pre sum lj0 e hs hb
    have h1 := hW.1
    have h2 := congrArg List.length e
    simp only [List.length_append, List.length_nil] at h2
    rw [x42_4]
    repeat' (first | (exfalso; omega) | (simp (disch := first | omega | assumption | exact z_b_01) only [x42_0, x42_1, x42_2, x42_3, x42_5, x42_6, x42_9, x42_12, x42_15, x42_16, x42_19, x42_20, x42_23, x42_25, x42_26, x42_29, x42_31, x42_34, x42_37, x42_38, x42_40, x42_43, x42_44, x42_47, x42_48, x42_49, x42_52, x42_55, x42_57, x42_58, x42_59, x42_60, x42_63, x42_66, x42_67, Option.bind_some, Option.toList_some, Option.toList_none, List.cons_append, List.nil_append, Int.toNat_natCast, Int.toNat_zero, z_w_id, z_b_0, z_b_1, z_b_n0, z_b_t, z_b_f, ↓reduceIte, Int.reduceEq, Int.reduceLT, Int.reduceLE, Int.reduceToNat, not_true_eq_false, not_false_eq_true, false_and, and_false, true_and, and_true, false_or, or_false, true_or, or_true, s_sum_nil]) | split)
    all_goals (refine z_ri ?_ rfl; omega)
  | cons j r ih =>
    intro pre sum lj0 e hs hb
    have h1 := hW.1
    have h0 := hW.2.1
    have h2 := congrArg List.length e
    simp only [List.length_append, List.length_cons] at h2 hb
    have hp : l[pre.length]? = some j := by rw [e]; simp
    have hj := hW.2.2.2.1 j (List.mem_of_getElem? hp)
    have hJ200 := hW.2.2.2.2.1
    have hc := k_waitingAt hW hp
    have hc2 := k_groupFor hG hJ hW.2.2.2.2.1 hj
    have hz := (hJ j hj).2.1
    have ih' := fun (sum : Int) (lj0 : Option z_V) (h1 : 0 ≤ sum) (h2 : sum + 99 * (r.length : Int) ≤ 5940) => ih (pre ++ [j]) sum lj0 (by rw [e]; simp) h1 h2
    simp only [List.length_append, List.length_cons, List.length_nil, Int.natCast_add, Int.natCast_one, Int.zero_add, Nat.zero_add] at ih'
    rw [x42_4]
    repeat' (first | (exfalso; omega) | (simp (disch := first | omega | assumption | exact z_b_01) only [x42_0, x42_1, x42_2, x42_3, x42_5, x42_6, x42_9, x42_12, x42_15, x42_16, x42_19, x42_20, x42_23, x42_25, x42_26, x42_29, x42_31, x42_34, x42_37, x42_38, x42_40, x42_43, x42_44, x42_47, x42_48, x42_49, x42_52, x42_55, x42_57, x42_58, x42_59, x42_60, x42_63, x42_66, x42_67, Option.bind_some, Option.toList_some, Option.toList_none, List.cons_append, List.nil_append, Int.toNat_natCast, Int.toNat_zero, z_w_id, z_b_0, z_b_1, z_b_n0, z_b_t, z_b_f, ↓reduceIte, Int.reduceEq, Int.reduceLT, Int.reduceLE, Int.reduceToNat, not_true_eq_false, not_false_eq_true, false_and, and_false, true_and, and_true, false_or, or_false, true_or, or_true, hc, ih', hc2, k_Jobs_has]) | split)
    all_goals (refine z_ri ?_ rfl; simp only [s_sum_cons, hc2, k_Jobs_has]; (repeat' split) <;> omega)
theorem k_sizesOfGroup {s : Fin 7} {M : z_M} {l : List Nat} (hW : c_WL (M s) l) (hG : i_G (M s)) (hJ : i_J (M s)) (c : Int) : z_ev 42 [.inr (some (s, 0)), .inl c] M = some (some (.inl (s_sum l fun j => if a_gr (M s) j = c then M s 17 j else 0)), M) := by
  have h0 := hW.2.1
  have h := fun (lj0 : Option z_V) => k_sizesOfGroup_loop hW hG hJ c l [] 0 lj0 rfl (by omega) (by omega)
  rw [x42]
  simp (disch := first | omega | assumption) only [x42_0, x42_1, x42_2, x42_3, x42_5, x42_6, x42_9, x42_12, x42_15, x42_16, x42_19, x42_20, x42_23, x42_25, x42_26, x42_29, x42_31, x42_34, x42_37, x42_38, x42_40, x42_43, x42_44, x42_47, x42_48, x42_49, x42_52, x42_55, x42_57, x42_58, x42_59, x42_60, x42_63, x42_66, x42_67, Option.bind_some, Option.toList_some, Option.toList_none, List.cons_append, List.nil_append, Int.toNat_natCast, Int.toNat_zero, z_w_id, z_b_0, z_b_1, z_b_n0, z_b_t, z_b_f, ↓reduceIte, Int.reduceEq, Int.reduceLT, Int.reduceLE, Int.reduceToNat, not_true_eq_false, not_false_eq_true, false_and, and_false, true_and, and_true, false_or, or_false, true_or, or_true]
  exact (h _).trans (z_ri (by omega) rfl)

theorem k_oldJobs_loop {s : Fin 7} {M : z_M} {l : List Nat} (hW : c_WL (M s) l) (hG : i_G (M s)) (hJ : i_J (M s))  : ∀ (r pre : List Nat) (sum : Int), l = pre ++ r → 0 ≤ sum → sum + 99 * (r.length : Int) ≤ 5940 → z_ex 38 4 [some (.inr (some (s, 0))), some (.inl sum), some (.inl (pre.length : Int))] [] M = some (some (.inl (sum + s_sum r fun j => z_b (a_old (M s) j))), M) := by
  intro r
  induction r with
  | nil =>
    intro pre sum e hs hb
    have h1 := hW.1
    have h2 := congrArg List.length e
    simp only [List.length_append, List.length_nil] at h2
    rw [x38_4]
    repeat' (first | (exfalso; omega) | (simp (disch := first | omega | assumption | exact z_b_01) only [x38_0, x38_1, x38_2, x38_3, x38_5, x38_6, x38_9, x38_12, x38_15, x38_16, x38_17, x38_20, x38_21, x38_24, x38_27, x38_30, x38_33, x38_36, x38_39, x38_40, Option.bind_some, Option.toList_some, Option.toList_none, List.cons_append, List.nil_append, Int.toNat_natCast, Int.toNat_zero, z_w_id, z_b_0, z_b_1, z_b_n0, z_b_t, z_b_f, ↓reduceIte, Int.reduceEq, Int.reduceLT, Int.reduceLE, Int.reduceToNat, not_true_eq_false, not_false_eq_true, false_and, and_false, true_and, and_true, false_or, or_false, true_or, or_true, s_sum_nil]) | split)
    all_goals (refine z_ri ?_ rfl; omega)
  | cons j r ih =>
    intro pre sum e hs hb
    have h1 := hW.1
    have h0 := hW.2.1
    have h2 := congrArg List.length e
    simp only [List.length_append, List.length_cons] at h2 hb
    have hp : l[pre.length]? = some j := by rw [e]; simp
    have hj := hW.2.2.2.1 j (List.mem_of_getElem? hp)
    have hJ200 := hW.2.2.2.2.1
    have hc := k_waitingAt hW hp
    have hc2 := k_isOld hG hJ hW.2.2.2.2.1 hj
    have ih' := fun (sum : Int) (h1 : 0 ≤ sum) (h2 : sum + 99 * (r.length : Int) ≤ 5940) => ih (pre ++ [j]) sum (by rw [e]; simp) h1 h2
    simp only [List.length_append, List.length_cons, List.length_nil, Int.natCast_add, Int.natCast_one, Int.zero_add, Nat.zero_add] at ih'
    rw [x38_4]
    repeat' (first | (exfalso; omega) | (simp (disch := first | omega | assumption | exact z_b_01) only [x38_0, x38_1, x38_2, x38_3, x38_5, x38_6, x38_9, x38_12, x38_15, x38_16, x38_17, x38_20, x38_21, x38_24, x38_27, x38_30, x38_33, x38_36, x38_39, x38_40, Option.bind_some, Option.toList_some, Option.toList_none, List.cons_append, List.nil_append, Int.toNat_natCast, Int.toNat_zero, z_w_id, z_b_0, z_b_1, z_b_n0, z_b_t, z_b_f, ↓reduceIte, Int.reduceEq, Int.reduceLT, Int.reduceLE, Int.reduceToNat, not_true_eq_false, not_false_eq_true, false_and, and_false, true_and, and_true, false_or, or_false, true_or, or_true, hc, ih', hc2]) | split)
    all_goals (refine z_ri ?_ rfl; simp only [s_sum_cons]; unfold z_b; unfold a_old at *; (repeat' split) <;> omega)
theorem k_oldJobs {s : Fin 7} {M : z_M} {l : List Nat} (hW : c_WL (M s) l) (hG : i_G (M s)) (hJ : i_J (M s))  : z_ev 38 [.inr (some (s, 0))] M = some (some (.inl (s_sum l fun j => z_b (a_old (M s) j))), M) := by
  have h0 := hW.2.1
  have h :=  k_oldJobs_loop hW hG hJ l [] 0 rfl (by omega) (by omega)
  rw [x38]
  simp (disch := first | omega | assumption) only [x38_0, x38_1, x38_2, x38_3, x38_5, x38_6, x38_9, x38_12, x38_15, x38_16, x38_17, x38_20, x38_21, x38_24, x38_27, x38_30, x38_33, x38_36, x38_39, x38_40, Option.bind_some, Option.toList_some, Option.toList_none, List.cons_append, List.nil_append, Int.toNat_natCast, Int.toNat_zero, z_w_id, z_b_0, z_b_1, z_b_n0, z_b_t, z_b_f, ↓reduceIte, Int.reduceEq, Int.reduceLT, Int.reduceLE, Int.reduceToNat, not_true_eq_false, not_false_eq_true, false_and, and_false, true_and, and_true, false_or, or_false, true_or, or_true]
  exact (h).trans (z_ri (by omega) rfl)

def a_stage (A : Nat → Nat → Int) (j : Nat) : Int := if A 19 j = -5 then 0 else if (j : Int) = A 0 5 then 1 else 2
theorem k_stageOf {s : Fin 7} {M : z_M} {j : Nat} (hj : (j : Int) < M s 3 0) (h200 : M s 3 0 ≤ 200) : z_ev 43 [.inr (some (s, 0)), .inl (j : Int)] M = some (some (.inl (a_stage (M s) j)), M) := by
  rw [x43]
  repeat' (first | (exfalso; omega) | (simp (disch := first | omega | assumption | exact z_b_01) only [x43_0, x43_1, x43_4, x43_5, x43_8, x43_11, x43_12, x43_13, x43_14, x43_15, x43_18, x43_21, x43_22, x43_25, x43_26, Option.bind_some, Option.toList_some, Option.toList_none, List.cons_append, List.nil_append, Int.toNat_natCast, Int.toNat_zero, z_w_id, z_b_0, z_b_1, z_b_n0, z_b_t, z_b_f, ↓reduceIte, Int.reduceEq, Int.reduceLT, Int.reduceLE, Int.reduceToNat, not_true_eq_false, not_false_eq_true, false_and, and_false, true_and, and_true, false_or, or_false, true_or, or_true, k_isWaiting]) | split)
  all_goals (refine z_ri ?_ rfl; unfold a_stage; (repeat' split) <;> omega)
theorem k_endOf {s : Fin 7} {M : z_M} {j : Nat} (hJ : i_J (M s)) (hj : (j : Int) < M s 3 0) (h200 : M s 3 0 ≤ 200) : z_ev 32 [.inr (some (s, 0)), .inl (j : Int)] M = some (some (.inl (if a_stage (M s) j = 2 then M s 19 j + M s 17 j else -5)), M) := by
  have h1 := hJ j hj
  have hc := k_stageOf hj h200
  rw [x32]
  repeat' (first | (exfalso; omega) | (simp (disch := first | omega | assumption | exact z_b_01) only [x32_0, x32_1, x32_2, x32_5, x32_6, x32_9, x32_10, x32_13, x32_14, x32_17, x32_20, x32_21, x32_24, x32_27, x32_28, x32_29, x32_30, x32_33, x32_36, x32_37, x32_38, x32_39, x32_42, x32_44, Option.bind_some, Option.toList_some, Option.toList_none, List.cons_append, List.nil_append, Int.toNat_natCast, Int.toNat_zero, z_w_id, z_b_0, z_b_1, z_b_n0, z_b_t, z_b_f, ↓reduceIte, Int.reduceEq, Int.reduceLT, Int.reduceLE, Int.reduceToNat, not_true_eq_false, not_false_eq_true, false_and, and_false, true_and, and_true, false_or, or_false, true_or, or_true, hc, k_Jobs_has]) | split)
  all_goals rfl
theorem k_leftOf {s : Fin 7} {M : z_M} {j : Nat} (hj : (j : Int) < M s 3 0) (h200 : M s 3 0 ≤ 200) : z_ev 36 [.inr (some (s, 0)), .inl (j : Int)] M = some (some (.inl (if a_stage (M s) j = 0 then M s 17 j else if a_stage (M s) j = 1 then M s 0 6 else 0)), M) := by
  have hc := k_stageOf hj h200
  rw [x36]
  repeat' (first | (exfalso; omega) | (simp (disch := first | omega | assumption | exact z_b_01) only [x36_0, x36_1, x36_2, x36_5, x36_6, x36_7, x36_10, x36_11, x36_14, x36_15, x36_18, x36_21, x36_22, x36_25, x36_28, x36_29, x36_30, x36_31, x36_32, x36_33, x36_36, x36_37, x36_40, x36_43, x36_44, Option.bind_some, Option.toList_some, Option.toList_none, List.cons_append, List.nil_append, Int.toNat_natCast, Int.toNat_zero, z_w_id, z_b_0, z_b_1, z_b_n0, z_b_t, z_b_f, ↓reduceIte, Int.reduceEq, Int.reduceLT, Int.reduceLE, Int.reduceToNat, not_true_eq_false, not_false_eq_true, false_and, and_false, true_and, and_true, false_or, or_false, true_or, or_true, hc, k_Jobs_has]) | split)
  all_goals rfl
theorem k_doneJobs {s : Fin 7} {M : z_M} {l : List Nat} (hW : c_WL (M s) l) : z_ev 30 [.inr (some (s, 0))] M = some (some (.inl (M s 3 0 - M s 3 5 - if M s 0 5 = -5 then 0 else 1)), M) := by
  have h1 := hW.1
  have h2 := hW.2.1
  have h3 := hW.2.2.2.2
  rw [x30]
  repeat' (first | (exfalso; omega) | (simp (disch := first | omega | assumption | exact z_b_01) only [x30_0, x30_1, x30_4, x30_7, x30_8, x30_11, x30_14, x30_15, x30_16, x30_19, x30_21, x30_24, x30_25, x30_28, x30_29, x30_30, Option.bind_some, Option.toList_some, Option.toList_none, List.cons_append, List.nil_append, Int.toNat_natCast, Int.toNat_zero, z_w_id, z_b_0, z_b_1, z_b_n0, z_b_t, z_b_f, ↓reduceIte, Int.reduceEq, Int.reduceLT, Int.reduceLE, Int.reduceToNat, not_true_eq_false, not_false_eq_true, false_and, and_false, true_and, and_true, false_or, or_false, true_or, or_true]) | split)
  all_goals rfl
theorem k_doneOf_loop {s : Fin 7} {M : z_M} (h200 : M s 3 0 ≤ 200) (c : Int) : ∀ (n i : Nat) (sum : Int), (i : Int) + n = M s 3 0 → 0 ≤ sum → sum + n ≤ 200 → z_ex 31 4 [some (.inr (some (s, 0))), some (.inl c), some (.inl sum), some (.inl (i : Int))] [] M = some (some (.inl (sum + s_sum (List.range' i n) fun j => if M s 16 j = c ∧ a_stage (M s) j = 2 then 1 else 0)), M) := by
  intro n
  induction n with
  | zero =>
    intro i sum e hs hb
    rw [x31_4]
    repeat' (first | (exfalso; omega) | (simp (disch := first | omega | assumption | exact z_b_01) only [x31_0, x31_1, x31_2, x31_3, x31_5, x31_6, x31_9, x31_12, x31_15, x31_16, x31_19, x31_22, x31_23, x31_26, x31_29, x31_30, x31_31, x31_32, x31_35, x31_36, x31_37, x31_40, x31_41, x31_44, x31_47, x31_50, x31_53, x31_54, Option.bind_some, Option.toList_some, Option.toList_none, List.cons_append, List.nil_append, Int.toNat_natCast, Int.toNat_zero, z_w_id, z_b_0, z_b_1, z_b_n0, z_b_t, z_b_f, ↓reduceIte, Int.reduceEq, Int.reduceLT, Int.reduceLE, Int.reduceToNat, not_true_eq_false, not_false_eq_true, false_and, and_false, true_and, and_true, false_or, or_false, true_or, or_true, k_Jobs_has]) | split)
    all_goals (refine z_ri ?_ rfl; simp only [List.range'_zero, s_sum_nil]; omega)
  | succ n ih =>
    intro i sum e hs hb
    have hj : (i : Int) < M s 3 0 := by omega
    have hc := k_stageOf hj h200
    have ih' := fun (sum : Int) (h1 : 0 ≤ sum) (h2 : sum + n ≤ 200) => ih (i + 1) sum (by omega) h1 h2
    simp only [Int.natCast_add, Int.natCast_one] at ih'
    rw [x31_4]
    repeat' (first | (exfalso; omega) | (simp (disch := first | omega | assumption | exact z_b_01) only [x31_0, x31_1, x31_2, x31_3, x31_5, x31_6, x31_9, x31_12, x31_15, x31_16, x31_19, x31_22, x31_23, x31_26, x31_29, x31_30, x31_31, x31_32, x31_35, x31_36, x31_37, x31_40, x31_41, x31_44, x31_47, x31_50, x31_53, x31_54, Option.bind_some, Option.toList_some, Option.toList_none, List.cons_append, List.nil_append, Int.toNat_natCast, Int.toNat_zero, z_w_id, z_b_0, z_b_1, z_b_n0, z_b_t, z_b_f, ↓reduceIte, Int.reduceEq, Int.reduceLT, Int.reduceLE, Int.reduceToNat, not_true_eq_false, not_false_eq_true, false_and, and_false, true_and, and_true, false_or, or_false, true_or, or_true, k_Jobs_has, hc, ih']) | split)
    all_goals (refine z_ri ?_ rfl; simp only [List.range'_succ, s_sum_cons]; (repeat' split) <;> omega)
theorem k_doneOf {s : Fin 7} {M : z_M} (h200 : M s 3 0 ≤ 200) (h0 : 0 ≤ M s 3 0) (c : Int) : z_ev 31 [.inr (some (s, 0)), .inl c] M = some (some (.inl (s_sum (List.range' 0 (M s 3 0).toNat) fun j => if M s 16 j = c ∧ a_stage (M s) j = 2 then 1 else 0)), M) := by
  have h := k_doneOf_loop h200 c (M s 3 0).toNat 0 0 (by omega) (by omega) (by omega)
  rw [x31]
  simp (disch := first | omega | assumption) only [x31_0, x31_1, x31_2, x31_3, x31_5, x31_6, x31_9, x31_12, x31_15, x31_16, x31_19, x31_22, x31_23, x31_26, x31_29, x31_30, x31_31, x31_32, x31_35, x31_36, x31_37, x31_40, x31_41, x31_44, x31_47, x31_50, x31_53, x31_54, Option.bind_some, Option.toList_some, Option.toList_none, List.cons_append, List.nil_append, Int.toNat_natCast, Int.toNat_zero, z_w_id, z_b_0, z_b_1, z_b_n0, z_b_t, z_b_f, ↓reduceIte, Int.reduceEq, Int.reduceLT, Int.reduceLE, Int.reduceToNat, not_true_eq_false, not_false_eq_true, false_and, and_false, true_and, and_true, false_or, or_false, true_or, or_true]
  exact h.trans (z_ri (by omega) rfl)
theorem k_isWithin (v a b : Int) (M : z_M) : z_ev 72 [.inl v, .inl a, .inl b] M = some (some (.inl (z_b (a ≤ v ∧ v ≤ b))), M) := by
  rw [x72]
  repeat' (first | (exfalso; omega) | (simp (disch := first | omega | assumption | exact z_b_01) only [x72_0, x72_1, x72_2, x72_5, x72_6, x72_7, x72_10, x72_11, x72_14, x72_15, Option.bind_some, Option.toList_some, Option.toList_none, List.cons_append, List.nil_append, Int.toNat_natCast, Int.toNat_zero, z_w_id, z_b_0, z_b_1, z_b_n0, z_b_t, z_b_f, ↓reduceIte, Int.reduceEq, Int.reduceLT, Int.reduceLE, Int.reduceToNat, not_true_eq_false, not_false_eq_true, false_and, and_false, true_and, and_true, false_or, or_false, true_or, or_true]) | split)
  all_goals (refine z_ri ?_ rfl; unfold z_b; split <;> omega)
theorem k_isQuantum (v : Int) (M : z_M) : z_ev 71 [.inl v] M = some (some (.inl (z_b (1 ≤ v ∧ v ≤ 200))), M) := by
  rw [x71]
  repeat' (first | (exfalso; omega) | (simp (disch := first | omega | assumption | exact z_b_01) only [x71_0, x71_1, x71_2, x71_5, x71_8, Option.bind_some, Option.toList_some, Option.toList_none, List.cons_append, List.nil_append, Int.toNat_natCast, Int.toNat_zero, z_w_id, z_b_0, z_b_1, z_b_n0, z_b_t, z_b_f, ↓reduceIte, Int.reduceEq, Int.reduceLT, Int.reduceLE, Int.reduceToNat, not_true_eq_false, not_false_eq_true, false_and, and_false, true_and, and_true, false_or, or_false, true_or, or_true, k_isWithin, z_b_01]) | split)
def a_why (A : Nat → Nat → Int) (c z : Int) : Int := if ¬ (0 ≤ c ∧ c < A 2 0) then -1 else if ¬ (1 ≤ z ∧ z ≤ 99) then -2 else if A 12 c.toNat < z then -4 else if 200 ≤ A 3 0 ∨ 60 ≤ A 3 5 then -3 else 0
theorem k_whyNotAdmit {s : Fin 7} {M : z_M} (hG : i_G (M s)) (c z : Int) : z_ev 45 [.inr (some (s, 0)), .inl c, .inl z] M = some (some (.inl (a_why (M s) c z)), M) := by
  have h1 := hG.2.1
  rw [x45]
  repeat' (first | (exfalso; omega) | (simp (disch := first | omega | assumption | exact z_b_01) only [x45_0, x45_1, x45_4, x45_5, x45_8, x45_11, x45_12, x45_13, x45_14, x45_15, x45_17, x45_20, x45_23, x45_25, x45_26, x45_27, x45_30, x45_33, x45_34, x45_35, x45_36, x45_39, x45_41, x45_42, x45_43, x45_46, x45_49, x45_52, x45_54, x45_57, x45_58, Option.bind_some, Option.toList_some, Option.toList_none, List.cons_append, List.nil_append, Int.toNat_natCast, Int.toNat_zero, z_w_id, z_b_0, z_b_1, z_b_n0, z_b_t, z_b_f, ↓reduceIte, Int.reduceEq, Int.reduceLT, Int.reduceLE, Int.reduceToNat, not_true_eq_false, not_false_eq_true, false_and, and_false, true_and, and_true, false_or, or_false, true_or, or_true, k_Classes_has, k_isWithin, k_isFull]) | split)
  all_goals (refine z_ri ?_ rfl; unfold a_why; (repeat' split) <;> omega)
