/-! the model: what is told -/
theorem ix_1 (n : Nat) : ((n : Int) + 1).toNat = n + 1 := by omega
theorem ix_2 (n : Nat) : ((n : Int) + 2).toNat = n + 2 := by omega
theorem ix_3 (n : Nat) : ((n : Int) + 3).toNat = n + 3 := by omega
theorem ix_4 (n : Nat) : ((n : Int) + 4).toNat = n + 4 := by omega
theorem ix_5 (n : Nat) : ((n : Int) + 5).toNat = n + 5 := by omega
theorem ix_6 (n : Nat) : ((n : Int) + 6).toNat = n + 6 := by omega
theorem ix_7 (n : Nat) : ((n : Int) + 7).toNat = n + 7 := by omega
theorem ix_8 (n : Nat) : ((n : Int) + 8).toNat = n + 8 := by omega
theorem ix_9 (n : Nat) : ((n : Int) + 9).toNat = n + 9 := by omega
theorem k_in (v a b : Int) (M : z_M) : z_ev 106 [.inl v, .inl a, .inl b] M = some (some (.inl (z_b (a ≤ v ∧ v ≤ b))), M) := by
  rw [x106]
  repeat' (first | (exfalso; omega) | (simp (disch := first | omega | assumption | exact z_b_01) only [x106_0, x106_1, x106_2, x106_5, x106_6, x106_7, x106_10, x106_11, x106_14, x106_15, Option.bind_some, Option.toList_some, Option.toList_none, List.cons_append, List.nil_append, Int.toNat_natCast, Int.toNat_zero, z_w_id, z_b_0, z_b_1, z_b_n0, z_b_t, z_b_f, ↓reduceIte, Int.reduceEq, Int.reduceLT, Int.reduceLE, Int.reduceToNat, not_true_eq_false, not_false_eq_true, false_and, and_false, true_and, and_true, false_or, or_false, true_or, or_true]) | split)
  all_goals (refine z_ri ?_ rfl; unfold z_b; split <;> omega)
theorem k_its {j : Nat} (h : j ≤ 100000) (M : z_M) : z_ev 110 [.inl (j : Int)] M = some (some (.inl ((100 + 7 * j : Nat) : Int)), M) := by
  rw [x110]
  repeat' (first | (exfalso; omega) | (simp (disch := first | omega | assumption | exact z_b_01) only [x110_0, x110_2, x110_4, x110_5, x110_6, x110_7, Option.bind_some, Option.toList_some, Option.toList_none, List.cons_append, List.nil_append, Int.toNat_natCast, Int.toNat_zero, z_w_id, z_b_0, z_b_1, z_b_n0, z_b_t, z_b_f, ↓reduceIte, Int.reduceEq, Int.reduceLT, Int.reduceLE, Int.reduceToNat, not_true_eq_false, not_false_eq_true, false_and, and_false, true_and, and_true, false_or, or_false, true_or, or_true]) | split)
  all_goals (refine z_ri ?_ rfl; omega)
theorem k_kind {j : Nat} (h : j ≤ 100000) (M : z_M) : z_ev 115 [.inl (j : Int)] M = some (some (.inl ((20 + 10 * j : Nat) : Int)), M) := by
  rw [x115]
  repeat' (first | (exfalso; omega) | (simp (disch := first | omega | assumption | exact z_b_01) only [x115_0, x115_2, x115_4, x115_5, x115_6, x115_7, Option.bind_some, Option.toList_some, Option.toList_none, List.cons_append, List.nil_append, Int.toNat_natCast, Int.toNat_zero, z_w_id, z_b_0, z_b_1, z_b_n0, z_b_t, z_b_f, ↓reduceIte, Int.reduceEq, Int.reduceLT, Int.reduceLE, Int.reduceToNat, not_true_eq_false, not_false_eq_true, false_and, and_false, true_and, and_true, false_or, or_false, true_or, or_true]) | split)
  all_goals (refine z_ri ?_ rfl; omega)
theorem k_party {j : Nat} (h : j ≤ 100000) (M : z_M) : z_ev 122 [.inl (j : Int)] M = some (some (.inl ((8 + 4 * j : Nat) : Int)), M) := by
  rw [x122]
  repeat' (first | (exfalso; omega) | (simp (disch := first | omega | assumption | exact z_b_01) only [x122_0, x122_2, x122_3, x122_4, x122_5, x122_6, Option.bind_some, Option.toList_some, Option.toList_none, List.cons_append, List.nil_append, Int.toNat_natCast, Int.toNat_zero, z_w_id, z_b_0, z_b_1, z_b_n0, z_b_t, z_b_f, ↓reduceIte, Int.reduceEq, Int.reduceLT, Int.reduceLE, Int.reduceToNat, not_true_eq_false, not_false_eq_true, false_and, and_false, true_and, and_true, false_or, or_false, true_or, or_true]) | split)
  all_goals (refine z_ri ?_ rfl; omega)
theorem k_mwaits {j : Nat} (h : j < 200) (M : z_M) : z_ev 141 [.inr (some (0, 30)), .inl (j : Int)] M = some (some (.inl (z_b (M 0 31 (100 + 7 * j + 3) = 0))), M) := by
  have k := k_its (j := j) (by omega) M
  rw [x141]
  repeat' (first | (exfalso; omega) | (simp (disch := first | omega | assumption | exact z_b_01) only [x141_0, x141_1, x141_4, x141_5, x141_8, x141_9, x141_10, x141_11, x141_14, x141_15, x141_18, x141_19, Option.bind_some, Option.toList_some, Option.toList_none, List.cons_append, List.nil_append, Int.toNat_natCast, Int.toNat_zero, z_w_id, z_b_0, z_b_1, z_b_n0, z_b_t, z_b_f, ↓reduceIte, Int.reduceEq, Int.reduceLT, Int.reduceLE, Int.reduceToNat, not_true_eq_false, not_false_eq_true, false_and, and_false, true_and, and_true, false_or, or_false, true_or, or_true, k, ix_3]) | split)
  all_goals (refine z_ri ?_ rfl; unfold z_b; split <;> omega)
theorem k_noGroup {M : z_M} (h : 0 ≤ M 0 31 1 ∧ M 0 31 1 ≤ 3) (g : Int) : z_ev 120 [.inr (some (0, 30)), .inl g] M = some (some (.inl (z_b (¬ (0 ≤ g ∧ g < M 0 31 1)))), M) := by
  rw [x120]
  repeat' (first | (exfalso; omega) | (simp (disch := first | omega | assumption | exact z_b_01) only [x120_0, x120_1, x120_2, x120_3, x120_6, x120_7, x120_8, x120_9, x120_10, x120_13, x120_16, x120_17, x120_20, x120_21, Option.bind_some, Option.toList_some, Option.toList_none, List.cons_append, List.nil_append, Int.toNat_natCast, Int.toNat_zero, z_w_id, z_b_0, z_b_1, z_b_n0, z_b_t, z_b_f, ↓reduceIte, Int.reduceEq, Int.reduceLT, Int.reduceLE, Int.reduceToNat, not_true_eq_false, not_false_eq_true, false_and, and_false, true_and, and_true, false_or, or_false, true_or, or_true, k_in]) | split)
  all_goals (refine z_ri ?_ rfl; unfold z_b; split <;> omega)
theorem k_noClass {M : z_M} (h : 0 ≤ M 0 31 2 ∧ M 0 31 2 ≤ 8) (g : Int) : z_ev 119 [.inr (some (0, 30)), .inl g] M = some (some (.inl (z_b (¬ (0 ≤ g ∧ g < M 0 31 2)))), M) := by
  rw [x119]
  repeat' (first | (exfalso; omega) | (simp (disch := first | omega | assumption | exact z_b_01) only [x119_0, x119_1, x119_2, x119_3, x119_6, x119_7, x119_8, x119_9, x119_10, x119_13, x119_16, x119_17, x119_20, x119_21, Option.bind_some, Option.toList_some, Option.toList_none, List.cons_append, List.nil_append, Int.toNat_natCast, Int.toNat_zero, z_w_id, z_b_0, z_b_1, z_b_n0, z_b_t, z_b_f, ↓reduceIte, Int.reduceEq, Int.reduceLT, Int.reduceLE, Int.reduceToNat, not_true_eq_false, not_false_eq_true, false_and, and_false, true_and, and_true, false_or, or_false, true_or, or_true, k_in]) | split)
  all_goals (refine z_ri ?_ rfl; unfold z_b; split <;> omega)
theorem k_noJob {M : z_M} (h : 0 ≤ M 0 31 3 ∧ M 0 31 3 ≤ 200) (g : Int) : z_ev 121 [.inr (some (0, 30)), .inl g] M = some (some (.inl (z_b (¬ (0 ≤ g ∧ g < M 0 31 3)))), M) := by
  rw [x121]
  repeat' (first | (exfalso; omega) | (simp (disch := first | omega | assumption | exact z_b_01) only [x121_0, x121_1, x121_2, x121_3, x121_6, x121_7, x121_8, x121_9, x121_10, x121_13, x121_16, x121_17, x121_20, x121_21, Option.bind_some, Option.toList_some, Option.toList_none, List.cons_append, List.nil_append, Int.toNat_natCast, Int.toNat_zero, z_w_id, z_b_0, z_b_1, z_b_n0, z_b_t, z_b_f, ↓reduceIte, Int.reduceEq, Int.reduceLT, Int.reduceLE, Int.reduceToNat, not_true_eq_false, not_false_eq_true, false_and, and_false, true_and, and_true, false_or, or_false, true_or, or_true, k_in]) | split)
  all_goals (refine z_ri ?_ rfl; unfold z_b; split <;> omega)
/-- what a row of the model holds -/
def m_I (ρ : Nat → Int) : Prop := (0 ≤ ρ 1 ∧ ρ 1 ≤ 3) ∧ (0 ≤ ρ 2 ∧ ρ 2 ≤ 8) ∧ (0 ≤ ρ 3 ∧ ρ 3 ≤ 200) ∧ (0 ≤ ρ 0 ∧ ρ 0 ≤ 30000) ∧
  (∀ j : Nat, (j : Int) < ρ 3 → (0 ≤ ρ (100 + 7 * j) ∧ ρ (100 + 7 * j) < ρ 2) ∧ (1 ≤ ρ (100 + 7 * j + 1) ∧ ρ (100 + 7 * j + 1) ≤ 99) ∧ (0 ≤ ρ (100 + 7 * j + 2) ∧ ρ (100 + 7 * j + 2) ≤ ρ 0)) ∧
  ∀ c : Nat, (c : Int) < ρ 2 → (0 ≤ ρ (20 + 10 * c) ∧ ρ (20 + 10 * c) < ρ 1) ∧ (0 ≤ ρ (20 + 10 * c + 6) ∧ ρ (20 + 10 * c + 6) ≤ 2000)
theorem k_mfirstOf_loop {M : z_M} (h : 0 ≤ M 0 31 3 ∧ M 0 31 3 ≤ 200) (c : Int) : ∀ n i : Nat, (i : Int) + n = M 0 31 3 → z_ex 102 2 [some (.inr (some (0, 30))), some (.inl c), some (.inl (i : Int))] [] M = some (some (.inl (s_fst (List.range' i n) fun j => M 0 31 (100 + 7 * j + 3) = 0 ∧ M 0 31 (100 + 7 * j) = c)), M) := by
  intro n
  induction n with
  | zero =>
    intro i e
    rw [x102_2]
    repeat' (first | (exfalso; omega) | (simp (disch := first | omega | assumption | exact z_b_01) only [x102_0, x102_1, x102_3, x102_4, x102_7, x102_8, x102_9, x102_12, x102_13, x102_14, x102_17, x102_20, x102_21, x102_24, x102_25, x102_28, x102_29, x102_30, x102_31, x102_32, x102_35, x102_36, x102_37, x102_40, x102_43, x102_45, Option.bind_some, Option.toList_some, Option.toList_none, List.cons_append, List.nil_append, Int.toNat_natCast, Int.toNat_zero, z_w_id, z_b_0, z_b_1, z_b_n0, z_b_t, z_b_f, ↓reduceIte, Int.reduceEq, Int.reduceLT, Int.reduceLE, Int.reduceToNat, not_true_eq_false, not_false_eq_true, false_and, and_false, true_and, and_true, false_or, or_false, true_or, or_true, List.range'_zero, s_fst_nil]) | split)
    all_goals rfl
  | succ n ih =>
    intro i e
    have k1 := k_mwaits (j := i) (by omega) M
    have k2 := k_its (j := i) (by omega) M
    have ih' := ih (i + 1) (by omega)
    simp only [Int.natCast_add, Int.natCast_one] at ih'
    rw [x102_2, List.range'_succ, s_fst_cons]
    repeat' (first | (exfalso; omega) | (simp (disch := first | omega | assumption | exact z_b_01) only [x102_0, x102_1, x102_3, x102_4, x102_7, x102_8, x102_9, x102_12, x102_13, x102_14, x102_17, x102_20, x102_21, x102_24, x102_25, x102_28, x102_29, x102_30, x102_31, x102_32, x102_35, x102_36, x102_37, x102_40, x102_43, x102_45, Option.bind_some, Option.toList_some, Option.toList_none, List.cons_append, List.nil_append, Int.toNat_natCast, Int.toNat_zero, z_w_id, z_b_0, z_b_1, z_b_n0, z_b_t, z_b_f, ↓reduceIte, Int.reduceEq, Int.reduceLT, Int.reduceLE, Int.reduceToNat, not_true_eq_false, not_false_eq_true, false_and, and_false, true_and, and_true, false_or, or_false, true_or, or_true, k1, k2, ih', Int.add_zero]) | split)
    all_goals first | rfl | (exfalso; simp_all; done)
def m_fo (ρ : Nat → Int) (c : Int) : Int := s_fst (List.range' 0 (ρ 3).toNat) fun j => ρ (100 + 7 * j + 3) = 0 ∧ ρ (100 + 7 * j) = c
theorem k_mfirstOf {M : z_M} (h : 0 ≤ M 0 31 3 ∧ M 0 31 3 ≤ 200) (c : Int) : z_ev 102 [.inr (some (0, 30)), .inl c] M = some (some (.inl (m_fo (M 0 31) c)), M) := by
  have k := k_mfirstOf_loop h c (M 0 31 3).toNat 0 (by omega)
  rw [x102]
  simp (disch := first | omega | assumption) only [x102_0, x102_1, x102_3, x102_4, x102_7, x102_8, x102_9, x102_12, x102_13, x102_14, x102_17, x102_20, x102_21, x102_24, x102_25, x102_28, x102_29, x102_30, x102_31, x102_32, x102_35, x102_36, x102_37, x102_40, x102_43, x102_45, Option.bind_some, Option.toList_some, Option.toList_none, List.cons_append, List.nil_append, Int.toNat_natCast, Int.toNat_zero, z_w_id, z_b_0, z_b_1, z_b_n0, z_b_t, z_b_f, ↓reduceIte, Int.reduceEq, Int.reduceLT, Int.reduceLE, Int.reduceToNat, not_true_eq_false, not_false_eq_true, false_and, and_false, true_and, and_true, false_or, or_false, true_or, or_true]
  exact k
theorem k_isBusy {M : z_M} (h : 0 ≤ M 0 31 3 ∧ M 0 31 3 ≤ 200) (c : Int) : z_ev 107 [.inr (some (0, 30)), .inl c] M = some (some (.inl (z_b (0 ≤ m_fo (M 0 31) c))), M) := by
  have k := k_mfirstOf h c
  rw [x107]
  repeat' (first | (exfalso; omega) | (simp (disch := first | omega | assumption | exact z_b_01) only [x107_0, x107_1, x107_2, x107_5, x107_8, x107_9, x107_12, x107_13, Option.bind_some, Option.toList_some, Option.toList_none, List.cons_append, List.nil_append, Int.toNat_natCast, Int.toNat_zero, z_w_id, z_b_0, z_b_1, z_b_n0, z_b_t, z_b_f, ↓reduceIte, Int.reduceEq, Int.reduceLT, Int.reduceLE, Int.reduceToNat, not_true_eq_false, not_false_eq_true, false_and, and_false, true_and, and_true, false_or, or_false, true_or, or_true, k]) | split)
  all_goals (refine z_ri ?_ rfl; unfold z_b; split <;> omega)
def m_gs (ρ : Nat → Int) (g : Int) : List Nat → Int → Int
  | [], is => is
  | c :: L, is => m_gs ρ g L (if is = 0 then (if ρ (20 + 10 * c) = g ∧ 0 ≤ m_fo ρ c then 1 else 0) else 1)
theorem m_gs_cons (ρ : Nat → Int) (g : Int) (c : Nat) (L : List Nat) (is : Int) : m_gs ρ g (c :: L) is = m_gs ρ g L (if is = 0 then (if ρ (20 + 10 * c) = g ∧ 0 ≤ m_fo ρ c then 1 else 0) else 1) := rfl
theorem m_gs_01 (ρ : Nat → Int) (g : Int) : ∀ (L : List Nat) (is : Int), is = 0 ∨ is = 1 → m_gs ρ g L is = 0 ∨ m_gs ρ g L is = 1 := by
  intro L
  induction L with
  | nil => intro is h; exact h
  | cons c L ih =>
    intro is h
    rw [m_gs_cons]
    refine ih _ ?_
    (repeat' split) <;> simp
theorem k_isGroupBusy_loop {M : z_M} (h : 0 ≤ M 0 31 3 ∧ M 0 31 3 ≤ 200) (h8 : 0 ≤ M 0 31 2 ∧ M 0 31 2 ≤ 8) (g : Int) : ∀ (n i : Nat) (is : Int), (i : Int) + n = M 0 31 2 → is = 0 ∨ is = 1 → z_ex 108 4 [some (.inr (some (0, 30))), some (.inl g), some (.inl is), some (.inl (i : Int))] [] M = some (some (.inl (m_gs (M 0 31) g (List.range' i n) is)), M) := by
  intro n
  induction n with
  | zero =>
    intro i is e his
    have h01 := m_gs_01 (M 0 31) g [] is his
    rw [x108_4]
    repeat' (first | (exfalso; omega) | (simp (disch := first | omega | assumption | exact z_b_01) only [x108_0, x108_1, x108_2, x108_3, x108_5, x108_6, x108_9, x108_10, x108_11, x108_14, x108_15, x108_18, x108_19, x108_22, x108_23, x108_26, x108_27, x108_28, x108_29, x108_30, x108_33, x108_34, x108_35, x108_38, x108_41, x108_42, x108_45, x108_46, x108_47, x108_50, x108_53, x108_54, Option.bind_some, Option.toList_some, Option.toList_none, List.cons_append, List.nil_append, Int.toNat_natCast, Int.toNat_zero, z_w_id, z_b_0, z_b_1, z_b_n0, z_b_t, z_b_f, ↓reduceIte, Int.reduceEq, Int.reduceLT, Int.reduceLE, Int.reduceToNat, not_true_eq_false, not_false_eq_true, false_and, and_false, true_and, and_true, false_or, or_false, true_or, or_true]) | split)
    all_goals rfl
  | succ n ih =>
    intro i is e his
    have k1 := k_kind (j := i) (by omega) M
    have k2 := k_isBusy h (i : Int)
    have ih' := ih (i + 1)
    simp only [Int.natCast_add, Int.natCast_one] at ih'
    have ih1 := ih' 1 (by omega) (Or.inr rfl)
    have ih0 := ih' 0 (by omega) (Or.inl rfl)
    rw [x108_4, List.range'_succ, m_gs_cons]
    rcases his with rfl | rfl
    · by_cases hc : M 0 31 (20 + 10 * i) = g ∧ 0 ≤ m_fo (M 0 31) i
      · rw [if_pos rfl, if_pos hc]
        obtain ⟨hc1, hc2⟩ := hc
        rw [z_b_t hc2] at k2
        repeat' (first | (exfalso; omega) | (simp (disch := first | omega | assumption | exact z_b_01) only [x108_0, x108_1, x108_2, x108_3, x108_5, x108_6, x108_9, x108_10, x108_11, x108_14, x108_15, x108_18, x108_19, x108_22, x108_23, x108_26, x108_27, x108_28, x108_29, x108_30, x108_33, x108_34, x108_35, x108_38, x108_41, x108_42, x108_45, x108_46, x108_47, x108_50, x108_53, x108_54, Option.bind_some, Option.toList_some, Option.toList_none, List.cons_append, List.nil_append, Int.toNat_natCast, Int.toNat_zero, z_w_id, z_b_0, z_b_1, z_b_n0, z_b_t, z_b_f, ↓reduceIte, Int.reduceEq, Int.reduceLT, Int.reduceLE, Int.reduceToNat, not_true_eq_false, not_false_eq_true, false_and, and_false, true_and, and_true, false_or, or_false, true_or, or_true, k1, k2, ih1, ih0, Int.add_zero, hc1]) | split)
        all_goals rfl
      · rw [if_pos rfl, if_neg hc]
        repeat' (first | (exfalso; omega) | (simp (disch := first | omega | assumption | exact z_b_01) only [x108_0, x108_1, x108_2, x108_3, x108_5, x108_6, x108_9, x108_10, x108_11, x108_14, x108_15, x108_18, x108_19, x108_22, x108_23, x108_26, x108_27, x108_28, x108_29, x108_30, x108_33, x108_34, x108_35, x108_38, x108_41, x108_42, x108_45, x108_46, x108_47, x108_50, x108_53, x108_54, Option.bind_some, Option.toList_some, Option.toList_none, List.cons_append, List.nil_append, Int.toNat_natCast, Int.toNat_zero, z_w_id, z_b_0, z_b_1, z_b_n0, z_b_t, z_b_f, ↓reduceIte, Int.reduceEq, Int.reduceLT, Int.reduceLE, Int.reduceToNat, not_true_eq_false, not_false_eq_true, false_and, and_false, true_and, and_true, false_or, or_false, true_or, or_true, k1, k2, ih1, ih0, Int.add_zero]) | split)
        all_goals rfl
    · rw [if_neg (by decide)]
      repeat' (first | (exfalso; omega) | (simp (disch := first | omega | assumption | exact z_b_01) only [x108_0, x108_1, x108_2, x108_3, x108_5, x108_6, x108_9, x108_10, x108_11, x108_14, x108_15, x108_18, x108_19, x108_22, x108_23, x108_26, x108_27, x108_28, x108_29, x108_30, x108_33, x108_34, x108_35, x108_38, x108_41, x108_42, x108_45, x108_46, x108_47, x108_50, x108_53, x108_54, Option.bind_some, Option.toList_some, Option.toList_none, List.cons_append, List.nil_append, Int.toNat_natCast, Int.toNat_zero, z_w_id, z_b_0, z_b_1, z_b_n0, z_b_t, z_b_f, ↓reduceIte, Int.reduceEq, Int.reduceLT, Int.reduceLE, Int.reduceToNat, not_true_eq_false, not_false_eq_true, false_and, and_false, true_and, and_true, false_or, or_false, true_or, or_true, k1, k2, ih1, ih0, Int.add_zero]) | split)
      all_goals rfl
def m_gb (ρ : Nat → Int) (g : Int) : Int := m_gs ρ g (List.range' 0 (ρ 2).toNat) 0
theorem k_isGroupBusy {M : z_M} (h : 0 ≤ M 0 31 3 ∧ M 0 31 3 ≤ 200) (h8 : 0 ≤ M 0 31 2 ∧ M 0 31 2 ≤ 8) (g : Int) : z_ev 108 [.inr (some (0, 30)), .inl g] M = some (some (.inl (m_gb (M 0 31) g)), M) := by
  have k := k_isGroupBusy_loop h h8 g (M 0 31 2).toNat 0 0 (by omega) (Or.inl rfl)
  rw [x108]
  simp (disch := first | omega | assumption) only [x108_0, x108_1, x108_2, x108_3, x108_5, x108_6, x108_9, x108_10, x108_11, x108_14, x108_15, x108_18, x108_19, x108_22, x108_23, x108_26, x108_27, x108_28, x108_29, x108_30, x108_33, x108_34, x108_35, x108_38, x108_41, x108_42, x108_45, x108_46, x108_47, x108_50, x108_53, x108_54, Option.bind_some, Option.toList_some, Option.toList_none, List.cons_append, List.nil_append, Int.toNat_natCast, Int.toNat_zero, z_w_id, z_b_0, z_b_1, z_b_n0, z_b_t, z_b_f, ↓reduceIte, Int.reduceEq, Int.reduceLT, Int.reduceLE, Int.reduceToNat, not_true_eq_false, not_false_eq_true, false_and, and_false, true_and, and_true, false_or, or_false, true_or, or_true]
  exact k
def m_cnt (ρ : Nat → Int) (c g z : Int) (j : Nat) : Int := if ρ (100 + 7 * j + 3) = 0 ∧ (c < 0 ∨ ρ (100 + 7 * j) = c) ∧ (g < 0 ∨ ρ (20 + 10 * (ρ (100 + 7 * j)).toNat) = g) then (if z = 0 then 1 else ρ (100 + 7 * j + 1)) else 0
theorem k_waiting_loop {M : z_M} (hI : m_I (M 0 31)) (c g z : Int) : ∀ (n i : Nat) (sum : Int) (l6 l7 : Option z_V), (i : Int) + n = M 0 31 3 → 0 ≤ sum → sum + 99 * (n : Int) ≤ 20000 → z_ex 140 6 [some (.inr (some (0, 30))), some (.inl c), some (.inl g), some (.inl z), some (.inl sum), some (.inl (i : Int)), l6, l7] [] M = some (some (.inl (sum + s_sum (List.range' i n) (m_cnt (M 0 31) c g z))), M) := by
  intro n
  have h := hI.2.2.1
  induction n with
  | zero =>
    intro i sum l6 l7 e hs hb
    rw [x140_6]
    repeat' (first | (exfalso; omega) | (simp (disch := first | omega | assumption | exact z_b_01) only [x140_0, x140_1, x140_3, x140_4, x140_8, x140_9, x140_12, x140_13, x140_14, x140_17, x140_18, x140_21, x140_23, x140_26, x140_27, x140_28, x140_29, x140_31, x140_32, x140_34, x140_37, x140_40, x140_41, x140_44, x140_46, x140_47, x140_50, x140_51, x140_54, x140_55, x140_58, x140_60, x140_63, x140_64, x140_65, x140_66, x140_67, x140_70, x140_71, x140_74, x140_75, x140_77, x140_79, x140_81, x140_84, x140_85, x140_88, x140_89, x140_92, x140_94, x140_97, x140_98, x140_99, x140_100, x140_103, x140_104, x140_107, x140_108, x140_109, x140_111, x140_114, x140_117, x140_119, Option.bind_some, Option.toList_some, Option.toList_none, List.cons_append, List.nil_append, Int.toNat_natCast, Int.toNat_zero, z_w_id, z_b_0, z_b_1, z_b_n0, z_b_t, z_b_f, ↓reduceIte, Int.reduceEq, Int.reduceLT, Int.reduceLE, Int.reduceToNat, not_true_eq_false, not_false_eq_true, false_and, and_false, true_and, and_true, false_or, or_false, true_or, or_true, List.range'_zero, s_sum_nil]) | split)
    all_goals (refine z_ri ?_ rfl; omega)
  | succ n ih =>
    intro i sum l6 l7 e hs hb
    have hj := hI.2.2.2.2.1 i (by omega)
    have h2 := hI.2.1
    obtain ⟨k, hk⟩ : ∃ k : Nat, M 0 31 (100 + 7 * i) = (k : Int) := ⟨(M 0 31 (100 + 7 * i)).toNat, by omega⟩
    have k1 := k_its (j := i) (by omega) M
    have k2 := k_mwaits (j := i) (by omega) M
    have k3 := k_kind (j := k) (by omega) M
    have ih' := fun (sum : Int) (l6 l7 : Option z_V) (h1 : 0 ≤ sum) (h2 : sum + 99 * (n : Int) ≤ 20000) => ih (i + 1) sum l6 l7 (by omega) h1 h2
    simp only [Int.natCast_add, Int.natCast_one] at ih'
    rw [x140_6, List.range'_succ, s_sum_cons, ← Int.add_assoc]
    generalize s_sum (List.range' (i + 1) n) (m_cnt (M 0 31) c g z) = S at ih' ⊢
    obtain ⟨v, hv⟩ : ∃ v, m_cnt (M 0 31) c g z i = v := ⟨_, rfl⟩
    rw [hv]
    unfold m_cnt at hv
    rw [hk, Int.toNat_natCast] at hv
    repeat' (first | (exfalso; omega) | (simp (disch := first | omega | assumption | exact z_b_01) only [x140_0, x140_1, x140_3, x140_4, x140_8, x140_9, x140_12, x140_13, x140_14, x140_17, x140_18, x140_21, x140_23, x140_26, x140_27, x140_28, x140_29, x140_31, x140_32, x140_34, x140_37, x140_40, x140_41, x140_44, x140_46, x140_47, x140_50, x140_51, x140_54, x140_55, x140_58, x140_60, x140_63, x140_64, x140_65, x140_66, x140_67, x140_70, x140_71, x140_74, x140_75, x140_77, x140_79, x140_81, x140_84, x140_85, x140_88, x140_89, x140_92, x140_94, x140_97, x140_98, x140_99, x140_100, x140_103, x140_104, x140_107, x140_108, x140_109, x140_111, x140_114, x140_117, x140_119, Option.bind_some, Option.toList_some, Option.toList_none, List.cons_append, List.nil_append, Int.toNat_natCast, Int.toNat_zero, z_w_id, z_b_0, z_b_1, z_b_n0, z_b_t, z_b_f, ↓reduceIte, Int.reduceEq, Int.reduceLT, Int.reduceLE, Int.reduceToNat, not_true_eq_false, not_false_eq_true, false_and, and_false, true_and, and_true, false_or, or_false, true_or, or_true, k1, k2, k3, hk, ix_1, ih', Int.add_zero]) | split)
    all_goals (refine z_ri ?_ rfl; (repeat' split at hv) <;> omega)
theorem k_waiting {M : z_M} (hI : m_I (M 0 31)) (c g z : Int) : z_ev 140 [.inr (some (0, 30)), .inl c, .inl g, .inl z] M = some (some (.inl (s_sum (List.range' 0 (M 0 31 3).toNat) (m_cnt (M 0 31) c g z))), M) := by
  have h := hI.2.2.1
  have k := k_waiting_loop hI c g z (M 0 31 3).toNat 0 0 none none (by omega) (by omega) (by omega)
  rw [x140]
  simp (disch := first | omega | assumption) only [x140_0, x140_1, x140_3, x140_4, x140_8, x140_9, x140_12, x140_13, x140_14, x140_17, x140_18, x140_21, x140_23, x140_26, x140_27, x140_28, x140_29, x140_31, x140_32, x140_34, x140_37, x140_40, x140_41, x140_44, x140_46, x140_47, x140_50, x140_51, x140_54, x140_55, x140_58, x140_60, x140_63, x140_64, x140_65, x140_66, x140_67, x140_70, x140_71, x140_74, x140_75, x140_77, x140_79, x140_81, x140_84, x140_85, x140_88, x140_89, x140_92, x140_94, x140_97, x140_98, x140_99, x140_100, x140_103, x140_104, x140_107, x140_108, x140_109, x140_111, x140_114, x140_117, x140_119, Option.bind_some, Option.toList_some, Option.toList_none, List.cons_append, List.nil_append, Int.toNat_natCast, Int.toNat_zero, z_w_id, z_b_0, z_b_1, z_b_n0, z_b_t, z_b_f, ↓reduceIte, Int.reduceEq, Int.reduceLT, Int.reduceLE, Int.reduceToNat, not_true_eq_false, not_false_eq_true, false_and, and_false, true_and, and_true, false_or, or_false, true_or, or_true]
  exact k.trans (z_ri (by omega) rfl)
abbrev m_old (ρ : Nat → Int) (j : Nat) : Prop := ρ (100 + 7 * j + 3) = 0 ∧ 0 < ρ (20 + 10 * (ρ (100 + 7 * j)).toNat + 6) ∧ ρ (20 + 10 * (ρ (100 + 7 * j)).toNat + 6) ≤ ρ 0 - ρ (100 + 7 * j + 2)
theorem k_misOld {M : z_M} (hI : m_I (M 0 31)) {j : Nat} (hj : (j : Int) < M 0 31 3) : z_ev 109 [.inr (some (0, 30)), .inl (j : Int)] M = some (some (.inl (z_b (m_old (M 0 31) j))), M) := by
  have h := hI.2.2.1
  have h2 := hI.2.1
  have h4 := hI.2.2.2.1
  have hjj := hI.2.2.2.2.1 j hj
  obtain ⟨k, hk⟩ : ∃ k : Nat, M 0 31 (100 + 7 * j) = (k : Int) := ⟨(M 0 31 (100 + 7 * j)).toNat, by omega⟩
  have hkk := hI.2.2.2.2.2 k (by omega)
  have k1 := k_its (j := j) (by omega) M
  have k2 := k_mwaits (j := j) (by omega) M
  have k3 := k_kind (j := k) (by omega) M
  unfold m_old
  rw [hk, Int.toNat_natCast, x109]
  repeat' (first | (exfalso; omega) | (simp (disch := first | omega | assumption | exact z_b_01) only [x109_0, x109_1, x109_4, x109_5, x109_8, x109_9, x109_12, x109_13, x109_14, x109_15, x109_18, x109_20, x109_21, x109_22, x109_23, x109_24, x109_25, x109_28, x109_31, x109_32, x109_35, x109_36, x109_39, x109_40, x109_41, x109_42, x109_45, x109_46, x109_49, x109_50, x109_51, x109_52, x109_53, x109_54, x109_57, x109_58, x109_61, x109_62, Option.bind_some, Option.toList_some, Option.toList_none, List.cons_append, List.nil_append, Int.toNat_natCast, Int.toNat_zero, z_w_id, z_b_0, z_b_1, z_b_n0, z_b_t, z_b_f, ↓reduceIte, Int.reduceEq, Int.reduceLT, Int.reduceLE, Int.reduceToNat, not_true_eq_false, not_false_eq_true, false_and, and_false, true_and, and_true, false_or, or_false, true_or, or_true, k1, k2, k3, hk, ix_2, ix_6, Int.add_zero]) | split)
  all_goals (refine z_ri ?_ rfl; unfold z_b; split <;> omega)
theorem k_mfirstOld_loop {M : z_M} (hI : m_I (M 0 31)) : ∀ n i : Nat, (i : Int) + n = M 0 31 3 → z_ex 103 2 [some (.inr (some (0, 30))), some (.inl (i : Int))] [] M = some (some (.inl (s_fst (List.range' i n) fun j => m_old (M 0 31) j)), M) := by
  intro n
  have h := hI.2.2.1
  induction n with
  | zero =>
    intro i e
    rw [x103_2]
    repeat' (first | (exfalso; omega) | (simp (disch := first | omega | assumption | exact z_b_01) only [x103_0, x103_1, x103_3, x103_4, x103_7, x103_8, x103_9, x103_12, x103_13, x103_14, x103_17, x103_20, x103_21, x103_22, x103_25, x103_28, x103_30, Option.bind_some, Option.toList_some, Option.toList_none, List.cons_append, List.nil_append, Int.toNat_natCast, Int.toNat_zero, z_w_id, z_b_0, z_b_1, z_b_n0, z_b_t, z_b_f, ↓reduceIte, Int.reduceEq, Int.reduceLT, Int.reduceLE, Int.reduceToNat, not_true_eq_false, not_false_eq_true, false_and, and_false, true_and, and_true, false_or, or_false, true_or, or_true, List.range'_zero, s_fst_nil]) | split)
    all_goals rfl
  | succ n ih =>
    intro i e
    have k1 := k_misOld hI (j := i) (by omega)
    have ih' := ih (i + 1) (by omega)
    simp only [Int.natCast_add, Int.natCast_one] at ih'
    rw [x103_2, List.range'_succ, s_fst_cons]
    by_cases ho : m_old (M 0 31) i
    · rw [z_b_t ho] at k1
      rw [if_pos ho]
      repeat' (first | (exfalso; omega) | (simp (disch := first | omega | assumption | exact z_b_01) only [x103_0, x103_1, x103_3, x103_4, x103_7, x103_8, x103_9, x103_12, x103_13, x103_14, x103_17, x103_20, x103_21, x103_22, x103_25, x103_28, x103_30, Option.bind_some, Option.toList_some, Option.toList_none, List.cons_append, List.nil_append, Int.toNat_natCast, Int.toNat_zero, z_w_id, z_b_0, z_b_1, z_b_n0, z_b_t, z_b_f, ↓reduceIte, Int.reduceEq, Int.reduceLT, Int.reduceLE, Int.reduceToNat, not_true_eq_false, not_false_eq_true, false_and, and_false, true_and, and_true, false_or, or_false, true_or, or_true, k1]) | split)
      all_goals rfl
    · rw [z_b_f ho] at k1
      rw [if_neg ho]
      repeat' (first | (exfalso; omega) | (simp (disch := first | omega | assumption | exact z_b_01) only [x103_0, x103_1, x103_3, x103_4, x103_7, x103_8, x103_9, x103_12, x103_13, x103_14, x103_17, x103_20, x103_21, x103_22, x103_25, x103_28, x103_30, Option.bind_some, Option.toList_some, Option.toList_none, List.cons_append, List.nil_append, Int.toNat_natCast, Int.toNat_zero, z_w_id, z_b_0, z_b_1, z_b_n0, z_b_t, z_b_f, ↓reduceIte, Int.reduceEq, Int.reduceLT, Int.reduceLE, Int.reduceToNat, not_true_eq_false, not_false_eq_true, false_and, and_false, true_and, and_true, false_or, or_false, true_or, or_true, k1, ih']) | split)
      all_goals rfl
theorem k_mfirstOld {M : z_M} (hI : m_I (M 0 31)) : z_ev 103 [.inr (some (0, 30))] M = some (some (.inl (s_fst (List.range' 0 (M 0 31 3).toNat) fun j => m_old (M 0 31) j)), M) := by
  have h := hI.2.2.1
  have k := k_mfirstOld_loop hI (M 0 31 3).toNat 0 (by omega)
  rw [x103]
  simp (disch := first | omega | assumption) only [x103_0, x103_1, x103_3, x103_4, x103_7, x103_8, x103_9, x103_12, x103_13, x103_14, x103_17, x103_20, x103_21, x103_22, x103_25, x103_28, x103_30, Option.bind_some, Option.toList_some, Option.toList_none, List.cons_append, List.nil_append, Int.toNat_natCast, Int.toNat_zero, z_w_id, z_b_0, z_b_1, z_b_n0, z_b_t, z_b_f, ↓reduceIte, Int.reduceEq, Int.reduceLT, Int.reduceLE, Int.reduceToNat, not_true_eq_false, not_false_eq_true, false_and, and_false, true_and, and_true, false_or, or_false, true_or, or_true]
  exact k
theorem k_jobsThat_loop {M : z_M} (hI : m_I (M 0 31)) {b : Int} (hb : b = 0 ∨ b = 1) : ∀ (n i : Nat) (sum : Int), (i : Int) + n = M 0 31 3 → 0 ≤ sum → sum + n ≤ 200 → z_ex 113 4 [some (.inr (some (0, 30))), some (.inl b), some (.inl sum), some (.inl (i : Int))] [] M = some (some (.inl (sum + s_sum (List.range' i n) fun j => if b = 0 then (if M 0 31 (100 + 7 * j + 3) = 2 then 1 else 0) else z_b (m_old (M 0 31) j))), M) := by
  intro n
  have h := hI.2.2.1
  induction n with
  | zero =>
    intro i sum e hs hbn
    rw [x113_4]
    repeat' (first | (exfalso; omega) | (simp (disch := first | omega | assumption | exact z_b_01) only [x113_0, x113_1, x113_2, x113_3, x113_5, x113_6, x113_9, x113_10, x113_11, x113_14, x113_15, x113_16, x113_19, x113_20, x113_21, x113_24, x113_27, x113_30, x113_31, x113_34, x113_35, x113_38, x113_39, x113_40, x113_41, x113_42, x113_45, x113_46, x113_49, x113_50, x113_51, x113_52, x113_55, x113_58, x113_59, Option.bind_some, Option.toList_some, Option.toList_none, List.cons_append, List.nil_append, Int.toNat_natCast, Int.toNat_zero, z_w_id, z_b_0, z_b_1, z_b_n0, z_b_t, z_b_f, ↓reduceIte, Int.reduceEq, Int.reduceLT, Int.reduceLE, Int.reduceToNat, not_true_eq_false, not_false_eq_true, false_and, and_false, true_and, and_true, false_or, or_false, true_or, or_true, List.range'_zero, s_sum_nil]) | split)
    all_goals (refine z_ri ?_ rfl; omega)
  | succ n ih =>
    intro i sum e hs hbn
    have k1 := k_misOld hI (j := i) (by omega)
    have k2 := k_its (j := i) (by omega) M
    have ih' := fun (sum : Int) (h1 : 0 ≤ sum) (h2 : sum + n ≤ 200) => ih (i + 1) sum (by omega) h1 h2
    simp only [Int.natCast_add, Int.natCast_one] at ih'
    rw [x113_4, List.range'_succ, s_sum_cons, ← Int.add_assoc]
    by_cases ho : m_old (M 0 31) i
    · rw [z_b_t ho] at k1 ⊢
      repeat' (first | (exfalso; omega) | (simp (disch := first | omega | assumption | exact z_b_01) only [x113_0, x113_1, x113_2, x113_3, x113_5, x113_6, x113_9, x113_10, x113_11, x113_14, x113_15, x113_16, x113_19, x113_20, x113_21, x113_24, x113_27, x113_30, x113_31, x113_34, x113_35, x113_38, x113_39, x113_40, x113_41, x113_42, x113_45, x113_46, x113_49, x113_50, x113_51, x113_52, x113_55, x113_58, x113_59, Option.bind_some, Option.toList_some, Option.toList_none, List.cons_append, List.nil_append, Int.toNat_natCast, Int.toNat_zero, z_w_id, z_b_0, z_b_1, z_b_n0, z_b_t, z_b_f, ↓reduceIte, Int.reduceEq, Int.reduceLT, Int.reduceLE, Int.reduceToNat, not_true_eq_false, not_false_eq_true, false_and, and_false, true_and, and_true, false_or, or_false, true_or, or_true, k1, k2, ix_3, ih']) | split)
      all_goals (refine z_ri ?_ rfl; omega)
    · rw [z_b_f ho] at k1 ⊢
      repeat' (first | (exfalso; omega) | (simp (disch := first | omega | assumption | exact z_b_01) only [x113_0, x113_1, x113_2, x113_3, x113_5, x113_6, x113_9, x113_10, x113_11, x113_14, x113_15, x113_16, x113_19, x113_20, x113_21, x113_24, x113_27, x113_30, x113_31, x113_34, x113_35, x113_38, x113_39, x113_40, x113_41, x113_42, x113_45, x113_46, x113_49, x113_50, x113_51, x113_52, x113_55, x113_58, x113_59, Option.bind_some, Option.toList_some, Option.toList_none, List.cons_append, List.nil_append, Int.toNat_natCast, Int.toNat_zero, z_w_id, z_b_0, z_b_1, z_b_n0, z_b_t, z_b_f, ↓reduceIte, Int.reduceEq, Int.reduceLT, Int.reduceLE, Int.reduceToNat, not_true_eq_false, not_false_eq_true, false_and, and_false, true_and, and_true, false_or, or_false, true_or, or_true, k1, k2, ix_3, ih']) | split)
      all_goals (refine z_ri ?_ rfl; omega)
theorem k_jobsThat {M : z_M} (hI : m_I (M 0 31)) {b : Int} (hb : b = 0 ∨ b = 1) : z_ev 113 [.inr (some (0, 30)), .inl b] M = some (some (.inl (s_sum (List.range' 0 (M 0 31 3).toNat) fun j => if b = 0 then (if M 0 31 (100 + 7 * j + 3) = 2 then 1 else 0) else z_b (m_old (M 0 31) j))), M) := by
  have h := hI.2.2.1
  have k := k_jobsThat_loop hI hb (M 0 31 3).toNat 0 0 (by omega) (by omega) (by omega)
  rw [x113]
  simp (disch := first | omega | assumption) only [x113_0, x113_1, x113_2, x113_3, x113_5, x113_6, x113_9, x113_10, x113_11, x113_14, x113_15, x113_16, x113_19, x113_20, x113_21, x113_24, x113_27, x113_30, x113_31, x113_34, x113_35, x113_38, x113_39, x113_40, x113_41, x113_42, x113_45, x113_46, x113_49, x113_50, x113_51, x113_52, x113_55, x113_58, x113_59, Option.bind_some, Option.toList_some, Option.toList_none, List.cons_append, List.nil_append, Int.toNat_natCast, Int.toNat_zero, z_w_id, z_b_0, z_b_1, z_b_n0, z_b_t, z_b_f, ↓reduceIte, Int.reduceEq, Int.reduceLT, Int.reduceLE, Int.reduceToNat, not_true_eq_false, not_false_eq_true, false_and, and_false, true_and, and_true, false_or, or_false, true_or, or_true]
  exact k.trans (z_ri (by omega) rfl)
def m_why (ρ : Nat → Int) (c z : Int) : Int := if ¬ (0 ≤ c ∧ c < ρ 2) then -1 else if ¬ (1 ≤ z ∧ z ≤ 99) then -2 else if ρ (20 + 10 * c.toNat + 5) < z then -4 else if s_sum (List.range' 0 (ρ 3).toNat) (m_cnt ρ (-5) (-5) 0) = 60 ∨ ρ 3 = 200 then -3 else 0
theorem k_against {M : z_M} (hI : m_I (M 0 31)) (c z : Int) : z_ev 90 [.inr (some (0, 30)), .inl c, .inl z] M = some (some (.inl (m_why (M 0 31) c z)), M) := by
  have h2 := hI.2.1
  have k1 := k_noClass h2 c
  have k4 := k_waiting hI (-5) (-5) 0
  unfold m_why
  rw [x90]
  by_cases hc : 0 ≤ c ∧ c < M 0 31 2
  · obtain ⟨k, hk⟩ : ∃ k : Nat, c = (k : Int) := ⟨c.toNat, by omega⟩
    subst hk
    have k3 := k_kind (j := k) (by omega) M
    rw [z_b_f (fun q => q hc)] at k1
    generalize s_sum (List.range' 0 (M 0 31 3).toNat) (m_cnt (M 0 31) (-5) (-5) 0) = w at k4 ⊢
    repeat' (first | (exfalso; omega) | (simp (disch := first | omega | assumption | exact z_b_01) only [x90_0, x90_1, x90_2, x90_5, x90_8, x90_9, x90_10, x90_11, x90_12, x90_14, x90_17, x90_20, x90_22, x90_23, x90_24, x90_27, x90_28, x90_31, x90_32, x90_33, x90_34, x90_35, x90_38, x90_40, x90_41, x90_42, x90_44, x90_46, x90_47, x90_50, x90_52, x90_55, x90_56, x90_59, x90_60, x90_61, x90_64, x90_67, x90_69, x90_72, x90_73, Option.bind_some, Option.toList_some, Option.toList_none, List.cons_append, List.nil_append, Int.toNat_natCast, Int.toNat_zero, z_w_id, z_b_0, z_b_1, z_b_n0, z_b_t, z_b_f, ↓reduceIte, Int.reduceEq, Int.reduceLT, Int.reduceLE, Int.reduceToNat, not_true_eq_false, not_false_eq_true, false_and, and_false, true_and, and_true, false_or, or_false, true_or, or_true, k1, k3, k4, k_in, ix_5]) | split)
    all_goals (refine z_ri ?_ rfl; omega)
  · rw [z_b_t hc] at k1
    repeat' (first | (exfalso; omega) | (simp (disch := first | omega | assumption | exact z_b_01) only [x90_0, x90_1, x90_2, x90_5, x90_8, x90_9, x90_10, x90_11, x90_12, x90_14, x90_17, x90_20, x90_22, x90_23, x90_24, x90_27, x90_28, x90_31, x90_32, x90_33, x90_34, x90_35, x90_38, x90_40, x90_41, x90_42, x90_44, x90_46, x90_47, x90_50, x90_52, x90_55, x90_56, x90_59, x90_60, x90_61, x90_64, x90_67, x90_69, x90_72, x90_73, Option.bind_some, Option.toList_some, Option.toList_none, List.cons_append, List.nil_append, Int.toNat_natCast, Int.toNat_zero, z_w_id, z_b_0, z_b_1, z_b_n0, z_b_t, z_b_f, ↓reduceIte, Int.reduceEq, Int.reduceLT, Int.reduceLE, Int.reduceToNat, not_true_eq_false, not_false_eq_true, false_and, and_false, true_and, and_true, false_or, or_false, true_or, or_true, k1]) | split)
    all_goals (refine z_ri ?_ rfl; omega)
