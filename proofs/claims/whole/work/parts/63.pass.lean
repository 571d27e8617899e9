/-! a tick and the ticks of a pass, both sides -/
theorem k_tick {M Mm : z_M} {i : Int} {T A : Nat → Nat → Int} {ρ : Nat → Int} {l : List Nat} (hi : 0 ≤ i) (hF : e_F i A ρ l) (ht : A 0 3 ≤ 29000) :
    ∃ (T' A1 : Nat → Nat → Int) (ρ1 : Nat → Int) (l1 : List Nat) (r : Int), e_F (i + 1) A1 ρ1 l1 ∧ A1 0 3 = A 0 3 + 1 ∧ A1 2 0 = A 2 0 ∧ (0 ≤ r ∧ r ≤ 1) ∧
      z_ev 77 [.inr (some (0, 21))] (z_ur (z_ut M T) 0 A) = some (some (.inl r), z_ur (z_ut M T') 0 A1) ∧
      z_ev 137 [.inr (some (0, 30))] (z_mr Mm ρ) = some (some (.inl r), z_mr Mm ρ1) := by
  obtain ⟨T', A1, ρ1, l1, F1, hl1, e03, e20, e30, c1, m1⟩ := k_pre (M := M) (Mm := Mm) (T := T) hF
  rw [x77, x137]
  by_cases h5 : A1 0 5 = -5
  · obtain ⟨A2, ρ2, F2, f03, f20, c2, m2⟩ := k_tick0 (M := z_ut M T') (Mm := Mm) hi F1 h5 (by omega)
    exact ⟨T', A2, ρ2, l1, 0, F2, by omega, by omega, by omega, c1.trans c2, m1.trans m2⟩
  · by_cases h6 : 1 < A1 0 6
    · obtain ⟨A2, ρ2, F2, f03, f20, c2, m2⟩ := k_tick1a (M := z_ut M T') (Mm := Mm) hi F1 h5 (by omega) h6
      exact ⟨T', A2, ρ2, l1, 0, F2, by omega, by omega, by omega, c1.trans c2, m1.trans m2⟩
    · obtain ⟨A2, ρ2, F2, f03, f20, c2, m2⟩ := k_tick1b (M := z_ut M T') (Mm := Mm) hi F1 h5 (by omega) h6
      exact ⟨T', A2, ρ2, l1, 1, F2, by omega, by omega, by omega, c1.trans c2, m1.trans m2⟩
theorem k_ticks {M Mm : z_M} {n : Int} (hn : 0 ≤ n ∧ n ≤ 500) : ∀ (m i : Nat) (sum : Int) (T A : Nat → Nat → Int) (ρ : Nat → Int) (l : List Nat), (i : Int) + m = n → e_F i A ρ l → A 0 3 + m ≤ 29000 → 0 ≤ sum → sum + m ≤ 500 →
    ∃ (T' A1 : Nat → Nat → Int) (ρ1 : Nat → Int) (l1 : List Nat) (r : Int), e_F n A1 ρ1 l1 ∧ A1 0 3 = A 0 3 + m ∧ A1 2 0 = A 2 0 ∧ (0 ≤ r ∧ r ≤ 500) ∧
      z_ex 76 47 [some (.inr (some (0, 21))), some (.inl n), some (.inl sum), some (.inl (i : Int))] [] (z_ur (z_ut M T) 0 A) = z_ex 76 65 [some (.inr (some (0, 21))), some (.inl n), some (.inl r), some (.inl n)] [] (z_ur (z_ut M T') 0 A1) ∧
      z_ex 123 39 [some (.inr (some (0, 30))), some (.inl n), some (.inl sum), some (.inl (i : Int))] [] (z_mr Mm ρ) = some (some (.inl r), z_mr Mm ρ1) := by
  intro m
  induction m with
  | zero =>
    intro i sum T A ρ l e hF ht h0 h1
    have e' : (i : Int) = n := by omega
    rw [e'] at hF ⊢
    refine ⟨T, A, ρ, l, sum, hF, by simp, rfl, by omega, ?_, ?_⟩
    · rw [x76_47]
      repeat' (first | (exfalso; omega) | (simp (disch := first | omega | assumption | exact z_b_01) only [x76_0, x76_1, x76_2, x76_5, x76_8, x76_11, x76_13, x76_14, x76_15, x76_18, x76_21, x76_22, x76_23, x76_26, x76_29, x76_31, x76_32, x76_33, x76_36, x76_37, x76_40, x76_43, x76_44, x76_45, x76_46, x76_48, x76_49, x76_52, x76_53, x76_54, x76_57, x76_58, x76_59, x76_62, x76_66, x76_69, x76_72, x76_73, x76_76, x76_77, Option.bind_some, Option.toList_some, Option.toList_none, List.cons_append, List.nil_append, Int.toNat_natCast, Int.toNat_zero, z_w_id, z_b_0, z_b_1, z_b_n0, z_b_t, z_b_f, ↓reduceIte, Int.reduceEq, Int.reduceLT, Int.reduceLE, Int.reduceToNat, not_true_eq_false, not_false_eq_true, false_and, and_false, true_and, and_true, false_or, or_false, true_or, or_true]) | split)
      all_goals rfl
    · rw [x123_39]
      repeat' (first | (exfalso; omega) | (simp (disch := first | omega | assumption | exact z_b_01) only [x123_0, x123_1, x123_2, x123_5, x123_8, x123_11, x123_13, x123_14, x123_15, x123_18, x123_19, x123_20, x123_21, x123_22, x123_25, x123_28, x123_30, x123_31, x123_32, x123_35, x123_36, x123_37, x123_38, x123_40, x123_41, x123_44, x123_45, x123_46, x123_49, x123_50, x123_51, x123_54, x123_57, x123_58, Option.bind_some, Option.toList_some, Option.toList_none, List.cons_append, List.nil_append, Int.toNat_natCast, Int.toNat_zero, z_w_id, z_b_0, z_b_1, z_b_n0, z_b_t, z_b_f, ↓reduceIte, Int.reduceEq, Int.reduceLT, Int.reduceLE, Int.reduceToNat, not_true_eq_false, not_false_eq_true, false_and, and_false, true_and, and_true, false_or, or_false, true_or, or_true]) | split)
      all_goals rfl
  | succ m ih =>
    intro i sum T A ρ l e hF ht h0 h1
    simp only [Int.natCast_add, Int.natCast_one] at e ht h1
    obtain ⟨T1, A1, ρ1, l1, r, F1, a03, a20, hr, c1, m1⟩ := k_tick (M := M) (Mm := Mm) (T := T) (by omega) hF (by omega)
    obtain ⟨T2, A2, ρ2, l2, r2, F2, b03, b20, hr2, c2, m2⟩ := ih (i + 1) (sum + r) T1 A1 ρ1 l1 (by omega) (by simp only [Int.natCast_add, Int.natCast_one]; exact F1) (by omega) (by omega) (by omega)
    simp only [Int.natCast_add, Int.natCast_one] at c2 m2
    refine ⟨T2, A2, ρ2, l2, r2, F2, by simp only [Int.natCast_add, Int.natCast_one]; omega, by omega, hr2, ?_, ?_⟩
    · rw [x76_47]
      repeat' (first | (exfalso; omega) | (simp (disch := first | omega | assumption | exact z_b_01) only [x76_0, x76_1, x76_2, x76_5, x76_8, x76_11, x76_13, x76_14, x76_15, x76_18, x76_21, x76_22, x76_23, x76_26, x76_29, x76_31, x76_32, x76_33, x76_36, x76_37, x76_40, x76_43, x76_44, x76_45, x76_46, x76_48, x76_49, x76_52, x76_53, x76_54, x76_57, x76_58, x76_59, x76_62, x76_66, x76_69, x76_72, x76_73, x76_76, x76_77, Option.bind_some, Option.toList_some, Option.toList_none, List.cons_append, List.nil_append, Int.toNat_natCast, Int.toNat_zero, z_w_id, z_b_0, z_b_1, z_b_n0, z_b_t, z_b_f, ↓reduceIte, Int.reduceEq, Int.reduceLT, Int.reduceLE, Int.reduceToNat, not_true_eq_false, not_false_eq_true, false_and, and_false, true_and, and_true, false_or, or_false, true_or, or_true, c1, c2]) | split)
      all_goals rfl
    · rw [x123_39]
      repeat' (first | (exfalso; omega) | (simp (disch := first | omega | assumption | exact z_b_01) only [x123_0, x123_1, x123_2, x123_5, x123_8, x123_11, x123_13, x123_14, x123_15, x123_18, x123_19, x123_20, x123_21, x123_22, x123_25, x123_28, x123_30, x123_31, x123_32, x123_35, x123_36, x123_37, x123_38, x123_40, x123_41, x123_44, x123_45, x123_46, x123_49, x123_50, x123_51, x123_54, x123_57, x123_58, Option.bind_some, Option.toList_some, Option.toList_none, List.cons_append, List.nil_append, Int.toNat_natCast, Int.toNat_zero, z_w_id, z_b_0, z_b_1, z_b_n0, z_b_t, z_b_f, ↓reduceIte, Int.reduceEq, Int.reduceLT, Int.reduceLE, Int.reduceToNat, not_true_eq_false, not_false_eq_true, false_and, and_false, true_and, and_true, false_or, or_false, true_or, or_true, m1, m2]) | split)
      all_goals rfl
