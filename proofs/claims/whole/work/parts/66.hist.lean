/-! the states kept -/
theorem k_roomAt {M : z_M} {i : Nat} (h : i < 4) : z_ev 12 [.inr (some (0, 22)), .inl (i : Int)] M = some (some (.inr (some (z_rg (M 0 23 i), 0))), M) := by
  rw [x12]
  repeat' (first | (exfalso; omega) | (simp (disch := first | omega | assumption | exact z_b_01) only [x12_0, x12_1, x12_4, x12_5, x12_6, x12_9, x12_10, x12_13, x12_14, x12_15, x12_18, x12_19, Option.bind_some, Option.toList_some, Option.toList_none, List.cons_append, List.nil_append, Int.toNat_natCast, Int.toNat_zero, z_w_id, z_b_0, z_b_1, z_b_n0, z_b_t, z_b_f, ↓reduceIte, Int.reduceEq, Int.reduceLT, Int.reduceLE, Int.reduceToNat, not_true_eq_false, not_false_eq_true, false_and, and_false, true_and, and_true, false_or, or_false, true_or, or_true]) | split)
  all_goals rfl
