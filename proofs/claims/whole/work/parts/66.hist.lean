/-! the states kept -/
theorem k_roomAt {M : z_M} {i : Nat} (h : i < 4) : z_ev 12 [.inr (some (0, 22)), .inl (i : Int)] M = some (some (.inr (some (z_rg (M 0 23 i), 0))), M) := by
  rw [x12]
  repeat' (first | (exfalso; omega) | (simp (disch := first | omega | assumption | exact z_b_01) only [x12_0, x12_1, x12_4, x12_5, x12_6, x12_9, x12_10, x12_13, x12_14, x12_15, x12_18, x12_19, Option.bind_some, Option.toList_some, Option.toList_none, List.cons_append, List.nil_append, Int.toNat_natCast, Int.toNat_zero, z_w_id, z_b_0, z_b_1, z_b_n0, z_b_t, z_b_f, ↓reduceIte, Int.reduceEq, Int.reduceLT, Int.reduceLE, Int.reduceToNat, not_true_eq_false, not_false_eq_true, false_and, and_false, true_and, and_true, false_or, or_false, true_or, or_true]) | split)
  all_goals rfl
theorem k_dropOldest {M : z_M} (h : 1 ≤ M 0 22 0 ∧ M 0 22 0 ≤ 4) : z_ev 10 [.inr (some (0, 22))] M = some (none, z_up (z_up (z_up (z_up (z_up M 0 23 0 ((z_rg (M 0 23 1)).val : Int)) 0 23 1 ((z_rg (M 0 23 2)).val : Int)) 0 23 2 ((z_rg (M 0 23 3)).val : Int)) 0 23 3 ((z_rg (M 0 23 0)).val : Int)) 0 22 0 (M 0 22 0 - 1)) := by
  have n2 : ∀ v, z_up M 0 23 0 v 0 23 2 = M 0 23 2 := fun v => z_up_ne (by decide)
  have n3 : ∀ v w, z_up (z_up M 0 23 0 v) 0 23 1 w 0 23 3 = M 0 23 3 := fun v w => by rw [z_up_ne (by decide), z_up_ne (by decide)]
  have n4 : ∀ v w x y, z_up (z_up (z_up (z_up M 0 23 0 v) 0 23 1 w) 0 23 2 x) 0 23 3 y 0 22 0 = M 0 22 0 := fun v w x y => by rw [z_up_ne (by decide), z_up_ne (by decide), z_up_ne (by decide), z_up_ne (by decide)]
  rw [x10]
  repeat' (first | (exfalso; omega) | (simp (disch := first | omega | assumption | exact z_b_01) only [x10_0, x10_1, x10_4, x10_5, x10_6, x10_7, x10_8, x10_9, x10_10, x10_11, x10_14, x10_15, x10_18, x10_19, x10_20, x10_21, x10_22, x10_25, x10_26, x10_27, x10_28, x10_31, x10_34, x10_35, x10_38, x10_39, x10_40, x10_41, x10_42, x10_43, x10_46, x10_47, x10_48, x10_51, Option.bind_some, Option.toList_some, Option.toList_none, List.cons_append, List.nil_append, Int.toNat_natCast, Int.toNat_zero, z_w_id, z_b_0, z_b_1, z_b_n0, z_b_t, z_b_f, ↓reduceIte, Int.reduceEq, Int.reduceLT, Int.reduceLE, Int.reduceToNat, not_true_eq_false, not_false_eq_true, false_and, and_false, true_and, and_true, false_or, or_false, true_or, or_true, n2, n3, n4, Int.reduceAdd, Int.reduceSub]) | split)
  all_goals rfl
theorem k_pushRoom {M : z_M} {n : Nat} (hn : M 0 22 0 = (n : Int)) (h4 : n < 4) (hq : z_rg (M 0 23 n) ≠ 0) : z_ev 11 [.inr (some (0, 22)), .inr (some (0, 0))] M = some (none, z_up (z_ur M (z_rg (M 0 23 n)) (a_copy (M (z_rg (M 0 23 n))) (M 0))) 0 22 0 ((n : Int) + 1)) := by
  have k1 := k_roomAt (M := M) h4
  have k2 := k_State_copy (s := z_rg (M 0 23 n)) (s2 := 0) (Ne.symm hq) (M := M) (A := M (z_rg (M 0 23 n)))
  rw [z_ur_self] at k2
  have k3 : z_ur M (z_rg (M 0 23 n)) (a_copy (M (z_rg (M 0 23 n))) (M 0)) 0 22 0 = (n : Int) := by rw [z_ur_top (by decide)]; exact hn
  generalize z_rg (M 0 23 n) = q at *
  rw [x11]
  repeat' (first | (exfalso; omega) | (simp (disch := first | omega | assumption | exact z_b_01) only [x11_0, x11_1, x11_4, x11_5, x11_8, x11_9, x11_12, x11_13, x11_14, x11_17, x11_20, x11_21, x11_22n, x11_22s, x11_25, x11_26, x11_27, x11_30, x11_31, x11_32, x11_35, x11_36, x11_37, x11_40, Option.bind_some, Option.toList_some, Option.toList_none, List.cons_append, List.nil_append, Int.toNat_natCast, Int.toNat_zero, z_w_id, z_b_0, z_b_1, z_b_n0, z_b_t, z_b_f, ↓reduceIte, Int.reduceEq, Int.reduceLT, Int.reduceLE, Int.reduceToNat, not_true_eq_false, not_false_eq_true, false_and, and_false, true_and, and_true, false_or, or_false, true_or, or_true, hn, k1, k2, k3]) | split)
  all_goals rfl
theorem k_takeLatest {M : z_M} {n : Nat} (hn : M 0 22 0 = ((n + 1 : Nat) : Int)) (h4 : n < 4) (hq : z_rg (M 0 23 n) ≠ 0) : z_ev 13 [.inr (some (0, 22)), .inr (some (0, 0))] M = some (none, z_up (z_ur M 0 (a_copy (M 0) (M (z_rg (M 0 23 n))))) 0 22 0 (n : Int)) := by
  have k1 := k_roomAt (M := M) h4
  have k2 := k_State_copy (s := 0) (s2 := z_rg (M 0 23 n)) hq (M := M) (A := M 0)
  rw [z_ur_self] at k2
  have k3 : z_ur M 0 (a_copy (M 0) (M (z_rg (M 0 23 n)))) 0 22 0 = ((n + 1 : Nat) : Int) := by rw [z_ur_top (by decide)]; exact hn
  have e : ((n + 1 : Nat) : Int) - 1 = (n : Int) := by omega
  generalize z_rg (M 0 23 n) = q at *
  rw [x13]
  repeat' (first | (exfalso; omega) | (simp (disch := first | omega | assumption | exact z_b_01) only [x13_0, x13_1, x13_2, x13_5, x13_6, x13_7, x13_10, x13_11, x13_12n, x13_12s, x13_15, x13_16, x13_17, x13_20, x13_21, x13_22, x13_25, x13_26, x13_27, x13_30, Option.bind_some, Option.toList_some, Option.toList_none, List.cons_append, List.nil_append, Int.toNat_natCast, Int.toNat_zero, z_w_id, z_b_0, z_b_1, z_b_n0, z_b_t, z_b_f, ↓reduceIte, Int.reduceEq, Int.reduceLT, Int.reduceLE, Int.reduceToNat, not_true_eq_false, not_false_eq_true, false_and, and_false, true_and, and_true, false_or, or_false, true_or, or_true, hn, k1, k2, k3, e]) | split)
  all_goals rfl
theorem k_pushFull {M M1 : z_M} (hn : M 0 22 0 = 4) (hd : z_ev 10 [.inr (some (0, 22))] M = some (none, M1)) (h1 : M1 0 22 0 = 3) (hq : z_rg (M1 0 23 3) ≠ 0) : z_ev 11 [.inr (some (0, 22)), .inr (some (0, 0))] M = some (none, z_up (z_ur M1 (z_rg (M1 0 23 3)) (a_copy (M1 (z_rg (M1 0 23 3))) (M1 0))) 0 22 0 4) := by
  have k1 : z_ev 12 [.inr (some (0, 22)), .inl 3] M1 = some (some (.inr (some (z_rg (M1 0 23 3), 0))), M1) := k_roomAt (M := M1) (i := 3) (by decide)
  have k2 := k_State_copy (s := z_rg (M1 0 23 3)) (s2 := 0) (Ne.symm hq) (M := M1) (A := M1 (z_rg (M1 0 23 3)))
  rw [z_ur_self] at k2
  have k3 : z_ur M1 (z_rg (M1 0 23 3)) (a_copy (M1 (z_rg (M1 0 23 3))) (M1 0)) 0 22 0 = 3 := by rw [z_ur_top (by decide)]; exact h1
  generalize z_rg (M1 0 23 3) = q at *
  rw [x11]
  repeat' (first | (exfalso; omega) | (simp (disch := first | omega | assumption | exact z_b_01) only [x11_0, x11_1, x11_4, x11_5, x11_8, x11_9, x11_12, x11_13, x11_14, x11_17, x11_20, x11_21, x11_22n, x11_22s, x11_25, x11_26, x11_27, x11_30, x11_31, x11_32, x11_35, x11_36, x11_37, x11_40, Option.bind_some, Option.toList_some, Option.toList_none, List.cons_append, List.nil_append, Int.toNat_natCast, Int.toNat_zero, z_w_id, z_b_0, z_b_1, z_b_n0, z_b_t, z_b_f, ↓reduceIte, Int.reduceEq, Int.reduceLT, Int.reduceLE, Int.reduceToNat, not_true_eq_false, not_false_eq_true, false_and, and_false, true_and, and_true, false_or, or_false, true_or, or_true, hn, hd, h1, k1, k2, k3, Int.reduceAdd]) | split)
  all_goals rfl
