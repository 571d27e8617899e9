/-! the law's errors -/
section ER
variable {M : z_M} {l : List Nat}
theorem t_part (a c r : Int) (h : (a = 0 ∧ c = 48 ∧ r = 1) ∨ (a = 0 ∧ c = 57 ∧ r = 1) ∨ (a = 1 ∧ c = 58 ∧ r = 2) ∨ (a = 2 ∧ c = 48 ∧ r = -1) ∨ (a = 2 ∧ c = 49 ∧ r = 3) ∨ (a = 3 ∧ c = 59 ∧ r = 0)) : z_ev 49 [.inl a, .inl c] M = some (some (.inl r), M) := by
  rcases h with ⟨rfl, rfl, rfl⟩ | ⟨rfl, rfl, rfl⟩ | ⟨rfl, rfl, rfl⟩ | ⟨rfl, rfl, rfl⟩ | ⟨rfl, rfl, rfl⟩ | ⟨rfl, rfl, rfl⟩
  all_goals (rw [x49]; repeat' (first | (exfalso; omega) | (simp (disch := first | omega | assumption | exact z_b_01) only [x49_0, x49_1, x49_3, x49_6, x49_7, x49_9, x49_12, x49_13, x49_16, x49_17, x49_18, x49_19d, x49_19_0, x49_19_1, x49_19_2, x49_19_3, x49_48, x49_49, x49_52, x49_53, x49_56, x49_57, x49_58, x49_59, x49_61, x49_64, x49_65, x49_68, x49_69, x49_70, x49_71, x49_74, x49_75, x49_77, x49_80, x49_81, x49_84, x49_85, x49_86, x49_87, x49_90, x49_91, x49_92, x49_93, x49_95, x49_98, x49_99, x49_102, x49_103, x49_104, x49_105, x49_107, x49_110, x49_111, x49_114, x49_115, Option.bind_some, Option.toList_some, Option.toList_none, List.cons_append, List.nil_append, Int.toNat_natCast, Int.toNat_zero, z_w_id, z_b_0, z_b_1, z_b_n0, z_b_t, z_b_f, ↓reduceIte, Int.reduceEq, Int.reduceLT, Int.reduceLE, Int.reduceToNat, not_true_eq_false, not_false_eq_true, false_and, and_false, true_and, and_true, false_or, or_false, true_or, or_true]) | split))
theorem t_fault0 (h : M 0 24 0 = 0) : z_ev 48 [.inr (some (0, 24))] M = some (some (.inl 0), M) := by
  rw [x48]
  repeat' (first | (exfalso; omega) | (simp (disch := first | omega | assumption | exact z_b_01) only [x48_0, x48_1, x48_2, x48_3, x48_4, x48_5, x48_6, x48_9, x48_12, x48_13, x48_15, x48_18, x48_19, x48_20, x48_23, x48_24, x48_25, x48_28, x48_29, x48_30, x48_31, x48_34, x48_35, x48_36, x48_39, x48_42, x48_43, x48_44, x48_47, x48_48, x48_49, x48_52, x48_54, x48_57, x48_58, x48_61, Option.bind_some, Option.toList_some, Option.toList_none, List.cons_append, List.nil_append, Int.toNat_natCast, Int.toNat_zero, z_w_id, z_b_0, z_b_1, z_b_n0, z_b_t, z_b_f, ↓reduceIte, Int.reduceEq, Int.reduceLT, Int.reduceLE, Int.reduceToNat, not_true_eq_false, not_false_eq_true, false_and, and_false, true_and, and_true, false_or, or_false, true_or, or_true, h]) | split)
theorem t_fault2 (h : M 0 24 0 = 3) (h0 : M 0 25 0 = 48) (h1 : M 0 25 1 = 58) (h2 : M 0 25 2 = 48) : z_ev 48 [.inr (some (0, 24))] M = some (some (.inl 2), M) := by
  have p0 := t_part (M := M) 0 48 1 (by decide)
  have p1 := t_part (M := M) 1 58 2 (by decide)
  have p2 := t_part (M := M) 2 48 (-1) (by decide)
  rw [x48]
  repeat' (first | (exfalso; omega) | (simp (disch := first | omega | assumption | exact z_b_01) only [x48_0, x48_1, x48_2, x48_3, x48_4, x48_5, x48_6, x48_9, x48_12, x48_13, x48_15, x48_18, x48_19, x48_20, x48_23, x48_24, x48_25, x48_28, x48_29, x48_30, x48_31, x48_34, x48_35, x48_36, x48_39, x48_42, x48_43, x48_44, x48_47, x48_48, x48_49, x48_52, x48_54, x48_57, x48_58, x48_61, Option.bind_some, Option.toList_some, Option.toList_none, List.cons_append, List.nil_append, Int.toNat_natCast, Int.toNat_zero, z_w_id, z_b_0, z_b_1, z_b_n0, z_b_t, z_b_f, ↓reduceIte, Int.reduceEq, Int.reduceLT, Int.reduceLE, Int.reduceToNat, not_true_eq_false, not_false_eq_true, false_and, and_false, true_and, and_true, false_or, or_false, true_or, or_true, h, h0, h1, h2, p0, p1, p2, Int.reduceAdd]) | split)
theorem t_faultN (h : M 0 24 0 = 3) (h0 : M 0 25 0 = 57) (h1 : M 0 25 1 = 58) (h2 : M 0 25 2 = 49) : z_ev 48 [.inr (some (0, 24))] M = some (some (.inl (-5)), M) := by
  have p0 := t_part (M := M) 0 57 1 (by decide)
  have p1 := t_part (M := M) 1 58 2 (by decide)
  have p2 := t_part (M := M) 2 49 3 (by decide)
  rw [x48]
  repeat' (first | (exfalso; omega) | (simp (disch := first | omega | assumption | exact z_b_01) only [x48_0, x48_1, x48_2, x48_3, x48_4, x48_5, x48_6, x48_9, x48_12, x48_13, x48_15, x48_18, x48_19, x48_20, x48_23, x48_24, x48_25, x48_28, x48_29, x48_30, x48_31, x48_34, x48_35, x48_36, x48_39, x48_42, x48_43, x48_44, x48_47, x48_48, x48_49, x48_52, x48_54, x48_57, x48_58, x48_61, Option.bind_some, Option.toList_some, Option.toList_none, List.cons_append, List.nil_append, Int.toNat_natCast, Int.toNat_zero, z_w_id, z_b_0, z_b_1, z_b_n0, z_b_t, z_b_f, ↓reduceIte, Int.reduceEq, Int.reduceLT, Int.reduceLE, Int.reduceToNat, not_true_eq_false, not_false_eq_true, false_and, and_false, true_and, and_true, false_or, or_false, true_or, or_true, h, h0, h1, h2, p0, p1, p2, Int.reduceAdd]) | split)
theorem t_fault4 (h : M 0 24 0 = 4) (h0 : M 0 25 0 = 57) (h1 : M 0 25 1 = 58) (h2 : M 0 25 2 = 49) (h3 : M 0 25 3 = 59) : z_ev 48 [.inr (some (0, 24))] M = some (some (.inl 4), M) := by
  have p0 := t_part (M := M) 0 57 1 (by decide)
  have p1 := t_part (M := M) 1 58 2 (by decide)
  have p2 := t_part (M := M) 2 49 3 (by decide)
  have p3 := t_part (M := M) 3 59 0 (by decide)
  rw [x48]
  repeat' (first | (exfalso; omega) | (simp (disch := first | omega | assumption | exact z_b_01) only [x48_0, x48_1, x48_2, x48_3, x48_4, x48_5, x48_6, x48_9, x48_12, x48_13, x48_15, x48_18, x48_19, x48_20, x48_23, x48_24, x48_25, x48_28, x48_29, x48_30, x48_31, x48_34, x48_35, x48_36, x48_39, x48_42, x48_43, x48_44, x48_47, x48_48, x48_49, x48_52, x48_54, x48_57, x48_58, x48_61, Option.bind_some, Option.toList_some, Option.toList_none, List.cons_append, List.nil_append, Int.toNat_natCast, Int.toNat_zero, z_w_id, z_b_0, z_b_1, z_b_n0, z_b_t, z_b_f, ↓reduceIte, Int.reduceEq, Int.reduceLT, Int.reduceLE, Int.reduceToNat, not_true_eq_false, not_false_eq_true, false_and, and_false, true_and, and_true, false_or, or_false, true_or, or_true, h, h0, h1, h2, h3, p0, p1, p2, p3, Int.reduceAdd]) | split)
theorem t_read {f : Int} (hf : 0 ≤ f ∧ f ≤ 60) (k : z_ev 48 [.inr (some (0, 24))] M = some (some (.inl f), M)) : z_ev 78 [.inr (some (0, 21))] M = some (some (.inl (-100 - f)), M) := by
  rw [x78]
  repeat' (first | (exfalso; omega) | (simp (disch := first | omega | assumption | exact z_b_01) only [x78_0, x78_1, x78_4, x78_7, x78_8, x78_9, x78_12, x78_14, x78_15, x78_16, x78_17, x78_18, x78_21, x78_22, x78_25, x78_28, x78_29, x78_30, x78_31, x78_32, x78_33, x78_34, x78_37, x78_40, x78_43, x78_44, x78_47, x78_48, x78_51, x78_53, x78_54, x78_57, x78_58, x78_59, x78_60, x78_63, x78_65, x78_66, x78_69, x78_71, x78_73, x78_76, x78_78, x78_80, x78_83, x78_85, x78_86, x78_87, x78_90, x78_92, x78_94, x78_97, x78_98, x78_101, x78_102, x78_104, x78_106, x78_109, x78_110, x78_113, x78_114, x78_115, x78_116, x78_119, x78_120, x78_123, x78_124, x78_127, x78_130, x78_131, x78_134, x78_135, x78_138, x78_141, x78_142, Option.bind_some, Option.toList_some, Option.toList_none, List.cons_append, List.nil_append, Int.toNat_natCast, Int.toNat_zero, z_w_id, z_b_0, z_b_1, z_b_n0, z_b_t, z_b_f, ↓reduceIte, Int.reduceEq, Int.reduceLT, Int.reduceLE, Int.reduceToNat, not_true_eq_false, not_false_eq_true, false_and, and_false, true_and, and_true, false_or, or_false, true_or, or_true, k]) | split)
/-- a memory in which a text was changed -/
def q_t (M N : z_M) (l : List Nat) : Prop := w_M N l ∧ ∀ o j : Nat, o ≠ 24 → o ≠ 25 → N 0 o j = M 0 o j
theorem w_M_up2 (hM : w_M M l) {o j : Nat} (h : (o = 24 ∧ j = 0) ∨ (o = 25 ∧ j < 60)) (v : Int) : q_t M (z_up M 0 o j v) l := by
  obtain ⟨hz, hH, h6, hh⟩ := hM
  refine ⟨⟨z_nz_up hz ?_ v, f_H_21 hH fun o' i q => z_up_ne (by omega), ?_, w_h_of hh (z_up_ne (by omega)) fun j => z_up_ne (by omega)⟩, fun o' i a b => z_up_ne (by omega)⟩
  · rcases h with ⟨rfl, rfl⟩ | ⟨rfl, hj⟩
    · rfl
    · exact decide_eq_true hj
  · rw [z_up_ne (by omega)]; exact h6
theorem t_clear (hM : w_M M l) : ∃ N : z_M, z_ev 68 [.inr (some (0, 21))] M = some (some (.inl (M 0 24 0)), N) ∧ q_t M N l ∧ N 0 24 0 = 0 ∧ ∀ j, N 0 25 j = M 0 25 j := by
  refine ⟨z_up M 0 24 0 0, ?_, w_M_up2 hM (Or.inl ⟨rfl, rfl⟩) 0, z_up_at _ _ _ _ _, fun j => z_up_ne (by omega)⟩
  rw [x68]
  repeat' (first | (exfalso; omega) | (simp (disch := first | omega | assumption | exact z_b_01) only [x68_0, x68_1, x68_4, x68_7, x68_8, x68_9, x68_12, x68_13, x68_16, x68_17, Option.bind_some, Option.toList_some, Option.toList_none, List.cons_append, List.nil_append, Int.toNat_natCast, Int.toNat_zero, z_w_id, z_b_0, z_b_1, z_b_n0, z_b_t, z_b_f, ↓reduceIte, Int.reduceEq, Int.reduceLT, Int.reduceLE, Int.reduceToNat, not_true_eq_false, not_false_eq_true, false_and, and_false, true_and, and_true, false_or, or_false, true_or, or_true]) | split)
  all_goals rfl
theorem t_type (hM : w_M M l) {n : Nat} (h : M 0 24 0 = (n : Int)) (hn : n < 60) {ch : Int} (hc : 0 ≤ ch ∧ ch ≤ 65535) : ∃ N : z_M, z_ev 85 [.inr (some (0, 21)), .inl ch] M = some (some (.inl ((n : Int) + 1)), N) ∧ q_t M N l ∧ N 0 24 0 = ((n + 1 : Nat) : Int) ∧ N 0 25 n = ch ∧ ∀ j, j ≠ n → N 0 25 j = M 0 25 j := by
  obtain ⟨a1, a2⟩ := w_M_up2 hM (o := 25) (j := n) (Or.inr ⟨rfl, hn⟩) ch
  obtain ⟨b1, b2⟩ := w_M_up2 a1 (o := 24) (j := 0) (Or.inl ⟨rfl, rfl⟩) ((n : Int) + 1)
  have e1 : z_up M 0 25 n ch 0 24 0 = (n : Int) := by rw [z_up_ne (by omega)]; exact h
  have e2 : z_up (z_up M 0 25 n ch) 0 24 0 ((n : Int) + 1) 0 24 0 = (n : Int) + 1 := z_up_at _ _ _ _ _
  refine ⟨z_up (z_up M 0 25 n ch) 0 24 0 ((n : Int) + 1), ?_, ⟨b1, fun o j a b => (b2 o j a b).trans (a2 o j a b)⟩, ?_, ?_, fun j q => ?_⟩
  · have k : z_ev 46 [.inr (some (0, 24)), .inl ch] M = some (some (.inl ((n : Int) + 1)), z_up (z_up M 0 25 n ch) 0 24 0 ((n : Int) + 1)) := by
      rw [x46]
      repeat' (first | (exfalso; omega) | (simp (disch := first | omega | assumption | exact z_b_01) only [x46_0, x46_1, x46_4, x46_7, x46_8, x46_11, x46_13, x46_16, x46_17, x46_20, x46_21, x46_24, x46_25, x46_26, x46_27, x46_28, x46_31, x46_32, x46_33, x46_36, x46_37, x46_40, Option.bind_some, Option.toList_some, Option.toList_none, List.cons_append, List.nil_append, Int.toNat_natCast, Int.toNat_zero, z_w_id, z_b_0, z_b_1, z_b_n0, z_b_t, z_b_f, ↓reduceIte, Int.reduceEq, Int.reduceLT, Int.reduceLE, Int.reduceToNat, not_true_eq_false, not_false_eq_true, false_and, and_false, true_and, and_true, false_or, or_false, true_or, or_true, h, e1, e2]) | split)
    rw [x85]
    repeat' (first | (exfalso; omega) | (simp (disch := first | omega | assumption | exact z_b_01) only [x85_0, x85_1, x85_4, x85_7, x85_9, x85_12, x85_14, x85_15, x85_16, x85_19, x85_20, x85_23, Option.bind_some, Option.toList_some, Option.toList_none, List.cons_append, List.nil_append, Int.toNat_natCast, Int.toNat_zero, z_w_id, z_b_0, z_b_1, z_b_n0, z_b_t, z_b_f, ↓reduceIte, Int.reduceEq, Int.reduceLT, Int.reduceLE, Int.reduceToNat, not_true_eq_false, not_false_eq_true, false_and, and_false, true_and, and_true, false_or, or_false, true_or, or_true, h, k]) | split)
  · rw [e2]; omega
  · rw [z_up_ne (by omega), z_up_at]
  · rw [z_up_ne (by omega), z_up_ne (by omega)]
theorem t_read9 (hM : w_M M l) (h : M 0 24 0 = 3) (h0 : M 0 25 0 = 57) (h1 : M 0 25 1 = 58) (h2 : M 0 25 2 = 49) : ∃ N : z_M, z_ev 78 [.inr (some (0, 21))] M = some (some (.inl (-1)), N) ∧ w_M N l ∧ ∀ o j : Nat, N 0 o j = M 0 o j := by
  obtain ⟨hz, hH, h6, hh⟩ := id hM
  have hc := k_State_copy (s := 2) (s2 := 0) (by decide) (M := M) (A := M 2)
  rw [z_ur_self, a_copy_nz hz] at hc
  have kf := t_faultN h h0 h1 h2
  have eN : ∀ o j : Nat, z_ur M 2 (M 0) 0 o j = M 0 o j := fun o j => z_ur_ne (by decide)
  have n24 := (eN 24 0).trans h
  have n0 := (eN 25 0).trans h0
  have n1 := (eN 25 1).trans h1
  have n2 := (eN 25 2).trans h2
  have g2 := hH.1.1.2.1
  have kw := k_whyNotAdmit (s := 2) (M := z_ur M 2 (M 0)) (i_G_ur hH.1.1) 9 1
  have ew : a_why (z_ur M 2 (M 0) 2) 9 1 = -1 := by
    unfold a_why
    rw [z_ur_get (by decide), if_pos (by omega)]
  rw [ew] at kw
  generalize z_ur M 2 (M 0) = N at *
  have d0 : z_ev 47 [.inr (some (0, 24)), .inl 0] N = some (some (.inl 9), N) := by
    rw [x47]
    repeat' (first | (exfalso; omega) | (simp (disch := first | omega | assumption | exact z_b_01) only [x47_0, x47_1, x47_4, x47_5, x47_6, x47_9, x47_12, x47_13, x47_15, x47_18, x47_19, x47_22, x47_23, x47_24, x47_26, x47_29, x47_30, x47_33, x47_34, x47_35, x47_37, x47_40, x47_42, x47_43, x47_44, x47_47, x47_48, x47_49, x47_51, x47_52, Option.bind_some, Option.toList_some, Option.toList_none, List.cons_append, List.nil_append, Int.toNat_natCast, Int.toNat_zero, z_w_id, z_b_0, z_b_1, z_b_n0, z_b_t, z_b_f, ↓reduceIte, Int.reduceEq, Int.reduceLT, Int.reduceLE, Int.reduceToNat, not_true_eq_false, not_false_eq_true, false_and, and_false, true_and, and_true, false_or, or_false, true_or, or_true, n24, n0, Int.reduceSub]) | split)
  have d2 : z_ev 47 [.inr (some (0, 24)), .inl 2] N = some (some (.inl 1), N) := by
    rw [x47]
    repeat' (first | (exfalso; omega) | (simp (disch := first | omega | assumption | exact z_b_01) only [x47_0, x47_1, x47_4, x47_5, x47_6, x47_9, x47_12, x47_13, x47_15, x47_18, x47_19, x47_22, x47_23, x47_24, x47_26, x47_29, x47_30, x47_33, x47_34, x47_35, x47_37, x47_40, x47_42, x47_43, x47_44, x47_47, x47_48, x47_49, x47_51, x47_52, Option.bind_some, Option.toList_some, Option.toList_none, List.cons_append, List.nil_append, Int.toNat_natCast, Int.toNat_zero, z_w_id, z_b_0, z_b_1, z_b_n0, z_b_t, z_b_f, ↓reduceIte, Int.reduceEq, Int.reduceLT, Int.reduceLE, Int.reduceToNat, not_true_eq_false, not_false_eq_true, false_and, and_false, true_and, and_true, false_or, or_false, true_or, or_true, n24, n2, Int.reduceSub]) | split)
  have d3 : z_ev 47 [.inr (some (0, 24)), .inl 3] N = some (some (.inl (-5)), N) := by
    rw [x47]
    repeat' (first | (exfalso; omega) | (simp (disch := first | omega | assumption | exact z_b_01) only [x47_0, x47_1, x47_4, x47_5, x47_6, x47_9, x47_12, x47_13, x47_15, x47_18, x47_19, x47_22, x47_23, x47_24, x47_26, x47_29, x47_30, x47_33, x47_34, x47_35, x47_37, x47_40, x47_42, x47_43, x47_44, x47_47, x47_48, x47_49, x47_51, x47_52, Option.bind_some, Option.toList_some, Option.toList_none, List.cons_append, List.nil_append, Int.toNat_natCast, Int.toNat_zero, z_w_id, z_b_0, z_b_1, z_b_n0, z_b_t, z_b_f, ↓reduceIte, Int.reduceEq, Int.reduceLT, Int.reduceLE, Int.reduceToNat, not_true_eq_false, not_false_eq_true, false_and, and_false, true_and, and_true, false_or, or_false, true_or, or_true, n24]) | split)
  have s2 : z_ev 50 [.inr (some (0, 24)), .inl 2] N = some (some (.inl 1), N) := by
    rw [x50]
    repeat' (first | (exfalso; omega) | (simp (disch := first | omega | assumption | exact z_b_01) only [x50_0, x50_1, x50_2, x50_5, x50_6, x50_7, x50_8, x50_9, x50_10, x50_13, x50_14, x50_15, x50_17, x50_20, x50_21, x50_24, x50_25, x50_27, x50_28, x50_29, x50_30, Option.bind_some, Option.toList_some, Option.toList_none, List.cons_append, List.nil_append, Int.toNat_natCast, Int.toNat_zero, z_w_id, z_b_0, z_b_1, z_b_n0, z_b_t, z_b_f, ↓reduceIte, Int.reduceEq, Int.reduceLT, Int.reduceLE, Int.reduceToNat, not_true_eq_false, not_false_eq_true, false_and, and_false, true_and, and_true, false_or, or_false, true_or, or_true, d2, d3, Int.reduceAdd]) | split)
  have run : z_ev 78 [.inr (some (0, 21))] M = some (some (.inl (-1)), N) := by
    rw [x78]
    repeat' (first | (exfalso; omega) | (simp (disch := first | omega | assumption | exact z_b_01) only [x78_0, x78_1, x78_4, x78_7, x78_8, x78_9, x78_12, x78_14, x78_15, x78_16, x78_17, x78_18, x78_21, x78_22, x78_25, x78_28, x78_29, x78_30, x78_31, x78_32, x78_33, x78_34, x78_37, x78_40, x78_43, x78_44, x78_47, x78_48, x78_51, x78_53, x78_54, x78_57, x78_58, x78_59, x78_60, x78_63, x78_65, x78_66, x78_69, x78_71, x78_73, x78_76, x78_78, x78_80, x78_83, x78_85, x78_86, x78_87, x78_90, x78_92, x78_94, x78_97, x78_98, x78_101, x78_102, x78_104, x78_106, x78_109, x78_110, x78_113, x78_114, x78_115, x78_116, x78_119, x78_120, x78_123, x78_124, x78_127, x78_130, x78_131, x78_134, x78_135, x78_138, x78_141, x78_142, Option.bind_some, Option.toList_some, Option.toList_none, List.cons_append, List.nil_append, Int.toNat_natCast, Int.toNat_zero, z_w_id, z_b_0, z_b_1, z_b_n0, z_b_t, z_b_f, ↓reduceIte, Int.reduceEq, Int.reduceLT, Int.reduceLE, Int.reduceToNat, not_true_eq_false, not_false_eq_true, false_and, and_false, true_and, and_true, false_or, or_false, true_or, or_true, kf, hc, n24, d0, s2, kw, Int.reduceAdd]) | split)
  exact ⟨N, run, ⟨z_nz_ev run hz, f_H_21 hH fun o i _ => eN o i, by rw [eN]; exact h6, w_h_of hh (eN 22 0) fun j => eN 23 j⟩, eN⟩
theorem q_errors (hM : w_M M l) (hg : 1 ≤ M 0 1 0) (hc : 1 ≤ M 0 2 0) : ∃ M' : z_M, z_ev 89 [.inr (some (0, 21))] M = some (some (.inl 1), M') := by
  have G1 := hM.2.1.1.1.1
  have G2 := hM.2.1.1.1.2.1
  have c3 := hM.2.1.1.2.2.2.2.1.2.2.2.2
  have e1 : z_ev 63 [.inr (some (0, 21)), .inl 0] M = some (some (.inl (-2)), M) := by
    rw [x63]
    repeat' (first | (exfalso; omega) | (simp (disch := first | omega | assumption | exact z_b_01) only [x63_0, x63_1, x63_4, x63_7, x63_9, x63_10, x63_11, x63_14, x63_17, x63_20, x63_21, x63_24, x63_26, x63_27, x63_28, x63_31, x63_32, x63_35, x63_38, x63_39, x63_42, x63_45, x63_46, x63_49, Option.bind_some, Option.toList_some, Option.toList_none, List.cons_append, List.nil_append, Int.toNat_natCast, Int.toNat_zero, z_w_id, z_b_0, z_b_1, z_b_n0, z_b_t, z_b_f, ↓reduceIte, Int.reduceEq, Int.reduceLT, Int.reduceLE, Int.reduceToNat, not_true_eq_false, not_false_eq_true, false_and, and_false, true_and, and_true, false_or, or_false, true_or, or_true, k_isQuantum]) | split)
  have e2 : z_ev 62 [.inr (some (0, 21)), .inl 3, .inl 1, .inl 10, .inl 0] M = some (some (.inl (-1)), M) := by
    rw [x62]
    repeat' (first | (exfalso; omega) | (simp (disch := first | omega | assumption | exact z_b_01) only [x62_0, x62_1, x62_4, x62_7, x62_8, x62_11, x62_14, x62_15, x62_16, x62_17, x62_20, x62_23, x62_24, x62_26, x62_29, x62_32, x62_35, x62_37, x62_38, x62_40, x62_43, x62_46, x62_48, x62_49, x62_50, x62_53, x62_56, x62_59, x62_61, x62_64, x62_66, x62_67, x62_68, x62_71, x62_72, x62_75, x62_78, x62_79, x62_82, x62_85, x62_86, x62_87, x62_88, x62_90, x62_93, Option.bind_some, Option.toList_some, Option.toList_none, List.cons_append, List.nil_append, Int.toNat_natCast, Int.toNat_zero, z_w_id, z_b_0, z_b_1, z_b_n0, z_b_t, z_b_f, ↓reduceIte, Int.reduceEq, Int.reduceLT, Int.reduceLE, Int.reduceToNat, not_true_eq_false, not_false_eq_true, false_and, and_false, true_and, and_true, false_or, or_false, true_or, or_true, k_Groups_has]) | split)
  have e3 : z_ev 62 [.inr (some (0, 21)), .inl 0, .inl 1, .inl 9, .inl 0] M = some (some (.inl (-2)), M) := by
    rw [x62]
    repeat' (first | (exfalso; omega) | (simp (disch := first | omega | assumption | exact z_b_01) only [x62_0, x62_1, x62_4, x62_7, x62_8, x62_11, x62_14, x62_15, x62_16, x62_17, x62_20, x62_23, x62_24, x62_26, x62_29, x62_32, x62_35, x62_37, x62_38, x62_40, x62_43, x62_46, x62_48, x62_49, x62_50, x62_53, x62_56, x62_59, x62_61, x62_64, x62_66, x62_67, x62_68, x62_71, x62_72, x62_75, x62_78, x62_79, x62_82, x62_85, x62_86, x62_87, x62_88, x62_90, x62_93, Option.bind_some, Option.toList_some, Option.toList_none, List.cons_append, List.nil_append, Int.toNat_natCast, Int.toNat_zero, z_w_id, z_b_0, z_b_1, z_b_n0, z_b_t, z_b_f, ↓reduceIte, Int.reduceEq, Int.reduceLT, Int.reduceLE, Int.reduceToNat, not_true_eq_false, not_false_eq_true, false_and, and_false, true_and, and_true, false_or, or_false, true_or, or_true, k_Groups_has, k_isQuantum, k_isWithin]) | split)
  have e4 : z_ev 82 [.inr (some (0, 21)), .inl (-1), .inl 1] M = some (some (.inl (-1)), M) := by
    rw [x82]
    repeat' (first | (exfalso; omega) | (simp (disch := first | omega | assumption | exact z_b_01) only [x82_0, x82_1, x82_4, x82_7, x82_8, x82_11, x82_14, x82_15, x82_16, x82_17, x82_20, x82_23, x82_25, x82_26, x82_27, x82_30, x82_33, x82_36, x82_37, x82_38, x82_39, x82_40, x82_41, x82_44, x82_46, x82_47, x82_48, x82_51, x82_52, x82_55, x82_58, x82_59, x82_62, x82_65, x82_68, x82_69, x82_70, x82_71, x82_72, Option.bind_some, Option.toList_some, Option.toList_none, List.cons_append, List.nil_append, Int.toNat_natCast, Int.toNat_zero, z_w_id, z_b_0, z_b_1, z_b_n0, z_b_t, z_b_f, ↓reduceIte, Int.reduceEq, Int.reduceLT, Int.reduceLE, Int.reduceToNat, not_true_eq_false, not_false_eq_true, false_and, and_false, true_and, and_true, false_or, or_false, true_or, or_true, k_Groups_has]) | split)
  have e5 : z_ev 82 [.inr (some (0, 21)), .inl 0, .inl 201] M = some (some (.inl (-2)), M) := by
    rw [x82]
    repeat' (first | (exfalso; omega) | (simp (disch := first | omega | assumption | exact z_b_01) only [x82_0, x82_1, x82_4, x82_7, x82_8, x82_11, x82_14, x82_15, x82_16, x82_17, x82_20, x82_23, x82_25, x82_26, x82_27, x82_30, x82_33, x82_36, x82_37, x82_38, x82_39, x82_40, x82_41, x82_44, x82_46, x82_47, x82_48, x82_51, x82_52, x82_55, x82_58, x82_59, x82_62, x82_65, x82_68, x82_69, x82_70, x82_71, x82_72, Option.bind_some, Option.toList_some, Option.toList_none, List.cons_append, List.nil_append, Int.toNat_natCast, Int.toNat_zero, z_w_id, z_b_0, z_b_1, z_b_n0, z_b_t, z_b_f, ↓reduceIte, Int.reduceEq, Int.reduceLT, Int.reduceLE, Int.reduceToNat, not_true_eq_false, not_false_eq_true, false_and, and_false, true_and, and_true, false_or, or_false, true_or, or_true, k_Groups_has, k_isQuantum]) | split)
  have e6 : z_ev 81 [.inr (some (0, 21)), .inl 8, .inl 0] M = some (some (.inl (-1)), M) := by
    rw [x81]
    repeat' (first | (exfalso; omega) | (simp (disch := first | omega | assumption | exact z_b_01) only [x81_0, x81_1, x81_4, x81_7, x81_8, x81_11, x81_14, x81_15, x81_16, x81_17, x81_18, x81_21, x81_24, x81_27, x81_29, x81_30, x81_31, x81_34, x81_37, x81_40, x81_41, x81_42, x81_43, x81_44, x81_45, x81_48, x81_50, x81_51, x81_52, x81_55, x81_56, x81_59, x81_62, x81_63, x81_66, x81_69, x81_72, x81_73, x81_74, x81_75, x81_76, Option.bind_some, Option.toList_some, Option.toList_none, List.cons_append, List.nil_append, Int.toNat_natCast, Int.toNat_zero, z_w_id, z_b_0, z_b_1, z_b_n0, z_b_t, z_b_f, ↓reduceIte, Int.reduceEq, Int.reduceLT, Int.reduceLE, Int.reduceToNat, not_true_eq_false, not_false_eq_true, false_and, and_false, true_and, and_true, false_or, or_false, true_or, or_true, k_Classes_has]) | split)
  have e7 : z_ev 81 [.inr (some (0, 21)), .inl 0, .inl 2001] M = some (some (.inl (-2)), M) := by
    rw [x81]
    repeat' (first | (exfalso; omega) | (simp (disch := first | omega | assumption | exact z_b_01) only [x81_0, x81_1, x81_4, x81_7, x81_8, x81_11, x81_14, x81_15, x81_16, x81_17, x81_18, x81_21, x81_24, x81_27, x81_29, x81_30, x81_31, x81_34, x81_37, x81_40, x81_41, x81_42, x81_43, x81_44, x81_45, x81_48, x81_50, x81_51, x81_52, x81_55, x81_56, x81_59, x81_62, x81_63, x81_66, x81_69, x81_72, x81_73, x81_74, x81_75, x81_76, Option.bind_some, Option.toList_some, Option.toList_none, List.cons_append, List.nil_append, Int.toNat_natCast, Int.toNat_zero, z_w_id, z_b_0, z_b_1, z_b_n0, z_b_t, z_b_f, ↓reduceIte, Int.reduceEq, Int.reduceLT, Int.reduceLE, Int.reduceToNat, not_true_eq_false, not_false_eq_true, false_and, and_false, true_and, and_true, false_or, or_false, true_or, or_true, k_Classes_has, k_isWithin]) | split)
  have w8 := k_whyNotAdmit (s := 0) (M := M) hM.2.1.1.1 (-1) 1
  have a8 : a_why (M 0) (-1) 1 = -1 := by unfold a_why; rw [if_pos (by omega)]
  rw [a8] at w8
  have e8 : z_ev 61 [.inr (some (0, 21)), .inl (-1), .inl 1] M = some (some (.inl (-1)), M) := by
    rw [x61]
    repeat' (first | (exfalso; omega) | (simp (disch := first | omega | assumption | exact z_b_01) only [x61_0, x61_1, x61_4, x61_5, x61_6, x61_9, x61_10, x61_11, x61_14, x61_15, x61_16, x61_17, x61_20, x61_21, x61_24, x61_27, x61_28, x61_31, x61_32, x61_33, x61_36, Option.bind_some, Option.toList_some, Option.toList_none, List.cons_append, List.nil_append, Int.toNat_natCast, Int.toNat_zero, z_w_id, z_b_0, z_b_1, z_b_n0, z_b_t, z_b_f, ↓reduceIte, Int.reduceEq, Int.reduceLT, Int.reduceLE, Int.reduceToNat, not_true_eq_false, not_false_eq_true, false_and, and_false, true_and, and_true, false_or, or_false, true_or, or_true, w8]) | split)
  have w9 := k_whyNotAdmit (s := 0) (M := M) hM.2.1.1.1 0 100
  have a9 : a_why (M 0) 0 100 = -2 := by unfold a_why; rw [if_neg (by omega), if_pos (by omega)]
  rw [a9] at w9
  have e9 : z_ev 61 [.inr (some (0, 21)), .inl 0, .inl 100] M = some (some (.inl (-2)), M) := by
    rw [x61]
    repeat' (first | (exfalso; omega) | (simp (disch := first | omega | assumption | exact z_b_01) only [x61_0, x61_1, x61_4, x61_5, x61_6, x61_9, x61_10, x61_11, x61_14, x61_15, x61_16, x61_17, x61_20, x61_21, x61_24, x61_27, x61_28, x61_31, x61_32, x61_33, x61_36, Option.bind_some, Option.toList_some, Option.toList_none, List.cons_append, List.nil_append, Int.toNat_natCast, Int.toNat_zero, z_w_id, z_b_0, z_b_1, z_b_n0, z_b_t, z_b_f, ↓reduceIte, Int.reduceEq, Int.reduceLT, Int.reduceLE, Int.reduceToNat, not_true_eq_false, not_false_eq_true, false_and, and_false, true_and, and_true, false_or, or_false, true_or, or_true, w9]) | split)
  have e10 : z_ev 76 [.inr (some (0, 21)), .inl 0] M = some (some (.inl (-2)), M) := by
    rw [x76]
    repeat' (first | (exfalso; omega) | (simp (disch := first | omega | assumption | exact z_b_01) only [x76_0, x76_1, x76_2, x76_5, x76_8, x76_11, x76_13, x76_14, x76_15, x76_18, x76_21, x76_22, x76_23, x76_26, x76_29, x76_31, x76_32, x76_33, x76_36, x76_37, x76_40, x76_43, x76_44, x76_45, x76_46, x76_47, x76_48, x76_49, x76_52, x76_53, x76_54, x76_57, x76_58, x76_59, x76_62, x76_65, x76_66, x76_69, x76_72, x76_73, x76_76, x76_77, Option.bind_some, Option.toList_some, Option.toList_none, List.cons_append, List.nil_append, Int.toNat_natCast, Int.toNat_zero, z_w_id, z_b_0, z_b_1, z_b_n0, z_b_t, z_b_f, ↓reduceIte, Int.reduceEq, Int.reduceLT, Int.reduceLE, Int.reduceToNat, not_true_eq_false, not_false_eq_true, false_and, and_false, true_and, and_true, false_or, or_false, true_or, or_true, k_isWithin]) | split)
  have e11 : z_ev 76 [.inr (some (0, 21)), .inl 501] M = some (some (.inl (-2)), M) := by
    rw [x76]
    repeat' (first | (exfalso; omega) | (simp (disch := first | omega | assumption | exact z_b_01) only [x76_0, x76_1, x76_2, x76_5, x76_8, x76_11, x76_13, x76_14, x76_15, x76_18, x76_21, x76_22, x76_23, x76_26, x76_29, x76_31, x76_32, x76_33, x76_36, x76_37, x76_40, x76_43, x76_44, x76_45, x76_46, x76_47, x76_48, x76_49, x76_52, x76_53, x76_54, x76_57, x76_58, x76_59, x76_62, x76_65, x76_66, x76_69, x76_72, x76_73, x76_76, x76_77, Option.bind_some, Option.toList_some, Option.toList_none, List.cons_append, List.nil_append, Int.toNat_natCast, Int.toNat_zero, z_w_id, z_b_0, z_b_1, z_b_n0, z_b_t, z_b_f, ↓reduceIte, Int.reduceEq, Int.reduceLT, Int.reduceLE, Int.reduceToNat, not_true_eq_false, not_false_eq_true, false_and, and_false, true_and, and_true, false_or, or_false, true_or, or_true, k_isWithin]) | split)
  have e12 : z_ev 65 [.inr (some (0, 21)), .inl (-1)] M = some (some (.inl (-1)), M) := by
    rw [x65]
    repeat' (first | (exfalso; omega) | (simp (disch := first | omega | assumption | exact z_b_01) only [x65_0, x65_1, x65_4, x65_7, x65_8, x65_11, x65_14, x65_15, x65_16, x65_17, x65_20, x65_23, x65_24, x65_27, x65_30, x65_32, x65_33, x65_34, x65_35, x65_38, x65_41, x65_44, x65_47, x65_48, x65_49, x65_52, x65_55, x65_58, x65_59, x65_60, Option.bind_some, Option.toList_some, Option.toList_none, List.cons_append, List.nil_append, Int.toNat_natCast, Int.toNat_zero, z_w_id, z_b_0, z_b_1, z_b_n0, z_b_t, z_b_f, ↓reduceIte, Int.reduceEq, Int.reduceLT, Int.reduceLE, Int.reduceToNat, not_true_eq_false, not_false_eq_true, false_and, and_false, true_and, and_true, false_or, or_false, true_or, or_true, k_Jobs_has]) | split)
  have e13 : z_ev 66 [.inr (some (0, 21)), .inl 200] M = some (some (.inl (-1)), M) := by
    rw [x66]
    repeat' (first | (exfalso; omega) | (simp (disch := first | omega | assumption | exact z_b_01) only [x66_0, x66_1, x66_4, x66_7, x66_8, x66_11, x66_14, x66_15, x66_16, x66_17, x66_20, x66_23, x66_24, x66_27, x66_30, x66_32, x66_33, x66_34, x66_37, x66_38, x66_41, x66_42, x66_43, x66_46, x66_48, x66_49, x66_50, x66_53, x66_56, x66_59, x66_60, x66_61, x66_62, x66_63, x66_64, x66_67, x66_70, x66_73, x66_74, x66_75, x66_77, x66_78, x66_79, x66_82, x66_85, x66_86, x66_89, x66_90, Option.bind_some, Option.toList_some, Option.toList_none, List.cons_append, List.nil_append, Int.toNat_natCast, Int.toNat_zero, z_w_id, z_b_0, z_b_1, z_b_n0, z_b_t, z_b_f, ↓reduceIte, Int.reduceEq, Int.reduceLT, Int.reduceLE, Int.reduceToNat, not_true_eq_false, not_false_eq_true, false_and, and_false, true_and, and_true, false_or, or_false, true_or, or_true, k_Jobs_has]) | split)
  have e14 : z_ev 84 [.inr (some (0, 21)), .inl 0, .inl 8] M = some (some (.inl (-1)), M) := by
    rw [x84]
    repeat' (first | (exfalso; omega) | (simp (disch := first | omega | assumption | exact z_b_01) only [x84_0, x84_1, x84_4, x84_7, x84_8, x84_11, x84_14, x84_15, x84_18, x84_21, x84_22, x84_25, x84_28, x84_29, x84_30, x84_31, x84_34, x84_37, x84_38, x84_39, x84_42, x84_43, x84_44, x84_45, x84_48, x84_49, x84_50, x84_51, x84_52, x84_55, x84_56, x84_57, x84_58, x84_61, x84_62, x84_63, x84_64, x84_65, x84_67, x84_68, Option.bind_some, Option.toList_some, Option.toList_none, List.cons_append, List.nil_append, Int.toNat_natCast, Int.toNat_zero, z_w_id, z_b_0, z_b_1, z_b_n0, z_b_t, z_b_f, ↓reduceIte, Int.reduceEq, Int.reduceLT, Int.reduceLE, Int.reduceToNat, not_true_eq_false, not_false_eq_true, false_and, and_false, true_and, and_true, false_or, or_false, true_or, or_true, k_Classes_has]) | split)
  have e15 := k_c14 (M := M)
  obtain ⟨N0, f0, ⟨m0, o0⟩, t0, s0⟩ := t_clear hM
  have r0 := t_read (f := 0) (by decide) (t_fault0 t0)
  obtain ⟨N1, f1, ⟨m1, o1⟩, t1, s1, s1'⟩ := t_type m0 (n := 0) t0 (by decide) (ch := 48) (by decide)
  obtain ⟨N2, f2, ⟨m2, o2⟩, t2, s2, s2'⟩ := t_type m1 (n := 1) t1 (by decide) (ch := 58) (by decide)
  obtain ⟨N3, f3, ⟨m3, o3⟩, t3, s3, s3'⟩ := t_type m2 (n := 2) t2 (by decide) (ch := 48) (by decide)
  have r3 := t_read (f := 2) (by decide) (t_fault2 t3 (by rw [s3' 0 (by decide), s2' 0 (by decide)]; exact s1) (by rw [s3' 1 (by decide)]; exact s2) s3)
  obtain ⟨N4, f4, ⟨m4, o4⟩, t4, s4⟩ := t_clear m3
  rw [t3] at f4
  obtain ⟨N5, f5, ⟨m5, o5⟩, t5, s5, s5'⟩ := t_type m4 (n := 0) t4 (by decide) (ch := 57) (by decide)
  obtain ⟨N6, f6, ⟨m6, o6⟩, t6, s6, s6'⟩ := t_type m5 (n := 1) t5 (by decide) (ch := 58) (by decide)
  obtain ⟨N7, f7, ⟨m7, o7⟩, t7, s7, s7'⟩ := t_type m6 (n := 2) t6 (by decide) (ch := 49) (by decide)
  have b0 : N7 0 25 0 = 57 := by rw [s7' 0 (by decide), s6' 0 (by decide)]; exact s5
  have b1 : N7 0 25 1 = 58 := by rw [s7' 1 (by decide)]; exact s6
  obtain ⟨N8, r8, m8, o8⟩ := t_read9 m7 t7 b0 b1 s7
  have k13 := k_c13 (M := N8)
  have t8 : N8 0 24 0 = 3 := by rw [o8]; exact t7
  rw [t8] at k13
  obtain ⟨N9, f9, ⟨m9, o9⟩, t9, s9, s9'⟩ := t_type m8 (n := 3) t8 (by decide) (ch := 59) (by decide)
  have r9 := t_read (f := 4) (by decide) (t_fault4 t9 (by rw [s9' 0 (by decide), o8]; exact b0) (by rw [s9' 1 (by decide), o8]; exact b1) (by rw [s9' 2 (by decide), o8]; exact s7) s9)
  have k12 := k_c12 (M := N9)
  obtain ⟨M', u⟩ := k_undo m9.2.2.2
  have hl : 0 ≤ N9 0 22 0 ∧ N9 0 22 0 ≤ 4 := by
    obtain ⟨n, a, b, -⟩ := m9.2.2.2
    omega
  generalize N9 0 22 0 = L at k12 u hl
  have f4 : z_ev 68 [.inr (some (0, 21))] N3 = some (some (.inl 3), N4) := f4
  simp only [Int.natCast_zero, Int.natCast_one] at f1 f2 f3 f5 f6 f7 f9
  refine ⟨M', ?_⟩
  rw [x89]
  by_cases q : 0 < L
  · rw [if_pos q] at u
    repeat' (first | (exfalso; omega) | (simp (disch := first | omega | assumption | exact z_b_01) only [x89_0, x89_1, x89_2, x89_5, x89_7, x89_10, x89_11, x89_12, x89_13, x89_15, x89_16, x89_19, x89_20, x89_23, x89_24, x89_25, x89_26, x89_28, x89_29, x89_32, x89_34, x89_37, x89_38, x89_39, x89_40, x89_43, x89_44, x89_47, x89_48, x89_49, x89_52, x89_55, x89_57, x89_60, x89_61, x89_63, x89_64, x89_67, x89_68, x89_71, x89_72, x89_73, x89_76, x89_79, x89_81, x89_84, x89_85, x89_86, x89_87, x89_90, x89_91, x89_94, x89_95, x89_96, x89_98, x89_101, x89_103, x89_106, x89_107, x89_108, x89_111, x89_113, x89_116, x89_117, x89_120, x89_123, x89_125, x89_128, x89_129, x89_130, x89_133, x89_134, x89_137, x89_138, x89_141, x89_144, x89_145, x89_148, x89_149, x89_150, x89_152, x89_155, x89_156, x89_159, x89_160, x89_162, x89_165, x89_167, x89_170, x89_171, x89_174, x89_175, x89_176, x89_177, x89_180, x89_181, x89_182, x89_185, x89_186, x89_189, x89_191, x89_194, x89_195, x89_198, x89_199, x89_200, x89_201, x89_203, x89_206, x89_207, x89_208, x89_210, x89_213, x89_214, x89_215, x89_217, x89_220, x89_221, x89_222, x89_225, x89_226, x89_229, x89_231, x89_234, x89_235, x89_238, x89_239, x89_242, x89_243, x89_246, x89_247, x89_248, x89_249, x89_251, x89_254, x89_255, x89_256, x89_258, x89_261, x89_262, x89_263, x89_265, x89_268, x89_269, x89_270, x89_273, x89_274, x89_277, x89_278, x89_281, x89_282, x89_284, x89_287, x89_288, x89_291, x89_292, x89_295, x89_296, x89_297, x89_298, x89_300, x89_303, x89_304, x89_305, x89_308, x89_309, x89_312, x89_314, x89_317, x89_318, x89_321, x89_322, x89_323, x89_324, x89_326, x89_329, x89_330, x89_331, x89_334, x89_335, x89_338, x89_339, x89_342, x89_343, x89_344, x89_345, x89_348, x89_350, x89_353, x89_354, x89_357, x89_358, Option.bind_some, Option.toList_some, Option.toList_none, List.cons_append, List.nil_append, Int.toNat_natCast, Int.toNat_zero, z_w_id, z_b_0, z_b_1, z_b_n0, z_b_t, z_b_f, ↓reduceIte, Int.reduceEq, Int.reduceLT, Int.reduceLE, Int.reduceToNat, not_true_eq_false, not_false_eq_true, false_and, and_false, true_and, and_true, false_or, or_false, true_or, or_true, e1, e2, e3, e4, e5, e6, e7, e8, e9, e10, e11, e12, e13, e14, e15, f0, r0, f1, f2, f3, r3, f4, f5, f6, f7, r8, k13, f9, r9, k12, u, Int.reduceSub]) | split)
  · rw [if_neg q] at u
    repeat' (first | (exfalso; omega) | (simp (disch := first | omega | assumption | exact z_b_01) only [x89_0, x89_1, x89_2, x89_5, x89_7, x89_10, x89_11, x89_12, x89_13, x89_15, x89_16, x89_19, x89_20, x89_23, x89_24, x89_25, x89_26, x89_28, x89_29, x89_32, x89_34, x89_37, x89_38, x89_39, x89_40, x89_43, x89_44, x89_47, x89_48, x89_49, x89_52, x89_55, x89_57, x89_60, x89_61, x89_63, x89_64, x89_67, x89_68, x89_71, x89_72, x89_73, x89_76, x89_79, x89_81, x89_84, x89_85, x89_86, x89_87, x89_90, x89_91, x89_94, x89_95, x89_96, x89_98, x89_101, x89_103, x89_106, x89_107, x89_108, x89_111, x89_113, x89_116, x89_117, x89_120, x89_123, x89_125, x89_128, x89_129, x89_130, x89_133, x89_134, x89_137, x89_138, x89_141, x89_144, x89_145, x89_148, x89_149, x89_150, x89_152, x89_155, x89_156, x89_159, x89_160, x89_162, x89_165, x89_167, x89_170, x89_171, x89_174, x89_175, x89_176, x89_177, x89_180, x89_181, x89_182, x89_185, x89_186, x89_189, x89_191, x89_194, x89_195, x89_198, x89_199, x89_200, x89_201, x89_203, x89_206, x89_207, x89_208, x89_210, x89_213, x89_214, x89_215, x89_217, x89_220, x89_221, x89_222, x89_225, x89_226, x89_229, x89_231, x89_234, x89_235, x89_238, x89_239, x89_242, x89_243, x89_246, x89_247, x89_248, x89_249, x89_251, x89_254, x89_255, x89_256, x89_258, x89_261, x89_262, x89_263, x89_265, x89_268, x89_269, x89_270, x89_273, x89_274, x89_277, x89_278, x89_281, x89_282, x89_284, x89_287, x89_288, x89_291, x89_292, x89_295, x89_296, x89_297, x89_298, x89_300, x89_303, x89_304, x89_305, x89_308, x89_309, x89_312, x89_314, x89_317, x89_318, x89_321, x89_322, x89_323, x89_324, x89_326, x89_329, x89_330, x89_331, x89_334, x89_335, x89_338, x89_339, x89_342, x89_343, x89_344, x89_345, x89_348, x89_350, x89_353, x89_354, x89_357, x89_358, Option.bind_some, Option.toList_some, Option.toList_none, List.cons_append, List.nil_append, Int.toNat_natCast, Int.toNat_zero, z_w_id, z_b_0, z_b_1, z_b_n0, z_b_t, z_b_f, ↓reduceIte, Int.reduceEq, Int.reduceLT, Int.reduceLE, Int.reduceToNat, not_true_eq_false, not_false_eq_true, false_and, and_false, true_and, and_true, false_or, or_false, true_or, or_true, e1, e2, e3, e4, e5, e6, e7, e8, e9, e10, e11, e12, e13, e14, e15, f0, r0, f1, f2, f3, r3, f4, f5, f6, f7, r8, k13, f9, r9, k12, u, Int.reduceSub]) | split)
end ER
