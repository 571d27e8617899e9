/-! texts, both sides -/
theorem w_R_t {M M' : z_M} (hR : w_R M) (e : ∀ (s : Fin 7) (o j : Nat), o ≠ 24 → o ≠ 25 → o ≠ 35 → ¬ (o = 30 ∧ j = 7) → M' s o j = M s o j) (hT : w_T M') : w_R M' := by
  obtain ⟨r1, r2, r3, r4⟩ := hR
  exact ⟨w_S_cell r1 (fun o j c => by have := a_cell_lt c; exact e _ _ _ (by omega) (by omega) (by omega) (by omega)) (fun j _ => e _ _ _ (by decide) (by decide) (by decide) (by omega)), w_H_of r2 ⟨fun q o j a b => e _ _ _ (by omega) (by omega) (by omega) (by omega), fun j => e _ _ _ (by decide) (by decide) (by decide) (by omega), fun j => e _ _ _ (by decide) (by decide) (by decide) (by omega), e _ _ _ (by decide) (by decide) (by decide) (by omega), e _ _ _ (by decide) (by decide) (by decide) (by omega)⟩, w_A_of r3 ⟨fun o j a => e _ _ _ (by omega) (by omega) (by omega) (by omega), fun j => e _ _ _ (by decide) (by decide) (by decide) (by omega), e _ _ _ (by decide) (by decide) (by decide) (by omega), e _ _ _ (by decide) (by decide) (by decide) (by omega)⟩, hT⟩
theorem z_up_up (M : z_M) (s : Fin 7) (o j : Nat) (v w : Int) : z_up (z_up M s o j v) s o j w = z_up M s o j w := by
  funext s' o' j'
  unfold z_up
  split <;> rfl
theorem c_type {v : Int} (hv : 0 ≤ v ∧ v ≤ 65535) : w_c 85 138 [.inl v] := by
  intro M hR
  obtain ⟨n, h1, h2, h3, h4⟩ := hR.2.2.2
  by_cases hn : n < 60
  · have e1 : z_up M 0 25 n v 0 24 0 = (n : Int) := by rw [z_up_ne (by omega)]; exact h2
    have e2 : z_up (z_up M 0 25 n v) 0 24 0 ((n : Int) + 1) 0 24 0 = (n : Int) + 1 := z_up_at _ _ _ _ _
    have k1 : z_ev 46 [.inr (some (0, 24)), .inl v] M = some (some (.inl ((n : Int) + 1)), z_up (z_up M 0 25 n v) 0 24 0 ((n : Int) + 1)) := by
      rw [x46]
      repeat' (first | (exfalso; omega) | (simp (disch := first | omega | assumption | exact z_b_01) only [x46_0, x46_1, x46_4, x46_7, x46_8, x46_11, x46_13, x46_16, x46_17, x46_20, x46_21, x46_24, x46_25, x46_26, x46_27, x46_28, x46_31, x46_32, x46_33, x46_36, x46_37, x46_40, Option.bind_some, Option.toList_some, Option.toList_none, List.cons_append, List.nil_append, Int.toNat_natCast, Int.toNat_zero, z_w_id, z_b_0, z_b_1, z_b_n0, z_b_t, z_b_f, ↓reduceIte, Int.reduceEq, Int.reduceLT, Int.reduceLE, Int.reduceToNat, not_true_eq_false, not_false_eq_true, false_and, and_false, true_and, and_true, false_or, or_false, true_or, or_true, h2, e1, e2]) | split)
    have f1 : z_up (z_up M 0 25 n v) 0 24 0 ((n : Int) + 1) 0 30 7 = (n : Int) := by rw [z_up_ne (by omega), z_up_ne (by omega)]; exact h3
    have f2 : z_up (z_up (z_up M 0 25 n v) 0 24 0 ((n : Int) + 1)) 0 35 n v 0 30 7 = (n : Int) := by rw [z_up_ne (by omega)]; exact f1
    have f3 : z_up (z_up (z_up (z_up M 0 25 n v) 0 24 0 ((n : Int) + 1)) 0 35 n v) 0 30 7 ((n : Int) + 1) 0 30 7 = (n : Int) + 1 := z_up_at _ _ _ _ _
    refine ⟨(n : Int) + 1, z_up (z_up M 0 25 n v) 0 24 0 ((n : Int) + 1), z_up (z_up (z_up (z_up M 0 25 n v) 0 24 0 ((n : Int) + 1)) 0 35 n v) 0 30 7 ((n : Int) + 1), ?_, ?_, w_R_t hR (fun s o j a b c d => ?_) ⟨n + 1, by omega, ?_, ?_, fun i hi => ?_⟩⟩
    · rw [x85]
      repeat' (first | (exfalso; omega) | (simp (disch := first | omega | assumption | exact z_b_01) only [x85_0, x85_1, x85_4, x85_7, x85_9, x85_12, x85_14, x85_15, x85_16, x85_19, x85_20, x85_23, Option.bind_some, Option.toList_some, Option.toList_none, List.cons_append, List.nil_append, Int.toNat_natCast, Int.toNat_zero, z_w_id, z_b_0, z_b_1, z_b_n0, z_b_t, z_b_f, ↓reduceIte, Int.reduceEq, Int.reduceLT, Int.reduceLE, Int.reduceToNat, not_true_eq_false, not_false_eq_true, false_and, and_false, true_and, and_true, false_or, or_false, true_or, or_true, h2, k1]) | split)
    · rw [x138]
      repeat' (first | (exfalso; omega) | (simp (disch := first | omega | assumption | exact z_b_01) only [x138_0, x138_1, x138_4, x138_6, x138_9, x138_11, x138_12, x138_13, x138_16, x138_17, x138_20, x138_21, x138_22, x138_23, x138_24, x138_27, x138_28, x138_29, x138_32, x138_33, x138_36, Option.bind_some, Option.toList_some, Option.toList_none, List.cons_append, List.nil_append, Int.toNat_natCast, Int.toNat_zero, z_w_id, z_b_0, z_b_1, z_b_n0, z_b_t, z_b_f, ↓reduceIte, Int.reduceEq, Int.reduceLT, Int.reduceLE, Int.reduceToNat, not_true_eq_false, not_false_eq_true, false_and, and_false, true_and, and_true, false_or, or_false, true_or, or_true, f1, f2, f3]) | split)
    · rw [z_up_ne d, z_up_ne (by omega), z_up_ne (by omega), z_up_ne (by omega)]
    · rw [z_up_ne (by omega), z_up_ne (by omega), z_up_at]; omega
    · rw [z_up_at]; omega
    · have a1 : z_up (z_up (z_up (z_up M 0 25 n v) 0 24 0 ((n : Int) + 1)) 0 35 n v) 0 30 7 ((n : Int) + 1) 0 25 i = if i = n then v else M 0 25 i := by
        rw [z_up_ne (by omega), z_up_ne (by omega), z_up_ne (by omega)]
        split
        · rename_i q; rw [q, z_up_at]
        · rw [z_up_ne (by omega)]
      have a2 : z_up (z_up (z_up (z_up M 0 25 n v) 0 24 0 ((n : Int) + 1)) 0 35 n v) 0 30 7 ((n : Int) + 1) 0 35 i = if i = n then v else M 0 35 i := by
        rw [z_up_ne (by omega)]
        split
        · rename_i q; rw [q, z_up_at]
        · rw [z_up_ne (by omega), z_up_ne (by omega), z_up_ne (by omega)]
      rw [a1, a2]
      by_cases q : i = n
      · rw [if_pos q, if_pos q]; exact ⟨rfl, hv⟩
      · rw [if_neg q, if_neg q]; exact h4 i (by omega)
  · refine ⟨-3, M, M, ?_, ?_, hR⟩
    · rw [x85]
      repeat' (first | (exfalso; omega) | (simp (disch := first | omega | assumption | exact z_b_01) only [x85_0, x85_1, x85_4, x85_7, x85_9, x85_12, x85_14, x85_15, x85_16, x85_19, x85_20, x85_23, Option.bind_some, Option.toList_some, Option.toList_none, List.cons_append, List.nil_append, Int.toNat_natCast, Int.toNat_zero, z_w_id, z_b_0, z_b_1, z_b_n0, z_b_t, z_b_f, ↓reduceIte, Int.reduceEq, Int.reduceLT, Int.reduceLE, Int.reduceToNat, not_true_eq_false, not_false_eq_true, false_and, and_false, true_and, and_true, false_or, or_false, true_or, or_true, h2]) | split)
      all_goals rfl
    · rw [x138]
      repeat' (first | (exfalso; omega) | (simp (disch := first | omega | assumption | exact z_b_01) only [x138_0, x138_1, x138_4, x138_6, x138_9, x138_11, x138_12, x138_13, x138_16, x138_17, x138_20, x138_21, x138_22, x138_23, x138_24, x138_27, x138_28, x138_29, x138_32, x138_33, x138_36, Option.bind_some, Option.toList_some, Option.toList_none, List.cons_append, List.nil_append, Int.toNat_natCast, Int.toNat_zero, z_w_id, z_b_0, z_b_1, z_b_n0, z_b_t, z_b_f, ↓reduceIte, Int.reduceEq, Int.reduceLT, Int.reduceLE, Int.reduceToNat, not_true_eq_false, not_false_eq_true, false_and, and_false, true_and, and_true, false_or, or_false, true_or, or_true, h3]) | split)
      all_goals rfl
theorem c_clear : w_c 68 99 [] := by
  intro M hR
  obtain ⟨n, h1, h2, h3, h4⟩ := hR.2.2.2
  have f1 : z_up M 0 24 0 0 0 30 7 = (n : Int) := by rw [z_up_ne (by omega)]; exact h3
  refine ⟨(n : Int), z_up M 0 24 0 0, z_up (z_up M 0 24 0 0) 0 30 7 0, ?_, ?_, w_R_t hR (fun s o j a b c d => ?_) ⟨0, by omega, ?_, ?_, fun i hi => absurd hi (Nat.not_lt_zero i)⟩⟩
  · rw [x68]
    repeat' (first | (exfalso; omega) | (simp (disch := first | omega | assumption | exact z_b_01) only [x68_0, x68_1, x68_4, x68_7, x68_8, x68_9, x68_12, x68_13, x68_16, x68_17, Option.bind_some, Option.toList_some, Option.toList_none, List.cons_append, List.nil_append, Int.toNat_natCast, Int.toNat_zero, z_w_id, z_b_0, z_b_1, z_b_n0, z_b_t, z_b_f, ↓reduceIte, Int.reduceEq, Int.reduceLT, Int.reduceLE, Int.reduceToNat, not_true_eq_false, not_false_eq_true, false_and, and_false, true_and, and_true, false_or, or_false, true_or, or_true, h2]) | split)
  · rw [x99]
    repeat' (first | (exfalso; omega) | (simp (disch := first | omega | assumption | exact z_b_01) only [x99_0, x99_1, x99_4, x99_5, x99_6, x99_7, x99_10, x99_11, Option.bind_some, Option.toList_some, Option.toList_none, List.cons_append, List.nil_append, Int.toNat_natCast, Int.toNat_zero, z_w_id, z_b_0, z_b_1, z_b_n0, z_b_t, z_b_f, ↓reduceIte, Int.reduceEq, Int.reduceLT, Int.reduceLE, Int.reduceToNat, not_true_eq_false, not_false_eq_true, false_and, and_false, true_and, and_true, false_or, or_false, true_or, or_true, f1]) | split)
  · rw [z_up_ne d, z_up_ne (by omega)]
  · rw [z_up_ne (by omega), z_up_at]; rfl
  · rw [z_up_at]; rfl
/-- a digit -/
abbrev t_D (x : Int) : Prop := 48 ≤ x ∧ x ≤ 57
theorem k_pa0 (c : Int) (M : z_M) : z_ev 49 [.inl 0, .inl c] M = some (some (.inl (if t_D c then 1 else -1)), M) := by
  rw [x49]
  repeat' (first | (exfalso; omega) | (simp (disch := first | omega | assumption | exact z_b_01) only [x49_0, x49_1, x49_3, x49_6, x49_7, x49_9, x49_12, x49_13, x49_16, x49_17, x49_18, x49_19d, x49_19_0, x49_19_1, x49_19_2, x49_19_3, x49_48, x49_49, x49_52, x49_53, x49_56, x49_57, x49_58, x49_59, x49_61, x49_64, x49_65, x49_68, x49_69, x49_70, x49_71, x49_74, x49_75, x49_77, x49_80, x49_81, x49_84, x49_85, x49_86, x49_87, x49_90, x49_91, x49_92, x49_93, x49_95, x49_98, x49_99, x49_102, x49_103, x49_104, x49_105, x49_107, x49_110, x49_111, x49_114, x49_115, Option.bind_some, Option.toList_some, Option.toList_none, List.cons_append, List.nil_append, Int.toNat_natCast, Int.toNat_zero, z_w_id, z_b_0, z_b_1, z_b_n0, z_b_t, z_b_f, ↓reduceIte, Int.reduceEq, Int.reduceLT, Int.reduceLE, Int.reduceToNat, not_true_eq_false, not_false_eq_true, false_and, and_false, true_and, and_true, false_or, or_false, true_or, or_true]) | split)
  all_goals (refine z_ri ?_ rfl; unfold t_D; split <;> omega)
theorem k_pa1 (c : Int) (M : z_M) : z_ev 49 [.inl 1, .inl c] M = some (some (.inl (if c = 58 then 2 else -1)), M) := by
  rw [x49]
  repeat' (first | (exfalso; omega) | (simp (disch := first | omega | assumption | exact z_b_01) only [x49_0, x49_1, x49_3, x49_6, x49_7, x49_9, x49_12, x49_13, x49_16, x49_17, x49_18, x49_19d, x49_19_0, x49_19_1, x49_19_2, x49_19_3, x49_48, x49_49, x49_52, x49_53, x49_56, x49_57, x49_58, x49_59, x49_61, x49_64, x49_65, x49_68, x49_69, x49_70, x49_71, x49_74, x49_75, x49_77, x49_80, x49_81, x49_84, x49_85, x49_86, x49_87, x49_90, x49_91, x49_92, x49_93, x49_95, x49_98, x49_99, x49_102, x49_103, x49_104, x49_105, x49_107, x49_110, x49_111, x49_114, x49_115, Option.bind_some, Option.toList_some, Option.toList_none, List.cons_append, List.nil_append, Int.toNat_natCast, Int.toNat_zero, z_w_id, z_b_0, z_b_1, z_b_n0, z_b_t, z_b_f, ↓reduceIte, Int.reduceEq, Int.reduceLT, Int.reduceLE, Int.reduceToNat, not_true_eq_false, not_false_eq_true, false_and, and_false, true_and, and_true, false_or, or_false, true_or, or_true]) | split)
  all_goals (refine z_ri ?_ rfl; split <;> omega)
theorem k_pa2 (c : Int) (M : z_M) : z_ev 49 [.inl 2, .inl c] M = some (some (.inl (if 49 ≤ c ∧ c ≤ 57 then 3 else -1)), M) := by
  rw [x49]
  repeat' (first | (exfalso; omega) | (simp (disch := first | omega | assumption | exact z_b_01) only [x49_0, x49_1, x49_3, x49_6, x49_7, x49_9, x49_12, x49_13, x49_16, x49_17, x49_18, x49_19d, x49_19_0, x49_19_1, x49_19_2, x49_19_3, x49_48, x49_49, x49_52, x49_53, x49_56, x49_57, x49_58, x49_59, x49_61, x49_64, x49_65, x49_68, x49_69, x49_70, x49_71, x49_74, x49_75, x49_77, x49_80, x49_81, x49_84, x49_85, x49_86, x49_87, x49_90, x49_91, x49_92, x49_93, x49_95, x49_98, x49_99, x49_102, x49_103, x49_104, x49_105, x49_107, x49_110, x49_111, x49_114, x49_115, Option.bind_some, Option.toList_some, Option.toList_none, List.cons_append, List.nil_append, Int.toNat_natCast, Int.toNat_zero, z_w_id, z_b_0, z_b_1, z_b_n0, z_b_t, z_b_f, ↓reduceIte, Int.reduceEq, Int.reduceLT, Int.reduceLE, Int.reduceToNat, not_true_eq_false, not_false_eq_true, false_and, and_false, true_and, and_true, false_or, or_false, true_or, or_true]) | split)
  all_goals (refine z_ri ?_ rfl; split <;> omega)
theorem k_pa3 (c : Int) (M : z_M) : z_ev 49 [.inl 3, .inl c] M = some (some (.inl (if t_D c then 4 else if c = 59 then 0 else -1)), M) := by
  rw [x49]
  repeat' (first | (exfalso; omega) | (simp (disch := first | omega | assumption | exact z_b_01) only [x49_0, x49_1, x49_3, x49_6, x49_7, x49_9, x49_12, x49_13, x49_16, x49_17, x49_18, x49_19d, x49_19_0, x49_19_1, x49_19_2, x49_19_3, x49_48, x49_49, x49_52, x49_53, x49_56, x49_57, x49_58, x49_59, x49_61, x49_64, x49_65, x49_68, x49_69, x49_70, x49_71, x49_74, x49_75, x49_77, x49_80, x49_81, x49_84, x49_85, x49_86, x49_87, x49_90, x49_91, x49_92, x49_93, x49_95, x49_98, x49_99, x49_102, x49_103, x49_104, x49_105, x49_107, x49_110, x49_111, x49_114, x49_115, Option.bind_some, Option.toList_some, Option.toList_none, List.cons_append, List.nil_append, Int.toNat_natCast, Int.toNat_zero, z_w_id, z_b_0, z_b_1, z_b_n0, z_b_t, z_b_f, ↓reduceIte, Int.reduceEq, Int.reduceLT, Int.reduceLE, Int.reduceToNat, not_true_eq_false, not_false_eq_true, false_and, and_false, true_and, and_true, false_or, or_false, true_or, or_true]) | split)
  all_goals (refine z_ri ?_ rfl; unfold t_D; (repeat' split) <;> omega)
theorem k_pa4 (c : Int) (M : z_M) : z_ev 49 [.inl 4, .inl c] M = some (some (.inl (if c = 59 then 0 else -1)), M) := by
  rw [x49]
  repeat' (first | (exfalso; omega) | (simp (disch := first | omega | assumption | exact z_b_01) only [x49_0, x49_1, x49_3, x49_6, x49_7, x49_9, x49_12, x49_13, x49_16, x49_17, x49_18, x49_19d, x49_19_0, x49_19_1, x49_19_2, x49_19_3, x49_48, x49_49, x49_52, x49_53, x49_56, x49_57, x49_58, x49_59, x49_61, x49_64, x49_65, x49_68, x49_69, x49_70, x49_71, x49_74, x49_75, x49_77, x49_80, x49_81, x49_84, x49_85, x49_86, x49_87, x49_90, x49_91, x49_92, x49_93, x49_95, x49_98, x49_99, x49_102, x49_103, x49_104, x49_105, x49_107, x49_110, x49_111, x49_114, x49_115, Option.bind_some, Option.toList_some, Option.toList_none, List.cons_append, List.nil_append, Int.toNat_natCast, Int.toNat_zero, z_w_id, z_b_0, z_b_1, z_b_n0, z_b_t, z_b_f, ↓reduceIte, Int.reduceEq, Int.reduceLT, Int.reduceLE, Int.reduceToNat, not_true_eq_false, not_false_eq_true, false_and, and_false, true_and, and_true, false_or, or_false, true_or, or_true]) | split)
  all_goals (refine z_ri ?_ rfl; (repeat' split) <;> omega)
/-- the fault of a text from a place on where a job should begin -/
def t_F (S : Nat → Int) (n : Nat) : Nat → Nat → Int
  | 0, _ => 0
  | k + 1, a => if ¬ (a < n ∧ t_D (S a)) then (a : Int) else if ¬ (a + 1 < n ∧ S (a + 1) = 58) then (a : Int) + 1 else if ¬ (a + 2 < n ∧ 49 ≤ S (a + 2) ∧ S (a + 2) ≤ 57) then (a : Int) + 2 else
    if a + 3 < n ∧ t_D (S (a + 3)) then (if a + 4 = n then -5 else if S (a + 4) = 59 then t_F S n k (a + 5) else (a : Int) + 4) else
    if a + 3 = n then -5 else if S (a + 3) = 59 then t_F S n k (a + 4) else (a : Int) + 3
theorem k_fault_on {M : z_M} {n a : Nat} (hn : M 0 24 0 = (n : Int)) (h60 : n ≤ 60) (ha : a < n) {p p' : Int} (hp : z_ev 49 [.inl p, .inl (M 0 25 a)] M = some (some (.inl p'), M)) (h : p' ≠ -1) : z_ex 48 4 [some (.inr (some (0, 24))), some (.inl p), some (.inl (a : Int))] [] M = z_ex 48 4 [some (.inr (some (0, 24))), some (.inl p'), some (.inl ((a + 1 : Nat) : Int))] [] M := by
  rw [x48_4, Int.natCast_add, Int.natCast_one]
  repeat' (first | (exfalso; omega) | (simp (disch := first | omega | assumption | exact z_b_01) only [x48_0, x48_1, x48_2, x48_3, x48_5, x48_6, x48_9, x48_12, x48_13, x48_15, x48_18, x48_19, x48_20, x48_23, x48_24, x48_25, x48_28, x48_29, x48_30, x48_31, x48_34, x48_35, x48_36, x48_39, x48_42, x48_43, x48_44, x48_47, x48_48, x48_49, x48_52, x48_54, x48_57, x48_58, x48_61, Option.bind_some, Option.toList_some, Option.toList_none, List.cons_append, List.nil_append, Int.toNat_natCast, Int.toNat_zero, z_w_id, z_b_0, z_b_1, z_b_n0, z_b_t, z_b_f, ↓reduceIte, Int.reduceEq, Int.reduceLT, Int.reduceLE, Int.reduceToNat, not_true_eq_false, not_false_eq_true, false_and, and_false, true_and, and_true, false_or, or_false, true_or, or_true, hn, hp]) | split)
theorem k_fault_bad {M : z_M} {n a : Nat} (hn : M 0 24 0 = (n : Int)) (h60 : n ≤ 60) (ha : a < n) {p p' : Int} (hp : z_ev 49 [.inl p, .inl (M 0 25 a)] M = some (some (.inl p'), M)) (h : p' = -1) : z_ex 48 4 [some (.inr (some (0, 24))), some (.inl p), some (.inl (a : Int))] [] M = some (some (.inl (a : Int)), M) := by
  subst h
  rw [x48_4]
  repeat' (first | (exfalso; omega) | (simp (disch := first | omega | assumption | exact z_b_01) only [x48_0, x48_1, x48_2, x48_3, x48_5, x48_6, x48_9, x48_12, x48_13, x48_15, x48_18, x48_19, x48_20, x48_23, x48_24, x48_25, x48_28, x48_29, x48_30, x48_31, x48_34, x48_35, x48_36, x48_39, x48_42, x48_43, x48_44, x48_47, x48_48, x48_49, x48_52, x48_54, x48_57, x48_58, x48_61, Option.bind_some, Option.toList_some, Option.toList_none, List.cons_append, List.nil_append, Int.toNat_natCast, Int.toNat_zero, z_w_id, z_b_0, z_b_1, z_b_n0, z_b_t, z_b_f, ↓reduceIte, Int.reduceEq, Int.reduceLT, Int.reduceLE, Int.reduceToNat, not_true_eq_false, not_false_eq_true, false_and, and_false, true_and, and_true, false_or, or_false, true_or, or_true, hn, hp]) | split)
theorem k_fault_end {M : z_M} {n : Nat} (hn : M 0 24 0 = (n : Int)) (p : Int) : z_ex 48 4 [some (.inr (some (0, 24))), some (.inl p), some (.inl (n : Int))] [] M = some (some (.inl (if p = 3 ∨ p = 4 then -5 else (n : Int))), M) := by
  rw [x48_4]
  repeat' (first | (exfalso; omega) | (simp (disch := first | omega | assumption | exact z_b_01) only [x48_0, x48_1, x48_2, x48_3, x48_5, x48_6, x48_9, x48_12, x48_13, x48_15, x48_18, x48_19, x48_20, x48_23, x48_24, x48_25, x48_28, x48_29, x48_30, x48_31, x48_34, x48_35, x48_36, x48_39, x48_42, x48_43, x48_44, x48_47, x48_48, x48_49, x48_52, x48_54, x48_57, x48_58, x48_61, Option.bind_some, Option.toList_some, Option.toList_none, List.cons_append, List.nil_append, Int.toNat_natCast, Int.toNat_zero, z_w_id, z_b_0, z_b_1, z_b_n0, z_b_t, z_b_f, ↓reduceIte, Int.reduceEq, Int.reduceLT, Int.reduceLE, Int.reduceToNat, not_true_eq_false, not_false_eq_true, false_and, and_false, true_and, and_true, false_or, or_false, true_or, or_true, hn]) | split)
  all_goals (refine z_ri ?_ rfl; (repeat' split) <;> omega)
theorem k_fault_loop {M : z_M} {n : Nat} (hn : M 0 24 0 = (n : Int)) (h60 : n ≤ 60) : ∀ k a : Nat, a ≤ n → n < k + a → z_ex 48 4 [some (.inr (some (0, 24))), some (.inl 0), some (.inl (a : Int))] [] M = some (some (.inl (t_F (M 0 25) n k a)), M) := by
  intro k
  induction k with
  | zero => intro a h1 h2; omega
  | succ k ih =>
    intro a h1 h2
    unfold t_F
    by_cases c0 : a < n ∧ t_D (M 0 25 a)
    · rw [if_neg (fun q => q c0), k_fault_on hn h60 c0.1 (k_pa0 _ _) (by rw [if_pos c0.2]; decide), if_pos c0.2]
      by_cases c1 : a + 1 < n ∧ M 0 25 (a + 1) = 58
      · rw [if_neg (fun q => q c1), k_fault_on hn h60 c1.1 (k_pa1 _ _) (by rw [if_pos c1.2]; decide), if_pos c1.2]
        by_cases c2 : a + 2 < n ∧ 49 ≤ M 0 25 (a + 2) ∧ M 0 25 (a + 2) ≤ 57
        · rw [if_neg (fun q => q c2), k_fault_on hn h60 c2.1 (k_pa2 _ _) (by rw [if_pos c2.2]; decide), if_pos c2.2]
          by_cases c3 : a + 3 < n ∧ t_D (M 0 25 (a + 3))
          · rw [if_pos c3, k_fault_on hn h60 c3.1 (k_pa3 _ _) (by rw [if_pos c3.2]; decide), if_pos c3.2]
            by_cases c4 : a + 4 = n
            · rw [if_pos c4, show a + 2 + 1 + 1 = n by omega, k_fault_end hn, if_pos (Or.inr rfl)]
            · rw [if_neg c4]
              by_cases c5 : M 0 25 (a + 4) = 59
              · rw [if_pos c5, k_fault_on hn h60 (by omega) (k_pa4 _ _) (by rw [if_pos c5]; decide), if_pos c5]
                exact ih (a + 5) (by omega) (by omega)
              · rw [if_neg c5, k_fault_bad hn h60 (by omega) (k_pa4 _ _) (by rw [if_neg c5])]
                exact z_ri (by omega) rfl
          · rw [if_neg c3]
            by_cases c4 : a + 3 = n
            · rw [if_pos c4, show a + 2 + 1 = n by omega, k_fault_end hn, if_pos (Or.inl rfl)]
            · rw [if_neg c4]
              have nd : ¬ t_D (M 0 25 (a + 3)) := fun q => c3 ⟨by omega, q⟩
              by_cases c5 : M 0 25 (a + 3) = 59
              · rw [if_pos c5, k_fault_on hn h60 (by omega) (k_pa3 _ _) (by rw [if_neg nd, if_pos c5]; decide), if_neg nd, if_pos c5]
                exact ih (a + 4) (by omega) (by omega)
              · rw [if_neg c5, k_fault_bad hn h60 (by omega) (k_pa3 _ _) (by rw [if_neg nd, if_neg c5])]
                exact z_ri (by omega) rfl
        · rw [if_pos c2]
          by_cases c4 : a + 2 = n
          · rw [show a + 1 + 1 = n by omega, k_fault_end hn, if_neg (by omega)]
            exact z_ri (by omega) rfl
          · rw [k_fault_bad hn h60 (by omega) (k_pa2 _ _) (by rw [if_neg (fun q => c2 ⟨by omega, q⟩)])]
            exact z_ri (by omega) rfl
      · rw [if_pos c1]
        by_cases c4 : a + 1 = n
        · rw [c4, k_fault_end hn, if_neg (by omega)]
          exact z_ri (by omega) rfl
        · rw [k_fault_bad hn h60 (by omega) (k_pa1 _ _) (by rw [if_neg (fun q => c1 ⟨by omega, q⟩)])]
          exact z_ri (by omega) rfl
    · rw [if_pos c0]
      by_cases c4 : a = n
      · rw [c4, k_fault_end hn, if_neg (by omega)]
      · rw [k_fault_bad hn h60 (by omega) (k_pa0 _ _) (by rw [if_neg (fun q => c0 ⟨by omega, q⟩)])]
theorem k_fault {M : z_M} {n : Nat} (hn : M 0 24 0 = (n : Int)) (h60 : n ≤ 60) : z_ev 48 [.inr (some (0, 24))] M = some (some (.inl (t_F (M 0 25) n 61 0)), M) := by
  have k := k_fault_loop hn h60 61 0 (by omega) (by omega)
  simp only [Int.natCast_zero] at k
  rw [x48]
  repeat' (first | (exfalso; omega) | (simp (disch := first | omega | assumption | exact z_b_01) only [x48_0, x48_1, x48_2, x48_3, x48_5, x48_6, x48_9, x48_12, x48_13, x48_15, x48_18, x48_19, x48_20, x48_23, x48_24, x48_25, x48_28, x48_29, x48_30, x48_31, x48_34, x48_35, x48_36, x48_39, x48_42, x48_43, x48_44, x48_47, x48_48, x48_49, x48_52, x48_54, x48_57, x48_58, x48_61, Option.bind_some, Option.toList_some, Option.toList_none, List.cons_append, List.nil_append, Int.toNat_natCast, Int.toNat_zero, z_w_id, z_b_0, z_b_1, z_b_n0, z_b_t, z_b_f, ↓reduceIte, Int.reduceEq, Int.reduceLT, Int.reduceLE, Int.reduceToNat, not_true_eq_false, not_false_eq_true, false_and, and_false, true_and, and_true, false_or, or_false, true_or, or_true, k]) | split)
  all_goals rfl
