/-! what changes a state -/
def a_append (A : Nat → Nat → Int) (c z t : Int) : Nat → Nat → Int := a_u (a_u (a_u (a_u (a_u (a_u (a_u A 16 (A 3 0).toNat c) 17 (A 3 0).toNat z) 18 (A 3 0).toNat t) 19 (A 3 0).toNat (-5)) 3 0 (A 3 0 + 1)) 20 (A 3 5).toNat (A 3 0)) 3 5 (A 3 5 + 1)
theorem k_Jobs_append {s : Fin 7} {M : z_M} {A : Nat → Nat → Int} (h0 : 0 ≤ A 3 0) (h1 : A 3 0 < 200) (h2 : 0 ≤ A 3 5) (h3 : A 3 5 < 60) (c z t : Int) : z_ev 15 [.inr (some (s, 3)), .inl c, .inl z, .inl t] (z_ur M s A) = some (some (.inl (A 3 0)), z_ur M s (a_append A c z t)) := by
  rw [x15]
  repeat' (first | (exfalso; omega) | (simp (disch := first | omega | assumption | exact z_b_01) only [x15_0, x15_1, x15_4, x15_6, x15_8, x15_11, x15_13, x15_16, x15_19, x15_20, x15_23, x15_26, x15_27, x15_30, x15_32, x15_35, x15_37, x15_38, x15_39, x15_42, x15_44, x15_45, x15_46, x15_47, x15_50, x15_52, x15_53, x15_54, x15_55, x15_58, x15_60, x15_61, x15_62, x15_63, x15_66, x15_68, x15_70, x15_71, x15_72, x15_73, x15_76, x15_77, x15_78, x15_81, x15_82, x15_85, x15_86, x15_89, x15_91, x15_92, x15_93, x15_94, x15_97, x15_98, x15_99, x15_102, x15_104, Option.bind_some, Option.toList_some, Option.toList_none, List.cons_append, List.nil_append, Int.toNat_natCast, Int.toNat_zero, z_w_id, z_b_0, z_b_1, z_b_n0, z_b_t, z_b_f, ↓reduceIte, Int.reduceEq, Int.reduceLT, Int.reduceLE, Int.reduceToNat, not_true_eq_false, not_false_eq_true, z_ur_get, z_up_ur, a_u_o, a_u_j]) | split)
  all_goals rfl
def a_addGroup (A : Nat → Nat → Int) (q : Int) : Nat → Nat → Int := a_u (a_u (a_u (a_u A 4 (A 1 0).toNat q) 5 (A 1 0).toNat 0) 6 (A 1 0).toNat (-5)) 1 0 (A 1 0 + 1)
theorem k_Groups_append {s : Fin 7} {M : z_M} {A : Nat → Nat → Int} (h0 : 0 ≤ A 1 0) (h1 : A 1 0 < 3) (q : Int) : z_ev 7 [.inr (some (s, 1)), .inl q] (z_ur M s A) = some (some (.inl (A 1 0)), z_ur M s (a_addGroup A q)) := by
  rw [x7]
  repeat' (first | (exfalso; omega) | (simp (disch := first | omega | assumption | exact z_b_01) only [x7_0, x7_1, x7_4, x7_5, x7_6, x7_9, x7_10, x7_11, x7_14, x7_16, x7_17, x7_18, x7_21, x7_22, x7_23, x7_24, x7_25, x7_28, x7_29, x7_30, x7_31, x7_32, x7_35, x7_36, x7_38, x7_39, x7_40, x7_41, x7_44, x7_45, x7_46, x7_49, x7_50, Option.bind_some, Option.toList_some, Option.toList_none, List.cons_append, List.nil_append, Int.toNat_natCast, Int.toNat_zero, z_w_id, z_b_0, z_b_1, z_b_n0, z_b_t, z_b_f, ↓reduceIte, Int.reduceEq, Int.reduceLT, Int.reduceLE, Int.reduceToNat, not_true_eq_false, not_false_eq_true, z_ur_get, z_up_ur, a_u_o, a_u_j]) | split)
  all_goals rfl
def a_addClass (A : Nat → Nat → Int) (g q z f : Int) : Nat → Nat → Int := a_u (a_u (a_u (a_u (a_u (a_u (a_u (a_u (a_u (a_u A 7 (A 2 0).toNat g) 8 (A 2 0).toNat q) 9 (A 2 0).toNat 0) 10 (A 2 0).toNat z) 11 (A 2 0).toNat f) 12 (A 2 0).toNat z) 13 (A 2 0).toNat 0) 14 (A 2 0).toNat 0) 15 (A 2 0).toNat 0) 2 0 (A 2 0 + 1)
theorem k_Classes_append {s : Fin 7} {M : z_M} {A : Nat → Nat → Int} (h0 : 0 ≤ A 2 0) (h1 : A 2 0 < 8) (g q z f : Int) : z_ev 0 [.inr (some (s, 2)), .inl g, .inl q, .inl z, .inl f] (z_ur M s A) = some (some (.inl (A 2 0)), z_ur M s (a_addClass A g q z f)) := by
  rw [x0]
  repeat' (first | (exfalso; omega) | (simp (disch := first | omega | assumption | exact z_b_01) only [x0_0, x0_1, x0_4, x0_6, x0_8, x0_11, x0_13, x0_15, x0_18, x0_20, x0_21, x0_22, x0_25, x0_27, x0_28, x0_29, x0_30, x0_33, x0_35, x0_36, x0_37, x0_38, x0_41, x0_43, x0_44, x0_45, x0_46, x0_49, x0_51, x0_52, x0_53, x0_54, x0_57, x0_59, x0_61, x0_62, x0_63, x0_66, x0_68, x0_69, x0_70, x0_71, x0_74, x0_76, x0_77, x0_78, x0_79, x0_82, x0_84, x0_85, x0_86, x0_87, x0_90, x0_92, x0_93, x0_94, x0_95, x0_96, x0_99, x0_100, x0_101, x0_104, x0_106, Option.bind_some, Option.toList_some, Option.toList_none, List.cons_append, List.nil_append, Int.toNat_natCast, Int.toNat_zero, z_w_id, z_b_0, z_b_1, z_b_n0, z_b_t, z_b_f, ↓reduceIte, Int.reduceEq, Int.reduceLT, Int.reduceLE, Int.reduceToNat, not_true_eq_false, not_false_eq_true, z_ur_get, z_up_ur, a_u_o, a_u_j]) | split)
  all_goals rfl
def a_cg (A B : Nat → Nat → Int) : Nat → Nat → Int := a_cp (a_cp (a_cp (a_u A 1 0 (B 1 0)) (B 4) 4 0 0 3) (B 5) 5 0 0 3) (B 6) 6 0 0 3
theorem k_Groups_copy {s s2 : Fin 7} (hs : s2 ≠ s) {M : z_M} {A : Nat → Nat → Int} : z_ev 8 [.inr (some (s, 1)), .inr (some (s2, 1))] (z_ur M s A) = some (none, z_ur M s (a_cg A (M s2))) := by
  rw [x8]
  repeat' (first | (exfalso; omega) | (simp (disch := first | omega | assumption | exact z_b_01) only [x8_0, x8_1, x8_2, x8_5, x8_8, x8_9, x8_12, x8_13, x8_14, x8_17, x8_18, x8_19, x8_22, x8_23, x8_26, x8_27, x8_28, x8_31, x8_32, x8_33, x8_36, x8_37, x8_40, x8_41, x8_42, x8_45, x8_46, x8_47, x8_50, Option.bind_some, Option.toList_some, Option.toList_none, List.cons_append, List.nil_append, Int.toNat_natCast, Int.toNat_zero, z_w_id, z_b_0, z_b_1, z_b_n0, z_b_t, z_b_f, ↓reduceIte, Int.reduceEq, Int.reduceLT, Int.reduceLE, Int.reduceToNat, not_true_eq_false, not_false_eq_true, z_ur_ne, z_up_ur, z_cp_ur]) | split)
  all_goals rfl
def a_cc (A B : Nat → Nat → Int) : Nat → Nat → Int := a_cp (a_cp (a_cp (a_cp (a_cp (a_cp (a_cp (a_cp (a_cp (a_u A 2 0 (B 2 0)) (B 7) 7 0 0 8) (B 8) 8 0 0 8) (B 9) 9 0 0 8) (B 10) 10 0 0 8) (B 11) 11 0 0 8) (B 12) 12 0 0 8) (B 13) 13 0 0 8) (B 14) 14 0 0 8) (B 15) 15 0 0 8
theorem k_Classes_copy {s s2 : Fin 7} (hs : s2 ≠ s) {M : z_M} {A : Nat → Nat → Int} : z_ev 1 [.inr (some (s, 2)), .inr (some (s2, 2))] (z_ur M s A) = some (none, z_ur M s (a_cc A (M s2))) := by
  rw [x1]
  repeat' (first | (exfalso; omega) | (simp (disch := first | omega | assumption | exact z_b_01) only [x1_0, x1_1, x1_2, x1_5, x1_8, x1_9, x1_12, x1_13, x1_14, x1_17, x1_18, x1_20, x1_23, x1_24, x1_27, x1_28, x1_29, x1_32, x1_33, x1_35, x1_38, x1_39, x1_42, x1_43, x1_44, x1_47, x1_48, x1_50, x1_53, x1_54, x1_57, x1_58, x1_59, x1_62, x1_63, x1_65, x1_68, x1_69, x1_72, x1_73, x1_74, x1_77, x1_78, x1_80, x1_83, x1_84, x1_87, x1_88, x1_89, x1_92, x1_93, x1_95, x1_98, x1_99, x1_102, x1_103, x1_104, x1_107, x1_108, x1_110, x1_113, x1_114, x1_117, x1_118, x1_119, x1_122, x1_123, x1_125, x1_128, x1_129, x1_132, x1_133, x1_134, x1_137, x1_138, x1_140, x1_143, Option.bind_some, Option.toList_some, Option.toList_none, List.cons_append, List.nil_append, Int.toNat_natCast, Int.toNat_zero, z_w_id, z_b_0, z_b_1, z_b_n0, z_b_t, z_b_f, ↓reduceIte, Int.reduceEq, Int.reduceLT, Int.reduceLE, Int.reduceToNat, not_true_eq_false, not_false_eq_true, z_ur_ne, z_up_ur, z_cp_ur]) | split)
  all_goals rfl
def a_cj (A B : Nat → Nat → Int) : Nat → Nat → Int := a_cp (a_cp (a_cp (a_cp (a_cp (a_u (a_u A 3 0 (B 3 0)) 3 5 (B 3 5)) (B 16) 16 0 0 200) (B 17) 17 0 0 200) (B 18) 18 0 0 200) (B 19) 19 0 0 200) (B 20) 20 0 0 60
theorem k_Jobs_copy {s s2 : Fin 7} (hs : s2 ≠ s) {M : z_M} {A : Nat → Nat → Int} : z_ev 16 [.inr (some (s, 3)), .inr (some (s2, 3))] (z_ur M s A) = some (none, z_ur M s (a_cj A (M s2))) := by
  rw [x16]
  repeat' (first | (exfalso; omega) | (simp (disch := first | omega | assumption | exact z_b_01) only [x16_0, x16_1, x16_2, x16_5, x16_8, x16_9, x16_10, x16_13, x16_16, x16_17, x16_20, x16_21, x16_22, x16_25, x16_26, x16_29, x16_32, x16_33, x16_36, x16_37, x16_38, x16_41, x16_42, x16_45, x16_48, x16_49, x16_52, x16_53, x16_54, x16_57, x16_58, x16_61, x16_64, x16_65, x16_68, x16_69, x16_70, x16_73, x16_74, x16_77, x16_80, x16_81, x16_84, x16_85, x16_86, x16_89, x16_90, x16_92, x16_95, Option.bind_some, Option.toList_some, Option.toList_none, List.cons_append, List.nil_append, Int.toNat_natCast, Int.toNat_zero, z_w_id, z_b_0, z_b_1, z_b_n0, z_b_t, z_b_f, ↓reduceIte, Int.reduceEq, Int.reduceLT, Int.reduceLE, Int.reduceToNat, not_true_eq_false, not_false_eq_true, z_ur_ne, z_up_ur, z_cp_ur]) | split)
  all_goals rfl
def a_copy (A B : Nat → Nat → Int) : Nat → Nat → Int := a_u (a_u (a_u (a_u (a_u (a_u (a_cj (a_cc (a_cg A B) B) B) 0 3 (B 0 3)) 0 4 (B 0 4)) 0 5 (B 0 5)) 0 6 (B 0 6)) 0 7 (B 0 7)) 0 8 (B 0 8)
theorem k_State_copy {s s2 : Fin 7} (hs : s2 ≠ s) {M : z_M} {A : Nat → Nat → Int} : z_ev 29 [.inr (some (s, 0)), .inr (some (s2, 0))] (z_ur M s A) = some (none, z_ur M s (a_copy A (M s2))) := by
  rw [x29]
  repeat' (first | (exfalso; omega) | (simp (disch := first | omega | assumption | exact z_b_01) only [x29_0, x29_1, x29_4, x29_5, x29_8, x29_11, x29_12, x29_15, x29_16, x29_19, x29_22, x29_23, x29_26, x29_27, x29_30, x29_33, x29_34, x29_35, x29_38, x29_41, x29_42, x29_43, x29_46, x29_49, x29_50, x29_51, x29_54, x29_57, x29_58, x29_59, x29_62, x29_65, x29_66, x29_67, x29_70, x29_73, x29_74, x29_75, x29_78, x29_81, Option.bind_some, Option.toList_some, Option.toList_none, List.cons_append, List.nil_append, Int.toNat_natCast, Int.toNat_zero, z_w_id, z_b_0, z_b_1, z_b_n0, z_b_t, z_b_f, ↓reduceIte, Int.reduceEq, Int.reduceLT, Int.reduceLE, Int.reduceToNat, not_true_eq_false, not_false_eq_true, z_ur_ne, z_up_ur, k_Groups_copy, k_Classes_copy, k_Jobs_copy]) | split)
  all_goals rfl
/-- the cells of a state that mean something -/
def a_cell (o j : Nat) : Prop := (o = 0 ∧ 3 ≤ j ∧ j ≤ 8) ∨ ((o = 1 ∨ o = 2) ∧ j = 0) ∨ (o = 3 ∧ (j = 0 ∨ j = 5)) ∨ (4 ≤ o ∧ o ≤ 6 ∧ j < 3) ∨ (7 ≤ o ∧ o ≤ 15 ∧ j < 8) ∨ (16 ≤ o ∧ o ≤ 19 ∧ j < 200) ∨ (o = 20 ∧ j < 60)
theorem a_copy_cell (A B : Nat → Nat → Int) : ∀ o j, a_cell o j → a_copy A B o j = B o j := by
  intro o j h
  unfold a_copy a_cj a_cc a_cg a_u a_cp
  unfold a_cell at h
  rcases h with ⟨rfl, h1, h2⟩ | ⟨h1, rfl⟩ | ⟨rfl, h1⟩ | ⟨h1, h2, h3⟩ | ⟨h1, h2, h3⟩ | ⟨h1, h2, h3⟩ | ⟨rfl, h3⟩
  · rcases (by omega : j = 3 ∨ j = 4 ∨ j = 5 ∨ j = 6 ∨ j = 7 ∨ j = 8) with rfl | rfl | rfl | rfl | rfl | rfl <;> simp
  · rcases h1 with rfl | rfl <;> simp
  · rcases h1 with rfl | rfl <;> simp
  · rcases (by omega : o = 4 ∨ o = 5 ∨ o = 6) with rfl | rfl | rfl <;> simp [h3]
  · rcases (by omega : o = 7 ∨ o = 8 ∨ o = 9 ∨ o = 10 ∨ o = 11 ∨ o = 12 ∨ o = 13 ∨ o = 14 ∨ o = 15) with rfl | rfl | rfl | rfl | rfl | rfl | rfl | rfl | rfl <;> simp [h3]
  · rcases (by omega : o = 16 ∨ o = 17 ∨ o = 18 ∨ o = 19) with rfl | rfl | rfl | rfl <;> simp [h3]
  · simp [h3]
