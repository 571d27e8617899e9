/-! the model reads the text -/
def t_m (N : z_M) (ρ : Nat → Int) (b : Int) : z_M := z_mr (z_up N 0 30 8 b) ρ
theorem t_m_at (N : z_M) (ρ : Nat → Int) (b : Int) : t_m N ρ b 0 30 8 = b := by unfold t_m; rw [z_mr_o (by decide), z_up_at]
theorem t_m_up (N : z_M) (ρ : Nat → Int) (b d : Int) : z_up (t_m N ρ b) 0 30 8 d = t_m N ρ d := by unfold t_m; rw [z_up_mro (by decide), z_up_up]
theorem t_m_o {N : z_M} {ρ : Nat → Int} {b : Int} {s : Fin 7} {o j : Nat} (h : o ≠ 31) (h2 : ¬ (o = 30 ∧ j = 8)) : t_m N ρ b s o j = N s o j := by unfold t_m; rw [z_mr_o h, z_up_ne h2]
theorem ix_11 (n : Nat) : ((n : Int) + 1 + 1).toNat = n + 2 := by omega
theorem ix_111 (n : Nat) : ((n : Int) + 1 + 1 + 1).toNat = n + 3 := by omega
theorem k_sees {N : z_M} {n : Nat} (hn : N 0 30 7 = (n : Int)) (h60 : n ≤ 60) {S : Nat → Int} (hS : ∀ i, i < n → N 0 35 i = S i) (ρ : Nat → Int) (b : Nat) (lo hi : Int) : z_ev 129 [.inr (some (0, 30)), .inl lo, .inl hi] (t_m N ρ (b : Int)) = some (some (.inl (z_b (b < n ∧ lo ≤ S b ∧ S b ≤ hi))), t_m N ρ (b : Int)) := by
  have e7 : t_m N ρ (b : Int) 0 30 7 = (n : Int) := by rw [t_m_o (by decide) (by omega)]; exact hn
  have e35 : ∀ i, t_m N ρ (b : Int) 0 35 i = N 0 35 i := fun i => t_m_o (by decide) (by omega)
  rw [x129]
  by_cases h : b < n
  · have e := hS b h
    by_cases h2 : lo ≤ S b ∧ S b ≤ hi
    · rw [z_b_t (show b < n ∧ lo ≤ S b ∧ S b ≤ hi from ⟨h, h2⟩)]
      repeat' (first | (exfalso; omega) | (simp (disch := first | omega | assumption | exact z_b_01) only [x129_0, x129_1, x129_4, x129_5, x129_8, x129_11, x129_12, x129_15, x129_16, x129_19, x129_20, x129_21, x129_22, x129_25, x129_28, x129_29, x129_32, x129_33, Option.bind_some, Option.toList_some, Option.toList_none, List.cons_append, List.nil_append, Int.toNat_natCast, Int.toNat_zero, z_w_id, z_b_0, z_b_1, z_b_n0, z_b_t, z_b_f, ↓reduceIte, Int.reduceEq, Int.reduceLT, Int.reduceLE, Int.reduceToNat, not_true_eq_false, not_false_eq_true, false_and, and_false, true_and, and_true, false_or, or_false, true_or, or_true, t_m_at, e7, e35, e, k_in]) | split)
    · rw [z_b_f (show ¬ (b < n ∧ lo ≤ S b ∧ S b ≤ hi) from fun q => h2 q.2)]
      repeat' (first | (exfalso; omega) | (simp (disch := first | omega | assumption | exact z_b_01) only [x129_0, x129_1, x129_4, x129_5, x129_8, x129_11, x129_12, x129_15, x129_16, x129_19, x129_20, x129_21, x129_22, x129_25, x129_28, x129_29, x129_32, x129_33, Option.bind_some, Option.toList_some, Option.toList_none, List.cons_append, List.nil_append, Int.toNat_natCast, Int.toNat_zero, z_w_id, z_b_0, z_b_1, z_b_n0, z_b_t, z_b_f, ↓reduceIte, Int.reduceEq, Int.reduceLT, Int.reduceLE, Int.reduceToNat, not_true_eq_false, not_false_eq_true, false_and, and_false, true_and, and_true, false_or, or_false, true_or, or_true, t_m_at, e7, e35, e, k_in]) | split)
  · rw [z_b_f (show ¬ (b < n ∧ lo ≤ S b ∧ S b ≤ hi) from fun q => h q.1)]
    repeat' (first | (exfalso; omega) | (simp (disch := first | omega | assumption | exact z_b_01) only [x129_0, x129_1, x129_4, x129_5, x129_8, x129_11, x129_12, x129_15, x129_16, x129_19, x129_20, x129_21, x129_22, x129_25, x129_28, x129_29, x129_32, x129_33, Option.bind_some, Option.toList_some, Option.toList_none, List.cons_append, List.nil_append, Int.toNat_natCast, Int.toNat_zero, z_w_id, z_b_0, z_b_1, z_b_n0, z_b_t, z_b_f, ↓reduceIte, Int.reduceEq, Int.reduceLT, Int.reduceLE, Int.reduceToNat, not_true_eq_false, not_false_eq_true, false_and, and_false, true_and, and_true, false_or, or_false, true_or, or_true, t_m_at, e7, k_in]) | split)
theorem k_rj0 {N : z_M} {n : Nat} (hn : N 0 30 7 = (n : Int)) (h60 : n ≤ 60) {S : Nat → Int} (hS : ∀ i, i < n → N 0 35 i = S i) {ρ : Nat → Int} {a : Nat} (come : Int) (c0 : ¬ (a < n ∧ t_D (S a))) : z_ex 124 0 [some (.inr (some (0, 30))), some (.inl come), none, none, none] [] (t_m N ρ (a : Int)) = some (some (.inl (-100)), t_m N ρ (a : Int)) := by
  have s0 := k_sees hn h60 hS ρ a 48 57
  rw [z_b_f c0] at s0
  repeat' (first | (exfalso; omega) | (simp (disch := first | omega | assumption | exact z_b_01) only [x124_0, x124_1, x124_3, x124_5, x124_8, x124_11, x124_13, x124_14, x124_15, x124_18, x124_19, x124_22, x124_23, x124_25, x124_26, x124_27, x124_28, x124_29, x124_32, x124_33, x124_34, x124_37, x124_38, x124_40, x124_42, x124_45, x124_48, x124_50, x124_51, x124_52, x124_53, x124_56, x124_57, x124_58, x124_61, x124_62, x124_64, x124_66, x124_69, x124_72, x124_74, x124_75, x124_76, x124_79, x124_80, x124_83, x124_84, x124_86, x124_87, x124_88, x124_89, x124_90, x124_93, x124_94, x124_95, x124_98, x124_99, x124_101, x124_103, x124_106, x124_109, x124_111, x124_112, x124_113, x124_114, x124_117, x124_118, x124_121, x124_122, x124_123, x124_125, x124_126, x124_127, x124_128, x124_129, x124_132, x124_133, x124_134, x124_138, x124_141, x124_142, x124_143, x124_144, x124_145, x124_146, x124_149, x124_151, x124_153, x124_156, x124_157, x124_158, x124_159, x124_162, x124_163, x124_165, Option.bind_some, Option.toList_some, Option.toList_none, List.cons_append, List.nil_append, Int.toNat_natCast, Int.toNat_zero, z_w_id, z_b_0, z_b_1, z_b_n0, z_b_t, z_b_f, ↓reduceIte, Int.reduceEq, Int.reduceLT, Int.reduceLE, Int.reduceToNat, not_true_eq_false, not_false_eq_true, false_and, and_false, true_and, and_true, false_or, or_false, true_or, or_true, s0]) | split)
theorem k_rj1 {N : z_M} {n : Nat} (hn : N 0 30 7 = (n : Int)) (h60 : n ≤ 60) {S : Nat → Int} (hS : ∀ i, i < n → N 0 35 i = S i) {ρ : Nat → Int} {a : Nat} (come : Int) (c0 : a < n ∧ t_D (S a)) (c1 : ¬ (a + 1 < n ∧ S (a + 1) = 58)) : z_ex 124 0 [some (.inr (some (0, 30))), some (.inl come), none, none, none] [] (t_m N ρ (a : Int)) = some (some (.inl (-100)), t_m N ρ ((a : Int) + 1)) := by
  have s0 := k_sees hn h60 hS ρ a 48 57
  rw [z_b_t c0] at s0
  have s1 := k_sees hn h60 hS ρ (a + 1) 58 58
  rw [z_b_f (by omega)] at s1
  simp only [Int.natCast_add, Int.natCast_one] at s1
  have e35 : ∀ b : Int, ∀ i, t_m N ρ b 0 35 i = N 0 35 i := fun b i => t_m_o (by decide) (by omega)
  have d0 := hS a c0.1
  obtain ⟨q1, q2⟩ := c0
  repeat' (first | (exfalso; omega) | (simp (disch := first | omega | assumption | exact z_b_01) only [x124_0, x124_1, x124_3, x124_5, x124_8, x124_11, x124_13, x124_14, x124_15, x124_18, x124_19, x124_22, x124_23, x124_25, x124_26, x124_27, x124_28, x124_29, x124_32, x124_33, x124_34, x124_37, x124_38, x124_40, x124_42, x124_45, x124_48, x124_50, x124_51, x124_52, x124_53, x124_56, x124_57, x124_58, x124_61, x124_62, x124_64, x124_66, x124_69, x124_72, x124_74, x124_75, x124_76, x124_79, x124_80, x124_83, x124_84, x124_86, x124_87, x124_88, x124_89, x124_90, x124_93, x124_94, x124_95, x124_98, x124_99, x124_101, x124_103, x124_106, x124_109, x124_111, x124_112, x124_113, x124_114, x124_117, x124_118, x124_121, x124_122, x124_123, x124_125, x124_126, x124_127, x124_128, x124_129, x124_132, x124_133, x124_134, x124_138, x124_141, x124_142, x124_143, x124_144, x124_145, x124_146, x124_149, x124_151, x124_153, x124_156, x124_157, x124_158, x124_159, x124_162, x124_163, x124_165, Option.bind_some, Option.toList_some, Option.toList_none, List.cons_append, List.nil_append, Int.toNat_natCast, Int.toNat_zero, z_w_id, z_b_0, z_b_1, z_b_n0, z_b_t, z_b_f, ↓reduceIte, Int.reduceEq, Int.reduceLT, Int.reduceLE, Int.reduceToNat, not_true_eq_false, not_false_eq_true, false_and, and_false, true_and, and_true, false_or, or_false, true_or, or_true, s0, s1, t_m_at, t_m_up, e35, d0]) | split)
theorem k_rj2 {N : z_M} {n : Nat} (hn : N 0 30 7 = (n : Int)) (h60 : n ≤ 60) {S : Nat → Int} (hS : ∀ i, i < n → N 0 35 i = S i) {ρ : Nat → Int} {a : Nat} (come : Int) (c0 : a < n ∧ t_D (S a)) (c1 : a + 1 < n ∧ S (a + 1) = 58) (c2 : ¬ (a + 2 < n ∧ 49 ≤ S (a + 2) ∧ S (a + 2) ≤ 57)) : z_ex 124 0 [some (.inr (some (0, 30))), some (.inl come), none, none, none] [] (t_m N ρ (a : Int)) = some (some (.inl (-100)), t_m N ρ ((a : Int) + 1 + 1)) := by
  have s0 := k_sees hn h60 hS ρ a 48 57
  rw [z_b_t c0] at s0
  have s1 := k_sees hn h60 hS ρ (a + 1) 58 58
  rw [z_b_t (by omega)] at s1
  have s2 := k_sees hn h60 hS ρ (a + 1 + 1) 49 57
  rw [z_b_f c2] at s2
  simp only [Int.natCast_add, Int.natCast_one] at s1 s2
  have e35 : ∀ b : Int, ∀ i, t_m N ρ b 0 35 i = N 0 35 i := fun b i => t_m_o (by decide) (by omega)
  have d0 := hS a c0.1
  obtain ⟨q1, q2⟩ := c0
  repeat' (first | (exfalso; omega) | (simp (disch := first | omega | assumption | exact z_b_01) only [x124_0, x124_1, x124_3, x124_5, x124_8, x124_11, x124_13, x124_14, x124_15, x124_18, x124_19, x124_22, x124_23, x124_25, x124_26, x124_27, x124_28, x124_29, x124_32, x124_33, x124_34, x124_37, x124_38, x124_40, x124_42, x124_45, x124_48, x124_50, x124_51, x124_52, x124_53, x124_56, x124_57, x124_58, x124_61, x124_62, x124_64, x124_66, x124_69, x124_72, x124_74, x124_75, x124_76, x124_79, x124_80, x124_83, x124_84, x124_86, x124_87, x124_88, x124_89, x124_90, x124_93, x124_94, x124_95, x124_98, x124_99, x124_101, x124_103, x124_106, x124_109, x124_111, x124_112, x124_113, x124_114, x124_117, x124_118, x124_121, x124_122, x124_123, x124_125, x124_126, x124_127, x124_128, x124_129, x124_132, x124_133, x124_134, x124_138, x124_141, x124_142, x124_143, x124_144, x124_145, x124_146, x124_149, x124_151, x124_153, x124_156, x124_157, x124_158, x124_159, x124_162, x124_163, x124_165, Option.bind_some, Option.toList_some, Option.toList_none, List.cons_append, List.nil_append, Int.toNat_natCast, Int.toNat_zero, z_w_id, z_b_0, z_b_1, z_b_n0, z_b_t, z_b_f, ↓reduceIte, Int.reduceEq, Int.reduceLT, Int.reduceLE, Int.reduceToNat, not_true_eq_false, not_false_eq_true, false_and, and_false, true_and, and_true, false_or, or_false, true_or, or_true, s0, s1, s2, t_m_at, t_m_up, e35, d0]) | split)
theorem k_rj3 {N : z_M} {n : Nat} (hn : N 0 30 7 = (n : Int)) (h60 : n ≤ 60) {S : Nat → Int} (hS : ∀ i, i < n → N 0 35 i = S i) {ρ : Nat → Int} {a : Nat} (come : Int) (c0 : a < n ∧ t_D (S a)) (c1 : a + 1 < n ∧ S (a + 1) = 58) (c2 : a + 2 < n ∧ 49 ≤ S (a + 2) ∧ S (a + 2) ≤ 57) (c3 : a + 3 < n ∧ t_D (S (a + 3))) : z_ex 124 0 [some (.inr (some (0, 30))), some (.inl come), none, none, none] [] (t_m N ρ (a : Int)) = z_ex 124 137 [some (.inr (some (0, 30))), some (.inl come), some (.inl (S a - 48)), some (.inl (10 * (S (a + 2) - 48) + S (a + 3) - 48)), none] [] (t_m N ρ ((a : Int) + 1 + 1 + 1 + 1)) := by
  have s0 := k_sees hn h60 hS ρ a 48 57
  rw [z_b_t c0] at s0
  have s1 := k_sees hn h60 hS ρ (a + 1) 58 58
  rw [z_b_t (by omega)] at s1
  have s2 := k_sees hn h60 hS ρ (a + 1 + 1) 49 57
  rw [z_b_t c2] at s2
  have s3 := k_sees hn h60 hS ρ (a + 1 + 1 + 1) 48 57
  rw [z_b_t c3] at s3
  simp only [Int.natCast_add, Int.natCast_one] at s1 s2 s3
  have e35 : ∀ b : Int, ∀ i, t_m N ρ b 0 35 i = N 0 35 i := fun b i => t_m_o (by decide) (by omega)
  have d0 := hS a c0.1
  have d2 := hS (a + 2) c2.1
  have d3 := hS (a + 3) c3.1
  obtain ⟨q1, q2⟩ := c0
  obtain ⟨q3, q4⟩ := c3
  repeat' (first | (exfalso; omega) | (simp (disch := first | omega | assumption | exact z_b_01) only [x124_0, x124_1, x124_3, x124_5, x124_8, x124_11, x124_13, x124_14, x124_15, x124_18, x124_19, x124_22, x124_23, x124_25, x124_26, x124_27, x124_28, x124_29, x124_32, x124_33, x124_34, x124_37, x124_38, x124_40, x124_42, x124_45, x124_48, x124_50, x124_51, x124_52, x124_53, x124_56, x124_57, x124_58, x124_61, x124_62, x124_64, x124_66, x124_69, x124_72, x124_74, x124_75, x124_76, x124_79, x124_80, x124_83, x124_84, x124_86, x124_87, x124_88, x124_89, x124_90, x124_93, x124_94, x124_95, x124_98, x124_99, x124_101, x124_103, x124_106, x124_109, x124_111, x124_112, x124_113, x124_114, x124_117, x124_118, x124_121, x124_122, x124_123, x124_125, x124_126, x124_127, x124_128, x124_129, x124_132, x124_133, x124_134, x124_138, x124_141, x124_142, x124_143, x124_144, x124_145, x124_146, x124_149, x124_151, x124_153, x124_156, x124_157, x124_158, x124_159, x124_162, x124_163, x124_165, Option.bind_some, Option.toList_some, Option.toList_none, List.cons_append, List.nil_append, Int.toNat_natCast, Int.toNat_zero, z_w_id, z_b_0, z_b_1, z_b_n0, z_b_t, z_b_f, ↓reduceIte, Int.reduceEq, Int.reduceLT, Int.reduceLE, Int.reduceToNat, not_true_eq_false, not_false_eq_true, false_and, and_false, true_and, and_true, false_or, or_false, true_or, or_true, s0, s1, s2, s3, t_m_at, t_m_up, e35, d0, d2, d3, ix_11, ix_111]) | split)
  all_goals rfl
theorem k_rj4 {N : z_M} {n : Nat} (hn : N 0 30 7 = (n : Int)) (h60 : n ≤ 60) {S : Nat → Int} (hS : ∀ i, i < n → N 0 35 i = S i) {ρ : Nat → Int} {a : Nat} (come : Int) (c0 : a < n ∧ t_D (S a)) (c1 : a + 1 < n ∧ S (a + 1) = 58) (c2 : a + 2 < n ∧ 49 ≤ S (a + 2) ∧ S (a + 2) ≤ 57) (c3 : ¬ (a + 3 < n ∧ t_D (S (a + 3)))) : z_ex 124 0 [some (.inr (some (0, 30))), some (.inl come), none, none, none] [] (t_m N ρ (a : Int)) = z_ex 124 137 [some (.inr (some (0, 30))), some (.inl come), some (.inl (S a - 48)), some (.inl (S (a + 2) - 48)), none] [] (t_m N ρ ((a : Int) + 1 + 1 + 1)) := by
  have s0 := k_sees hn h60 hS ρ a 48 57
  rw [z_b_t c0] at s0
  have s1 := k_sees hn h60 hS ρ (a + 1) 58 58
  rw [z_b_t (by omega)] at s1
  have s2 := k_sees hn h60 hS ρ (a + 1 + 1) 49 57
  rw [z_b_t c2] at s2
  have s3 := k_sees hn h60 hS ρ (a + 1 + 1 + 1) 48 57
  rw [z_b_f c3] at s3
  simp only [Int.natCast_add, Int.natCast_one] at s1 s2 s3
  have e35 : ∀ b : Int, ∀ i, t_m N ρ b 0 35 i = N 0 35 i := fun b i => t_m_o (by decide) (by omega)
  have d0 := hS a c0.1
  have d2 := hS (a + 2) c2.1
  obtain ⟨q1, q2⟩ := c0
  repeat' (first | (exfalso; omega) | (simp (disch := first | omega | assumption | exact z_b_01) only [x124_0, x124_1, x124_3, x124_5, x124_8, x124_11, x124_13, x124_14, x124_15, x124_18, x124_19, x124_22, x124_23, x124_25, x124_26, x124_27, x124_28, x124_29, x124_32, x124_33, x124_34, x124_37, x124_38, x124_40, x124_42, x124_45, x124_48, x124_50, x124_51, x124_52, x124_53, x124_56, x124_57, x124_58, x124_61, x124_62, x124_64, x124_66, x124_69, x124_72, x124_74, x124_75, x124_76, x124_79, x124_80, x124_83, x124_84, x124_86, x124_87, x124_88, x124_89, x124_90, x124_93, x124_94, x124_95, x124_98, x124_99, x124_101, x124_103, x124_106, x124_109, x124_111, x124_112, x124_113, x124_114, x124_117, x124_118, x124_121, x124_122, x124_123, x124_125, x124_126, x124_127, x124_128, x124_129, x124_132, x124_133, x124_134, x124_138, x124_141, x124_142, x124_143, x124_144, x124_145, x124_146, x124_149, x124_151, x124_153, x124_156, x124_157, x124_158, x124_159, x124_162, x124_163, x124_165, Option.bind_some, Option.toList_some, Option.toList_none, List.cons_append, List.nil_append, Int.toNat_natCast, Int.toNat_zero, z_w_id, z_b_0, z_b_1, z_b_n0, z_b_t, z_b_f, ↓reduceIte, Int.reduceEq, Int.reduceLT, Int.reduceLE, Int.reduceToNat, not_true_eq_false, not_false_eq_true, false_and, and_false, true_and, and_true, false_or, or_false, true_or, or_true, s0, s1, s2, s3, t_m_at, t_m_up, e35, d0, d2, ix_11]) | split)
  all_goals rfl
