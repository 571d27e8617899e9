/-! the model's acts, on a row -/
theorem ix_n (n k : Nat) : ((n : Int) + (k : Int)).toNat = n + k := by omega
theorem k_maddGroup {M : z_M} {ρ : Nat → Int} (h30 : 0 ≤ M 0 30 4 ∧ M 0 30 4 ≤ 4) {g : Nat} (hg : ρ 1 = (g : Int)) (h3 : g < 3) {q : Int} (hq : 1 ≤ q ∧ q ≤ 200) : z_ev 89 [.inr (some (0, 30)), .inl q] (z_mr M ρ) = some (some (.inl (g : Int)), z_mr (m_bg M ρ) (m_addGroup ρ g q)) := by
  have kb := k_mbg (ρ := ρ) h30
  have k1 := fun M => k_party (j := g) (by omega) M
  rw [x89]
  repeat' (first | (exfalso; omega) | (simp (disch := first | omega | assumption | exact z_b_01) only [x89_0, x89_1, x89_2, x89_5, x89_8, x89_11, x89_13, x89_14, x89_15, x89_18, x89_19, x89_20, x89_21, x89_22, x89_23, x89_26, x89_28, x89_29, x89_30, x89_33, x89_34, x89_37, x89_38, x89_41, x89_42, x89_43, x89_44, x89_45, x89_46, x89_49, x89_50, x89_53, x89_54, x89_55, x89_56, x89_57, x89_58, x89_61, x89_62, x89_65, x89_66, x89_67, x89_69, x89_70, x89_71, x89_74, x89_75, x89_78, x89_79, x89_80, x89_81, x89_82, x89_83, x89_86, x89_87, x89_88, x89_89, x89_90, x89_91, x89_92, x89_93, Option.bind_some, Option.toList_some, Option.toList_none, List.cons_append, List.nil_append, Int.toNat_natCast, Int.toNat_zero, z_w_id, z_b_0, z_b_1, z_b_n0, z_b_t, z_b_f, ↓reduceIte, Int.reduceEq, Int.reduceLT, Int.reduceLE, Int.reduceToNat, not_true_eq_false, not_false_eq_true, false_and, and_false, true_and, and_true, false_or, or_false, true_or, or_true, k_in, z_mr_row, hg, kb, k1, z_up_mr, ix_1, ix_2, ix_3, r_u_ne, Int.add_zero]) | split)
  all_goals rfl
def m_z10 (ρ : Nat → Int) (c k : Nat) : Nat → Int := fun p => if 20 + 10 * c ≤ p ∧ p < 20 + 10 * c + k then 0 else ρ p
theorem m_z10_succ (ρ : Nat → Int) (c k : Nat) : r_u (m_z10 ρ c k) (20 + 10 * c + k) 0 = m_z10 ρ c (k + 1) := by
  funext p
  unfold r_u m_z10
  by_cases h : p = 20 + 10 * c + k
  · rw [if_pos h, if_pos (by omega)]
  · rw [if_neg h]
    by_cases h2 : 20 + 10 * c ≤ p ∧ p < 20 + 10 * c + k
    · rw [if_pos h2, if_pos (by omega)]
    · rw [if_neg h2, if_neg (by omega)]
theorem k_maddClass_loop {M : z_M} {ρ : Nat → Int} {c : Nat} (h8 : c < 8) (g q z f : Int) : ∀ n i : Nat, i + n = 10 → z_ex 88 72 [some (.inr (some (0, 30))), some (.inl g), some (.inl q), some (.inl z), some (.inl f), some (.inl (c : Int)), some (.inl (i : Int))] [] (z_mr M (m_z10 ρ c i)) = z_ex 88 99 [some (.inr (some (0, 30))), some (.inl g), some (.inl q), some (.inl z), some (.inl f), some (.inl (c : Int)), some (.inl 10)] [] (z_mr M (m_z10 ρ c 10)) := by
  intro n
  have k1 := fun M => k_kind (j := c) (by omega) M
  induction n with
  | zero =>
    intro i e
    obtain rfl : i = 10 := by omega
    rw [x88_72]
    repeat' (first | (exfalso; omega) | (simp (disch := first | omega | assumption | exact z_b_01) only [x88_0, x88_1, x88_2, x88_5, x88_8, x88_9, x88_10, x88_11, x88_12, x88_15, x88_18, x88_21, x88_22, x88_24, x88_27, x88_30, x88_33, x88_35, x88_36, x88_38, x88_41, x88_44, x88_46, x88_47, x88_48, x88_51, x88_52, x88_53, x88_55, x88_57, x88_59, x88_62, x88_64, x88_65, x88_66, x88_69, x88_70, x88_74, x88_76, x88_79, x88_80, x88_83, x88_85, x88_88, x88_90, x88_91, x88_92, x88_93, x88_96, x88_100, x88_103, x88_105, x88_108, x88_109, x88_110, x88_111, x88_112, x88_113, x88_116, x88_118, x88_121, x88_122, x88_123, x88_124, x88_125, x88_126, x88_129, x88_131, x88_134, x88_135, x88_136, x88_137, x88_138, x88_139, x88_142, x88_144, x88_147, x88_148, x88_149, x88_151, x88_152, x88_153, x88_156, x88_158, x88_161, x88_162, x88_163, x88_164, x88_165, x88_166, x88_169, x88_170, x88_171, x88_172, x88_173, x88_174, x88_175, x88_177, Option.bind_some, Option.toList_some, Option.toList_none, List.cons_append, List.nil_append, Int.toNat_natCast, Int.toNat_zero, z_w_id, z_b_0, z_b_1, z_b_n0, z_b_t, z_b_f, ↓reduceIte, Int.reduceEq, Int.reduceLT, Int.reduceLE, Int.reduceToNat, not_true_eq_false, not_false_eq_true, false_and, and_false, true_and, and_true, false_or, or_false, true_or, or_true]) | split)
    all_goals rfl
  | succ n ih =>
    intro i e
    have ih' := ih (i + 1) (by omega)
    rw [← m_z10_succ] at ih'
    simp only [Int.natCast_add, Int.natCast_one] at ih'
    rw [x88_72]
    repeat' (first | (exfalso; omega) | (simp (disch := first | omega | assumption | exact z_b_01) only [x88_0, x88_1, x88_2, x88_5, x88_8, x88_9, x88_10, x88_11, x88_12, x88_15, x88_18, x88_21, x88_22, x88_24, x88_27, x88_30, x88_33, x88_35, x88_36, x88_38, x88_41, x88_44, x88_46, x88_47, x88_48, x88_51, x88_52, x88_53, x88_55, x88_57, x88_59, x88_62, x88_64, x88_65, x88_66, x88_69, x88_70, x88_74, x88_76, x88_79, x88_80, x88_83, x88_85, x88_88, x88_90, x88_91, x88_92, x88_93, x88_96, x88_100, x88_103, x88_105, x88_108, x88_109, x88_110, x88_111, x88_112, x88_113, x88_116, x88_118, x88_121, x88_122, x88_123, x88_124, x88_125, x88_126, x88_129, x88_131, x88_134, x88_135, x88_136, x88_137, x88_138, x88_139, x88_142, x88_144, x88_147, x88_148, x88_149, x88_151, x88_152, x88_153, x88_156, x88_158, x88_161, x88_162, x88_163, x88_164, x88_165, x88_166, x88_169, x88_170, x88_171, x88_172, x88_173, x88_174, x88_175, x88_177, Option.bind_some, Option.toList_some, Option.toList_none, List.cons_append, List.nil_append, Int.toNat_natCast, Int.toNat_zero, z_w_id, z_b_0, z_b_1, z_b_n0, z_b_t, z_b_f, ↓reduceIte, Int.reduceEq, Int.reduceLT, Int.reduceLE, Int.reduceToNat, not_true_eq_false, not_false_eq_true, false_and, and_false, true_and, and_true, false_or, or_false, true_or, or_true, k1, z_mr_row, z_up_mr, ix_n, ih']) | split)
    all_goals rfl
theorem m_addClass_z10 (ρ : Nat → Int) (c : Nat) (g q z f : Int) (h8 : c < 8) : r_u (r_u (r_u (r_u (r_u (r_u (m_z10 ρ c 10) (20 + 10 * c) g) (20 + 10 * c + 1) q) (20 + 10 * c + 3) z) (20 + 10 * c + 4) f) (20 + 10 * c + 5) z) 2 ((c : Int) + 1) = m_addClass ρ c g q z f := by
  funext p
  unfold m_addClass
  by_cases h2 : p = 2
  · rw [if_pos h2, h2, r_u_same]
  · rw [if_neg h2, r_u_ne h2]
    by_cases h : 20 + 10 * c ≤ p ∧ p < 20 + 10 * c + 10
    · rw [if_pos h]
      unfold r_u m_z10
      rw [if_pos h]
      (repeat' split) <;> first | rfl | (exfalso; omega)
    · rw [if_neg h, r_u_ne (by omega), r_u_ne (by omega), r_u_ne (by omega), r_u_ne (by omega), r_u_ne (by omega)]
      unfold m_z10
      rw [if_neg h]
theorem k_maddClass {M : z_M} {ρ : Nat → Int} (h30 : 0 ≤ M 0 30 4 ∧ M 0 30 4 ≤ 4) (h1 : 0 ≤ ρ 1 ∧ ρ 1 ≤ 3) {c : Nat} (hc : ρ 2 = (c : Int)) (h8 : c < 8) {g q z f : Int} (hg : 0 ≤ g ∧ g < ρ 1) (hq : 1 ≤ q ∧ q ≤ 200) (hz : 10 ≤ z ∧ z ≤ 500) (hf : 0 ≤ f ∧ f ≤ 20) : z_ev 88 [.inr (some (0, 30)), .inl g, .inl q, .inl z, .inl f] (z_mr M ρ) = some (some (.inl (c : Int)), z_mr (m_bg M ρ) (m_addClass ρ c g q z f)) := by
  have kb := k_mbg (ρ := ρ) h30
  have k0 := k_noGroup (M := z_mr M ρ) (by rw [z_mr_row]; exact h1) g
  rw [z_mr_row, z_b_f (fun y => y hg)] at k0
  have k1 := fun M => k_kind (j := c) (by omega) M
  have kl := k_maddClass_loop (M := m_bg M ρ) (ρ := ρ) h8 g q z f 10 0 (by omega)
  have e0 : m_z10 ρ c 0 = ρ := by
    funext p
    unfold m_z10
    rw [if_neg (by omega)]
  rw [e0] at kl
  simp only [Int.natCast_zero] at kl
  have e2 : m_z10 ρ c 10 2 = (c : Int) := by
    unfold m_z10
    rw [if_neg (by omega), hc]
  rw [← m_addClass_z10 ρ c g q z f h8, x88]
  repeat' (first | (exfalso; omega) | (simp (disch := first | omega | assumption | exact z_b_01) only [x88_0, x88_1, x88_2, x88_5, x88_8, x88_9, x88_10, x88_11, x88_12, x88_15, x88_18, x88_21, x88_22, x88_24, x88_27, x88_30, x88_33, x88_35, x88_36, x88_38, x88_41, x88_44, x88_46, x88_47, x88_48, x88_51, x88_52, x88_53, x88_55, x88_57, x88_59, x88_62, x88_64, x88_65, x88_66, x88_69, x88_70, x88_74, x88_76, x88_79, x88_80, x88_83, x88_85, x88_88, x88_90, x88_91, x88_92, x88_93, x88_96, x88_100, x88_103, x88_105, x88_108, x88_109, x88_110, x88_111, x88_112, x88_113, x88_116, x88_118, x88_121, x88_122, x88_123, x88_124, x88_125, x88_126, x88_129, x88_131, x88_134, x88_135, x88_136, x88_137, x88_138, x88_139, x88_142, x88_144, x88_147, x88_148, x88_149, x88_151, x88_152, x88_153, x88_156, x88_158, x88_161, x88_162, x88_163, x88_164, x88_165, x88_166, x88_169, x88_170, x88_171, x88_172, x88_173, x88_174, x88_175, x88_177, Option.bind_some, Option.toList_some, Option.toList_none, List.cons_append, List.nil_append, Int.toNat_natCast, Int.toNat_zero, z_w_id, z_b_0, z_b_1, z_b_n0, z_b_t, z_b_f, ↓reduceIte, Int.reduceEq, Int.reduceLT, Int.reduceLE, Int.reduceToNat, not_true_eq_false, not_false_eq_true, false_and, and_false, true_and, and_true, false_or, or_false, true_or, or_true, k0, k_in, z_mr_row, hc, kb, kl]) | split)
  rw [x88_99]
  repeat' (first | (exfalso; omega) | (simp (disch := first | omega | assumption | exact z_b_01) only [x88_0, x88_1, x88_2, x88_5, x88_8, x88_9, x88_10, x88_11, x88_12, x88_15, x88_18, x88_21, x88_22, x88_24, x88_27, x88_30, x88_33, x88_35, x88_36, x88_38, x88_41, x88_44, x88_46, x88_47, x88_48, x88_51, x88_52, x88_53, x88_55, x88_57, x88_59, x88_62, x88_64, x88_65, x88_66, x88_69, x88_70, x88_74, x88_76, x88_79, x88_80, x88_83, x88_85, x88_88, x88_90, x88_91, x88_92, x88_93, x88_96, x88_100, x88_103, x88_105, x88_108, x88_109, x88_110, x88_111, x88_112, x88_113, x88_116, x88_118, x88_121, x88_122, x88_123, x88_124, x88_125, x88_126, x88_129, x88_131, x88_134, x88_135, x88_136, x88_137, x88_138, x88_139, x88_142, x88_144, x88_147, x88_148, x88_149, x88_151, x88_152, x88_153, x88_156, x88_158, x88_161, x88_162, x88_163, x88_164, x88_165, x88_166, x88_169, x88_170, x88_171, x88_172, x88_173, x88_174, x88_175, x88_177, Option.bind_some, Option.toList_some, Option.toList_none, List.cons_append, List.nil_append, Int.toNat_natCast, Int.toNat_zero, z_w_id, z_b_0, z_b_1, z_b_n0, z_b_t, z_b_f, ↓reduceIte, Int.reduceEq, Int.reduceLT, Int.reduceLE, Int.reduceToNat, not_true_eq_false, not_false_eq_true, false_and, and_false, true_and, and_true, false_or, or_false, true_or, or_true, k1, z_mr_row, z_up_mr, ix_1, ix_3, ix_4, ix_5, Int.add_zero, r_u_ne, e2]) | split)
  all_goals rfl
theorem k_mset {M : z_M} {ρ : Nat → Int} (h30 : 0 ≤ M 0 30 4 ∧ M 0 30 4 ≤ 4) {p : Nat} (hp : p < 1500) {v : Int} (hv : ρ p ≠ v) : z_ev 132 [.inr (some (0, 30)), .inl (p : Int), .inl v] (z_mr M ρ) = some (some (.inl (ρ p)), z_mr (m_bg M ρ) (r_u ρ p v)) := by
  have kb := k_mbg (ρ := ρ) h30
  rw [x132]
  repeat' (first | (exfalso; omega) | (simp (disch := first | omega | assumption | exact z_b_01) only [x132_0, x132_1, x132_4, x132_5, x132_6, x132_7, x132_8, x132_9, x132_12, x132_14, x132_15, x132_16, x132_19, x132_20, x132_23, x132_24, x132_25, x132_26, x132_27, Option.bind_some, Option.toList_some, Option.toList_none, List.cons_append, List.nil_append, Int.toNat_natCast, Int.toNat_zero, z_w_id, z_b_0, z_b_1, z_b_n0, z_b_t, z_b_f, ↓reduceIte, Int.reduceEq, Int.reduceLT, Int.reduceLE, Int.reduceToNat, not_true_eq_false, not_false_eq_true, false_and, and_false, true_and, and_true, false_or, or_false, true_or, or_true, z_mr_row, z_up_mr, kb]) | split)
  all_goals rfl
theorem k_mset0 {M : z_M} {ρ : Nat → Int} {p : Nat} (hp : p < 1500) {v : Int} (hv : ρ p = v) : z_ev 132 [.inr (some (0, 30)), .inl (p : Int), .inl v] (z_mr M ρ) = some (some (.inl (-5)), z_mr M ρ) := by
  rw [x132]
  repeat' (first | (exfalso; omega) | (simp (disch := first | omega | assumption | exact z_b_01) only [x132_0, x132_1, x132_4, x132_5, x132_6, x132_7, x132_8, x132_9, x132_12, x132_14, x132_15, x132_16, x132_19, x132_20, x132_23, x132_24, x132_25, x132_26, x132_27, Option.bind_some, Option.toList_some, Option.toList_none, List.cons_append, List.nil_append, Int.toNat_natCast, Int.toNat_zero, z_w_id, z_b_0, z_b_1, z_b_n0, z_b_t, z_b_f, ↓reduceIte, Int.reduceEq, Int.reduceLT, Int.reduceLE, Int.reduceToNat, not_true_eq_false, not_false_eq_true, false_and, and_false, true_and, and_true, false_or, or_false, true_or, or_true, z_mr_row, hv]) | split)
  all_goals rfl
theorem k_mcome {M : z_M} {ρ : Nat → Int} {j c : Nat} (hj : ρ 3 = (j : Int)) (h200 : j < 200) (h8 : c < 8) {z : Int} (hz : 1 ≤ z ∧ z ≤ 99) (hk : 0 ≤ ρ (20 + 10 * c + 5) ∧ ρ (20 + 10 * c + 5) ≤ 500) : z_ev 100 [.inr (some (0, 30)), .inl (c : Int), .inl z] (z_mr M ρ) = some (some (.inl (j : Int)), z_mr M (m_come ρ j c z)) := by
  have k1 := fun M => k_kind (j := c) (by omega) M
  have k2 := fun M => k_its (j := j) (by omega) M
  rw [x100]
  repeat' (first | (exfalso; omega) | (simp (disch := first | omega | assumption | exact z_b_01) only [x100_0, x100_1, x100_4, x100_5, x100_6, x100_7, x100_8, x100_11, x100_13, x100_14, x100_17, x100_19, x100_20, x100_21, x100_22, x100_23, x100_24, x100_27, x100_29, x100_30, x100_31, x100_32, x100_33, x100_34, x100_37, x100_39, x100_40, x100_41, x100_42, x100_45, x100_46, x100_47, x100_48, x100_49, x100_52, x100_54, x100_55, x100_56, x100_57, x100_58, x100_59, x100_62, x100_64, x100_65, x100_66, x100_68, x100_69, x100_70, x100_73, x100_75, x100_76, x100_77, x100_79, x100_80, x100_81, x100_84, x100_86, x100_88, x100_89, x100_90, x100_91, x100_92, x100_95, x100_96, x100_99, x100_100, x100_101, x100_102, x100_103, x100_104, x100_105, x100_106, x100_107, x100_110, x100_111, x100_112, x100_113, x100_114, x100_115, x100_116, x100_117, Option.bind_some, Option.toList_some, Option.toList_none, List.cons_append, List.nil_append, Int.toNat_natCast, Int.toNat_zero, z_w_id, z_b_0, z_b_1, z_b_n0, z_b_t, z_b_f, ↓reduceIte, Int.reduceEq, Int.reduceLT, Int.reduceLE, Int.reduceToNat, not_true_eq_false, not_false_eq_true, false_and, and_false, true_and, and_true, false_or, or_false, true_or, or_true, z_mr_row, z_up_mr, hj, k1, k2, ix_1, ix_2, ix_3, ix_4, ix_5, ix_6, Int.add_zero, r_u_ne]) | split)
  all_goals rfl
theorem k_mmark_1 {M : z_M} {ρ : Nat → Int} {G : Nat} (hG : ρ 1 = (G : Int)) (h3 : G ≤ 3) (hu : ∀ g : Nat, g < G → 0 ≤ ρ (8 + 4 * g + 3) ∧ ρ (8 + 4 * g + 3) ≤ 1000000) : ∀ (n i : Nat) (sum : Int), i + n = G → 0 ≤ sum → sum + 1000000 * (n : Int) ≤ 3000000 → z_ex 116 8 [some (.inr (some (0, 30))), some (.inl sum), some (.inl (i : Int))] [] (z_mr M (m_zg ρ i)) = z_ex 116 52 [some (.inr (some (0, 30))), some (.inl (sum + s_sum (List.range' i n) fun g => ρ (8 + 4 * g + 3))), some (.inl 0)] [] (z_mr M (m_zg ρ G)) := by
  intro n
  induction n with
  | zero =>
    intro i sum e hs hb
    obtain rfl : i = G := by omega
    have e1 : m_zg ρ i 1 = (i : Int) := by rw [m_zg_ne (by omega)]; exact hG
    rw [x116_8, List.range'_zero, s_sum_nil, Int.add_zero]
    repeat' (first | (exfalso; omega) | (simp (disch := first | omega | assumption | exact z_b_01) only [x116_0, x116_1, x116_4, x116_5, x116_6, x116_7, x116_9, x116_10, x116_13, x116_14, x116_15, x116_18, x116_19, x116_20, x116_23, x116_24, x116_27, x116_28, x116_29, x116_30, x116_31, x116_32, x116_33, x116_36, x116_37, x116_40, x116_41, x116_42, x116_43, x116_44, x116_47, x116_50, x116_51, x116_53, x116_54, x116_57, x116_58, x116_59, x116_62, x116_63, x116_66, x116_67, x116_70, x116_72, x116_73, x116_74, x116_75, x116_78, x116_81, x116_82, Option.bind_some, Option.toList_some, Option.toList_none, List.cons_append, List.nil_append, Int.toNat_natCast, Int.toNat_zero, z_w_id, z_b_0, z_b_1, z_b_n0, z_b_t, z_b_f, ↓reduceIte, Int.reduceEq, Int.reduceLT, Int.reduceLE, Int.reduceToNat, not_true_eq_false, not_false_eq_true, false_and, and_false, true_and, and_true, false_or, or_false, true_or, or_true, z_mr_row, e1]) | split)
    all_goals rfl
  | succ n ih =>
    intro i sum e hs hb
    have e1 : m_zg ρ i 1 = (G : Int) := by rw [m_zg_ne (by omega)]; exact hG
    have e2 : m_zg ρ i (8 + 4 * i + 3) = ρ (8 + 4 * i + 3) := m_zg_ne (by omega)
    have u := hu i (by omega)
    have k1 := fun M => k_party (j := i) (by omega) M
    have ih' := ih (i + 1) (sum + ρ (8 + 4 * i + 3)) (by omega) (by omega) (by simp only [Int.natCast_add, Int.natCast_one] at hb; omega)
    rw [← m_zg_succ] at ih'
    simp only [Int.natCast_add, Int.natCast_one] at ih'
    rw [x116_8, List.range'_succ, s_sum_cons, ← Int.add_assoc, ← ih']
    repeat' (first | (exfalso; omega) | (simp (disch := first | omega | assumption | exact z_b_01) only [x116_0, x116_1, x116_4, x116_5, x116_6, x116_7, x116_9, x116_10, x116_13, x116_14, x116_15, x116_18, x116_19, x116_20, x116_23, x116_24, x116_27, x116_28, x116_29, x116_30, x116_31, x116_32, x116_33, x116_36, x116_37, x116_40, x116_41, x116_42, x116_43, x116_44, x116_47, x116_50, x116_51, x116_53, x116_54, x116_57, x116_58, x116_59, x116_62, x116_63, x116_66, x116_67, x116_70, x116_72, x116_73, x116_74, x116_75, x116_78, x116_81, x116_82, Option.bind_some, Option.toList_some, Option.toList_none, List.cons_append, List.nil_append, Int.toNat_natCast, Int.toNat_zero, z_w_id, z_b_0, z_b_1, z_b_n0, z_b_t, z_b_f, ↓reduceIte, Int.reduceEq, Int.reduceLT, Int.reduceLE, Int.reduceToNat, not_true_eq_false, not_false_eq_true, false_and, and_false, true_and, and_true, false_or, or_false, true_or, or_true, z_mr_row, e1, e2, k1, z_up_mr, ix_3]) | split)
    all_goals rfl
theorem k_mmark_2 {M : z_M} {ρ : Nat → Int} {C : Nat} (hC : ρ 2 = (C : Int)) (h8 : C ≤ 8) (sum : Int) : ∀ n i : Nat, i + n = C → z_ex 116 52 [some (.inr (some (0, 30))), some (.inl sum), some (.inl (i : Int))] [] (z_mr M (m_zc ρ i)) = some (some (.inl sum), z_mr M (m_zc ρ C)) := by
  intro n
  induction n with
  | zero =>
    intro i e
    obtain rfl : i = C := by omega
    have e1 : m_zc ρ i 2 = (i : Int) := by rw [m_zc_ne (by omega)]; exact hC
    rw [x116_52]
    repeat' (first | (exfalso; omega) | (simp (disch := first | omega | assumption | exact z_b_01) only [x116_0, x116_1, x116_4, x116_5, x116_6, x116_7, x116_9, x116_10, x116_13, x116_14, x116_15, x116_18, x116_19, x116_20, x116_23, x116_24, x116_27, x116_28, x116_29, x116_30, x116_31, x116_32, x116_33, x116_36, x116_37, x116_40, x116_41, x116_42, x116_43, x116_44, x116_47, x116_50, x116_51, x116_53, x116_54, x116_57, x116_58, x116_59, x116_62, x116_63, x116_66, x116_67, x116_70, x116_72, x116_73, x116_74, x116_75, x116_78, x116_81, x116_82, Option.bind_some, Option.toList_some, Option.toList_none, List.cons_append, List.nil_append, Int.toNat_natCast, Int.toNat_zero, z_w_id, z_b_0, z_b_1, z_b_n0, z_b_t, z_b_f, ↓reduceIte, Int.reduceEq, Int.reduceLT, Int.reduceLE, Int.reduceToNat, not_true_eq_false, not_false_eq_true, false_and, and_false, true_and, and_true, false_or, or_false, true_or, or_true, z_mr_row, e1]) | split)
    all_goals rfl
  | succ n ih =>
    intro i e
    have e1 : m_zc ρ i 2 = (C : Int) := by rw [m_zc_ne (by omega)]; exact hC
    have k1 := fun M => k_kind (j := i) (by omega) M
    have ih' := ih (i + 1) (by omega)
    rw [← m_zc_succ] at ih'
    simp only [Int.natCast_add, Int.natCast_one] at ih'
    rw [x116_52, ← ih']
    repeat' (first | (exfalso; omega) | (simp (disch := first | omega | assumption | exact z_b_01) only [x116_0, x116_1, x116_4, x116_5, x116_6, x116_7, x116_9, x116_10, x116_13, x116_14, x116_15, x116_18, x116_19, x116_20, x116_23, x116_24, x116_27, x116_28, x116_29, x116_30, x116_31, x116_32, x116_33, x116_36, x116_37, x116_40, x116_41, x116_42, x116_43, x116_44, x116_47, x116_50, x116_51, x116_53, x116_54, x116_57, x116_58, x116_59, x116_62, x116_63, x116_66, x116_67, x116_70, x116_72, x116_73, x116_74, x116_75, x116_78, x116_81, x116_82, Option.bind_some, Option.toList_some, Option.toList_none, List.cons_append, List.nil_append, Int.toNat_natCast, Int.toNat_zero, z_w_id, z_b_0, z_b_1, z_b_n0, z_b_t, z_b_f, ↓reduceIte, Int.reduceEq, Int.reduceLT, Int.reduceLE, Int.reduceToNat, not_true_eq_false, not_false_eq_true, false_and, and_false, true_and, and_true, false_or, or_false, true_or, or_true, z_mr_row, e1, k1, z_up_mr, ix_9]) | split)
    all_goals rfl
theorem k_mmark {M : z_M} {ρ : Nat → Int} (h30 : 0 ≤ M 0 30 4 ∧ M 0 30 4 ≤ 4) {G C : Nat} (hG : ρ 1 = (G : Int)) (h3 : G ≤ 3) (hC : ρ 2 = (C : Int)) (h8 : C ≤ 8) (hu : ∀ g : Nat, g < G → 0 ≤ ρ (8 + 4 * g + 3) ∧ ρ (8 + 4 * g + 3) ≤ 1000000) : z_ev 116 [.inr (some (0, 30))] (z_mr M ρ) = some (some (.inl (s_sum (s_rg G) fun g => ρ (8 + 4 * g + 3))), z_mr (m_bg M ρ) (m_zc (m_zg ρ G) C)) := by
  have kb := k_mbg (ρ := ρ) h30
  have m1 := k_mmark_1 (M := m_bg M ρ) hG h3 hu G 0 0 (by omega) (by omega) (by omega)
  have m2 := fun sum => k_mmark_2 (M := m_bg M ρ) (ρ := m_zg ρ G) (by rw [m_zg_ne (by omega)]; exact hC) h8 sum C 0 (by omega)
  have e0 : ∀ ρ, m_zg ρ 0 = ρ := fun ρ => by
    funext p
    exact m_zg_ne (by omega)
  have e1 : ∀ ρ, m_zc ρ 0 = ρ := fun ρ => by
    funext p
    exact m_zc_ne (by omega)
  rw [e0] at m1
  rw [e1] at m2
  simp only [Int.natCast_zero, Int.zero_add] at m1 m2
  rw [x116]
  repeat' (first | (exfalso; omega) | (simp (disch := first | omega | assumption | exact z_b_01) only [x116_0, x116_1, x116_4, x116_5, x116_6, x116_7, x116_9, x116_10, x116_13, x116_14, x116_15, x116_18, x116_19, x116_20, x116_23, x116_24, x116_27, x116_28, x116_29, x116_30, x116_31, x116_32, x116_33, x116_36, x116_37, x116_40, x116_41, x116_42, x116_43, x116_44, x116_47, x116_50, x116_51, x116_53, x116_54, x116_57, x116_58, x116_59, x116_62, x116_63, x116_66, x116_67, x116_70, x116_72, x116_73, x116_74, x116_75, x116_78, x116_81, x116_82, Option.bind_some, Option.toList_some, Option.toList_none, List.cons_append, List.nil_append, Int.toNat_natCast, Int.toNat_zero, z_w_id, z_b_0, z_b_1, z_b_n0, z_b_t, z_b_f, ↓reduceIte, Int.reduceEq, Int.reduceLT, Int.reduceLE, Int.reduceToNat, not_true_eq_false, not_false_eq_true, false_and, and_false, true_and, and_true, false_or, or_false, true_or, or_true, kb, m1, m2]) | split)
  all_goals rfl
/-- a row laid from elsewhere -/
def m_lay (f ρ : Nat → Int) : Nat → Int := fun j => if j < 1500 then f j else ρ j
theorem z_st_mr (M : z_M) (f : Nat → Int) : z_st M 31 0 1500 f = z_mr M (m_lay f (M 0 31)) := by
  funext s o j
  unfold z_st z_mr m_lay
  by_cases h : s = 0 ∧ o = 31
  · rw [if_pos h]
    by_cases q : j < 1500
    · rw [if_pos ⟨h.1, h.2, by omega, q⟩, if_pos q]
    · rw [if_neg (fun y => q y.2.2.2), if_neg q, h.1, h.2]
  · rw [if_neg (fun y => h ⟨y.1, y.2.1⟩), if_neg h]
theorem k_mrestore_loop {M : z_M} : ∀ n i : Nat, i + n = 1500 → z_ex 128 16 [some (.inr (some (0, 30))), some (.inl (i : Int))] [] (z_st M 31 0 i (M 0 33)) = some (some (.inl (M 0 33 0)), z_st M 31 0 1500 (M 0 33)) := by
  intro n
  induction n with
  | zero =>
    intro i e
    obtain rfl : i = 1500 := by omega
    have e0 : z_st M 31 0 1500 (M 0 33) 0 31 0 = M 0 33 0 := z_st_in ⟨by omega, by omega⟩
    rw [x128_16]
    repeat' (first | (exfalso; omega) | (simp (disch := first | omega | assumption | exact z_b_01) only [x128_0, x128_1, x128_4, x128_7, x128_9, x128_10, x128_11, x128_14, x128_15, x128_17, x128_20, x128_23, x128_24, x128_27, x128_28, x128_29, x128_32, x128_33, x128_34, x128_35, x128_38, x128_41, x128_42, x128_45, x128_46, x128_47, Option.bind_some, Option.toList_some, Option.toList_none, List.cons_append, List.nil_append, Int.toNat_natCast, Int.toNat_zero, z_w_id, z_b_0, z_b_1, z_b_n0, z_b_t, z_b_f, ↓reduceIte, Int.reduceEq, Int.reduceLT, Int.reduceLE, Int.reduceToNat, not_true_eq_false, not_false_eq_true, false_and, and_false, true_and, and_true, false_or, or_false, true_or, or_true, e0]) | split)
    all_goals rfl
  | succ n ih =>
    intro i e
    have ih' := ih (i + 1) (by omega)
    rw [← z_st_succ (Nat.zero_le i)] at ih'
    simp only [Int.natCast_add, Int.natCast_one] at ih'
    rw [x128_16]
    repeat' (first | (exfalso; omega) | (simp (disch := first | omega | assumption | exact z_b_01) only [x128_0, x128_1, x128_4, x128_7, x128_9, x128_10, x128_11, x128_14, x128_15, x128_17, x128_20, x128_23, x128_24, x128_27, x128_28, x128_29, x128_32, x128_33, x128_34, x128_35, x128_38, x128_41, x128_42, x128_45, x128_46, x128_47, Option.bind_some, Option.toList_some, Option.toList_none, List.cons_append, List.nil_append, Int.toNat_natCast, Int.toNat_zero, z_w_id, z_b_0, z_b_1, z_b_n0, z_b_t, z_b_f, ↓reduceIte, Int.reduceEq, Int.reduceLT, Int.reduceLE, Int.reduceToNat, not_true_eq_false, not_false_eq_true, false_and, and_false, true_and, and_true, false_or, or_false, true_or, or_true, z_st_o, ih']) | split)
    all_goals rfl
theorem k_mrestore {M : z_M} {ρ : Nat → Int} (h30 : 0 ≤ M 0 30 4 ∧ M 0 30 4 ≤ 4) (h5 : M 0 30 5 = 1) : z_ev 128 [.inr (some (0, 30))] (z_mr M ρ) = some (some (.inl (M 0 33 0)), z_mr (m_bg M ρ) (m_lay (M 0 33) ρ)) := by
  have kb := k_mbg (ρ := ρ) h30
  have kl := k_mrestore_loop (M := z_mr (m_bg M ρ) ρ) 1500 0 (by omega)
  have e33 : z_mr (m_bg M ρ) ρ 0 33 = M 0 33 := by
    funext j
    rw [z_mr_o (by decide), m_bg, m_rec_o (by decide) (by omega), z_st_o (by decide), z_mr_o (by decide)]
  rw [z_st_nil, e33, z_st_mr, z_mr_row, z_mr_mr] at kl
  simp only [Int.natCast_zero] at kl
  rw [x128]
  repeat' (first | (exfalso; omega) | (simp (disch := first | omega | assumption | exact z_b_01) only [x128_0, x128_1, x128_4, x128_7, x128_9, x128_10, x128_11, x128_14, x128_15, x128_17, x128_20, x128_23, x128_24, x128_27, x128_28, x128_29, x128_32, x128_33, x128_34, x128_35, x128_38, x128_41, x128_42, x128_45, x128_46, x128_47, Option.bind_some, Option.toList_some, Option.toList_none, List.cons_append, List.nil_append, Int.toNat_natCast, Int.toNat_zero, z_w_id, z_b_0, z_b_1, z_b_n0, z_b_t, z_b_f, ↓reduceIte, Int.reduceEq, Int.reduceLT, Int.reduceLE, Int.reduceToNat, not_true_eq_false, not_false_eq_true, false_and, and_false, true_and, and_true, false_or, or_false, true_or, or_true, z_mr_o, h5, kb, kl]) | split)
  all_goals rfl
theorem k_mundo_loop {M : z_M} {h : Nat} (hh : h < 4) (hs : M 0 30 4 = (h : Int)) : ∀ n i : Nat, i + n = 1500 → z_ex 139 22 [some (.inr (some (0, 30))), some (.inl (i : Int))] [] (z_st M 31 0 i (fun j => M 0 32 (1500 * h + j))) = some (some (.inl (h : Int)), z_st M 31 0 1500 (fun j => M 0 32 (1500 * h + j))) := by
  intro n
  induction n with
  | zero =>
    intro i e
    obtain rfl : i = 1500 := by omega
    rw [x139_22]
    repeat' (first | (exfalso; omega) | (simp (disch := first | omega | assumption | exact z_b_01) only [x139_0, x139_1, x139_4, x139_7, x139_9, x139_10, x139_11, x139_12, x139_15, x139_16, x139_17, x139_20, x139_21, x139_23, x139_26, x139_29, x139_30, x139_33, x139_34, x139_35, x139_38, x139_41, x139_42, x139_45, x139_46, x139_47, x139_48, x139_49, x139_50, x139_53, x139_56, x139_57, x139_60, Option.bind_some, Option.toList_some, Option.toList_none, List.cons_append, List.nil_append, Int.toNat_natCast, Int.toNat_zero, z_w_id, z_b_0, z_b_1, z_b_n0, z_b_t, z_b_f, ↓reduceIte, Int.reduceEq, Int.reduceLT, Int.reduceLE, Int.reduceToNat, not_true_eq_false, not_false_eq_true, false_and, and_false, true_and, and_true, false_or, or_false, true_or, or_true, z_st_o, hs]) | split)
    all_goals rfl
  | succ n ih =>
    intro i e
    have ih' := ih (i + 1) (by omega)
    rw [← z_st_succ (Nat.zero_le i)] at ih'
    simp only [Int.natCast_add, Int.natCast_one] at ih'
    have ei : (1500 * (h : Int) + (i : Int)).toNat = 1500 * h + i := by omega
    rw [x139_22]
    repeat' (first | (exfalso; omega) | (simp (disch := first | omega | assumption | exact z_b_01) only [x139_0, x139_1, x139_4, x139_7, x139_9, x139_10, x139_11, x139_12, x139_15, x139_16, x139_17, x139_20, x139_21, x139_23, x139_26, x139_29, x139_30, x139_33, x139_34, x139_35, x139_38, x139_41, x139_42, x139_45, x139_46, x139_47, x139_48, x139_49, x139_50, x139_53, x139_56, x139_57, x139_60, Option.bind_some, Option.toList_some, Option.toList_none, List.cons_append, List.nil_append, Int.toNat_natCast, Int.toNat_zero, z_w_id, z_b_0, z_b_1, z_b_n0, z_b_t, z_b_f, ↓reduceIte, Int.reduceEq, Int.reduceLT, Int.reduceLE, Int.reduceToNat, not_true_eq_false, not_false_eq_true, false_and, and_false, true_and, and_true, false_or, or_false, true_or, or_true, z_st_o, hs, ei, ih']) | split)
    all_goals rfl
theorem k_mundo {M : z_M} {h : Nat} (hh : h < 4) (hs : M 0 30 4 = (h : Int) + 1) : z_ev 139 [.inr (some (0, 30))] M = some (some (.inl (h : Int)), z_st (z_up M 0 30 4 (h : Int)) 31 0 1500 (fun j => M 0 32 (1500 * h + j))) := by
  have kl := k_mundo_loop (M := z_up M 0 30 4 (h : Int)) hh (z_up_at _ _ _ _ _) 1500 0 (by omega)
  have e32 : ∀ j, z_up M 0 30 4 (h : Int) 0 32 j = M 0 32 j := fun j => z_up_ne (by omega)
  rw [z_st_nil] at kl
  simp only [Int.natCast_zero, e32] at kl
  have e1 : (h : Int) + 1 - 1 = (h : Int) := by omega
  rw [x139]
  repeat' (first | (exfalso; omega) | (simp (disch := first | omega | assumption | exact z_b_01) only [x139_0, x139_1, x139_4, x139_7, x139_9, x139_10, x139_11, x139_12, x139_15, x139_16, x139_17, x139_20, x139_21, x139_23, x139_26, x139_29, x139_30, x139_33, x139_34, x139_35, x139_38, x139_41, x139_42, x139_45, x139_46, x139_47, x139_48, x139_49, x139_50, x139_53, x139_56, x139_57, x139_60, Option.bind_some, Option.toList_some, Option.toList_none, List.cons_append, List.nil_append, Int.toNat_natCast, Int.toNat_zero, z_w_id, z_b_0, z_b_1, z_b_n0, z_b_t, z_b_f, ↓reduceIte, Int.reduceEq, Int.reduceLT, Int.reduceLE, Int.reduceToNat, not_true_eq_false, not_false_eq_true, false_and, and_false, true_and, and_true, false_or, or_false, true_or, or_true, hs, e1, kl]) | split)
  all_goals rfl
theorem k_mkeep_loop {M : z_M} : ∀ n i : Nat, i + n = 1500 → z_ex 114 2 [some (.inr (some (0, 30))), some (.inl (i : Int))] [] (z_st M 33 0 i (M 0 31)) = some (some (.inl (M 0 31 0)), z_up (z_st M 33 0 1500 (M 0 31)) 0 30 5 1) := by
  intro n
  induction n with
  | zero =>
    intro i e
    obtain rfl : i = 1500 := by omega
    have e0 : z_up (z_st M 33 0 1500 (M 0 31)) 0 30 5 1 0 31 0 = M 0 31 0 := by rw [z_up_ne (by omega), z_st_o (by decide)]
    rw [x114_2]
    repeat' (first | (exfalso; omega) | (simp (disch := first | omega | assumption | exact z_b_01) only [x114_0, x114_1, x114_3, x114_6, x114_9, x114_10, x114_13, x114_14, x114_15, x114_18, x114_19, x114_20, x114_21, x114_24, x114_27, x114_28, x114_29, x114_32, x114_33, x114_36, x114_37, x114_38, Option.bind_some, Option.toList_some, Option.toList_none, List.cons_append, List.nil_append, Int.toNat_natCast, Int.toNat_zero, z_w_id, z_b_0, z_b_1, z_b_n0, z_b_t, z_b_f, ↓reduceIte, Int.reduceEq, Int.reduceLT, Int.reduceLE, Int.reduceToNat, not_true_eq_false, not_false_eq_true, false_and, and_false, true_and, and_true, false_or, or_false, true_or, or_true, e0]) | split)
    all_goals rfl
  | succ n ih =>
    intro i e
    have ih' := ih (i + 1) (by omega)
    rw [← z_st_succ (Nat.zero_le i)] at ih'
    simp only [Int.natCast_add, Int.natCast_one] at ih'
    rw [x114_2]
    repeat' (first | (exfalso; omega) | (simp (disch := first | omega | assumption | exact z_b_01) only [x114_0, x114_1, x114_3, x114_6, x114_9, x114_10, x114_13, x114_14, x114_15, x114_18, x114_19, x114_20, x114_21, x114_24, x114_27, x114_28, x114_29, x114_32, x114_33, x114_36, x114_37, x114_38, Option.bind_some, Option.toList_some, Option.toList_none, List.cons_append, List.nil_append, Int.toNat_natCast, Int.toNat_zero, z_w_id, z_b_0, z_b_1, z_b_n0, z_b_t, z_b_f, ↓reduceIte, Int.reduceEq, Int.reduceLT, Int.reduceLE, Int.reduceToNat, not_true_eq_false, not_false_eq_true, false_and, and_false, true_and, and_true, false_or, or_false, true_or, or_true, z_st_o, ih']) | split)
    all_goals rfl
theorem k_mkeep (M : z_M) : z_ev 114 [.inr (some (0, 30))] M = some (some (.inl (M 0 31 0)), z_up (z_st M 33 0 1500 (M 0 31)) 0 30 5 1) := by
  have kl := k_mkeep_loop (M := M) 1500 0 (by omega)
  rw [z_st_nil] at kl
  simp only [Int.natCast_zero] at kl
  rw [x114]
  repeat' (first | (exfalso; omega) | (simp (disch := first | omega | assumption | exact z_b_01) only [x114_0, x114_1, x114_3, x114_6, x114_9, x114_10, x114_13, x114_14, x114_15, x114_18, x114_19, x114_20, x114_21, x114_24, x114_27, x114_28, x114_29, x114_32, x114_33, x114_36, x114_37, x114_38, Option.bind_some, Option.toList_some, Option.toList_none, List.cons_append, List.nil_append, Int.toNat_natCast, Int.toNat_zero, z_w_id, z_b_0, z_b_1, z_b_n0, z_b_t, z_b_f, ↓reduceIte, Int.reduceEq, Int.reduceLT, Int.reduceLE, Int.reduceToNat, not_true_eq_false, not_false_eq_true, false_and, and_false, true_and, and_true, false_or, or_false, true_or, or_true, kl]) | split)
  all_goals rfl
