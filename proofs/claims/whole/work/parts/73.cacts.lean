/-! the acts, both sides -/
def w_c (mc mm : Nat) (as : List z_V) : Prop := ∀ M, w_R M → ∃ (r : Int) (M1 M2 : z_M), z_ev mc (.inr (some (0, 21)) :: as) M = some (some (.inl r), M1) ∧ z_ev mm (.inr (some (0, 30)) :: as) M1 = some (some (.inl r), M2) ∧ w_R M2
theorem w_mrow {M M' : z_M} {A' : Nat → Nat → Int} (hf : w_pf M M') : z_mr (z_ur M' 0 A') (M 0 31) = z_ur M' 0 A' := by
  have e : z_ur M' 0 A' 0 31 = M 0 31 := by
    funext j
    rw [z_ur_top (by decide), hf.1 31 j (by decide) (by decide) (by omega)]
  have k := z_mr_self (z_ur M' 0 A')
  rw [e] at k
  exact k
theorem w_30 {M M' : z_M} {A' : Nat → Nat → Int} (hR : w_R M) (hf : w_pf M M') : 0 ≤ z_ur M' 0 A' 0 30 4 ∧ z_ur M' 0 A' 0 30 4 ≤ 4 := by
  rw [z_ur_top (by decide), hf.1 30 4 (by decide) (by decide) (by omega)]
  exact w_R30 hR
theorem c_addGroup (q : Int) : w_c 63 89 [.inl q] := by
  intro M hR
  obtain ⟨⟨⟨l, hF⟩, ht⟩, -⟩ := id hR
  have g1 := hF.1.1.1
  have w1 : M 0 31 1 = M 0 1 0 := hF.2.1.1.2.1
  by_cases hq : 1 ≤ q ∧ q ≤ 200
  · by_cases h3 : M 0 1 0 < 3
    · obtain ⟨g, hg⟩ : ∃ g : Nat, M 0 1 0 = (g : Int) := ⟨(M 0 1 0).toNat, by omega⟩
      obtain ⟨M', p1, p2, p3⟩ := k_push2 hR
      have a1 := k_Groups_append (s := 0) (M := M') (A := M 0) g1.1 h3 q
      have m1 := k_maddGroup (M := z_ur M' 0 (a_addGroup (M 0) q)) (ρ := M 0 31) (w_30 hR p3) (w1.trans hg) (by omega) hq
      rw [w_mrow p3] at m1
      rw [hg] at a1
      refine ⟨_, _, _, ?_, m1, w_done hR p2 p3 ⟨⟨l, e_F_addGroup hF hg (by omega) hq⟩, ?_⟩⟩
      · rw [x63]
        repeat' (first | (exfalso; omega) | (simp (disch := first | omega | assumption | exact z_b_01) only [x63_0, x63_1, x63_4, x63_7, x63_9, x63_10, x63_11, x63_14, x63_17, x63_20, x63_21, x63_24, x63_26, x63_27, x63_28, x63_31, x63_32, x63_35, x63_38, x63_39, x63_42, x63_45, x63_46, x63_49, Option.bind_some, Option.toList_some, Option.toList_none, List.cons_append, List.nil_append, Int.toNat_natCast, Int.toNat_zero, z_w_id, z_b_0, z_b_1, z_b_n0, z_b_t, z_b_f, ↓reduceIte, Int.reduceEq, Int.reduceLT, Int.reduceLE, Int.reduceToNat, not_true_eq_false, not_false_eq_true, false_and, and_false, true_and, and_true, false_or, or_false, true_or, or_true, k_isQuantum, p1, a1]) | split)
        all_goals rfl
      · rw [a_addGroup, a_u_o (by decide), a_u_o (by decide), a_u_o (by decide), a_u_o (by decide)]; exact ht
    · refine ⟨-3, M, M, ?_, ?_, hR⟩
      · rw [x63]
        repeat' (first | (exfalso; omega) | (simp (disch := first | omega | assumption | exact z_b_01) only [x63_0, x63_1, x63_4, x63_7, x63_9, x63_10, x63_11, x63_14, x63_17, x63_20, x63_21, x63_24, x63_26, x63_27, x63_28, x63_31, x63_32, x63_35, x63_38, x63_39, x63_42, x63_45, x63_46, x63_49, Option.bind_some, Option.toList_some, Option.toList_none, List.cons_append, List.nil_append, Int.toNat_natCast, Int.toNat_zero, z_w_id, z_b_0, z_b_1, z_b_n0, z_b_t, z_b_f, ↓reduceIte, Int.reduceEq, Int.reduceLT, Int.reduceLE, Int.reduceToNat, not_true_eq_false, not_false_eq_true, false_and, and_false, true_and, and_true, false_or, or_false, true_or, or_true, k_isQuantum]) | split)
        all_goals rfl
      · rw [x89]
        repeat' (first | (exfalso; omega) | (simp (disch := first | omega | assumption | exact z_b_01) only [x89_0, x89_1, x89_2, x89_5, x89_8, x89_11, x89_13, x89_14, x89_15, x89_18, x89_19, x89_20, x89_21, x89_22, x89_23, x89_26, x89_28, x89_29, x89_30, x89_33, x89_34, x89_37, x89_38, x89_41, x89_42, x89_43, x89_44, x89_45, x89_46, x89_49, x89_50, x89_53, x89_54, x89_55, x89_56, x89_57, x89_58, x89_61, x89_62, x89_65, x89_66, x89_67, x89_69, x89_70, x89_71, x89_74, x89_75, x89_78, x89_79, x89_80, x89_81, x89_82, x89_83, x89_86, x89_87, x89_88, x89_89, x89_90, x89_91, x89_92, x89_93, Option.bind_some, Option.toList_some, Option.toList_none, List.cons_append, List.nil_append, Int.toNat_natCast, Int.toNat_zero, z_w_id, z_b_0, z_b_1, z_b_n0, z_b_t, z_b_f, ↓reduceIte, Int.reduceEq, Int.reduceLT, Int.reduceLE, Int.reduceToNat, not_true_eq_false, not_false_eq_true, false_and, and_false, true_and, and_true, false_or, or_false, true_or, or_true, k_in]) | split)
        all_goals rfl
  · refine ⟨-2, M, M, ?_, ?_, hR⟩
    · rw [x63]
      repeat' (first | (exfalso; omega) | (simp (disch := first | omega | assumption | exact z_b_01) only [x63_0, x63_1, x63_4, x63_7, x63_9, x63_10, x63_11, x63_14, x63_17, x63_20, x63_21, x63_24, x63_26, x63_27, x63_28, x63_31, x63_32, x63_35, x63_38, x63_39, x63_42, x63_45, x63_46, x63_49, Option.bind_some, Option.toList_some, Option.toList_none, List.cons_append, List.nil_append, Int.toNat_natCast, Int.toNat_zero, z_w_id, z_b_0, z_b_1, z_b_n0, z_b_t, z_b_f, ↓reduceIte, Int.reduceEq, Int.reduceLT, Int.reduceLE, Int.reduceToNat, not_true_eq_false, not_false_eq_true, false_and, and_false, true_and, and_true, false_or, or_false, true_or, or_true, k_isQuantum]) | split)
      all_goals rfl
    · rw [x89]
      repeat' (first | (exfalso; omega) | (simp (disch := first | omega | assumption | exact z_b_01) only [x89_0, x89_1, x89_2, x89_5, x89_8, x89_11, x89_13, x89_14, x89_15, x89_18, x89_19, x89_20, x89_21, x89_22, x89_23, x89_26, x89_28, x89_29, x89_30, x89_33, x89_34, x89_37, x89_38, x89_41, x89_42, x89_43, x89_44, x89_45, x89_46, x89_49, x89_50, x89_53, x89_54, x89_55, x89_56, x89_57, x89_58, x89_61, x89_62, x89_65, x89_66, x89_67, x89_69, x89_70, x89_71, x89_74, x89_75, x89_78, x89_79, x89_80, x89_81, x89_82, x89_83, x89_86, x89_87, x89_88, x89_89, x89_90, x89_91, x89_92, x89_93, Option.bind_some, Option.toList_some, Option.toList_none, List.cons_append, List.nil_append, Int.toNat_natCast, Int.toNat_zero, z_w_id, z_b_0, z_b_1, z_b_n0, z_b_t, z_b_f, ↓reduceIte, Int.reduceEq, Int.reduceLT, Int.reduceLE, Int.reduceToNat, not_true_eq_false, not_false_eq_true, false_and, and_false, true_and, and_true, false_or, or_false, true_or, or_true, k_in]) | split)
      all_goals rfl
theorem c_addClass (g q z f : Int) : w_c 62 88 [.inl g, .inl q, .inl z, .inl f] := by
  intro M hR
  obtain ⟨⟨⟨l, hF⟩, ht⟩, -⟩ := id hR
  have g1 := hF.1.1.1
  have g2 := hF.1.1.2.1
  have w1 : M 0 31 1 = M 0 1 0 := hF.2.1.1.2.1
  have w2 : M 0 31 2 = M 0 2 0 := hF.2.1.1.2.2.1
  have k0 := k_noGroup (M := M) (by omega) g
  rw [w1] at k0
  by_cases hg : 0 ≤ g ∧ g < M 0 1 0
  · rw [z_b_f (fun y => y hg)] at k0
    by_cases hq : (1 ≤ q ∧ q ≤ 200) ∧ (10 ≤ z ∧ z ≤ 500) ∧ 0 ≤ f ∧ f ≤ 20
    · obtain ⟨hq, hz, hf⟩ := hq
      by_cases h3 : M 0 2 0 < 8
      · obtain ⟨c, hc⟩ : ∃ c : Nat, M 0 2 0 = (c : Int) := ⟨(M 0 2 0).toNat, by omega⟩
        obtain ⟨M', p1, p2, p3⟩ := k_push2 hR
        have a1 := k_Classes_append (s := 0) (M := M') (A := M 0) g2.1 h3 g q z f
        have m1 := k_maddClass (M := z_ur M' 0 (a_addClass (M 0) g q z f)) (ρ := M 0 31) (w_30 hR p3) (by omega) (w2.trans hc) (by omega) (g := g) (by omega) hq hz hf
        rw [w_mrow p3] at m1
        rw [hc] at a1
        refine ⟨_, _, _, ?_, m1, w_done hR p2 p3 ⟨⟨l, e_F_addClass hF hc (by omega) hg hq hz hf⟩, ?_⟩⟩
        · rw [x62]
          repeat' (first | (exfalso; omega) | (simp (disch := first | omega | assumption | exact z_b_01) only [x62_0, x62_1, x62_4, x62_7, x62_8, x62_11, x62_14, x62_15, x62_16, x62_17, x62_20, x62_23, x62_24, x62_26, x62_29, x62_32, x62_35, x62_37, x62_38, x62_40, x62_43, x62_46, x62_48, x62_49, x62_50, x62_53, x62_56, x62_59, x62_61, x62_64, x62_66, x62_67, x62_68, x62_71, x62_72, x62_75, x62_78, x62_79, x62_82, x62_85, x62_86, x62_87, x62_88, x62_90, x62_93, Option.bind_some, Option.toList_some, Option.toList_none, List.cons_append, List.nil_append, Int.toNat_natCast, Int.toNat_zero, z_w_id, z_b_0, z_b_1, z_b_n0, z_b_t, z_b_f, ↓reduceIte, Int.reduceEq, Int.reduceLT, Int.reduceLE, Int.reduceToNat, not_true_eq_false, not_false_eq_true, false_and, and_false, true_and, and_true, false_or, or_false, true_or, or_true, k_Groups_has, k_isQuantum, k_isWithin, p1, a1]) | split)
          all_goals rfl
        · rw [a_addClass, a_u_o (by decide), a_u_o (by decide), a_u_o (by decide), a_u_o (by decide), a_u_o (by decide), a_u_o (by decide), a_u_o (by decide), a_u_o (by decide), a_u_o (by decide), a_u_o (by decide)]; exact ht
      · refine ⟨-3, M, M, ?_, ?_, hR⟩
        · rw [x62]
          repeat' (first | (exfalso; omega) | (simp (disch := first | omega | assumption | exact z_b_01) only [x62_0, x62_1, x62_4, x62_7, x62_8, x62_11, x62_14, x62_15, x62_16, x62_17, x62_20, x62_23, x62_24, x62_26, x62_29, x62_32, x62_35, x62_37, x62_38, x62_40, x62_43, x62_46, x62_48, x62_49, x62_50, x62_53, x62_56, x62_59, x62_61, x62_64, x62_66, x62_67, x62_68, x62_71, x62_72, x62_75, x62_78, x62_79, x62_82, x62_85, x62_86, x62_87, x62_88, x62_90, x62_93, Option.bind_some, Option.toList_some, Option.toList_none, List.cons_append, List.nil_append, Int.toNat_natCast, Int.toNat_zero, z_w_id, z_b_0, z_b_1, z_b_n0, z_b_t, z_b_f, ↓reduceIte, Int.reduceEq, Int.reduceLT, Int.reduceLE, Int.reduceToNat, not_true_eq_false, not_false_eq_true, false_and, and_false, true_and, and_true, false_or, or_false, true_or, or_true, k_Groups_has, k_isQuantum, k_isWithin]) | split)
          all_goals rfl
        · rw [x88]
          repeat' (first | (exfalso; omega) | (simp (disch := first | omega | assumption | exact z_b_01) only [x88_0, x88_1, x88_2, x88_5, x88_8, x88_9, x88_10, x88_11, x88_12, x88_15, x88_18, x88_21, x88_22, x88_24, x88_27, x88_30, x88_33, x88_35, x88_36, x88_38, x88_41, x88_44, x88_46, x88_47, x88_48, x88_51, x88_52, x88_53, x88_55, x88_57, x88_59, x88_62, x88_64, x88_65, x88_66, x88_69, x88_70, x88_74, x88_76, x88_79, x88_80, x88_83, x88_85, x88_88, x88_90, x88_91, x88_92, x88_93, x88_96, x88_100, x88_103, x88_105, x88_108, x88_109, x88_110, x88_111, x88_112, x88_113, x88_116, x88_118, x88_121, x88_122, x88_123, x88_124, x88_125, x88_126, x88_129, x88_131, x88_134, x88_135, x88_136, x88_137, x88_138, x88_139, x88_142, x88_144, x88_147, x88_148, x88_149, x88_151, x88_152, x88_153, x88_156, x88_158, x88_161, x88_162, x88_163, x88_164, x88_165, x88_166, x88_169, x88_170, x88_171, x88_172, x88_173, x88_174, x88_175, x88_177, Option.bind_some, Option.toList_some, Option.toList_none, List.cons_append, List.nil_append, Int.toNat_natCast, Int.toNat_zero, z_w_id, z_b_0, z_b_1, z_b_n0, z_b_t, z_b_f, ↓reduceIte, Int.reduceEq, Int.reduceLT, Int.reduceLE, Int.reduceToNat, not_true_eq_false, not_false_eq_true, false_and, and_false, true_and, and_true, false_or, or_false, true_or, or_true, k0, k_in]) | split)
          all_goals rfl
    · refine ⟨-2, M, M, ?_, ?_, hR⟩
      · rw [x62]
        repeat' (first | (exfalso; omega) | (simp (disch := first | omega | assumption | exact z_b_01) only [x62_0, x62_1, x62_4, x62_7, x62_8, x62_11, x62_14, x62_15, x62_16, x62_17, x62_20, x62_23, x62_24, x62_26, x62_29, x62_32, x62_35, x62_37, x62_38, x62_40, x62_43, x62_46, x62_48, x62_49, x62_50, x62_53, x62_56, x62_59, x62_61, x62_64, x62_66, x62_67, x62_68, x62_71, x62_72, x62_75, x62_78, x62_79, x62_82, x62_85, x62_86, x62_87, x62_88, x62_90, x62_93, Option.bind_some, Option.toList_some, Option.toList_none, List.cons_append, List.nil_append, Int.toNat_natCast, Int.toNat_zero, z_w_id, z_b_0, z_b_1, z_b_n0, z_b_t, z_b_f, ↓reduceIte, Int.reduceEq, Int.reduceLT, Int.reduceLE, Int.reduceToNat, not_true_eq_false, not_false_eq_true, false_and, and_false, true_and, and_true, false_or, or_false, true_or, or_true, k_Groups_has, k_isQuantum, k_isWithin]) | split)
        all_goals rfl
      · rw [x88]
        repeat' (first | (exfalso; omega) | (simp (disch := first | omega | assumption | exact z_b_01) only [x88_0, x88_1, x88_2, x88_5, x88_8, x88_9, x88_10, x88_11, x88_12, x88_15, x88_18, x88_21, x88_22, x88_24, x88_27, x88_30, x88_33, x88_35, x88_36, x88_38, x88_41, x88_44, x88_46, x88_47, x88_48, x88_51, x88_52, x88_53, x88_55, x88_57, x88_59, x88_62, x88_64, x88_65, x88_66, x88_69, x88_70, x88_74, x88_76, x88_79, x88_80, x88_83, x88_85, x88_88, x88_90, x88_91, x88_92, x88_93, x88_96, x88_100, x88_103, x88_105, x88_108, x88_109, x88_110, x88_111, x88_112, x88_113, x88_116, x88_118, x88_121, x88_122, x88_123, x88_124, x88_125, x88_126, x88_129, x88_131, x88_134, x88_135, x88_136, x88_137, x88_138, x88_139, x88_142, x88_144, x88_147, x88_148, x88_149, x88_151, x88_152, x88_153, x88_156, x88_158, x88_161, x88_162, x88_163, x88_164, x88_165, x88_166, x88_169, x88_170, x88_171, x88_172, x88_173, x88_174, x88_175, x88_177, Option.bind_some, Option.toList_some, Option.toList_none, List.cons_append, List.nil_append, Int.toNat_natCast, Int.toNat_zero, z_w_id, z_b_0, z_b_1, z_b_n0, z_b_t, z_b_f, ↓reduceIte, Int.reduceEq, Int.reduceLT, Int.reduceLE, Int.reduceToNat, not_true_eq_false, not_false_eq_true, false_and, and_false, true_and, and_true, false_or, or_false, true_or, or_true, k0, k_in]) | split)
        all_goals rfl
  · rw [z_b_t hg] at k0
    refine ⟨-1, M, M, ?_, ?_, hR⟩
    · rw [x62]
      repeat' (first | (exfalso; omega) | (simp (disch := first | omega | assumption | exact z_b_01) only [x62_0, x62_1, x62_4, x62_7, x62_8, x62_11, x62_14, x62_15, x62_16, x62_17, x62_20, x62_23, x62_24, x62_26, x62_29, x62_32, x62_35, x62_37, x62_38, x62_40, x62_43, x62_46, x62_48, x62_49, x62_50, x62_53, x62_56, x62_59, x62_61, x62_64, x62_66, x62_67, x62_68, x62_71, x62_72, x62_75, x62_78, x62_79, x62_82, x62_85, x62_86, x62_87, x62_88, x62_90, x62_93, Option.bind_some, Option.toList_some, Option.toList_none, List.cons_append, List.nil_append, Int.toNat_natCast, Int.toNat_zero, z_w_id, z_b_0, z_b_1, z_b_n0, z_b_t, z_b_f, ↓reduceIte, Int.reduceEq, Int.reduceLT, Int.reduceLE, Int.reduceToNat, not_true_eq_false, not_false_eq_true, false_and, and_false, true_and, and_true, false_or, or_false, true_or, or_true, k_Groups_has]) | split)
      all_goals rfl
    · rw [x88]
      repeat' (first | (exfalso; omega) | (simp (disch := first | omega | assumption | exact z_b_01) only [x88_0, x88_1, x88_2, x88_5, x88_8, x88_9, x88_10, x88_11, x88_12, x88_15, x88_18, x88_21, x88_22, x88_24, x88_27, x88_30, x88_33, x88_35, x88_36, x88_38, x88_41, x88_44, x88_46, x88_47, x88_48, x88_51, x88_52, x88_53, x88_55, x88_57, x88_59, x88_62, x88_64, x88_65, x88_66, x88_69, x88_70, x88_74, x88_76, x88_79, x88_80, x88_83, x88_85, x88_88, x88_90, x88_91, x88_92, x88_93, x88_96, x88_100, x88_103, x88_105, x88_108, x88_109, x88_110, x88_111, x88_112, x88_113, x88_116, x88_118, x88_121, x88_122, x88_123, x88_124, x88_125, x88_126, x88_129, x88_131, x88_134, x88_135, x88_136, x88_137, x88_138, x88_139, x88_142, x88_144, x88_147, x88_148, x88_149, x88_151, x88_152, x88_153, x88_156, x88_158, x88_161, x88_162, x88_163, x88_164, x88_165, x88_166, x88_169, x88_170, x88_171, x88_172, x88_173, x88_174, x88_175, x88_177, Option.bind_some, Option.toList_some, Option.toList_none, List.cons_append, List.nil_append, Int.toNat_natCast, Int.toNat_zero, z_w_id, z_b_0, z_b_1, z_b_n0, z_b_t, z_b_f, ↓reduceIte, Int.reduceEq, Int.reduceLT, Int.reduceLE, Int.reduceToNat, not_true_eq_false, not_false_eq_true, false_and, and_false, true_and, and_true, false_or, or_false, true_or, or_true, k0]) | split)
      all_goals rfl
theorem c_setGroupQuantum (g q : Int) : w_c 82 134 [.inl g, .inl q] := by
  intro M hR
  obtain ⟨⟨⟨l, hF⟩, ht⟩, -⟩ := id hR
  have g1 := hF.1.1.1
  have w1 : M 0 31 1 = M 0 1 0 := hF.2.1.1.2.1
  have k0 := fun (N : z_M) (e : N 0 31 1 = M 0 1 0) => k_noGroup (M := N) (by omega) g
  by_cases hg : 0 ≤ g ∧ g < M 0 1 0
  · obtain ⟨k, rfl⟩ : ∃ k : Nat, g = (k : Int) := ⟨g.toNat, by omega⟩
    have wk : M 0 31 (8 + 4 * k) = M 0 4 k := (hF.2.1.2.1 k hg.2).1
    have kp := fun N => k_party (j := k) (by omega) N
    by_cases hq : 1 ≤ q ∧ q ≤ 200
    · by_cases he : M 0 4 k = q
      · have m0 := k_mset0 (M := M) (ρ := M 0 31) (p := 8 + 4 * k) (by omega) (wk.trans he)
        rw [z_mr_self] at m0
        have k0' := k0 M w1
        rw [w1, z_b_f (fun y => y hg)] at k0'
        refine ⟨-5, M, M, ?_, ?_, hR⟩
        · rw [x82]
          repeat' (first | (exfalso; omega) | (simp (disch := first | omega | assumption | exact z_b_01) only [x82_0, x82_1, x82_4, x82_7, x82_8, x82_11, x82_14, x82_15, x82_16, x82_17, x82_20, x82_23, x82_25, x82_26, x82_27, x82_30, x82_33, x82_36, x82_37, x82_38, x82_39, x82_40, x82_41, x82_44, x82_46, x82_47, x82_48, x82_51, x82_52, x82_55, x82_58, x82_59, x82_62, x82_65, x82_68, x82_69, x82_70, x82_71, x82_72, Option.bind_some, Option.toList_some, Option.toList_none, List.cons_append, List.nil_append, Int.toNat_natCast, Int.toNat_zero, z_w_id, z_b_0, z_b_1, z_b_n0, z_b_t, z_b_f, ↓reduceIte, Int.reduceEq, Int.reduceLT, Int.reduceLE, Int.reduceToNat, not_true_eq_false, not_false_eq_true, false_and, and_false, true_and, and_true, false_or, or_false, true_or, or_true, k_Groups_has, k_isQuantum, he]) | split)
          all_goals rfl
        · rw [x134]
          repeat' (first | (exfalso; omega) | (simp (disch := first | omega | assumption | exact z_b_01) only [x134_0, x134_1, x134_2, x134_5, x134_8, x134_9, x134_10, x134_11, x134_12, x134_15, x134_18, x134_21, x134_22, x134_23, x134_26, x134_27, x134_28, x134_29, x134_32, x134_35, x134_37, Option.bind_some, Option.toList_some, Option.toList_none, List.cons_append, List.nil_append, Int.toNat_natCast, Int.toNat_zero, z_w_id, z_b_0, z_b_1, z_b_n0, z_b_t, z_b_f, ↓reduceIte, Int.reduceEq, Int.reduceLT, Int.reduceLE, Int.reduceToNat, not_true_eq_false, not_false_eq_true, false_and, and_false, true_and, and_true, false_or, or_false, true_or, or_true, k0', k_in, kp, m0, Int.add_zero]) | split)
          all_goals rfl
      · obtain ⟨M', p1, p2, p3⟩ := k_push2 hR
        have m1 := k_mset (M := z_ur M' 0 (a_u (M 0) 4 k q)) (ρ := M 0 31) (w_30 hR p3) (p := 8 + 4 * k) (by omega) (v := q) (by rw [wk]; exact he)
        have k0' := k0 (z_ur M' 0 (a_u (M 0) 4 k q)) (by rw [z_ur_top (by decide), p3.1 31 1 (by decide) (by decide) (by omega)]; exact w1)
        rw [z_ur_top (by decide), p3.1 31 1 (by decide) (by decide) (by omega), w1, z_b_f (fun y => y hg)] at k0'
        rw [w_mrow p3, wk] at m1
        refine ⟨M 0 4 k, z_ur M' 0 (a_u (M 0) 4 k q), _, ?_, ?_, w_done (A' := a_u (M 0) 4 k q) (ρ' := r_u (M 0 31) (8 + 4 * k) q) hR p2 p3 ⟨⟨l, e_F_u hF (o := 4) (Or.inl rfl) (Or.inr (Or.inr (Or.inl ⟨by omega, hg.2⟩))) (Or.inl hq)⟩, ?_⟩⟩
        · rw [x82]
          repeat' (first | (exfalso; omega) | (simp (disch := first | omega | assumption | exact z_b_01) only [x82_0, x82_1, x82_4, x82_7, x82_8, x82_11, x82_14, x82_15, x82_16, x82_17, x82_20, x82_23, x82_25, x82_26, x82_27, x82_30, x82_33, x82_36, x82_37, x82_38, x82_39, x82_40, x82_41, x82_44, x82_46, x82_47, x82_48, x82_51, x82_52, x82_55, x82_58, x82_59, x82_62, x82_65, x82_68, x82_69, x82_70, x82_71, x82_72, Option.bind_some, Option.toList_some, Option.toList_none, List.cons_append, List.nil_append, Int.toNat_natCast, Int.toNat_zero, z_w_id, z_b_0, z_b_1, z_b_n0, z_b_t, z_b_f, ↓reduceIte, Int.reduceEq, Int.reduceLT, Int.reduceLE, Int.reduceToNat, not_true_eq_false, not_false_eq_true, false_and, and_false, true_and, and_true, false_or, or_false, true_or, or_true, k_Groups_has, k_isQuantum, p1, z_ur_get, z_up_ur]) | split)
          all_goals rfl
        · rw [x134]
          repeat' (first | (exfalso; omega) | (simp (disch := first | omega | assumption | exact z_b_01) only [x134_0, x134_1, x134_2, x134_5, x134_8, x134_9, x134_10, x134_11, x134_12, x134_15, x134_18, x134_21, x134_22, x134_23, x134_26, x134_27, x134_28, x134_29, x134_32, x134_35, x134_37, Option.bind_some, Option.toList_some, Option.toList_none, List.cons_append, List.nil_append, Int.toNat_natCast, Int.toNat_zero, z_w_id, z_b_0, z_b_1, z_b_n0, z_b_t, z_b_f, ↓reduceIte, Int.reduceEq, Int.reduceLT, Int.reduceLE, Int.reduceToNat, not_true_eq_false, not_false_eq_true, false_and, and_false, true_and, and_true, false_or, or_false, true_or, or_true, k0', k_in, kp, m1, Int.add_zero]) | split)
          all_goals rfl
        · rw [a_u_o (by decide)]; exact ht
    · have k0' := k0 M w1
      rw [w1, z_b_f (fun y => y hg)] at k0'
      refine ⟨-2, M, M, ?_, ?_, hR⟩
      · rw [x82]
        repeat' (first | (exfalso; omega) | (simp (disch := first | omega | assumption | exact z_b_01) only [x82_0, x82_1, x82_4, x82_7, x82_8, x82_11, x82_14, x82_15, x82_16, x82_17, x82_20, x82_23, x82_25, x82_26, x82_27, x82_30, x82_33, x82_36, x82_37, x82_38, x82_39, x82_40, x82_41, x82_44, x82_46, x82_47, x82_48, x82_51, x82_52, x82_55, x82_58, x82_59, x82_62, x82_65, x82_68, x82_69, x82_70, x82_71, x82_72, Option.bind_some, Option.toList_some, Option.toList_none, List.cons_append, List.nil_append, Int.toNat_natCast, Int.toNat_zero, z_w_id, z_b_0, z_b_1, z_b_n0, z_b_t, z_b_f, ↓reduceIte, Int.reduceEq, Int.reduceLT, Int.reduceLE, Int.reduceToNat, not_true_eq_false, not_false_eq_true, false_and, and_false, true_and, and_true, false_or, or_false, true_or, or_true, k_Groups_has, k_isQuantum]) | split)
        all_goals rfl
      · rw [x134]
        repeat' (first | (exfalso; omega) | (simp (disch := first | omega | assumption | exact z_b_01) only [x134_0, x134_1, x134_2, x134_5, x134_8, x134_9, x134_10, x134_11, x134_12, x134_15, x134_18, x134_21, x134_22, x134_23, x134_26, x134_27, x134_28, x134_29, x134_32, x134_35, x134_37, Option.bind_some, Option.toList_some, Option.toList_none, List.cons_append, List.nil_append, Int.toNat_natCast, Int.toNat_zero, z_w_id, z_b_0, z_b_1, z_b_n0, z_b_t, z_b_f, ↓reduceIte, Int.reduceEq, Int.reduceLT, Int.reduceLE, Int.reduceToNat, not_true_eq_false, not_false_eq_true, false_and, and_false, true_and, and_true, false_or, or_false, true_or, or_true, k0', k_in]) | split)
        all_goals rfl
  · have k0' := k0 M w1
    rw [w1, z_b_t hg] at k0'
    refine ⟨-1, M, M, ?_, ?_, hR⟩
    · rw [x82]
      repeat' (first | (exfalso; omega) | (simp (disch := first | omega | assumption | exact z_b_01) only [x82_0, x82_1, x82_4, x82_7, x82_8, x82_11, x82_14, x82_15, x82_16, x82_17, x82_20, x82_23, x82_25, x82_26, x82_27, x82_30, x82_33, x82_36, x82_37, x82_38, x82_39, x82_40, x82_41, x82_44, x82_46, x82_47, x82_48, x82_51, x82_52, x82_55, x82_58, x82_59, x82_62, x82_65, x82_68, x82_69, x82_70, x82_71, x82_72, Option.bind_some, Option.toList_some, Option.toList_none, List.cons_append, List.nil_append, Int.toNat_natCast, Int.toNat_zero, z_w_id, z_b_0, z_b_1, z_b_n0, z_b_t, z_b_f, ↓reduceIte, Int.reduceEq, Int.reduceLT, Int.reduceLE, Int.reduceToNat, not_true_eq_false, not_false_eq_true, false_and, and_false, true_and, and_true, false_or, or_false, true_or, or_true, k_Groups_has]) | split)
      all_goals rfl
    · rw [x134]
      repeat' (first | (exfalso; omega) | (simp (disch := first | omega | assumption | exact z_b_01) only [x134_0, x134_1, x134_2, x134_5, x134_8, x134_9, x134_10, x134_11, x134_12, x134_15, x134_18, x134_21, x134_22, x134_23, x134_26, x134_27, x134_28, x134_29, x134_32, x134_35, x134_37, Option.bind_some, Option.toList_some, Option.toList_none, List.cons_append, List.nil_append, Int.toNat_natCast, Int.toNat_zero, z_w_id, z_b_0, z_b_1, z_b_n0, z_b_t, z_b_f, ↓reduceIte, Int.reduceEq, Int.reduceLT, Int.reduceLE, Int.reduceToNat, not_true_eq_false, not_false_eq_true, false_and, and_false, true_and, and_true, false_or, or_false, true_or, or_true, k0']) | split)
      all_goals rfl
theorem c_setQuantum (g q : Int) : w_c 83 135 [.inl g, .inl q] := by
  intro M hR
  obtain ⟨⟨⟨l, hF⟩, ht⟩, -⟩ := id hR
  have g2 := hF.1.1.2.1
  have w2 : M 0 31 2 = M 0 2 0 := hF.2.1.1.2.2.1
  have k0 := fun (N : z_M) (e : N 0 31 2 = M 0 2 0) => k_noClass (M := N) (by omega) g
  by_cases hg : 0 ≤ g ∧ g < M 0 2 0
  · obtain ⟨k, rfl⟩ : ∃ k : Nat, g = (k : Int) := ⟨g.toNat, by omega⟩
    have wk : M 0 31 (20 + 10 * k + 1) = M 0 8 k := (hF.2.1.2.2.1 k hg.2).1.2.1
    have kp := fun N => k_kind (j := k) (by omega) N
    have e1 : (((20 + 10 * k : Nat) : Int) + 1) = ((20 + 10 * k + 1 : Nat) : Int) := by omega
    by_cases hq : 1 ≤ q ∧ q ≤ 200
    · by_cases he : M 0 8 k = q
      · have m0 := k_mset0 (M := M) (ρ := M 0 31) (p := 20 + 10 * k + 1) (by omega) (wk.trans he)
        rw [z_mr_self] at m0
        have k0' := k0 M w2
        rw [w2, z_b_f (fun y => y hg)] at k0'
        refine ⟨-5, M, M, ?_, ?_, hR⟩
        · rw [x83]
          repeat' (first | (exfalso; omega) | (simp (disch := first | omega | assumption | exact z_b_01) only [x83_0, x83_1, x83_4, x83_7, x83_8, x83_11, x83_14, x83_15, x83_16, x83_17, x83_20, x83_23, x83_25, x83_26, x83_27, x83_30, x83_33, x83_36, x83_37, x83_38, x83_39, x83_40, x83_41, x83_44, x83_46, x83_47, x83_48, x83_51, x83_52, x83_55, x83_58, x83_59, x83_62, x83_65, x83_68, x83_69, x83_70, x83_71, x83_72, Option.bind_some, Option.toList_some, Option.toList_none, List.cons_append, List.nil_append, Int.toNat_natCast, Int.toNat_zero, z_w_id, z_b_0, z_b_1, z_b_n0, z_b_t, z_b_f, ↓reduceIte, Int.reduceEq, Int.reduceLT, Int.reduceLE, Int.reduceToNat, not_true_eq_false, not_false_eq_true, false_and, and_false, true_and, and_true, false_or, or_false, true_or, or_true, k_Classes_has, k_isQuantum, he]) | split)
          all_goals rfl
        · rw [x135]
          repeat' (first | (exfalso; omega) | (simp (disch := first | omega | assumption | exact z_b_01) only [x135_0, x135_1, x135_2, x135_5, x135_8, x135_9, x135_10, x135_11, x135_12, x135_15, x135_18, x135_21, x135_22, x135_23, x135_26, x135_27, x135_28, x135_29, x135_32, x135_35, x135_37, Option.bind_some, Option.toList_some, Option.toList_none, List.cons_append, List.nil_append, Int.toNat_natCast, Int.toNat_zero, z_w_id, z_b_0, z_b_1, z_b_n0, z_b_t, z_b_f, ↓reduceIte, Int.reduceEq, Int.reduceLT, Int.reduceLE, Int.reduceToNat, not_true_eq_false, not_false_eq_true, false_and, and_false, true_and, and_true, false_or, or_false, true_or, or_true, k0', k_in, kp, e1, m0]) | split)
          all_goals rfl
      · obtain ⟨M', p1, p2, p3⟩ := k_push2 hR
        have m1 := k_mset (M := z_ur M' 0 (a_u (M 0) 8 k q)) (ρ := M 0 31) (w_30 hR p3) (p := 20 + 10 * k + 1) (by omega) (v := q) (by rw [wk]; exact he)
        have k0' := k0 (z_ur M' 0 (a_u (M 0) 8 k q)) (by rw [z_ur_top (by decide), p3.1 31 2 (by decide) (by decide) (by omega)]; exact w2)
        rw [z_ur_top (by decide), p3.1 31 2 (by decide) (by decide) (by omega), w2, z_b_f (fun y => y hg)] at k0'
        rw [w_mrow p3, wk] at m1
        refine ⟨M 0 8 k, z_ur M' 0 (a_u (M 0) 8 k q), _, ?_, ?_, w_done (A' := a_u (M 0) 8 k q) (ρ' := r_u (M 0 31) (20 + 10 * k + 1) q) hR p2 p3 ⟨⟨l, e_F_u hF (o := 8) (Or.inr (Or.inl rfl)) (Or.inr (Or.inr (Or.inr (Or.inl ⟨by omega, hg.2⟩)))) (Or.inl hq)⟩, ?_⟩⟩
        · rw [x83]
          repeat' (first | (exfalso; omega) | (simp (disch := first | omega | assumption | exact z_b_01) only [x83_0, x83_1, x83_4, x83_7, x83_8, x83_11, x83_14, x83_15, x83_16, x83_17, x83_20, x83_23, x83_25, x83_26, x83_27, x83_30, x83_33, x83_36, x83_37, x83_38, x83_39, x83_40, x83_41, x83_44, x83_46, x83_47, x83_48, x83_51, x83_52, x83_55, x83_58, x83_59, x83_62, x83_65, x83_68, x83_69, x83_70, x83_71, x83_72, Option.bind_some, Option.toList_some, Option.toList_none, List.cons_append, List.nil_append, Int.toNat_natCast, Int.toNat_zero, z_w_id, z_b_0, z_b_1, z_b_n0, z_b_t, z_b_f, ↓reduceIte, Int.reduceEq, Int.reduceLT, Int.reduceLE, Int.reduceToNat, not_true_eq_false, not_false_eq_true, false_and, and_false, true_and, and_true, false_or, or_false, true_or, or_true, k_Classes_has, k_isQuantum, p1, z_ur_get, z_up_ur]) | split)
          all_goals rfl
        · rw [x135]
          repeat' (first | (exfalso; omega) | (simp (disch := first | omega | assumption | exact z_b_01) only [x135_0, x135_1, x135_2, x135_5, x135_8, x135_9, x135_10, x135_11, x135_12, x135_15, x135_18, x135_21, x135_22, x135_23, x135_26, x135_27, x135_28, x135_29, x135_32, x135_35, x135_37, Option.bind_some, Option.toList_some, Option.toList_none, List.cons_append, List.nil_append, Int.toNat_natCast, Int.toNat_zero, z_w_id, z_b_0, z_b_1, z_b_n0, z_b_t, z_b_f, ↓reduceIte, Int.reduceEq, Int.reduceLT, Int.reduceLE, Int.reduceToNat, not_true_eq_false, not_false_eq_true, false_and, and_false, true_and, and_true, false_or, or_false, true_or, or_true, k0', k_in, kp, e1, m1]) | split)
          all_goals rfl
        · rw [a_u_o (by decide)]; exact ht
    · have k0' := k0 M w2
      rw [w2, z_b_f (fun y => y hg)] at k0'
      refine ⟨-2, M, M, ?_, ?_, hR⟩
      · rw [x83]
        repeat' (first | (exfalso; omega) | (simp (disch := first | omega | assumption | exact z_b_01) only [x83_0, x83_1, x83_4, x83_7, x83_8, x83_11, x83_14, x83_15, x83_16, x83_17, x83_20, x83_23, x83_25, x83_26, x83_27, x83_30, x83_33, x83_36, x83_37, x83_38, x83_39, x83_40, x83_41, x83_44, x83_46, x83_47, x83_48, x83_51, x83_52, x83_55, x83_58, x83_59, x83_62, x83_65, x83_68, x83_69, x83_70, x83_71, x83_72, Option.bind_some, Option.toList_some, Option.toList_none, List.cons_append, List.nil_append, Int.toNat_natCast, Int.toNat_zero, z_w_id, z_b_0, z_b_1, z_b_n0, z_b_t, z_b_f, ↓reduceIte, Int.reduceEq, Int.reduceLT, Int.reduceLE, Int.reduceToNat, not_true_eq_false, not_false_eq_true, false_and, and_false, true_and, and_true, false_or, or_false, true_or, or_true, k_Classes_has, k_isQuantum]) | split)
        all_goals rfl
      · rw [x135]
        repeat' (first | (exfalso; omega) | (simp (disch := first | omega | assumption | exact z_b_01) only [x135_0, x135_1, x135_2, x135_5, x135_8, x135_9, x135_10, x135_11, x135_12, x135_15, x135_18, x135_21, x135_22, x135_23, x135_26, x135_27, x135_28, x135_29, x135_32, x135_35, x135_37, Option.bind_some, Option.toList_some, Option.toList_none, List.cons_append, List.nil_append, Int.toNat_natCast, Int.toNat_zero, z_w_id, z_b_0, z_b_1, z_b_n0, z_b_t, z_b_f, ↓reduceIte, Int.reduceEq, Int.reduceLT, Int.reduceLE, Int.reduceToNat, not_true_eq_false, not_false_eq_true, false_and, and_false, true_and, and_true, false_or, or_false, true_or, or_true, k0', k_in]) | split)
        all_goals rfl
  · have k0' := k0 M w2
    rw [w2, z_b_t hg] at k0'
    refine ⟨-1, M, M, ?_, ?_, hR⟩
    · rw [x83]
      repeat' (first | (exfalso; omega) | (simp (disch := first | omega | assumption | exact z_b_01) only [x83_0, x83_1, x83_4, x83_7, x83_8, x83_11, x83_14, x83_15, x83_16, x83_17, x83_20, x83_23, x83_25, x83_26, x83_27, x83_30, x83_33, x83_36, x83_37, x83_38, x83_39, x83_40, x83_41, x83_44, x83_46, x83_47, x83_48, x83_51, x83_52, x83_55, x83_58, x83_59, x83_62, x83_65, x83_68, x83_69, x83_70, x83_71, x83_72, Option.bind_some, Option.toList_some, Option.toList_none, List.cons_append, List.nil_append, Int.toNat_natCast, Int.toNat_zero, z_w_id, z_b_0, z_b_1, z_b_n0, z_b_t, z_b_f, ↓reduceIte, Int.reduceEq, Int.reduceLT, Int.reduceLE, Int.reduceToNat, not_true_eq_false, not_false_eq_true, false_and, and_false, true_and, and_true, false_or, or_false, true_or, or_true, k_Classes_has]) | split)
      all_goals rfl
    · rw [x135]
      repeat' (first | (exfalso; omega) | (simp (disch := first | omega | assumption | exact z_b_01) only [x135_0, x135_1, x135_2, x135_5, x135_8, x135_9, x135_10, x135_11, x135_12, x135_15, x135_18, x135_21, x135_22, x135_23, x135_26, x135_27, x135_28, x135_29, x135_32, x135_35, x135_37, Option.bind_some, Option.toList_some, Option.toList_none, List.cons_append, List.nil_append, Int.toNat_natCast, Int.toNat_zero, z_w_id, z_b_0, z_b_1, z_b_n0, z_b_t, z_b_f, ↓reduceIte, Int.reduceEq, Int.reduceLT, Int.reduceLE, Int.reduceToNat, not_true_eq_false, not_false_eq_true, false_and, and_false, true_and, and_true, false_or, or_false, true_or, or_true, k0']) | split)
      all_goals rfl
theorem c_setAge (g q : Int) : w_c 81 133 [.inl g, .inl q] := by
  intro M hR
  obtain ⟨⟨⟨l, hF⟩, ht⟩, -⟩ := id hR
  have g2 := hF.1.1.2.1
  have w2 : M 0 31 2 = M 0 2 0 := hF.2.1.1.2.2.1
  have k0 := fun (N : z_M) (e : N 0 31 2 = M 0 2 0) => k_noClass (M := N) (by omega) g
  by_cases hg : 0 ≤ g ∧ g < M 0 2 0
  · obtain ⟨k, rfl⟩ : ∃ k : Nat, g = (k : Int) := ⟨g.toNat, by omega⟩
    have wk : M 0 31 (20 + 10 * k + 6) = M 0 13 k := (hF.2.1.2.2.1 k hg.2).2.2.1
    have kp := fun N => k_kind (j := k) (by omega) N
    have e1 : (((20 + 10 * k : Nat) : Int) + 6) = ((20 + 10 * k + 6 : Nat) : Int) := by omega
    by_cases hq : 0 ≤ q ∧ q ≤ 2000
    · by_cases he : M 0 13 k = q
      · have m0 := k_mset0 (M := M) (ρ := M 0 31) (p := 20 + 10 * k + 6) (by omega) (wk.trans he)
        rw [z_mr_self] at m0
        have k0' := k0 M w2
        rw [w2, z_b_f (fun y => y hg)] at k0'
        refine ⟨-5, M, M, ?_, ?_, hR⟩
        · rw [x81]
          repeat' (first | (exfalso; omega) | (simp (disch := first | omega | assumption | exact z_b_01) only [x81_0, x81_1, x81_4, x81_7, x81_8, x81_11, x81_14, x81_15, x81_16, x81_17, x81_18, x81_21, x81_24, x81_27, x81_29, x81_30, x81_31, x81_34, x81_37, x81_40, x81_41, x81_42, x81_43, x81_44, x81_45, x81_48, x81_50, x81_51, x81_52, x81_55, x81_56, x81_59, x81_62, x81_63, x81_66, x81_69, x81_72, x81_73, x81_74, x81_75, x81_76, Option.bind_some, Option.toList_some, Option.toList_none, List.cons_append, List.nil_append, Int.toNat_natCast, Int.toNat_zero, z_w_id, z_b_0, z_b_1, z_b_n0, z_b_t, z_b_f, ↓reduceIte, Int.reduceEq, Int.reduceLT, Int.reduceLE, Int.reduceToNat, not_true_eq_false, not_false_eq_true, false_and, and_false, true_and, and_true, false_or, or_false, true_or, or_true, k_Classes_has, k_isWithin, he]) | split)
          all_goals rfl
        · rw [x133]
          repeat' (first | (exfalso; omega) | (simp (disch := first | omega | assumption | exact z_b_01) only [x133_0, x133_1, x133_2, x133_5, x133_8, x133_9, x133_10, x133_11, x133_12, x133_15, x133_18, x133_21, x133_22, x133_23, x133_26, x133_28, x133_29, x133_30, x133_33, x133_36, x133_38, Option.bind_some, Option.toList_some, Option.toList_none, List.cons_append, List.nil_append, Int.toNat_natCast, Int.toNat_zero, z_w_id, z_b_0, z_b_1, z_b_n0, z_b_t, z_b_f, ↓reduceIte, Int.reduceEq, Int.reduceLT, Int.reduceLE, Int.reduceToNat, not_true_eq_false, not_false_eq_true, false_and, and_false, true_and, and_true, false_or, or_false, true_or, or_true, k0', k_in, kp, e1, m0]) | split)
          all_goals rfl
      · obtain ⟨M', p1, p2, p3⟩ := k_push2 hR
        have m1 := k_mset (M := z_ur M' 0 (a_u (M 0) 13 k q)) (ρ := M 0 31) (w_30 hR p3) (p := 20 + 10 * k + 6) (by omega) (v := q) (by rw [wk]; exact he)
        have k0' := k0 (z_ur M' 0 (a_u (M 0) 13 k q)) (by rw [z_ur_top (by decide), p3.1 31 2 (by decide) (by decide) (by omega)]; exact w2)
        rw [z_ur_top (by decide), p3.1 31 2 (by decide) (by decide) (by omega), w2, z_b_f (fun y => y hg)] at k0'
        rw [w_mrow p3, wk] at m1
        refine ⟨M 0 13 k, z_ur M' 0 (a_u (M 0) 13 k q), _, ?_, ?_, w_done (A' := a_u (M 0) 13 k q) (ρ' := r_u (M 0 31) (20 + 10 * k + 6) q) hR p2 p3 ⟨⟨l, e_F_u hF (o := 13) (Or.inr (Or.inr rfl)) (Or.inr (Or.inr (Or.inr (Or.inl ⟨by omega, hg.2⟩)))) (Or.inr ⟨rfl, hq⟩)⟩, ?_⟩⟩
        · rw [x81]
          repeat' (first | (exfalso; omega) | (simp (disch := first | omega | assumption | exact z_b_01) only [x81_0, x81_1, x81_4, x81_7, x81_8, x81_11, x81_14, x81_15, x81_16, x81_17, x81_18, x81_21, x81_24, x81_27, x81_29, x81_30, x81_31, x81_34, x81_37, x81_40, x81_41, x81_42, x81_43, x81_44, x81_45, x81_48, x81_50, x81_51, x81_52, x81_55, x81_56, x81_59, x81_62, x81_63, x81_66, x81_69, x81_72, x81_73, x81_74, x81_75, x81_76, Option.bind_some, Option.toList_some, Option.toList_none, List.cons_append, List.nil_append, Int.toNat_natCast, Int.toNat_zero, z_w_id, z_b_0, z_b_1, z_b_n0, z_b_t, z_b_f, ↓reduceIte, Int.reduceEq, Int.reduceLT, Int.reduceLE, Int.reduceToNat, not_true_eq_false, not_false_eq_true, false_and, and_false, true_and, and_true, false_or, or_false, true_or, or_true, k_Classes_has, k_isWithin, p1, z_ur_get, z_up_ur]) | split)
          all_goals rfl
        · rw [x133]
          repeat' (first | (exfalso; omega) | (simp (disch := first | omega | assumption | exact z_b_01) only [x133_0, x133_1, x133_2, x133_5, x133_8, x133_9, x133_10, x133_11, x133_12, x133_15, x133_18, x133_21, x133_22, x133_23, x133_26, x133_28, x133_29, x133_30, x133_33, x133_36, x133_38, Option.bind_some, Option.toList_some, Option.toList_none, List.cons_append, List.nil_append, Int.toNat_natCast, Int.toNat_zero, z_w_id, z_b_0, z_b_1, z_b_n0, z_b_t, z_b_f, ↓reduceIte, Int.reduceEq, Int.reduceLT, Int.reduceLE, Int.reduceToNat, not_true_eq_false, not_false_eq_true, false_and, and_false, true_and, and_true, false_or, or_false, true_or, or_true, k0', k_in, kp, e1, m1]) | split)
          all_goals rfl
        · rw [a_u_o (by decide)]; exact ht
    · have k0' := k0 M w2
      rw [w2, z_b_f (fun y => y hg)] at k0'
      refine ⟨-2, M, M, ?_, ?_, hR⟩
      · rw [x81]
        repeat' (first | (exfalso; omega) | (simp (disch := first | omega | assumption | exact z_b_01) only [x81_0, x81_1, x81_4, x81_7, x81_8, x81_11, x81_14, x81_15, x81_16, x81_17, x81_18, x81_21, x81_24, x81_27, x81_29, x81_30, x81_31, x81_34, x81_37, x81_40, x81_41, x81_42, x81_43, x81_44, x81_45, x81_48, x81_50, x81_51, x81_52, x81_55, x81_56, x81_59, x81_62, x81_63, x81_66, x81_69, x81_72, x81_73, x81_74, x81_75, x81_76, Option.bind_some, Option.toList_some, Option.toList_none, List.cons_append, List.nil_append, Int.toNat_natCast, Int.toNat_zero, z_w_id, z_b_0, z_b_1, z_b_n0, z_b_t, z_b_f, ↓reduceIte, Int.reduceEq, Int.reduceLT, Int.reduceLE, Int.reduceToNat, not_true_eq_false, not_false_eq_true, false_and, and_false, true_and, and_true, false_or, or_false, true_or, or_true, k_Classes_has, k_isWithin]) | split)
        all_goals rfl
      · rw [x133]
        repeat' (first | (exfalso; omega) | (simp (disch := first | omega | assumption | exact z_b_01) only [x133_0, x133_1, x133_2, x133_5, x133_8, x133_9, x133_10, x133_11, x133_12, x133_15, x133_18, x133_21, x133_22, x133_23, x133_26, x133_28, x133_29, x133_30, x133_33, x133_36, x133_38, Option.bind_some, Option.toList_some, Option.toList_none, List.cons_append, List.nil_append, Int.toNat_natCast, Int.toNat_zero, z_w_id, z_b_0, z_b_1, z_b_n0, z_b_t, z_b_f, ↓reduceIte, Int.reduceEq, Int.reduceLT, Int.reduceLE, Int.reduceToNat, not_true_eq_false, not_false_eq_true, false_and, and_false, true_and, and_true, false_or, or_false, true_or, or_true, k0', k_in]) | split)
        all_goals rfl
  · have k0' := k0 M w2
    rw [w2, z_b_t hg] at k0'
    refine ⟨-1, M, M, ?_, ?_, hR⟩
    · rw [x81]
      repeat' (first | (exfalso; omega) | (simp (disch := first | omega | assumption | exact z_b_01) only [x81_0, x81_1, x81_4, x81_7, x81_8, x81_11, x81_14, x81_15, x81_16, x81_17, x81_18, x81_21, x81_24, x81_27, x81_29, x81_30, x81_31, x81_34, x81_37, x81_40, x81_41, x81_42, x81_43, x81_44, x81_45, x81_48, x81_50, x81_51, x81_52, x81_55, x81_56, x81_59, x81_62, x81_63, x81_66, x81_69, x81_72, x81_73, x81_74, x81_75, x81_76, Option.bind_some, Option.toList_some, Option.toList_none, List.cons_append, List.nil_append, Int.toNat_natCast, Int.toNat_zero, z_w_id, z_b_0, z_b_1, z_b_n0, z_b_t, z_b_f, ↓reduceIte, Int.reduceEq, Int.reduceLT, Int.reduceLE, Int.reduceToNat, not_true_eq_false, not_false_eq_true, false_and, and_false, true_and, and_true, false_or, or_false, true_or, or_true, k_Classes_has]) | split)
      all_goals rfl
    · rw [x133]
      repeat' (first | (exfalso; omega) | (simp (disch := first | omega | assumption | exact z_b_01) only [x133_0, x133_1, x133_2, x133_5, x133_8, x133_9, x133_10, x133_11, x133_12, x133_15, x133_18, x133_21, x133_22, x133_23, x133_26, x133_28, x133_29, x133_30, x133_33, x133_36, x133_38, Option.bind_some, Option.toList_some, Option.toList_none, List.cons_append, List.nil_append, Int.toNat_natCast, Int.toNat_zero, z_w_id, z_b_0, z_b_1, z_b_n0, z_b_t, z_b_f, ↓reduceIte, Int.reduceEq, Int.reduceLT, Int.reduceLE, Int.reduceToNat, not_true_eq_false, not_false_eq_true, false_and, and_false, true_and, and_true, false_or, or_false, true_or, or_true, k0']) | split)
      all_goals rfl
