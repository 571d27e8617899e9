/-! a tick: who is in service then -/
/-- what a row tells of service, ends, tokens and counts; i units of time of a pass are gone -/
def e_Y (i : Int) (A : Nat → Nat → Int) (ρ : Nat → Int) : Prop :=
  ρ 5 = A 0 5 ∧ (∀ j : Nat, (j : Int) < A 3 0 → ρ (100 + 7 * j + 3) = a_stage A j ∧ ρ (100 + 7 * j + 5) = (if a_stage A j = 2 then A 19 j + A 17 j else -5) ∧ ρ (100 + 7 * j + 6) = (if a_stage A j = 0 then A 17 j else if a_stage A j = 1 then A 0 6 else 0)) ∧
  ∀ c : Nat, (c : Int) < A 2 0 → ρ (20 + 10 * c + 5) = (if A 12 c + A 11 c * i < A 10 c then A 12 c + A 11 c * i else A 10 c) ∧ ρ (20 + 10 * c + 7) = s_sum (s_rg (A 3 0).toNat) (fun j => if A 16 j = (c : Int) ∧ a_stage A j = 2 then 1 else 0)
def e_Sv (A : Nat → Nat → Int) : Prop :=
  ((A 0 5 = -5 ∧ A 0 6 = 0) ∨ ∃ j : Nat, A 0 5 = (j : Int) ∧ (j : Int) < A 3 0 ∧ A 19 j ≠ -5 ∧ 1 ≤ A 0 6 ∧ A 0 6 ≤ A 17 j ∧ A 19 j + A 17 j - A 0 6 = A 0 3) ∧ (∀ c : Nat, (c : Int) < A 2 0 → A 15 c ≤ A 0 3) ∧ 0 ≤ A 0 7 ∧ A 0 7 ≤ A 0 3 ∧ ∀ j : Nat, (j : Int) < A 3 0 → A 19 j ≤ A 0 3
def e_F (i : Int) (A : Nat → Nat → Int) (ρ : Nat → Int) (l : List Nat) : Prop := e_I A l ∧ e_W A ρ ∧ e_Y i A ρ ∧ e_Sv A
theorem e_F_step {i : Int} {A A' : Nat → Nat → Int} {ρ ρ' : Nat → Int} {l : List Nat} (hF : e_F i A ρ l) (h5 : A 0 5 = -5) {j : Nat} (hj : j ∈ l) (hI : e_I A' (l.filter (q_ne j))) (hW : e_W A' ρ') (hfr : e_fr A A' ρ ρ' j) : e_F i A' ρ' (l.filter (q_ne j)) := by
  obtain ⟨hI0, hW0, ⟨y5, yj, yc⟩, s0, s15, s7, s7', s19⟩ := hF
  obtain ⟨f1, f2, f3, f4, f5, f6, f7⟩ := hfr
  have G := hI0.1
  have hjn := hI0.2.2.2.2.1.2.2.2.1 j hj
  have aj := hI0.2.1 j hjn
  have c3 := hI0.2.2.2.2.1.2.2.2.2
  have j19 : A 19 j = -5 := by
    have el := hI0.2.2.2.2.2.2.1
    rw [el] at hj
    exact (e_l_mem.mp hj).2
  have e30 := f1 3 0 (by omega)
  have e20 := f1 2 0 (by omega)
  have e03 := f1 0 3 (by omega)
  have e07 := f1 0 7 (by omega)
  have e16 : ∀ k, A' 16 k = A 16 k := fun k => f1 16 k (by omega)
  have e17 : ∀ k, A' 17 k = A 17 k := fun k => f1 17 k (by omega)
  have stj : a_stage A j = 0 := by unfold a_stage; rw [if_pos j19]
  have stj' : a_stage A' j = 1 := by unfold a_stage; rw [f2, if_pos rfl, if_neg (by have := G.2.2; omega), if_pos f3.symm]
  have stk : ∀ k, k ≠ j → a_stage A' k = a_stage A k := fun k hk => by
    unfold a_stage
    rw [f2, if_neg hk, f3, h5]
    by_cases q : A 19 k = -5
    · rw [if_pos q, if_pos q]
    · rw [if_neg q, if_neg q, if_neg (by omega), if_neg (by omega)]
  refine ⟨hI, hW, ⟨by rw [f5, f3], fun k hk => ?_, fun c hc => ?_⟩, Or.inr ⟨j, f3, by rw [e30]; exact hjn, ?_, ?_, ?_, ?_⟩, fun c hc => ?_, ?_, ?_, fun k hk => ?_⟩
  · rw [e30] at hk
    have y := yj k hk
    rw [f7 (100 + 7 * k + 5) (by omega), f7 (100 + 7 * k + 6) (by omega)]
    by_cases q : k = j
    · subst q
      rw [stj] at y
      rw [stj', f6, f4]
      refine ⟨rfl, ?_, ?_⟩
      · rw [y.2.1]; rfl
      · rw [y.2.2]; rfl
    · rw [f7 (100 + 7 * k + 3) (by omega), stk k q, e17, f2, if_neg q]
      refine ⟨y.1, y.2.1, ?_⟩
      rw [y.2.2]
      have : a_stage A k ≠ 1 := by
        unfold a_stage
        rw [h5]
        split
        · decide
        · rw [if_neg (by omega)]; decide
      rw [if_neg this, if_neg this]
  · rw [e20] at hc
    have y := yc c hc
    have g8 := G.2.1
    rw [f7 (20 + 10 * c + 5) (by omega), f7 (20 + 10 * c + 7) (by omega), f1 12 c (by omega), f1 11 c (by omega), f1 10 c (by omega), e30]
    refine ⟨y.1, ?_⟩
    rw [y.2]
    refine s_sum_congr fun k _ => ?_
    rw [e16]
    by_cases q : k = j
    · rw [q, stj, stj', if_neg (by omega), if_neg (by omega)]
    · rw [stk k q]
  · rw [f2, if_pos rfl]; have := G.2.2; omega
  · rw [f4]; omega
  · rw [f4, e17]; omega
  · rw [f2, if_pos rfl, f4, e17, e03]; omega
  · rw [e20] at hc
    rw [f1 15 c (by omega), e03]; exact s15 c hc
  · rw [e07]; exact s7
  · rw [e07, e03]; exact s7'
  · rw [e30] at hk
    rw [f2, e03]
    have := s19 k hk
    split <;> omega
theorem k_pre {M Mm : z_M} {i : Int} {T A : Nat → Nat → Int} {ρ : Nat → Int} {l : List Nat} (hF : e_F i A ρ l) :
    ∃ (T' A1 : Nat → Nat → Int) (ρ1 : Nat → Int) (l1 : List Nat), e_F i A1 ρ1 l1 ∧ (A1 0 5 = -5 → l1 = []) ∧ A1 0 3 = A 0 3 ∧ A1 2 0 = A 2 0 ∧ A1 3 0 = A 3 0 ∧
      z_ex 77 0 [some (.inr (some (0, 21))), none] [] (z_ur (z_ut M T) 0 A) = z_ex 77 43 [some (.inr (some (0, 21))), none] [] (z_ur (z_ut M T') 0 A1) ∧
      z_ex 137 0 [some (.inr (some (0, 30))), none, none, none, none] [] (z_mr Mm ρ) = z_ex 137 14 [some (.inr (some (0, 30))), none, none, none, none] [] (z_mr Mm ρ1) := by
  obtain ⟨hI, hW, hY, hS⟩ := id hF
  have cW := hI.2.2.2.2.1
  have y5 := hY.1
  have w5 := cW.1
  by_cases h5 : A 0 5 = -5
  · by_cases hl : l = []
    · subst hl
      have m := k_choose0 (M := Mm) hI hW
      simp only [List.length_nil, Int.natCast_zero] at w5
      refine ⟨T, A, ρ, [], hF, fun _ => rfl, rfl, rfl, rfl, ?_, ?_⟩
      · repeat' (first | (exfalso; omega) | (simp (disch := first | omega | assumption | exact z_b_01) only [x77_0, x77_1, x77_4, x77_7, x77_9, x77_12, x77_13, x77_16, x77_19, x77_22, x77_25, x77_26, x77_29, x77_30, x77_33, x77_34, x77_37, x77_40, x77_44, x77_47, x77_50, x77_51, x77_52, x77_55, x77_56, x77_59, x77_60, x77_61, x77_64, x77_65, Option.bind_some, Option.toList_some, Option.toList_none, List.cons_append, List.nil_append, Int.toNat_natCast, Int.toNat_zero, z_w_id, z_b_0, z_b_1, z_b_n0, z_b_t, z_b_f, ↓reduceIte, Int.reduceEq, Int.reduceLT, Int.reduceLE, Int.reduceToNat, not_true_eq_false, not_false_eq_true, false_and, and_false, true_and, and_true, false_or, or_false, true_or, or_true, z_ur_get, h5, w5]) | split)
        all_goals rfl
      · rw [h5] at y5
        repeat' (first | (exfalso; omega) | (simp (disch := first | omega | assumption | exact z_b_01) only [x137_0, x137_1, x137_4, x137_5, x137_6, x137_9, x137_10, x137_13, x137_15, x137_16, x137_17, x137_20, x137_21, x137_22, x137_23, x137_24, x137_27, x137_28, x137_31, x137_33, x137_34, x137_35, x137_36, x137_37, x137_38, x137_41, x137_42, x137_45, x137_46, x137_49, x137_50, x137_51, x137_52, x137_53, x137_54, x137_57, x137_58, x137_61, x137_63, x137_64, x137_65, x137_66, x137_67, x137_68, x137_69, x137_70, x137_73, x137_74, x137_77, x137_79, x137_80, x137_81, x137_82, x137_83, x137_84, x137_85, x137_86, x137_89, x137_90, x137_93, x137_94, x137_97, x137_98, x137_99, x137_100, x137_103, x137_104, x137_105, x137_106, x137_107, x137_108, x137_109, x137_110, x137_111, x137_114, x137_115, x137_118, x137_120, x137_121, x137_122, x137_125, x137_126, x137_129, x137_130, x137_133, x137_134, x137_135, x137_136, x137_137, x137_138, x137_141, x137_142, x137_145, x137_146, x137_147, x137_148, x137_151, x137_152, x137_153, x137_154, x137_155, x137_156, x137_157, x137_160, x137_161, x137_164, x137_166, x137_167, x137_168, x137_169, x137_170, x137_171, x137_172, x137_173, x137_176, x137_177, x137_179, x137_180, x137_181, x137_182, x137_183, x137_184, x137_185, x137_186, x137_189, x137_190, x137_191, x137_194, x137_195, x137_198, x137_199, x137_202, x137_203, x137_204, x137_205, x137_206, x137_209, x137_210, x137_213, x137_214, x137_215, x137_216, x137_217, x137_219, x137_220, x137_223, x137_224, x137_227, x137_228, x137_229, x137_231, x137_232, x137_235, x137_236, x137_239, x137_240, x137_241, x137_242, x137_245, x137_246, x137_249, x137_250, x137_253, x137_254, x137_255, x137_256, x137_259, x137_261, x137_262, x137_265, x137_268, x137_269, x137_272, x137_273, x137_274, x137_275, x137_276, x137_277, x137_278, x137_279, Option.bind_some, Option.toList_some, Option.toList_none, List.cons_append, List.nil_append, Int.toNat_natCast, Int.toNat_zero, z_w_id, z_b_0, z_b_1, z_b_n0, z_b_t, z_b_f, ↓reduceIte, Int.reduceEq, Int.reduceLT, Int.reduceLE, Int.reduceToNat, not_true_eq_false, not_false_eq_true, false_and, and_false, true_and, and_true, false_or, or_false, true_or, or_true, z_mr_row, y5, m]) | split)
        all_goals rfl
    · have hlen : 0 < l.length := List.length_pos_iff.mpr hl
      obtain ⟨T', B, j, A', ρ', hj, n1, b1, m1, hI', hW', hfr⟩ := k_step (s := 0) (M := M) (Mm := Mm) (T := T) hI hW hl
      refine ⟨T', A', ρ', _, e_F_step hF h5 hj hI' hW' hfr, fun q => ?_, hfr.1 0 3 (by omega), hfr.1 2 0 (by omega), hfr.1 3 0 (by omega), ?_, ?_⟩
      · rw [hfr.2.2.1] at q; omega
      · repeat' (first | (exfalso; omega) | (simp (disch := first | omega | assumption | exact z_b_01) only [x77_0, x77_1, x77_4, x77_7, x77_9, x77_12, x77_13, x77_16, x77_19, x77_22, x77_25, x77_26, x77_29, x77_30, x77_33, x77_34, x77_37, x77_40, x77_44, x77_47, x77_50, x77_51, x77_52, x77_55, x77_56, x77_59, x77_60, x77_61, x77_64, x77_65, Option.bind_some, Option.toList_some, Option.toList_none, List.cons_append, List.nil_append, Int.toNat_natCast, Int.toNat_zero, z_w_id, z_b_0, z_b_1, z_b_n0, z_b_t, z_b_f, ↓reduceIte, Int.reduceEq, Int.reduceLT, Int.reduceLE, Int.reduceToNat, not_true_eq_false, not_false_eq_true, false_and, and_false, true_and, and_true, false_or, or_false, true_or, or_true, z_ur_get, h5, w5, n1, b1]) | split)
        all_goals rfl
      · rw [h5] at y5
        repeat' (first | (exfalso; omega) | (simp (disch := first | omega | assumption | exact z_b_01) only [x137_0, x137_1, x137_4, x137_5, x137_6, x137_9, x137_10, x137_13, x137_15, x137_16, x137_17, x137_20, x137_21, x137_22, x137_23, x137_24, x137_27, x137_28, x137_31, x137_33, x137_34, x137_35, x137_36, x137_37, x137_38, x137_41, x137_42, x137_45, x137_46, x137_49, x137_50, x137_51, x137_52, x137_53, x137_54, x137_57, x137_58, x137_61, x137_63, x137_64, x137_65, x137_66, x137_67, x137_68, x137_69, x137_70, x137_73, x137_74, x137_77, x137_79, x137_80, x137_81, x137_82, x137_83, x137_84, x137_85, x137_86, x137_89, x137_90, x137_93, x137_94, x137_97, x137_98, x137_99, x137_100, x137_103, x137_104, x137_105, x137_106, x137_107, x137_108, x137_109, x137_110, x137_111, x137_114, x137_115, x137_118, x137_120, x137_121, x137_122, x137_125, x137_126, x137_129, x137_130, x137_133, x137_134, x137_135, x137_136, x137_137, x137_138, x137_141, x137_142, x137_145, x137_146, x137_147, x137_148, x137_151, x137_152, x137_153, x137_154, x137_155, x137_156, x137_157, x137_160, x137_161, x137_164, x137_166, x137_167, x137_168, x137_169, x137_170, x137_171, x137_172, x137_173, x137_176, x137_177, x137_179, x137_180, x137_181, x137_182, x137_183, x137_184, x137_185, x137_186, x137_189, x137_190, x137_191, x137_194, x137_195, x137_198, x137_199, x137_202, x137_203, x137_204, x137_205, x137_206, x137_209, x137_210, x137_213, x137_214, x137_215, x137_216, x137_217, x137_219, x137_220, x137_223, x137_224, x137_227, x137_228, x137_229, x137_231, x137_232, x137_235, x137_236, x137_239, x137_240, x137_241, x137_242, x137_245, x137_246, x137_249, x137_250, x137_253, x137_254, x137_255, x137_256, x137_259, x137_261, x137_262, x137_265, x137_268, x137_269, x137_272, x137_273, x137_274, x137_275, x137_276, x137_277, x137_278, x137_279, Option.bind_some, Option.toList_some, Option.toList_none, List.cons_append, List.nil_append, Int.toNat_natCast, Int.toNat_zero, z_w_id, z_b_0, z_b_1, z_b_n0, z_b_t, z_b_f, ↓reduceIte, Int.reduceEq, Int.reduceLT, Int.reduceLE, Int.reduceToNat, not_true_eq_false, not_false_eq_true, false_and, and_false, true_and, and_true, false_or, or_false, true_or, or_true, z_mr_row, y5, m1]) | split)
        all_goals rfl
  · obtain ⟨j, s5, -⟩ : ∃ j : Nat, A 0 5 = (j : Int) ∧ True := by
      rcases hS.1 with q | ⟨j, q, -⟩
      · exact absurd q.1 h5
      · exact ⟨j, q, trivial⟩
    refine ⟨T, A, ρ, l, hF, fun q => absurd q h5, rfl, rfl, rfl, ?_, ?_⟩
    · repeat' (first | (exfalso; omega) | (simp (disch := first | omega | assumption | exact z_b_01) only [x77_0, x77_1, x77_4, x77_7, x77_9, x77_12, x77_13, x77_16, x77_19, x77_22, x77_25, x77_26, x77_29, x77_30, x77_33, x77_34, x77_37, x77_40, x77_44, x77_47, x77_50, x77_51, x77_52, x77_55, x77_56, x77_59, x77_60, x77_61, x77_64, x77_65, Option.bind_some, Option.toList_some, Option.toList_none, List.cons_append, List.nil_append, Int.toNat_natCast, Int.toNat_zero, z_w_id, z_b_0, z_b_1, z_b_n0, z_b_t, z_b_f, ↓reduceIte, Int.reduceEq, Int.reduceLT, Int.reduceLE, Int.reduceToNat, not_true_eq_false, not_false_eq_true, false_and, and_false, true_and, and_true, false_or, or_false, true_or, or_true, z_ur_get, h5, s5]) | split)
      all_goals rfl
    · rw [s5] at y5
      repeat' (first | (exfalso; omega) | (simp (disch := first | omega | assumption | exact z_b_01) only [x137_0, x137_1, x137_4, x137_5, x137_6, x137_9, x137_10, x137_13, x137_15, x137_16, x137_17, x137_20, x137_21, x137_22, x137_23, x137_24, x137_27, x137_28, x137_31, x137_33, x137_34, x137_35, x137_36, x137_37, x137_38, x137_41, x137_42, x137_45, x137_46, x137_49, x137_50, x137_51, x137_52, x137_53, x137_54, x137_57, x137_58, x137_61, x137_63, x137_64, x137_65, x137_66, x137_67, x137_68, x137_69, x137_70, x137_73, x137_74, x137_77, x137_79, x137_80, x137_81, x137_82, x137_83, x137_84, x137_85, x137_86, x137_89, x137_90, x137_93, x137_94, x137_97, x137_98, x137_99, x137_100, x137_103, x137_104, x137_105, x137_106, x137_107, x137_108, x137_109, x137_110, x137_111, x137_114, x137_115, x137_118, x137_120, x137_121, x137_122, x137_125, x137_126, x137_129, x137_130, x137_133, x137_134, x137_135, x137_136, x137_137, x137_138, x137_141, x137_142, x137_145, x137_146, x137_147, x137_148, x137_151, x137_152, x137_153, x137_154, x137_155, x137_156, x137_157, x137_160, x137_161, x137_164, x137_166, x137_167, x137_168, x137_169, x137_170, x137_171, x137_172, x137_173, x137_176, x137_177, x137_179, x137_180, x137_181, x137_182, x137_183, x137_184, x137_185, x137_186, x137_189, x137_190, x137_191, x137_194, x137_195, x137_198, x137_199, x137_202, x137_203, x137_204, x137_205, x137_206, x137_209, x137_210, x137_213, x137_214, x137_215, x137_216, x137_217, x137_219, x137_220, x137_223, x137_224, x137_227, x137_228, x137_229, x137_231, x137_232, x137_235, x137_236, x137_239, x137_240, x137_241, x137_242, x137_245, x137_246, x137_249, x137_250, x137_253, x137_254, x137_255, x137_256, x137_259, x137_261, x137_262, x137_265, x137_268, x137_269, x137_272, x137_273, x137_274, x137_275, x137_276, x137_277, x137_278, x137_279, Option.bind_some, Option.toList_some, Option.toList_none, List.cons_append, List.nil_append, Int.toNat_natCast, Int.toNat_zero, z_w_id, z_b_0, z_b_1, z_b_n0, z_b_t, z_b_f, ↓reduceIte, Int.reduceEq, Int.reduceLT, Int.reduceLE, Int.reduceToNat, not_true_eq_false, not_false_eq_true, false_and, and_false, true_and, and_true, false_or, or_false, true_or, or_true, z_mr_row, y5]) | split)
      all_goals rfl
