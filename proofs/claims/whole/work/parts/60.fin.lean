/-! a tick's end -/
theorem k_fin {Mm : z_M} {i x : Int} {A : Nat → Nat → Int} {ρ : Nat → Int} {l : List Nat} {l2 l3 : Option z_V} (hi : 0 ≤ i) (hI : e_I A l) (hW : e_W A ρ) (hY : e_Y i A ρ) (hS : e_Sv (a_u A 0 3 (A 0 3 + 1))) (ht : A 0 3 ≤ 29000) :
    ∃ ρ1 : Nat → Int, e_F (i + 1) (a_u A 0 3 (A 0 3 + 1)) ρ1 l ∧ z_ex 137 182 [some (.inr (some (0, 30))), some (.inl x), l2, l3, none] [] (z_mr Mm ρ) = some (some (.inl x), z_mr Mm ρ1) := by
  obtain ⟨y5, yj, yc⟩ := hY
  have hG := hI.1
  have hC := hI.2.2.1
  have g2 := hG.2.1
  have g1 := hG.1
  have w2 := hW.1.2.2.1
  have w0 := hW.1.1
  have hb : ∀ c : Nat, (c : Int) < A 2 0 → (0 ≤ ρ (20 + 10 * c + 5) ∧ ρ (20 + 10 * c + 5) ≤ A 10 c) ∧ ρ (20 + 10 * c + 4) = A 11 c ∧ ρ (20 + 10 * c + 3) = A 10 c := fun c hc => by
    have a := hC c hc
    have w := hW.2.2.1 c hc
    exact ⟨e_tok_b a.2.2.2.2.2.1 a.2.2.2.2.1.1 hi (yc c hc).1, w.1.2.2.2.2, w.1.2.2.2.1⟩
  have tl := k_tok_loop (M := Mm) (ρ := ρ) (l2 := l2) (x := x) (by omega) (by have := hG.2.2; omega) (fun c hc => by
    rw [w2] at hc
    have b := hb c hc
    have a := hC c hc
    omega) (ρ 2).toNat 0 none (by omega)
  have mt0 : m_tok ρ 0 = ρ := by funext k; exact m_tok_o (by omega)
  rw [mt0, w0, Nat.zero_add, Int.natCast_zero, w2] at tl
  have hW2 : e_W A (m_tok ρ (A 2 0).toNat) := e_W_congrR g1.2 g2.2 hW fun k a b d => m_tok_o (by omega)
  have hW3 := e_W_u (o := 0) (i := 3) (v := A 0 3 + 1) g1.2 g2.2 hW2 (Or.inl ⟨rfl, Or.inl rfl⟩) (by omega)
  have hI2 := e_I_time hI (t := A 0 3 + 1) (by omega) (by omega)
  have eo : ∀ o k, o ≠ 0 → a_u A 0 3 (A 0 3 + 1) o k = A o k := fun o k q => a_u_o q
  have e0 : ∀ k, k ≠ 3 → a_u A 0 3 (A 0 3 + 1) 0 k = A 0 k := fun k a => a_u_j a
  have er : ∀ k, k ≠ 0 → ¬ (20 ≤ k ∧ k < 100 ∧ k % 10 = 5) → r_u (m_tok ρ (A 2 0).toNat) 0 (A 0 3 + 1) k = ρ k := fun k a d => by rw [r_u_ne a, m_tok_o (by omega)]
  have et : ∀ c : Nat, (c : Int) < A 2 0 → r_u (m_tok ρ (A 2 0).toNat) 0 (A 0 3 + 1) (20 + 10 * c + 5) = if ρ (20 + 10 * c + 5) + A 11 c ≤ A 10 c then ρ (20 + 10 * c + 5) + A 11 c else A 10 c := fun c hc => by
    have b := hb c hc
    rw [r_u_ne (by omega), m_tok_at (by omega), b.2.1, b.2.2]
  have hA : ∀ k, a_stage (a_u A 0 3 (A 0 3 + 1)) k = a_stage A k := fun k => by unfold a_stage; rw [eo 19 k (by decide), e0 5 (by decide)]
  refine ⟨r_u (m_tok ρ (A 2 0).toNat) 0 (A 0 3 + 1), ⟨hI2, hW3, ⟨?_, fun j hj => ?_, fun c hc => ?_⟩, hS⟩, ?_⟩
  · rw [er 5 (by decide) (by omega), e0 5 (by decide)]; exact y5
  · rw [eo 3 0 (by decide)] at hj
    rw [er _ (by omega) (by omega), er _ (by omega) (by omega), er _ (by omega) (by omega), hA, eo 19 j (by decide), eo 17 j (by decide), e0 6 (by decide)]
    exact yj j hj
  · rw [eo 2 0 (by decide)] at hc
    rw [et c hc, er (20 + 10 * c + 7) (by omega) (by omega), eo 12 c (by decide), eo 11 c (by decide), eo 10 c (by decide), eo 3 0 (by decide)]
    refine ⟨e_tok (hC c hc).2.2.2.2.1.1 (yc c hc).1, ?_⟩
    rw [(yc c hc).2]
    refine s_sum_congr fun k _ => ?_
    rw [hA, eo 16 k (by decide)]
  · repeat' (first | (exfalso; omega) | (simp (disch := first | omega | assumption | exact z_b_01) only [x137_0, x137_1, x137_4, x137_5, x137_6, x137_9, x137_10, x137_13, x137_14, x137_15, x137_16, x137_17, x137_20, x137_21, x137_22, x137_23, x137_24, x137_27, x137_28, x137_31, x137_33, x137_34, x137_35, x137_36, x137_37, x137_38, x137_41, x137_42, x137_45, x137_46, x137_49, x137_50, x137_51, x137_52, x137_53, x137_54, x137_57, x137_58, x137_61, x137_63, x137_64, x137_65, x137_66, x137_67, x137_68, x137_69, x137_70, x137_73, x137_74, x137_77, x137_79, x137_80, x137_81, x137_82, x137_83, x137_84, x137_85, x137_86, x137_89, x137_90, x137_93, x137_94, x137_97, x137_98, x137_99, x137_100, x137_103, x137_104, x137_105, x137_106, x137_107, x137_108, x137_109, x137_110, x137_111, x137_114, x137_115, x137_118, x137_120, x137_121, x137_122, x137_125, x137_126, x137_129, x137_130, x137_133, x137_134, x137_135, x137_136, x137_137, x137_138, x137_141, x137_142, x137_145, x137_146, x137_147, x137_148, x137_151, x137_152, x137_153, x137_154, x137_155, x137_156, x137_157, x137_160, x137_161, x137_164, x137_166, x137_167, x137_168, x137_169, x137_170, x137_171, x137_172, x137_173, x137_176, x137_177, x137_179, x137_180, x137_181, x137_182, x137_183, x137_185, x137_186, x137_189, x137_190, x137_191, x137_194, x137_195, x137_198, x137_199, x137_202, x137_203, x137_204, x137_205, x137_206, x137_209, x137_210, x137_213, x137_214, x137_215, x137_216, x137_217, x137_219, x137_220, x137_223, x137_224, x137_227, x137_228, x137_229, x137_231, x137_232, x137_235, x137_236, x137_239, x137_240, x137_241, x137_242, x137_245, x137_246, x137_249, x137_250, x137_253, x137_254, x137_255, x137_256, x137_259, x137_261, x137_262, x137_265, x137_268, x137_269, x137_272, x137_273, x137_274, x137_275, x137_276, x137_277, x137_278, x137_279, Option.bind_some, Option.toList_some, Option.toList_none, List.cons_append, List.nil_append, Int.toNat_natCast, Int.toNat_zero, z_w_id, z_b_0, z_b_1, z_b_n0, z_b_t, z_b_f, ↓reduceIte, Int.reduceEq, Int.reduceLT, Int.reduceLE, Int.reduceToNat, not_true_eq_false, not_false_eq_true, false_and, and_false, true_and, and_true, false_or, or_false, true_or, or_true]) | split)
    exact tl
/-- the model's part of a tick in which a job is served -/
theorem k_mserve {M : z_M} {ρ : Nat → Int} {j c g : Nat} (hj : j < 200) (hc : c < 8) (hg : g < 3) (h5 : ρ 5 = (j : Int)) (h1 : ρ (100 + 7 * j) = (c : Int)) (h2 : ρ (20 + 10 * c) = (g : Int)) (hx : 1 ≤ ρ (100 + 7 * j + 6) ∧ ρ (100 + 7 * j + 6) ≤ 99) (hu : 0 ≤ ρ (20 + 10 * c + 9) ∧ ρ (20 + 10 * c + 9) ≤ 30000) (hv : 0 ≤ ρ (8 + 4 * g + 3) ∧ ρ (8 + 4 * g + 3) ≤ 300000) (hd : 0 ≤ ρ (20 + 10 * c + 7) ∧ ρ (20 + 10 * c + 7) ≤ 200) (h0 : 0 ≤ ρ 0 ∧ ρ 0 ≤ 30000) :
    z_ex 137 14 [some (.inr (some (0, 30))), none, none, none, none] [] (z_mr M ρ) = z_ex 137 182 [some (.inr (some (0, 30))), some (.inl (if 1 < ρ (100 + 7 * j + 6) then 0 else 1)), some (.inl (j : Int)), some (.inl (c : Int)), none] []
      (z_mr M (if 1 < ρ (100 + 7 * j + 6) then r_u (r_u (r_u ρ (100 + 7 * j + 6) (ρ (100 + 7 * j + 6) - 1)) (20 + 10 * c + 9) (ρ (20 + 10 * c + 9) + 1)) (8 + 4 * g + 3) (ρ (8 + 4 * g + 3) + 1)
        else r_u (r_u (r_u (r_u (r_u (r_u (r_u ρ (100 + 7 * j + 6) (ρ (100 + 7 * j + 6) - 1)) (20 + 10 * c + 9) (ρ (20 + 10 * c + 9) + 1)) (8 + 4 * g + 3) (ρ (8 + 4 * g + 3) + 1)) (100 + 7 * j + 3) 2) (100 + 7 * j + 5) (ρ 0 + 1)) (20 + 10 * c + 7) (ρ (20 + 10 * c + 7) + 1)) 5 (-5))) := by
  have k1 := fun M => k_its (j := j) (by omega) M
  have k2 := fun M => k_kind (j := c) (by omega) M
  have k3 := fun M => k_party (j := g) (by omega) M
  have n9 : r_u ρ (100 + 7 * j + 6) (ρ (100 + 7 * j + 6) - 1) (20 + 10 * c + 9) = ρ (20 + 10 * c + 9) := r_u_ne (by omega)
  have n20 : r_u (r_u ρ (100 + 7 * j + 6) (ρ (100 + 7 * j + 6) - 1)) (20 + 10 * c + 9) (ρ (20 + 10 * c + 9) + 1) (20 + 10 * c) = (g : Int) := by rw [r_u_ne (by omega), r_u_ne (by omega)]; exact h2
  have n3 : r_u (r_u ρ (100 + 7 * j + 6) (ρ (100 + 7 * j + 6) - 1)) (20 + 10 * c + 9) (ρ (20 + 10 * c + 9) + 1) (8 + 4 * g + 3) = ρ (8 + 4 * g + 3) := by rw [r_u_ne (by omega), r_u_ne (by omega)]
  have n6 : r_u (r_u (r_u ρ (100 + 7 * j + 6) (ρ (100 + 7 * j + 6) - 1)) (20 + 10 * c + 9) (ρ (20 + 10 * c + 9) + 1)) (8 + 4 * g + 3) (ρ (8 + 4 * g + 3) + 1) (100 + 7 * j + 6) = ρ (100 + 7 * j + 6) - 1 := by rw [r_u_ne (by omega), r_u_ne (by omega), r_u_same]
  generalize hr3 : r_u (r_u (r_u ρ (100 + 7 * j + 6) (ρ (100 + 7 * j + 6) - 1)) (20 + 10 * c + 9) (ρ (20 + 10 * c + 9) + 1)) (8 + 4 * g + 3) (ρ (8 + 4 * g + 3) + 1) = r3 at n6 ⊢
  have n0 : r_u r3 (100 + 7 * j + 3) 2 0 = ρ 0 := by rw [← hr3, r_u_ne (by omega), r_u_ne (by omega), r_u_ne (by omega), r_u_ne (by omega)]
  have n7 : r_u (r_u r3 (100 + 7 * j + 3) 2) (100 + 7 * j + 5) (ρ 0 + 1) (20 + 10 * c + 7) = ρ (20 + 10 * c + 7) := by rw [← hr3, r_u_ne (by omega), r_u_ne (by omega), r_u_ne (by omega), r_u_ne (by omega), r_u_ne (by omega)]
  rw [x137_14]
  by_cases q : 1 < ρ (100 + 7 * j + 6)
  · rw [if_pos q, if_pos q]
    repeat' (first | (exfalso; omega) | (simp (disch := first | omega | assumption | exact z_b_01) only [x137_0, x137_1, x137_4, x137_5, x137_6, x137_9, x137_10, x137_13, x137_15, x137_16, x137_17, x137_20, x137_21, x137_22, x137_23, x137_24, x137_27, x137_28, x137_31, x137_33, x137_34, x137_35, x137_36, x137_37, x137_38, x137_41, x137_42, x137_45, x137_46, x137_49, x137_50, x137_51, x137_52, x137_53, x137_54, x137_57, x137_58, x137_61, x137_63, x137_64, x137_65, x137_66, x137_67, x137_68, x137_69, x137_70, x137_73, x137_74, x137_77, x137_79, x137_80, x137_81, x137_82, x137_83, x137_84, x137_85, x137_86, x137_89, x137_90, x137_93, x137_94, x137_97, x137_98, x137_99, x137_100, x137_103, x137_104, x137_105, x137_106, x137_107, x137_108, x137_109, x137_110, x137_111, x137_114, x137_115, x137_118, x137_120, x137_121, x137_122, x137_125, x137_126, x137_129, x137_130, x137_133, x137_134, x137_135, x137_136, x137_137, x137_138, x137_141, x137_142, x137_145, x137_146, x137_147, x137_148, x137_151, x137_152, x137_153, x137_154, x137_155, x137_156, x137_157, x137_160, x137_161, x137_164, x137_166, x137_167, x137_168, x137_169, x137_170, x137_171, x137_172, x137_173, x137_176, x137_177, x137_179, x137_180, x137_181, x137_183, x137_184, x137_185, x137_186, x137_189, x137_190, x137_191, x137_194, x137_195, x137_198, x137_199, x137_202, x137_203, x137_204, x137_205, x137_206, x137_209, x137_210, x137_213, x137_214, x137_215, x137_216, x137_217, x137_219, x137_220, x137_223, x137_224, x137_227, x137_228, x137_229, x137_231, x137_232, x137_235, x137_236, x137_239, x137_240, x137_241, x137_242, x137_245, x137_246, x137_249, x137_250, x137_253, x137_254, x137_255, x137_256, x137_259, x137_261, x137_262, x137_265, x137_268, x137_269, x137_272, x137_273, x137_274, x137_275, x137_276, x137_277, x137_278, x137_279, Option.bind_some, Option.toList_some, Option.toList_none, List.cons_append, List.nil_append, Int.toNat_natCast, Int.toNat_zero, z_w_id, z_b_0, z_b_1, z_b_n0, z_b_t, z_b_f, ↓reduceIte, Int.reduceEq, Int.reduceLT, Int.reduceLE, Int.reduceToNat, not_true_eq_false, not_false_eq_true, false_and, and_false, true_and, and_true, false_or, or_false, true_or, or_true, z_mr_row, z_up_mr, h5, h1, k1, k2, k3, ix_9, ix_3, ix_6, ix_5, ix_7, Int.add_zero, n9, n20, n3, hr3, n6]) | split)
    all_goals rfl
  · rw [if_neg q, if_neg q]
    have q1 : ρ (100 + 7 * j + 6) - 1 = 0 := by omega
    rw [q1] at n6
    repeat' (first | (exfalso; omega) | (simp (disch := first | omega | assumption | exact z_b_01) only [x137_0, x137_1, x137_4, x137_5, x137_6, x137_9, x137_10, x137_13, x137_15, x137_16, x137_17, x137_20, x137_21, x137_22, x137_23, x137_24, x137_27, x137_28, x137_31, x137_33, x137_34, x137_35, x137_36, x137_37, x137_38, x137_41, x137_42, x137_45, x137_46, x137_49, x137_50, x137_51, x137_52, x137_53, x137_54, x137_57, x137_58, x137_61, x137_63, x137_64, x137_65, x137_66, x137_67, x137_68, x137_69, x137_70, x137_73, x137_74, x137_77, x137_79, x137_80, x137_81, x137_82, x137_83, x137_84, x137_85, x137_86, x137_89, x137_90, x137_93, x137_94, x137_97, x137_98, x137_99, x137_100, x137_103, x137_104, x137_105, x137_106, x137_107, x137_108, x137_109, x137_110, x137_111, x137_114, x137_115, x137_118, x137_120, x137_121, x137_122, x137_125, x137_126, x137_129, x137_130, x137_133, x137_134, x137_135, x137_136, x137_137, x137_138, x137_141, x137_142, x137_145, x137_146, x137_147, x137_148, x137_151, x137_152, x137_153, x137_154, x137_155, x137_156, x137_157, x137_160, x137_161, x137_164, x137_166, x137_167, x137_168, x137_169, x137_170, x137_171, x137_172, x137_173, x137_176, x137_177, x137_179, x137_180, x137_181, x137_183, x137_184, x137_185, x137_186, x137_189, x137_190, x137_191, x137_194, x137_195, x137_198, x137_199, x137_202, x137_203, x137_204, x137_205, x137_206, x137_209, x137_210, x137_213, x137_214, x137_215, x137_216, x137_217, x137_219, x137_220, x137_223, x137_224, x137_227, x137_228, x137_229, x137_231, x137_232, x137_235, x137_236, x137_239, x137_240, x137_241, x137_242, x137_245, x137_246, x137_249, x137_250, x137_253, x137_254, x137_255, x137_256, x137_259, x137_261, x137_262, x137_265, x137_268, x137_269, x137_272, x137_273, x137_274, x137_275, x137_276, x137_277, x137_278, x137_279, Option.bind_some, Option.toList_some, Option.toList_none, List.cons_append, List.nil_append, Int.toNat_natCast, Int.toNat_zero, z_w_id, z_b_0, z_b_1, z_b_n0, z_b_t, z_b_f, ↓reduceIte, Int.reduceEq, Int.reduceLT, Int.reduceLE, Int.reduceToNat, not_true_eq_false, not_false_eq_true, false_and, and_false, true_and, and_true, false_or, or_false, true_or, or_true, z_mr_row, z_up_mr, h5, h1, k1, k2, k3, ix_9, ix_3, ix_6, ix_5, ix_7, Int.add_zero, n9, n20, n3, hr3, n6, n0, n7]) | split)
    all_goals rfl
