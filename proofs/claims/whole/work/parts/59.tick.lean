/-! a tick's second half -/
theorem e_I_o {A A' : Nat → Nat → Int} {l : List Nat} (hI : e_I A l) (h : ∀ o i, o ≠ 15 → o ≠ 12 → ¬ (o = 0 ∧ (i = 5 ∨ i = 6 ∨ i = 7)) → A' o i = A o i) (h15 : ∀ c : Nat, (c : Int) < A 2 0 → 0 ≤ A' 15 c ∧ A' 15 c ≤ 30000) (h12 : ∀ c : Nat, (c : Int) < A 2 0 → 0 ≤ A' 12 c ∧ A' 12 c ≤ A 10 c) : e_I A' l := by
  obtain ⟨iG, iJ, iC, iK, cW, iD, el, c9, c5, c08, c08'⟩ := id hI
  have e' : ∀ o i, o ≠ 0 → o ≠ 12 → o ≠ 15 → A' o i = A o i := fun o i a b d => h o i d b (by omega)
  have h03 : A' 0 3 = A 0 3 := h 0 3 (by decide) (by decide) (by omega)
  have h04 : A' 0 4 = A 0 4 := h 0 4 (by decide) (by decide) (by omega)
  have h08 : A' 0 8 = A 0 8 := h 0 8 (by decide) (by decide) (by omega)
  have b10 := e' 1 0 (by decide) (by decide) (by decide)
  have b20 := e' 2 0 (by decide) (by decide) (by decide)
  have b30 := e' 3 0 (by decide) (by decide) (by decide)
  refine ⟨i_G_congr iG b10 b20 h03, i_J_congr iJ b30 b20 h03 (e' 16 · (by decide) (by decide) (by decide)) (e' 17 · (by decide) (by decide) (by decide)) (e' 18 · (by decide) (by decide) (by decide)) (fun j q => by rw [e' 19 j (by decide) (by decide) (by decide)]; exact (iJ j q).2.2.2), fun c q => ?_, ?_, c_WL_congr cW (e' 20 · (by decide) (by decide) (by decide)) (e' 3 5 (by decide) (by decide) (by decide)) b30, ?_, ?_, ?_, ?_, by rw [h08]; exact c08, by rw [h08, b30]; exact c08'⟩
  · rw [b20] at q
    have a := iC c q
    have b := h15 c q
    have d := h12 c q
    rw [b10, e' 7 c (by decide) (by decide) (by decide), e' 8 c (by decide) (by decide) (by decide), e' 9 c (by decide) (by decide) (by decide), e' 10 c (by decide) (by decide) (by decide), e' 11 c (by decide) (by decide) (by decide), e' 13 c (by decide) (by decide) (by decide), e' 14 c (by decide) (by decide) (by decide)]
    exact ⟨a.1, a.2.1, a.2.2.1, a.2.2.2.1, a.2.2.2.2.1, d, a.2.2.2.2.2.2.1, a.2.2.2.2.2.2.2.1, b⟩
  · unfold i_K at iK ⊢
    simp (disch := omega) only [e']
    exact iK
  · unfold i_D a_gr at iD ⊢
    rw [h04]
    simp (disch := omega) only [e']
    exact iD
  · rw [el]
    unfold e_l
    rw [b30]
    refine List.filter_congr fun j _ => ?_
    rw [e' 19 j (by decide) (by decide) (by decide)]
  · simp (disch := omega) only [e']; exact c9
  · simp (disch := omega) only [e']; exact c5
theorem e_tok {x f b i y : Int} (hf : 0 ≤ f) (hy : y = if x + f * i < b then x + f * i else b) : (if y + f ≤ b then y + f else b) = if x + f * (i + 1) < b then x + f * (i + 1) else b := by
  have e : f * (i + 1) = f * i + f := by rw [Int.mul_add, Int.mul_one]
  rw [e]
  generalize f * i = P at *
  split at hy <;> (repeat' split) <;> omega
theorem e_tok_b {x f b i y : Int} (hx : 0 ≤ x ∧ x ≤ b) (hf : 0 ≤ f) (hi : 0 ≤ i) (hy : y = if x + f * i < b then x + f * i else b) : 0 ≤ y ∧ y ≤ b := by
  have := Int.mul_nonneg hf hi
  generalize f * i = P at *
  split at hy <;> omega
/-- a tick in which nobody is in service -/
theorem k_tick0 {M Mm : z_M} {i : Int} {A : Nat → Nat → Int} {ρ : Nat → Int} {l : List Nat} (hi : 0 ≤ i) (hF : e_F i A ρ l) (h5 : A 0 5 = -5) (ht : A 0 3 ≤ 29000) :
    ∃ (A1 : Nat → Nat → Int) (ρ1 : Nat → Int), e_F (i + 1) A1 ρ1 l ∧ A1 0 3 = A 0 3 + 1 ∧ A1 2 0 = A 2 0 ∧
      z_ex 77 43 [some (.inr (some (0, 21))), none] [] (z_ur M 0 A) = some (some (.inl 0), z_ur M 0 A1) ∧
      z_ex 137 14 [some (.inr (some (0, 30))), none, none, none, none] [] (z_mr Mm ρ) = some (some (.inl 0), z_mr Mm ρ1) := by
  obtain ⟨hI, hW, ⟨y5, yj, yc⟩, s0, s15, s7, s7', s19⟩ := hF
  have hG := hI.1
  have hC := hI.2.2.1
  have g2 := hG.2.1
  have g1 := hG.1
  have k1 := k_serveIdle (s := 0) (M := M) h5 (by omega)
  have w2 := hW.1.2.2.1
  have w0 := hW.1.1
  have w6 := hW.1.2.2.2.2.2.1
  have n2 : r_u ρ 6 (A 0 7 + 1) 2 = ρ 2 := r_u_ne (by omega)
  have n0 : r_u ρ 6 (A 0 7 + 1) 0 = ρ 0 := r_u_ne (by omega)
  have hb : ∀ c : Nat, (c : Int) < A 2 0 → (0 ≤ ρ (20 + 10 * c + 5) ∧ ρ (20 + 10 * c + 5) ≤ A 10 c) ∧ ρ (20 + 10 * c + 4) = A 11 c ∧ ρ (20 + 10 * c + 3) = A 10 c := fun c hc => by
    have a := hC c hc
    have w := hW.2.2.1 c hc
    exact ⟨e_tok_b a.2.2.2.2.2.1 a.2.2.2.2.1.1 hi (yc c hc).1, w.1.2.2.2.2, w.1.2.2.2.1⟩
  have tl := k_tok_loop (M := Mm) (ρ := r_u ρ 6 (A 0 7 + 1)) (l2 := some (.inl (-5))) (x := 0) (by omega) (by rw [n0]; have := hG.2.2; omega) (fun c hc => by
    rw [n2, w2] at hc
    have b := hb c hc
    have a := hC c hc
    rw [r_u_ne (by omega), r_u_ne (by omega)]
    omega) (ρ 2).toNat 0 none (by rw [n2]; omega)
  have mt0 : m_tok (r_u ρ 6 (A 0 7 + 1)) 0 = r_u ρ 6 (A 0 7 + 1) := by funext k; exact m_tok_o (by omega)
  rw [mt0, n0, w0, Nat.zero_add, Int.natCast_zero, w2] at tl
  have hW1 : e_W (a_u A 0 7 (A 0 7 + 1)) (r_u ρ 6 (A 0 7 + 1)) := e_W_u g1.2 g2.2 hW (o := 0) (i := 7) (Or.inl ⟨rfl, by omega⟩) (by omega)
  have hW2 : e_W (a_u A 0 7 (A 0 7 + 1)) (m_tok (r_u ρ 6 (A 0 7 + 1)) (A 2 0).toNat) := e_W_congrR (by rw [a_u_o (by decide)]; exact g1.2) (by rw [a_u_o (by decide)]; exact g2.2) hW1 fun k a b d => m_tok_o (by omega)
  have hW3 := e_W_u (o := 0) (i := 3) (v := A 0 3 + 1) (by rw [a_u_o (by decide)]; exact g1.2) (by rw [a_u_o (by decide)]; exact g2.2) hW2 (Or.inl ⟨rfl, Or.inl rfl⟩) (by omega)
  have hI1 : e_I (a_u A 0 7 (A 0 7 + 1)) l := e_I_o hI (fun o k a b d => a_u_ne (by omega)) (fun c hc => by rw [a_u_o (by decide)]; exact (hC c hc).2.2.2.2.2.2.2.2) (fun c hc => by rw [a_u_o (by decide)]; exact (hC c hc).2.2.2.2.2.1)
  have hI2 := e_I_time hI1 (t := A 0 3 + 1) (by rw [a_u_ne (by omega)]; omega) (by omega)
  have eo : ∀ o k, o ≠ 0 → a_u (a_u A 0 7 (A 0 7 + 1)) 0 3 (A 0 3 + 1) o k = A o k := fun o k q => by rw [a_u_o q, a_u_o q]
  have e0 : ∀ k, k ≠ 3 → k ≠ 7 → a_u (a_u A 0 7 (A 0 7 + 1)) 0 3 (A 0 3 + 1) 0 k = A 0 k := fun k a b => by rw [a_u_j a, a_u_j b]
  have e07 : a_u (a_u A 0 7 (A 0 7 + 1)) 0 3 (A 0 3 + 1) 0 7 = A 0 7 + 1 := by rw [a_u_j (by decide), a_u_same]
  have e03 : a_u (a_u A 0 7 (A 0 7 + 1)) 0 3 (A 0 3 + 1) 0 3 = A 0 3 + 1 := a_u_same _ _ _ _
  have er : ∀ k, k ≠ 0 → k ≠ 6 → ¬ (20 ≤ k ∧ k < 100 ∧ k % 10 = 5) → r_u (m_tok (r_u ρ 6 (A 0 7 + 1)) (A 2 0).toNat) 0 (A 0 3 + 1) k = ρ k := fun k a b d => by rw [r_u_ne a, m_tok_o (by omega), r_u_ne b]
  have et : ∀ c : Nat, (c : Int) < A 2 0 → r_u (m_tok (r_u ρ 6 (A 0 7 + 1)) (A 2 0).toNat) 0 (A 0 3 + 1) (20 + 10 * c + 5) = if ρ (20 + 10 * c + 5) + A 11 c ≤ A 10 c then ρ (20 + 10 * c + 5) + A 11 c else A 10 c := fun c hc => by
    have b := hb c hc
    rw [r_u_ne (by omega), m_tok_at (by omega), r_u_ne (by omega), r_u_ne (by omega), r_u_ne (by omega), b.2.1, b.2.2]
  have hA : ∀ k, a_stage (a_u (a_u A 0 7 (A 0 7 + 1)) 0 3 (A 0 3 + 1)) k = a_stage A k := fun k => by unfold a_stage; rw [eo 19 k (by decide), e0 5 (by decide) (by decide)]
  refine ⟨a_u (a_u A 0 7 (A 0 7 + 1)) 0 3 (A 0 3 + 1), r_u (m_tok (r_u ρ 6 (A 0 7 + 1)) (A 2 0).toNat) 0 (A 0 3 + 1), ⟨hI2, hW3, ⟨?_, fun j hj => ?_, fun c hc => ?_⟩, Or.inl ⟨?_, ?_⟩, fun c hc => ?_, ?_, ?_, fun j hj => ?_⟩, e03, eo 2 0 (by decide), ?_, ?_⟩
  · rw [er 5 (by decide) (by decide) (by omega), e0 5 (by decide) (by decide)]; exact y5
  · rw [eo 3 0 (by decide)] at hj
    rw [er _ (by omega) (by omega) (by omega), er _ (by omega) (by omega) (by omega), er _ (by omega) (by omega) (by omega), hA, eo 19 j (by decide), eo 17 j (by decide), e0 6 (by decide) (by decide)]
    exact yj j hj
  · rw [eo 2 0 (by decide)] at hc
    rw [et c hc, er (20 + 10 * c + 7) (by omega) (by omega) (by omega), eo 12 c (by decide), eo 11 c (by decide), eo 10 c (by decide), eo 3 0 (by decide)]
    refine ⟨e_tok (hC c hc).2.2.2.2.1.1 (yc c hc).1, ?_⟩
    rw [(yc c hc).2]
    refine s_sum_congr fun k _ => ?_
    rw [hA, eo 16 k (by decide)]
  · rw [e0 5 (by decide) (by decide)]; exact h5
  · rw [e0 6 (by decide) (by decide)]
    rcases s0 with q | ⟨j, q, -⟩
    · exact q.2
    · omega
  · rw [eo 2 0 (by decide)] at hc
    rw [eo 15 c (by decide), e03]
    have := s15 c hc
    omega
  · rw [e07]; omega
  · rw [e07, e03]; omega
  · rw [eo 3 0 (by decide)] at hj
    rw [eo 19 j (by decide), e03]
    have := s19 j hj
    omega
  · have q0 := hG.2.2
    have z3 : a_u A 0 7 (A 0 7 + 1) 0 3 = A 0 3 := a_u_j (by decide)
    rw [x77_43]
    repeat' (first | (exfalso; omega) | (simp (disch := first | omega | assumption | exact z_b_01) only [x77_0, x77_1, x77_4, x77_7, x77_9, x77_12, x77_13, x77_16, x77_19, x77_22, x77_25, x77_26, x77_29, x77_30, x77_33, x77_34, x77_37, x77_40, x77_44, x77_47, x77_50, x77_51, x77_52, x77_55, x77_56, x77_59, x77_60, x77_61, x77_64, x77_65, Option.bind_some, Option.toList_some, Option.toList_none, List.cons_append, List.nil_append, Int.toNat_natCast, Int.toNat_zero, z_w_id, z_b_0, z_b_1, z_b_n0, z_b_t, z_b_f, ↓reduceIte, Int.reduceEq, Int.reduceLT, Int.reduceLE, Int.reduceToNat, not_true_eq_false, not_false_eq_true, false_and, and_false, true_and, and_true, false_or, or_false, true_or, or_true, k1, z_ur_get, z_up_ur, z3]) | split)
    all_goals rfl
  · rw [h5] at y5
    rw [x137_14]
    repeat' (first | (exfalso; omega) | (simp (disch := first | omega | assumption | exact z_b_01) only [x137_0, x137_1, x137_4, x137_5, x137_6, x137_9, x137_10, x137_13, x137_15, x137_16, x137_17, x137_20, x137_21, x137_22, x137_23, x137_24, x137_27, x137_28, x137_31, x137_33, x137_34, x137_35, x137_36, x137_37, x137_38, x137_41, x137_42, x137_45, x137_46, x137_49, x137_50, x137_51, x137_52, x137_53, x137_54, x137_57, x137_58, x137_61, x137_63, x137_64, x137_65, x137_66, x137_67, x137_68, x137_69, x137_70, x137_73, x137_74, x137_77, x137_79, x137_80, x137_81, x137_82, x137_83, x137_84, x137_85, x137_86, x137_89, x137_90, x137_93, x137_94, x137_97, x137_98, x137_99, x137_100, x137_103, x137_104, x137_105, x137_106, x137_107, x137_108, x137_109, x137_110, x137_111, x137_114, x137_115, x137_118, x137_120, x137_121, x137_122, x137_125, x137_126, x137_129, x137_130, x137_133, x137_134, x137_135, x137_136, x137_137, x137_138, x137_141, x137_142, x137_145, x137_146, x137_147, x137_148, x137_151, x137_152, x137_153, x137_154, x137_155, x137_156, x137_157, x137_160, x137_161, x137_164, x137_166, x137_167, x137_168, x137_169, x137_170, x137_171, x137_172, x137_173, x137_176, x137_177, x137_179, x137_180, x137_181, x137_182, x137_183, x137_185, x137_186, x137_189, x137_190, x137_191, x137_194, x137_195, x137_198, x137_199, x137_202, x137_203, x137_204, x137_205, x137_206, x137_209, x137_210, x137_213, x137_214, x137_215, x137_216, x137_217, x137_219, x137_220, x137_223, x137_224, x137_227, x137_228, x137_229, x137_231, x137_232, x137_235, x137_236, x137_239, x137_240, x137_241, x137_242, x137_245, x137_246, x137_249, x137_250, x137_253, x137_254, x137_255, x137_256, x137_259, x137_261, x137_262, x137_265, x137_268, x137_269, x137_272, x137_273, x137_274, x137_275, x137_276, x137_277, x137_278, x137_279, Option.bind_some, Option.toList_some, Option.toList_none, List.cons_append, List.nil_append, Int.toNat_natCast, Int.toNat_zero, z_w_id, z_b_0, z_b_1, z_b_n0, z_b_t, z_b_f, ↓reduceIte, Int.reduceEq, Int.reduceLT, Int.reduceLE, Int.reduceToNat, not_true_eq_false, not_false_eq_true, false_and, and_false, true_and, and_true, false_or, or_false, true_or, or_true, z_mr_row, z_up_mr, y5, w6]) | split)
    exact tl
