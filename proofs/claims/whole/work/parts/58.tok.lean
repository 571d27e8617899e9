/-! a tick: tokens and units -/
def m_tok (ρ : Nat → Int) (k : Nat) : Nat → Int := fun i => if 20 ≤ i ∧ i < 20 + 10 * k ∧ i % 10 = 5 then (if ρ i + ρ (i - 1) ≤ ρ (i - 2) then ρ i + ρ (i - 1) else ρ (i - 2)) else ρ i
theorem m_tok_o {ρ : Nat → Int} {k i : Nat} (h : ¬ (20 ≤ i ∧ i < 20 + 10 * k ∧ i % 10 = 5)) : m_tok ρ k i = ρ i := by unfold m_tok; rw [if_neg h]
theorem m_tok_at {ρ : Nat → Int} {k c : Nat} (h : c < k) : m_tok ρ k (20 + 10 * c + 5) = if ρ (20 + 10 * c + 5) + ρ (20 + 10 * c + 4) ≤ ρ (20 + 10 * c + 3) then ρ (20 + 10 * c + 5) + ρ (20 + 10 * c + 4) else ρ (20 + 10 * c + 3) := by
  unfold m_tok
  rw [if_pos (by omega)]
  rfl
theorem m_tok_succ (ρ : Nat → Int) (k : Nat) : r_u (m_tok ρ k) (20 + 10 * k + 5) (if ρ (20 + 10 * k + 5) + ρ (20 + 10 * k + 4) ≤ ρ (20 + 10 * k + 3) then ρ (20 + 10 * k + 5) + ρ (20 + 10 * k + 4) else ρ (20 + 10 * k + 3)) = m_tok ρ (k + 1) := by
  funext i
  by_cases h : i = 20 + 10 * k + 5
  · rw [h, r_u_same, m_tok_at (Nat.lt_succ_self k)]
  · rw [r_u_ne h]
    unfold m_tok
    by_cases h2 : 20 ≤ i ∧ i < 20 + 10 * k ∧ i % 10 = 5
    · rw [if_pos h2, if_pos (show 20 ≤ i ∧ i < 20 + 10 * (k + 1) ∧ i % 10 = 5 by omega)]
    · rw [if_neg h2, if_neg (show ¬ (20 ≤ i ∧ i < 20 + 10 * (k + 1) ∧ i % 10 = 5) by omega)]
theorem k_tok_loop {M : z_M} {ρ : Nat → Int} {l2 : Option z_V} {x : Int} (h2 : ρ 2 ≤ 8) (h0 : 0 ≤ ρ 0 ∧ ρ 0 ≤ 30000) (hb : ∀ c : Nat, (c : Int) < ρ 2 → (0 ≤ ρ (20 + 10 * c + 5) ∧ ρ (20 + 10 * c + 5) ≤ 500) ∧ (0 ≤ ρ (20 + 10 * c + 4) ∧ ρ (20 + 10 * c + 4) ≤ 20)) : ∀ (n i : Nat) (l4 : Option z_V), (i : Int) + n = ρ 2 →
    z_ex 137 184 [some (.inr (some (0, 30))), some (.inl x), l2, some (.inl (i : Int)), l4] [] (z_mr M (m_tok ρ i)) = some (some (.inl x), z_mr M (r_u (m_tok ρ (i + n)) 0 (ρ 0 + 1))) := by
  intro n
  induction n with
  | zero =>
    intro i l4 e
    have e2 : m_tok ρ i 2 = ρ 2 := m_tok_o (by omega)
    have e0 : m_tok ρ i 0 = ρ 0 := m_tok_o (by omega)
    rw [x137_184]
    repeat' (first | (exfalso; omega) | (simp (disch := first | omega | assumption | exact z_b_01) only [x137_0, x137_1, x137_4, x137_5, x137_6, x137_9, x137_10, x137_13, x137_14, x137_15, x137_16, x137_17, x137_20, x137_21, x137_22, x137_23, x137_24, x137_27, x137_28, x137_31, x137_33, x137_34, x137_35, x137_36, x137_37, x137_38, x137_41, x137_42, x137_45, x137_46, x137_49, x137_50, x137_51, x137_52, x137_53, x137_54, x137_57, x137_58, x137_61, x137_63, x137_64, x137_65, x137_66, x137_67, x137_68, x137_69, x137_70, x137_73, x137_74, x137_77, x137_79, x137_80, x137_81, x137_82, x137_83, x137_84, x137_85, x137_86, x137_89, x137_90, x137_93, x137_94, x137_97, x137_98, x137_99, x137_100, x137_103, x137_104, x137_105, x137_106, x137_107, x137_108, x137_109, x137_110, x137_111, x137_114, x137_115, x137_118, x137_120, x137_121, x137_122, x137_125, x137_126, x137_129, x137_130, x137_133, x137_134, x137_135, x137_136, x137_137, x137_138, x137_141, x137_142, x137_145, x137_146, x137_147, x137_148, x137_151, x137_152, x137_153, x137_154, x137_155, x137_156, x137_157, x137_160, x137_161, x137_164, x137_166, x137_167, x137_168, x137_169, x137_170, x137_171, x137_172, x137_173, x137_176, x137_177, x137_179, x137_180, x137_181, x137_182, x137_183, x137_185, x137_186, x137_189, x137_190, x137_191, x137_194, x137_195, x137_198, x137_199, x137_202, x137_203, x137_204, x137_205, x137_206, x137_209, x137_210, x137_213, x137_214, x137_215, x137_216, x137_217, x137_219, x137_220, x137_223, x137_224, x137_227, x137_228, x137_229, x137_231, x137_232, x137_235, x137_236, x137_239, x137_240, x137_241, x137_242, x137_245, x137_246, x137_249, x137_250, x137_253, x137_254, x137_255, x137_256, x137_259, x137_261, x137_262, x137_265, x137_268, x137_269, x137_272, x137_273, x137_274, x137_275, x137_276, x137_277, x137_278, x137_279, Option.bind_some, Option.toList_some, Option.toList_none, List.cons_append, List.nil_append, Int.toNat_natCast, Int.toNat_zero, z_w_id, z_b_0, z_b_1, z_b_n0, z_b_t, z_b_f, ↓reduceIte, Int.reduceEq, Int.reduceLT, Int.reduceLE, Int.reduceToNat, not_true_eq_false, not_false_eq_true, false_and, and_false, true_and, and_true, false_or, or_false, true_or, or_true, z_mr_row, z_up_mr, e2, e0, Nat.add_zero]) | split)
    all_goals rfl
  | succ n ih =>
    intro i l4 e
    have b := hb i (by omega)
    have k1 := fun M => k_kind (j := i) (by omega) M
    have e2 : m_tok ρ i 2 = ρ 2 := m_tok_o (by omega)
    have e5 : m_tok ρ i (20 + 10 * i + 5) = ρ (20 + 10 * i + 5) := m_tok_o (by omega)
    have e4 : m_tok ρ i (20 + 10 * i + 4) = ρ (20 + 10 * i + 4) := m_tok_o (by omega)
    have e3 : m_tok ρ i (20 + 10 * i + 3) = ρ (20 + 10 * i + 3) := m_tok_o (by omega)
    have ih' := fun l4 => ih (i + 1) l4 (by omega)
    rw [← m_tok_succ] at ih'
    simp only [Int.natCast_add, Int.natCast_one] at ih'
    rw [show i + (n + 1) = i + 1 + n by omega, x137_184]
    by_cases q : ρ (20 + 10 * i + 5) + ρ (20 + 10 * i + 4) ≤ ρ (20 + 10 * i + 3)
    · rw [if_pos q] at ih'
      repeat' (first | (exfalso; omega) | (simp (disch := first | omega | assumption | exact z_b_01) only [x137_0, x137_1, x137_4, x137_5, x137_6, x137_9, x137_10, x137_13, x137_14, x137_15, x137_16, x137_17, x137_20, x137_21, x137_22, x137_23, x137_24, x137_27, x137_28, x137_31, x137_33, x137_34, x137_35, x137_36, x137_37, x137_38, x137_41, x137_42, x137_45, x137_46, x137_49, x137_50, x137_51, x137_52, x137_53, x137_54, x137_57, x137_58, x137_61, x137_63, x137_64, x137_65, x137_66, x137_67, x137_68, x137_69, x137_70, x137_73, x137_74, x137_77, x137_79, x137_80, x137_81, x137_82, x137_83, x137_84, x137_85, x137_86, x137_89, x137_90, x137_93, x137_94, x137_97, x137_98, x137_99, x137_100, x137_103, x137_104, x137_105, x137_106, x137_107, x137_108, x137_109, x137_110, x137_111, x137_114, x137_115, x137_118, x137_120, x137_121, x137_122, x137_125, x137_126, x137_129, x137_130, x137_133, x137_134, x137_135, x137_136, x137_137, x137_138, x137_141, x137_142, x137_145, x137_146, x137_147, x137_148, x137_151, x137_152, x137_153, x137_154, x137_155, x137_156, x137_157, x137_160, x137_161, x137_164, x137_166, x137_167, x137_168, x137_169, x137_170, x137_171, x137_172, x137_173, x137_176, x137_177, x137_179, x137_180, x137_181, x137_182, x137_183, x137_185, x137_186, x137_189, x137_190, x137_191, x137_194, x137_195, x137_198, x137_199, x137_202, x137_203, x137_204, x137_205, x137_206, x137_209, x137_210, x137_213, x137_214, x137_215, x137_216, x137_217, x137_219, x137_220, x137_223, x137_224, x137_227, x137_228, x137_229, x137_231, x137_232, x137_235, x137_236, x137_239, x137_240, x137_241, x137_242, x137_245, x137_246, x137_249, x137_250, x137_253, x137_254, x137_255, x137_256, x137_259, x137_261, x137_262, x137_265, x137_268, x137_269, x137_272, x137_273, x137_274, x137_275, x137_276, x137_277, x137_278, x137_279, Option.bind_some, Option.toList_some, Option.toList_none, List.cons_append, List.nil_append, Int.toNat_natCast, Int.toNat_zero, z_w_id, z_b_0, z_b_1, z_b_n0, z_b_t, z_b_f, ↓reduceIte, Int.reduceEq, Int.reduceLT, Int.reduceLE, Int.reduceToNat, not_true_eq_false, not_false_eq_true, false_and, and_false, true_and, and_true, false_or, or_false, true_or, or_true, z_mr_row, z_up_mr, k1, ix_5, ix_4, ix_3, e2, e5, e4, e3, ih']) | split)
      all_goals rfl
    · rw [if_neg q] at ih'
      repeat' (first | (exfalso; omega) | (simp (disch := first | omega | assumption | exact z_b_01) only [x137_0, x137_1, x137_4, x137_5, x137_6, x137_9, x137_10, x137_13, x137_14, x137_15, x137_16, x137_17, x137_20, x137_21, x137_22, x137_23, x137_24, x137_27, x137_28, x137_31, x137_33, x137_34, x137_35, x137_36, x137_37, x137_38, x137_41, x137_42, x137_45, x137_46, x137_49, x137_50, x137_51, x137_52, x137_53, x137_54, x137_57, x137_58, x137_61, x137_63, x137_64, x137_65, x137_66, x137_67, x137_68, x137_69, x137_70, x137_73, x137_74, x137_77, x137_79, x137_80, x137_81, x137_82, x137_83, x137_84, x137_85, x137_86, x137_89, x137_90, x137_93, x137_94, x137_97, x137_98, x137_99, x137_100, x137_103, x137_104, x137_105, x137_106, x137_107, x137_108, x137_109, x137_110, x137_111, x137_114, x137_115, x137_118, x137_120, x137_121, x137_122, x137_125, x137_126, x137_129, x137_130, x137_133, x137_134, x137_135, x137_136, x137_137, x137_138, x137_141, x137_142, x137_145, x137_146, x137_147, x137_148, x137_151, x137_152, x137_153, x137_154, x137_155, x137_156, x137_157, x137_160, x137_161, x137_164, x137_166, x137_167, x137_168, x137_169, x137_170, x137_171, x137_172, x137_173, x137_176, x137_177, x137_179, x137_180, x137_181, x137_182, x137_183, x137_185, x137_186, x137_189, x137_190, x137_191, x137_194, x137_195, x137_198, x137_199, x137_202, x137_203, x137_204, x137_205, x137_206, x137_209, x137_210, x137_213, x137_214, x137_215, x137_216, x137_217, x137_219, x137_220, x137_223, x137_224, x137_227, x137_228, x137_229, x137_231, x137_232, x137_235, x137_236, x137_239, x137_240, x137_241, x137_242, x137_245, x137_246, x137_249, x137_250, x137_253, x137_254, x137_255, x137_256, x137_259, x137_261, x137_262, x137_265, x137_268, x137_269, x137_272, x137_273, x137_274, x137_275, x137_276, x137_277, x137_278, x137_279, Option.bind_some, Option.toList_some, Option.toList_none, List.cons_append, List.nil_append, Int.toNat_natCast, Int.toNat_zero, z_w_id, z_b_0, z_b_1, z_b_n0, z_b_t, z_b_f, ↓reduceIte, Int.reduceEq, Int.reduceLT, Int.reduceLE, Int.reduceToNat, not_true_eq_false, not_false_eq_true, false_and, and_false, true_and, and_true, false_or, or_false, true_or, or_true, z_mr_row, z_up_mr, k1, ix_5, ix_4, ix_3, e2, e5, e4, e3, ih']) | split)
      all_goals rfl
theorem s_sum_upd {f f' : Nat → Int} {d : Int} {c : Nat} (h : ∀ k, k ≠ c → f' k = f k) (hc : f' c = f c + d) : ∀ n i : Nat, s_sum (List.range' i n) f' = s_sum (List.range' i n) f + (if i ≤ c ∧ c < i + n then d else 0) := by
  intro n
  induction n with
  | zero =>
    intro i
    rw [List.range'_zero, s_sum_nil, s_sum_nil, if_neg (by omega)]
    omega
  | succ n ih =>
    intro i
    rw [List.range'_succ, s_sum_cons, s_sum_cons, ih]
    by_cases q : i = c
    · rw [q, hc, if_neg (by omega), if_pos (by omega)]; omega
    · rw [h i q]
      by_cases z : i + 1 ≤ c ∧ c < i + 1 + n
      · rw [if_pos z, if_pos (by omega)]; omega
      · rw [if_neg z, if_neg (by omega)]; omega
theorem e_W_15 {A : Nat → Nat → Int} {ρ : Nat → Int} (h1 : A 1 0 ≤ 3) (h2 : A 2 0 ≤ 8) (h : e_W A ρ) {c g : Nat} (hc : (c : Int) < A 2 0) (hg : (g : Int) < A 1 0) (h7 : A 7 c = (g : Int)) : e_W (a_u A 15 c (A 15 c + 1)) (r_u (r_u ρ (20 + 10 * c + 9) (A 15 c + 1)) (8 + 4 * g + 3) (ρ (8 + 4 * g + 3) + 1)) := by
  rw [e_W_iff] at h ⊢
  obtain ⟨a, b, d⟩ := h
  have e : ∀ o' i', o' ≠ 15 → a_u A 15 c (A 15 c + 1) o' i' = A o' i' := fun o' i' q => a_u_o q
  have hd : e_dom A 15 c := Or.inr (Or.inr (Or.inr (Or.inl ⟨by omega, hc⟩)))
  rw [e 1 0 (by omega), e 2 0 (by omega), e 3 0 (by omega)]
  refine ⟨fun o' i' q => ?_, fun g' hg' => ?_, fun k hk => ?_⟩
  · have q' : e_dom A o' i' := by
      unfold e_dom at q ⊢
      rw [e 1 0 (by omega), e 2 0 (by omega), e 3 0 (by omega)] at q
      exact q
    have pv := e_pos_val h1 h2 q'
    rw [r_u_ne (by omega)]
    by_cases z : o' = 15 ∧ i' = c
    · rw [z.1, z.2, a_u_same]
      exact r_u_same _ _ _
    · rw [a_u_ne z, r_u_ne (by omega)]
      exact a o' i' q'
  · have hsum := s_sum_upd (f := fun k => if A 7 k = (g' : Int) then A 15 k else 0) (f' := fun k => if a_u A 15 c (A 15 c + 1) 7 k = (g' : Int) then a_u A 15 c (A 15 c + 1) 15 k else 0) (d := if g' = g then 1 else 0) (c := c) (fun k hk => by
      rw [e 7 k (by decide), a_u_at, if_neg hk]) (by
      rw [e 7 c (by decide), a_u_same, h7]
      by_cases z : g' = g
      · rw [z, if_pos rfl, if_pos rfl, if_pos rfl]
      · rw [if_neg (by omega), if_neg (by omega), if_neg z]; rfl) (A 2 0).toNat 0
    rw [if_pos (by omega)] at hsum
    unfold s_rg at b ⊢
    rw [hsum]
    by_cases z : g' = g
    · rw [z, r_u_same, if_pos rfl, b g hg]
    · rw [r_u_ne (by omega), r_u_ne (by omega), if_neg z, b g' hg', Int.add_zero]
  · rw [r_u_ne (by omega), r_u_ne (by omega), e 19 k (by decide)]
    exact d k hk
