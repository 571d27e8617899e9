/-! who comes next, on both sides, together -/
theorem s_sum_one {l : List Nat} : s_sum l (fun _ => 1) = (l.length : Int) := by
  induction l with
  | nil => rfl
  | cons j l ih => rw [s_sum_cons, ih, List.length_cons]; omega
theorem k_wait0 {M : z_M} {A : Nat → Nat → Int} {ρ : Nat → Int} {l : List Nat} (hI : e_I A l) (hW : e_W A ρ) : z_ev 140 [.inr (some (0, 30)), .inl (-5), .inl (-5), .inl 0] (z_mr M ρ) = some (some (.inl (l.length : Int)), z_mr M ρ) := by
  have k := k_waiting (M := z_mr M ρ) (by rw [z_mr_row]; exact e_mI hW hI) (-5) (-5) 0
  rw [z_mr_row, e_cnt hW hI] at k
  rw [k]
  refine z_ri ?_ rfl
  rw [← s_sum_one (l := l)]
  refine s_sum_congr fun j _ => ?_
  rw [if_pos ⟨Or.inl (by decide), Or.inl (by decide)⟩, if_pos rfl]
theorem k_choose0 {M : z_M} {A : Nat → Nat → Int} {ρ : Nat → Int} (hI : e_I A []) (hW : e_W A ρ) : z_ev 96 [.inr (some (0, 30))] (z_mr M ρ) = some (some (.inl (-5)), z_mr M ρ) := by
  have k := k_wait0 (M := M) hI hW
  simp only [List.length_nil, Int.natCast_zero] at k
  rw [x96]
  repeat' (first | (exfalso; omega) | (simp (disch := first | omega | assumption | exact z_b_01) only [x96_0, x96_1, x96_3, x96_5, x96_6, x96_9, x96_12, x96_14, x96_15, x96_16, x96_19, x96_20, x96_21, x96_24, x96_26, x96_27, x96_28, x96_29, x96_32, x96_33, x96_36, x96_37, x96_38, x96_39, x96_40, x96_43, x96_44, x96_45, x96_46, x96_49, x96_52, x96_55, x96_58, x96_59, x96_60, x96_61, x96_64, x96_65, x96_66, x96_69, x96_70, x96_71, x96_72, x96_73, x96_74, x96_75, x96_78, x96_79, x96_82, x96_83, x96_84, x96_85, x96_87, x96_88, x96_91, x96_92, x96_93, x96_94, x96_95, x96_96, x96_97, x96_100, x96_101, x96_102, x96_103, x96_104, x96_107, x96_108, x96_109, x96_110, x96_111, x96_114, x96_115, x96_116, x96_117, x96_118, x96_121, x96_122, x96_123, x96_124, x96_127, x96_128, x96_129, x96_130, x96_131, x96_132, x96_134, x96_135, x96_138, x96_139, x96_142, x96_144, x96_145, x96_147, x96_148, x96_151, x96_152, x96_155, x96_157, x96_158, x96_159, x96_162, x96_164, x96_167, x96_168, x96_171, x96_172, x96_175, x96_177, x96_178, x96_179, x96_180, x96_181, x96_184, x96_185, x96_188, x96_189, x96_190, x96_191, x96_192, x96_195, x96_198, x96_199, x96_202, x96_203, x96_206, x96_207, x96_208, x96_209, x96_210, x96_213, x96_214, x96_215, x96_216, x96_217, x96_218, x96_221, x96_222, x96_223, x96_224, x96_227, x96_229, x96_232, x96_233, x96_234, x96_235, x96_237, x96_240, x96_243, x96_244, x96_247, x96_249, x96_252, x96_253, x96_254, x96_255, x96_256, x96_259, x96_260, x96_261, x96_262, x96_263, x96_264, x96_267, x96_268, x96_269, x96_270, Option.bind_some, Option.toList_some, Option.toList_none, List.cons_append, List.nil_append, Int.toNat_natCast, Int.toNat_zero, z_w_id, z_b_0, z_b_1, z_b_n0, z_b_t, z_b_f, ↓reduceIte, Int.reduceEq, Int.reduceLT, Int.reduceLE, Int.reduceToNat, not_true_eq_false, not_false_eq_true, false_and, and_false, true_and, and_true, false_or, or_false, true_or, or_true, k]) | split)
theorem k_pickOld {M : z_M} {A : Nat → Nat → Int} {ρ : Nat → Int} {l : List Nat} (hI : e_I A l) (hW : e_W A ρ) (hl : l ≠ []) {j : Nat} (ho : s_fst l (fun j => a_old A j) = (j : Int)) :
    z_ev 96 [.inr (some (0, 30))] (z_mr M ρ) = z_ex 96 60 [some (.inr (some (0, 30))), some (.inl (j : Int)), none, none, none, none] [] (z_mr M (r_u ρ 7 (A 0 8 + 1))) := by
  have hlen : 0 < l.length := List.length_pos_iff.mpr hl
  have k := k_wait0 (M := M) hI hW
  have k2 := k_mfirstOld (M := z_mr M ρ) (by rw [z_mr_row]; exact e_mI hW hI)
  rw [z_mr_row, e_firstOld hW hI, ho] at k2
  have h8 := hI.2.2.2.2.2.2.2.2.2
  have h3 := hI.2.2.2.2.1.2.2.2.2
  have w7 := hW.1.2.2.2.2.2.2
  rw [x96]
  repeat' (first | (exfalso; omega) | (simp (disch := first | omega | assumption | exact z_b_01) only [x96_0, x96_1, x96_3, x96_5, x96_6, x96_9, x96_12, x96_14, x96_15, x96_16, x96_19, x96_20, x96_21, x96_24, x96_26, x96_27, x96_28, x96_29, x96_32, x96_33, x96_36, x96_37, x96_38, x96_39, x96_40, x96_43, x96_44, x96_45, x96_46, x96_49, x96_52, x96_55, x96_58, x96_59, x96_61, x96_64, x96_65, x96_66, x96_69, x96_70, x96_71, x96_72, x96_73, x96_74, x96_75, x96_78, x96_79, x96_82, x96_83, x96_84, x96_85, x96_87, x96_88, x96_91, x96_92, x96_93, x96_94, x96_95, x96_96, x96_97, x96_100, x96_101, x96_102, x96_103, x96_104, x96_107, x96_108, x96_109, x96_110, x96_111, x96_114, x96_115, x96_116, x96_117, x96_118, x96_121, x96_122, x96_123, x96_124, x96_127, x96_128, x96_129, x96_130, x96_131, x96_132, x96_134, x96_135, x96_138, x96_139, x96_142, x96_144, x96_145, x96_147, x96_148, x96_151, x96_152, x96_155, x96_157, x96_158, x96_159, x96_162, x96_164, x96_167, x96_168, x96_171, x96_172, x96_175, x96_177, x96_178, x96_179, x96_180, x96_181, x96_184, x96_185, x96_188, x96_189, x96_190, x96_191, x96_192, x96_195, x96_198, x96_199, x96_202, x96_203, x96_206, x96_207, x96_208, x96_209, x96_210, x96_213, x96_214, x96_215, x96_216, x96_217, x96_218, x96_221, x96_222, x96_223, x96_224, x96_227, x96_229, x96_232, x96_233, x96_234, x96_235, x96_237, x96_240, x96_243, x96_244, x96_247, x96_249, x96_252, x96_253, x96_254, x96_255, x96_256, x96_259, x96_260, x96_261, x96_262, x96_263, x96_264, x96_267, x96_268, x96_269, x96_270, Option.bind_some, Option.toList_some, Option.toList_none, List.cons_append, List.nil_append, Int.toNat_natCast, Int.toNat_zero, z_w_id, z_b_0, z_b_1, z_b_n0, z_b_t, z_b_f, ↓reduceIte, Int.reduceEq, Int.reduceLT, Int.reduceLE, Int.reduceToNat, not_true_eq_false, not_false_eq_true, false_and, and_false, true_and, and_true, false_or, or_false, true_or, or_true, k, k2, z_mr_row, z_up_mr, w7]) | split)
  all_goals rfl
theorem k_pickTurn {M : z_M} {A B : Nat → Nat → Int} {ρ : Nat → Int} {l : List Nat} (hI : e_I A l) (hW : e_W A ρ) (hl : l ≠ []) (ho : s_fst l (fun j => a_old A j) = -5) (hT : g_T (a_nd A l) (a_gb A l) A B)
    (hm : ((v_pg (a_nd A l) (a_gb A l) A).1 ≠ 0 ∧ B = (v_pg (a_nd A l) (a_gb A l) A).2) ∨ ((v_pg (a_nd A l) (a_gb A l) A).1 = 0 ∧ ∃ n, r_mg (a_nd A l) (a_gb A l) n (v_pg (a_nd A l) (a_gb A l) A).2 B)) :
    ∃ (j : Nat) (ρ' : Nat → Int), j ∈ l ∧ s_fst l (fun j => A 16 j = B 6 (B 0 4).toNat) = (j : Int) ∧ e_I B l ∧ e_W B ρ' ∧ w_fr ρ ρ' ∧ ¬ a_old B j ∧
    z_ev 96 [.inr (some (0, 30))] (z_mr M ρ) = z_ex 96 60 [some (.inr (some (0, 30))), some (.inl (j : Int)), none, none, none, none] [] (z_mr M ρ') := by
  have hlen : 0 < l.length := List.length_pos_iff.mpr hl
  obtain ⟨iG, iJ, iC, iK, cW, iD, el, c9, c5, c08, c08'⟩ := id hI
  have c3 := cW.2.2.2.2
  obtain ⟨gJ, gnd, gb⟩ := g_J_of iG iJ iC iK cW iD hl
  have gD := g_D_of iD
  have hR := e_w hW hI
  have k := k_wait0 (M := M) hI hW
  have k2 := k_mfirstOld (M := z_mr M ρ) (by rw [z_mr_row]; exact e_mI hW hI)
  rw [z_mr_row, e_firstOld hW hI, ho] at k2
  have w7 := hW.1.2.2.2.2.2.2
  obtain ⟨-, -, ⟨pJ, pf⟩, -⟩ := g_turn (T := fun _ _ => 0) gJ gnd iD.1 gD gb
  obtain ⟨ρ1, n1, n2, n3⟩ := k_nextGroup (M := M) gJ hR iD.1 gnd (fun g hg => by have := (gD g hg).1; omega) pJ pf hm
  have hK0 : h_K (-99 * (A 3 0 - l.length)) (a_gb A l) A A := ⟨c9, c5, fun g _ => ⟨rfl, fun _ _ => rfl⟩, fun _ => rfl⟩
  have hK : h_K (-99 * (A 3 0 - l.length)) (a_gb A l) A B := by
    have hp := h_K_pg (nd := a_nd A l) (by omega) gJ hK0
    rcases hm with ⟨-, e⟩ | ⟨-, n, hn⟩
    · rw [e]; exact hp
    · exact h_K_mg (by omega) n _ pJ hp hn
  have hIB := e_I_turn hI hl hT hK
  obtain ⟨tJ, tf, t04, tgb, tok, tle, t5⟩ := hT
  have b10 : B 1 0 = A 1 0 := tf 1 0 (by decide) (by decide) (by decide) (by omega)
  have b20 : B 2 0 = A 2 0 := tf 2 0 (by decide) (by decide) (by decide) (by omega)
  have bo : ∀ o, o ≠ 0 → o ≠ 9 → o ≠ 6 → o ≠ 5 → ∀ j, B o j = A o j := fun o a b c d j => tf o j b c d (by omega)
  have b03 : B 0 3 = A 0 3 := tf 0 3 (by decide) (by decide) (by decide) (by omega)
  obtain ⟨g, hg⟩ : ∃ g : Nat, B 0 4 = (g : Int) := ⟨(B 0 4).toNat, by omega⟩
  rw [hg, Int.toNat_natCast] at tgb tok tle ⊢
  rw [hg] at t04 n1
  have hgB : (g : Int) < B 1 0 := by rw [b10]; exact t04.2
  obtain ⟨ρ2, m1, m2, m3⟩ := k_nextClass (M := M) tJ n2 hgB tgb (w_b_of tJ hgB tgb)
  have hla : v_la (B 2 0) (a_nd A l) (a_gb A l g) g B = B := by unfold v_la; rw [if_neg tgb, if_pos (by rw [b20]; exact tok)]
  rw [hla] at m1 m2
  have hf2 : w_fr ρ ρ2 := fun i hi => by rw [m3 i hi]; exact n3 i hi
  have hWB := e_W_turn iG hW hf2 m2 tf
  obtain ⟨c, hc⟩ : ∃ c : Nat, B 6 g = (c : Int) := ⟨(B 6 g).toNat, by have := tok.1; omega⟩
  unfold v_ok at tok
  rw [hc, Int.toNat_natCast] at tok
  rw [hc] at m1 ⊢
  have k3 := k_mfirstOf (M := z_mr M ρ2) (by rw [z_mr_row]; exact m2.1.2.2.2) (c : Int)
  rw [z_mr_row, e_fo hWB hIB] at k3
  have e16 : ∀ j, B 16 j = A 16 j := bo 16 (by decide) (by decide) (by decide) (by decide)
  simp only [e16] at k3
  rcases e_nd (A := A) (l := l) c with ⟨-, q⟩ | ⟨j, q0, q1, q2, q3⟩
  · have := tok.2.1; omega
  · rw [q1] at k3
    have hz : s_fst l (fun j => a_old A j) = -5 := ho
    refine ⟨j, ρ2, q0, q1, hIB, hWB, hf2, ?_, ?_⟩
    · rcases s_fst_ge (l := l) (p := fun j => a_old A j) with ⟨-, q⟩ | ⟨i, -, -, q⟩
      · have := q j q0
        unfold a_old at this ⊢
        rw [e16, bo 13 (by decide) (by decide) (by decide) (by decide), bo 18 (by decide) (by decide) (by decide) (by decide), bo 19 (by decide) (by decide) (by decide) (by decide), b03]
        exact this
      · rw [hz] at q; omega
    · have hr7 : r_u ρ 7 (ρ 7) = ρ := r_u_self ρ 7
      have h7 : 0 ≤ ρ 7 ∧ ρ 7 ≤ 200 := by omega
      rw [x96]
      repeat' (first | (exfalso; omega) | (simp (disch := first | omega | assumption | exact z_b_01) only [x96_0, x96_1, x96_3, x96_5, x96_6, x96_9, x96_12, x96_14, x96_15, x96_16, x96_19, x96_20, x96_21, x96_24, x96_26, x96_27, x96_28, x96_29, x96_32, x96_33, x96_36, x96_37, x96_38, x96_39, x96_40, x96_43, x96_44, x96_45, x96_46, x96_49, x96_52, x96_55, x96_58, x96_59, x96_61, x96_64, x96_65, x96_66, x96_69, x96_70, x96_71, x96_72, x96_73, x96_74, x96_75, x96_78, x96_79, x96_82, x96_83, x96_84, x96_85, x96_87, x96_88, x96_91, x96_92, x96_93, x96_94, x96_95, x96_96, x96_97, x96_100, x96_101, x96_102, x96_103, x96_104, x96_107, x96_108, x96_109, x96_110, x96_111, x96_114, x96_115, x96_116, x96_117, x96_118, x96_121, x96_122, x96_123, x96_124, x96_127, x96_128, x96_129, x96_130, x96_131, x96_132, x96_134, x96_135, x96_138, x96_139, x96_142, x96_144, x96_145, x96_147, x96_148, x96_151, x96_152, x96_155, x96_157, x96_158, x96_159, x96_162, x96_164, x96_167, x96_168, x96_171, x96_172, x96_175, x96_177, x96_178, x96_179, x96_180, x96_181, x96_184, x96_185, x96_188, x96_189, x96_190, x96_191, x96_192, x96_195, x96_198, x96_199, x96_202, x96_203, x96_206, x96_207, x96_208, x96_209, x96_210, x96_213, x96_214, x96_215, x96_216, x96_217, x96_218, x96_221, x96_222, x96_223, x96_224, x96_227, x96_229, x96_232, x96_233, x96_234, x96_235, x96_237, x96_240, x96_243, x96_244, x96_247, x96_249, x96_252, x96_253, x96_254, x96_255, x96_256, x96_259, x96_260, x96_261, x96_262, x96_263, x96_264, x96_267, x96_268, x96_269, x96_270, Option.bind_some, Option.toList_some, Option.toList_none, List.cons_append, List.nil_append, Int.toNat_natCast, Int.toNat_zero, z_w_id, z_b_0, z_b_1, z_b_n0, z_b_t, z_b_f, ↓reduceIte, Int.reduceEq, Int.reduceLT, Int.reduceLE, Int.reduceToNat, not_true_eq_false, not_false_eq_true, false_and, and_false, true_and, and_true, false_or, or_false, true_or, or_true, k, k2, k3, z_mr_row, z_up_mr, n1, m1, hr7, Int.add_zero]) | split)
      all_goals rfl
