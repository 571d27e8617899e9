/-! the law's look at what comes -/
theorem k_keep {M : z_M} {l : List Nat} (hM : w_M M l) : ∃ M' : z_M, z_ev 74 [.inr (some (0, 21))] M = some (some (.inl (M 0 0 3)), M') ∧ w_M M' l ∧ (∀ o j : Nat, ¬ (o = 21 ∧ j = 2) → M' 0 o j = M 0 o j) ∧ M' 0 21 2 = 1 ∧ ∀ o j : Nat, o < 21 → M' 1 o j = M 0 o j := by
  obtain ⟨hz, hH, h6, hh⟩ := hM
  have hc := k_State_copy (s := 1) (s2 := 0) (by decide) (M := M) (A := M 1)
  rw [z_ur_self, a_copy_nz hz] at hc
  have e3 : z_up (z_ur M 1 (M 0)) 0 21 2 1 0 0 3 = M 0 0 3 := by rw [z_up_ne (by omega), z_ur_ne (by decide)]
  have run : z_ev 74 [.inr (some (0, 21))] M = some (some (.inl (M 0 0 3)), z_up (z_ur M 1 (M 0)) 0 21 2 1) := by
    rw [x74]
    repeat' (first | (exfalso; omega) | (simp (disch := first | omega | assumption | exact z_b_01) only [x74_0, x74_1, x74_4, x74_5, x74_8, x74_11, x74_12, x74_13, x74_16, x74_17, x74_20, x74_23, Option.bind_some, Option.toList_some, Option.toList_none, List.cons_append, List.nil_append, Int.toNat_natCast, Int.toNat_zero, z_w_id, z_b_0, z_b_1, z_b_n0, z_b_t, z_b_f, ↓reduceIte, Int.reduceEq, Int.reduceLT, Int.reduceLE, Int.reduceToNat, not_true_eq_false, not_false_eq_true, false_and, and_false, true_and, and_true, false_or, or_false, true_or, or_true, hc, e3]) | split)
    all_goals first | rfl | exact Or.inr rfl
  have eo : ∀ o j : Nat, ¬ (o = 21 ∧ j = 2) → z_up (z_ur M 1 (M 0)) 0 21 2 1 0 o j = M 0 o j := fun o j q => by rw [z_up_ne q, z_ur_ne (by decide)]
  refine ⟨_, run, ⟨z_nz_ev run hz, f_H_21 hH fun o i q => eo o i (by omega), ?_, w_h_of hh (eo 22 0 (by omega)) fun j => eo 23 j (by omega)⟩, eo, z_up_at _ _ _ _ _, fun o j q => ?_⟩
  · rw [eo 0 6 (by omega)]; exact h6
  · rw [z_up_ne (by omega), z_ur_get q]
theorem k_restore {M : z_M} {l0 l : List Nat} (hM : w_M M l0) (hs : M 0 21 2 = 1) (hS : f_H (M 1) l) (h6 : M 1 0 6 ≤ 98) : ∃ M' : z_M, z_ev 79 [.inr (some (0, 21))] M = some (some (.inl (M 1 0 3)), M') ∧ w_M M' l ∧ (∀ o j : Nat, 21 ≤ o → o ≠ 22 → o ≠ 23 → M' 0 o j = M 0 o j) ∧ ∀ o j : Nat, o < 21 → M' 0 o j = M 1 o j := by
  obtain ⟨hz, hH, -, hh⟩ := hM
  obtain ⟨M1, p1, pf⟩ := k_push2 hh
  have e1 : M1 1 = M 1 := by funext o j; exact pf.2.1 o j
  have hc := k_State_copy (s := 0) (s2 := 1) (by decide) (M := M1) (A := M 0)
  rw [e1, a_copy_nz hz] at hc
  have e3 : z_ur M1 0 (M 1) 0 0 3 = M 1 0 3 := z_ur_get (by decide)
  have run : z_ev 79 [.inr (some (0, 21))] M = some (some (.inl (M 1 0 3)), z_ur M1 0 (M 1)) := by
    rw [x79]
    repeat' (first | (exfalso; omega) | (simp (disch := first | omega | assumption | exact z_b_01) only [x79_0, x79_1, x79_4, x79_7, x79_9, x79_10, x79_11, x79_14, x79_15, x79_18, x79_21, x79_22, x79_25, x79_26, x79_29, x79_32, x79_33, x79_36, x79_39, Option.bind_some, Option.toList_some, Option.toList_none, List.cons_append, List.nil_append, Int.toNat_natCast, Int.toNat_zero, z_w_id, z_b_0, z_b_1, z_b_n0, z_b_t, z_b_f, ↓reduceIte, Int.reduceEq, Int.reduceLT, Int.reduceLE, Int.reduceToNat, not_true_eq_false, not_false_eq_true, false_and, and_false, true_and, and_true, false_or, or_false, true_or, or_true, hs, p1, hc, e3]) | split)
    all_goals rfl
  have e21 : ∀ o i : Nat, o < 21 → z_ur M1 0 (M 1) 0 o i = M 1 o i := fun o i q => z_ur_get q
  refine ⟨_, run, ⟨z_nz_ev run hz, f_H_21 hS e21, by rw [e21 0 6 (by decide)]; exact h6, w_h_of pf.2.2.2.1 (z_ur_top (by decide)) fun j => z_ur_top (by decide)⟩, fun o j a b c => ?_, e21⟩
  rw [z_ur_top a]
  exact pf.1 o j b c
theorem w_M_up {M : z_M} {l : List Nat} (hM : w_M M l) {o j : Nat} (ho : 30 ≤ o ∧ o < 33) (hj : j < 60) (v : Int) : w_M (z_up M 0 o j v) l := by
  obtain ⟨hz, hH, h6, hh⟩ := hM
  refine ⟨z_nz_up hz ?_ v, f_H_21 hH fun o' i q => z_up_ne (by omega), ?_, w_h_of hh (z_up_ne (by omega)) fun j => z_up_ne (by omega)⟩
  · rcases (by omega : o = 30 ∨ o = 31 ∨ o = 32) with rfl | rfl | rfl <;> exact decide_eq_true hj
  · rw [z_up_ne (by omega)]; exact h6
/-- what is told of a job holds -/
theorem p_sure {M : z_M} {l : List Nat} (hM : w_M M l) (ht : M 0 0 3 ≤ 20000) {j : Nat} (hj : j ∈ l) : (if M 0 13 (M 0 16 j).toNat = 0 then -5 else (if M 0 18 j + M 0 13 (M 0 16 j).toNat < M 0 0 3 then M 0 0 3 else M 0 18 j + M 0 13 (M 0 16 j).toNat) + 98 + p_ah (M 0) l j) = -5 ∨
    p_F (M 0) l j ≤ if M 0 13 (M 0 16 j).toNat = 0 then -5 else (if M 0 18 j + M 0 13 (M 0 16 j).toNat < M 0 0 3 then M 0 0 3 else M 0 18 j + M 0 13 (M 0 16 j).toNat) + 98 + p_ah (M 0) l j := by
  by_cases q : M 0 13 (M 0 16 j).toNat = 0
  · rw [if_pos q]; exact Or.inl rfl
  · rw [if_neg q]
    have h60 := f_len_60 hM.2.1.1
    have h6 := hM.2.2.1
    exact Or.inr (p_bound l.length (M 0) l j _ (if M 0 18 j + M 0 13 (M 0 16 j).toNat < M 0 0 3 then M 0 0 3 else M 0 18 j + M 0 13 (M 0 16 j).toNat) hM.2.1.1 hM.2.1.2.1 (f_06 hM.2.1) rfl (by omega) hj q (by split <;> omega) (by split <;> omega) (by omega))
theorem p_b_bd {A : Nat → Nat → Int} {l : List Nat} (hI : e_I A l) (hx : f_x A l) (h6 : 0 ≤ A 0 6 ∧ A 0 6 ≤ 99) (h3 : 0 ≤ A 0 3) (ht : A 0 3 + 99 * (l.length + 1) ≤ 30000) : ∀ k : Nat, k ≤ l.length → 0 ≤ p_b k A l ∧ p_b k A l ≤ A 0 3 + 99 * (k + 1) := by
  intro k
  induction k with
  | zero =>
    intro _
    show 0 ≤ A 0 3 + A 0 6 ∧ A 0 3 + A 0 6 ≤ _
    simp only [Int.natCast_zero]
    omega
  | succ k ih =>
    intro hk
    have a := ih (by omega)
    obtain ⟨c1, -, c3⟩ := p_c_kth k A l hI hx h6 (by omega) ht
    have b := (hI.2.1 _ (hI.2.2.2.2.1.2.2.2.1 _ c1)).2.1
    simp only [Int.natCast_add, Int.natCast_one]
    omega
/-- the memory of comes' first loop -/
def q_A (M Mk : z_M) (l : List Nat) (k : Nat) : Prop :=
  w_M Mk l ∧ (∀ o j : Nat, o < 27 → Mk 0 o j = M 0 o j) ∧ (∀ o j : Nat, Mk 1 o j = M 1 o j) ∧ ∀ i : Nat, i < k → Mk 0 30 i = (p_o i (M 0) l : Int) ∧ Mk 0 31 i = p_b i (M 0) l ∧ (Mk 0 32 i = -5 ∨ p_b i (M 0) l ≤ Mk 0 32 i)
theorem q_loopA {M : z_M} {l : List Nat} (hM : w_M M l) (ht : M 0 0 3 ≤ 20000) : ∀ (n k : Nat) (Mk : z_M), k + n = l.length → q_A M Mk l k →
    ∃ Ma : z_M, z_ex 88 25 [some (.inr (some (0, 21))), some (.inl (l.length : Int)), some (.inr (some (0, 30))), some (.inr (some (0, 31))), some (.inr (some (0, 32))), some (.inl (k : Int)), none] [] Mk =
      z_ex 88 104 [some (.inr (some (0, 21))), some (.inl (l.length : Int)), some (.inr (some (0, 30))), some (.inr (some (0, 31))), some (.inr (some (0, 32))), some (.inl (l.length : Int)), none] [] Ma ∧ q_A M Ma l l.length := by
  intro n
  induction n with
  | zero =>
    intro k Mk e hA
    obtain rfl : k = l.length := by omega
    refine ⟨Mk, ?_, hA⟩
    rw [x88_25]
    repeat' (first | (exfalso; omega) | (simp (disch := first | omega | assumption | exact z_b_01) only [x88_22, x88_23, x88_27, x88_28, x88_31, x88_32, x88_34, x88_35, x88_37, x88_40, x88_41, x88_42, x88_44, x88_45, x88_46, x88_48, x88_49, x88_52, x88_53, x88_55, x88_57, x88_58, x88_59, x88_61, x88_62, x88_65, x88_66, x88_68, x88_71, x88_72, x88_74, x88_75, x88_76, x88_78, x88_79, x88_80, x88_81, x88_82, x88_83, x88_85, x88_86, x88_87, x88_88, x88_89, x88_92, x88_93, x88_96, x88_97, x88_98, x88_101, x88_105, x88_106, x88_109, x88_111, x88_114, x88_115, x88_116, x88_119, x88_121, x88_124, x88_125, x88_126, x88_127, x88_130, x88_131, x88_132, x88_134, x88_136, x88_138, x88_141, x88_142, x88_143, x88_146, x88_149, x88_150, x88_153, x88_156, x88_159, x88_160, x88_161, x88_164, x88_167, x88_168, x88_170, x88_172, x88_173, x88_176, x88_177, x88_178, x88_180, x88_181, x88_182, x88_185, x88_187, x88_189, x88_190, x88_192, x88_193, x88_196, x88_198, x88_200, x88_201, x88_203, x88_206, x88_208, x88_210, x88_212, x88_213, x88_216, x88_217, x88_218, x88_221, x88_224, x88_225, x88_228, x88_231, x88_232, x88_233, x88_236, x88_237, x88_240, x88_241, x88_244, x88_245, Option.bind_some, Option.toList_some, Option.toList_none, List.cons_append, List.nil_append, Int.toNat_natCast, Int.toNat_zero, z_w_id, z_b_0, z_b_1, z_b_n0, z_b_t, z_b_f, ↓reduceIte, Int.reduceEq, Int.reduceLT, Int.reduceLE, Int.reduceToNat, not_true_eq_false, not_false_eq_true, false_and, and_false, true_and, and_true, false_or, or_false, true_or, or_true]) | split)
    all_goals rfl
  | succ n ih =>
    intro k Mk e hA
    obtain ⟨hMk, f21, f1, fa⟩ := hA
    have h60 := f_len_60 hM.2.1.1
    have hkl : k < l.length := by omega
    have hx0 : f_e2 (M 0) (Mk 0) := f_e2_21 fun o i q => f21 o i (by omega)
    have t0 : Mk 0 0 3 ≤ 20000 := by rw [f21 0 3 (by decide)]; exact ht
    obtain ⟨c1, c2, c3⟩ := p_c_kth k (M 0) l hM.2.1.1 hM.2.1.2.1 (f_06 hM.2.1) hkl (by omega)
    obtain ⟨M1, r1, m1, w1⟩ := k_served hMk t0 hkl
    rw [p_o_eq hx0] at r1
    have m1' := w_M_up m1 (o := 30) (j := k) (by decide) (by omega) (p_o k (M 0) l : Int)
    have g1 : z_up M1 0 30 k (p_o k (M 0) l : Int) 0 30 k = (p_o k (M 0) l : Int) := z_up_at _ _ _ _ _
    have g1o : ∀ o j : Nat, ¬ (27 ≤ o ∧ o < 30) → ¬ (o = 30 ∧ j = k) → z_up M1 0 30 k (p_o k (M 0) l : Int) 0 o j = Mk 0 o j := fun o j a b => by rw [z_up_ne b, w1.1 o j a]
    have g11 : ∀ o j : Nat, z_up M1 0 30 k (p_o k (M 0) l : Int) 1 o j = Mk 1 o j := fun o j => by rw [z_up_s (by decide), w1.2 o j]
    generalize hN1 : z_up M1 0 30 k (p_o k (M 0) l : Int) = N1 at *
    have t1 : N1 0 0 3 ≤ 20000 := by rw [g1o 0 3 (by decide) (by omega)]; exact t0
    obtain ⟨M2, r2, m2, w2⟩ := k_beginsAt m1' t1 c1
    have hx1 : f_e2 (M 0) (N1 0) := f_e2_21 fun o i q => by rw [g1o o i (by omega) (by omega)]; exact f21 o i (by omega)
    rw [p_F_eq hx1, c2] at r2
    have m2' := w_M_up m2 (o := 31) (j := k) (by decide) (by omega) (p_b k (M 0) l)
    have g2 : z_up M2 0 31 k (p_b k (M 0) l) 0 31 k = p_b k (M 0) l := z_up_at _ _ _ _ _
    have g2o : ∀ o j : Nat, ¬ (27 ≤ o ∧ o < 30) → ¬ (o = 31 ∧ j = k) → z_up M2 0 31 k (p_b k (M 0) l) 0 o j = N1 0 o j := fun o j a b => by rw [z_up_ne b, w2.1 o j a]
    have g21 : ∀ o j : Nat, z_up M2 0 31 k (p_b k (M 0) l) 1 o j = Mk 1 o j := fun o j => by rw [z_up_s (by decide), w2.2 o j, g11]
    generalize hN2 : z_up M2 0 31 k (p_b k (M 0) l) = N2 at *
    have t2 : N2 0 0 3 ≤ 20000 := by rw [g2o 0 3 (by decide) (by omega)]; exact t1
    have r3 := k_bound m2' t2 c1
    have sure := p_sure m2' t2 c1
    have hx2 : f_e2 (M 0) (N2 0) := f_e2_21 fun o i q => by rw [g2o o i (by omega) (by omega), g1o o i (by omega) (by omega)]; exact f21 o i (by omega)
    rw [p_F_eq hx2, c2] at sure
    generalize (if N2 0 13 (N2 0 16 (p_o k (M 0) l)).toNat = 0 then -5 else (if N2 0 18 (p_o k (M 0) l) + N2 0 13 (N2 0 16 (p_o k (M 0) l)).toNat < N2 0 0 3 then N2 0 0 3 else N2 0 18 (p_o k (M 0) l) + N2 0 13 (N2 0 16 (p_o k (M 0) l)).toNat) + 98 + p_ah (N2 0) l (p_o k (M 0) l)) = bd at r3 sure
    have m3' := w_M_up m2' (o := 32) (j := k) (by decide) (by omega) bd
    have g3 : z_up N2 0 32 k bd 0 32 k = bd := z_up_at _ _ _ _ _
    have g3o : ∀ o j : Nat, ¬ (o = 32 ∧ j = k) → z_up N2 0 32 k bd 0 o j = N2 0 o j := fun o j b => by rw [z_up_ne b]
    have g31 : ∀ o j : Nat, z_up N2 0 32 k bd 1 o j = Mk 1 o j := fun o j => by rw [z_up_s (by decide), g21]
    generalize hN3 : z_up N2 0 32 k bd = N3 at *
    have q230 : N2 0 30 k = (p_o k (M 0) l : Int) := by rw [g2o 30 k (by omega) (by omega)]; exact g1
    have q331 : N3 0 31 k = p_b k (M 0) l := by rw [g3o 31 k (by omega)]; exact g2
    have fa3 : ∀ i, i < k → N3 0 30 i = Mk 0 30 i ∧ N3 0 31 i = Mk 0 31 i ∧ N3 0 32 i = Mk 0 32 i := fun i hi => by
      refine ⟨?_, ?_, ?_⟩
      · rw [g3o 30 i (by omega), g2o 30 i (by omega) (by omega), g1o 30 i (by omega) (by omega)]
      · rw [g3o 31 i (by omega), g2o 31 i (by omega) (by omega), g1o 31 i (by omega) (by omega)]
      · rw [g3o 32 i (by omega), g2o 32 i (by omega) (by omega), g1o 32 i (by omega) (by omega)]
    have hA3 : q_A M N3 l (k + 1) := by
      refine ⟨m3', fun o j q => ?_, fun o j => ?_, fun i hi => ?_⟩
      · rw [g3o o j (by omega), g2o o j (by omega) (by omega), g1o o j (by omega) (by omega)]; exact f21 o j q
      · rw [g31]; exact f1 o j
      · by_cases q : i = k
        · subst q
          refine ⟨by rw [g3o 30 i (by omega)]; exact q230, q331, ?_⟩
          rw [g3]; exact sure
        · obtain ⟨a, b, d⟩ := fa3 i (by omega)
          rw [a, b, d]
          exact fa i (by omega)
    obtain ⟨Ma, z1, z2⟩ := ih (k + 1) N3 (by omega) hA3
    simp only [Int.natCast_add, Int.natCast_one] at z1
    have hpb := p_b_bd hM.2.1.1 hM.2.1.2.1 (f_06 hM.2.1) hM.2.1.1.1.2.2.1 (by omega) k (by omega)
    refine ⟨Ma, ?_, z2⟩
    by_cases h0 : k = 0
    · subst h0
      simp only [Int.natCast_zero, Int.zero_add] at r1 z1 ⊢
      rw [x88_25]
      repeat' (first | (exfalso; omega) | (simp (disch := first | omega | assumption | exact z_b_01) only [x88_22, x88_23, x88_27, x88_28, x88_31, x88_32, x88_34, x88_35, x88_37, x88_40, x88_41, x88_42, x88_44, x88_45, x88_46, x88_48, x88_49, x88_52, x88_53, x88_55, x88_57, x88_58, x88_59, x88_61, x88_62, x88_65, x88_66, x88_68, x88_71, x88_72, x88_74, x88_75, x88_76, x88_78, x88_79, x88_80, x88_81, x88_82, x88_83, x88_85, x88_86, x88_87, x88_88, x88_89, x88_92, x88_93, x88_96, x88_97, x88_98, x88_101, x88_105, x88_106, x88_109, x88_111, x88_114, x88_115, x88_116, x88_119, x88_121, x88_124, x88_125, x88_126, x88_127, x88_130, x88_131, x88_132, x88_134, x88_136, x88_138, x88_141, x88_142, x88_143, x88_146, x88_149, x88_150, x88_153, x88_156, x88_159, x88_160, x88_161, x88_164, x88_167, x88_168, x88_170, x88_172, x88_173, x88_176, x88_177, x88_178, x88_180, x88_181, x88_182, x88_185, x88_187, x88_189, x88_190, x88_192, x88_193, x88_196, x88_198, x88_200, x88_201, x88_203, x88_206, x88_208, x88_210, x88_212, x88_213, x88_216, x88_217, x88_218, x88_221, x88_224, x88_225, x88_228, x88_231, x88_232, x88_233, x88_236, x88_237, x88_240, x88_241, x88_244, x88_245, Option.bind_some, Option.toList_some, Option.toList_none, List.cons_append, List.nil_append, Int.toNat_natCast, Int.toNat_zero, z_w_id, z_b_0, z_b_1, z_b_n0, z_b_t, z_b_f, ↓reduceIte, Int.reduceEq, Int.reduceLT, Int.reduceLE, Int.reduceToNat, not_true_eq_false, not_false_eq_true, false_and, and_false, true_and, and_true, false_or, or_false, true_or, or_true, r1, hN1, g1, r2, hN2, q230, r3, hN3, z1, Int.zero_add]) | split)
      all_goals rfl
    · obtain ⟨i, rfl⟩ : ∃ i, k = i + 1 := ⟨k - 1, by omega⟩
      have hpi := p_b_bd hM.2.1.1 hM.2.1.2.1 (f_06 hM.2.1) hM.2.1.1.1.2.2.1 (by omega) i (by omega)
      obtain ⟨d1, d2, d3⟩ := p_c_kth i (M 0) l hM.2.1.1 hM.2.1.2.1 (f_06 hM.2.1) (by omega) (by omega)
      obtain ⟨a, b, d⟩ := fa3 i (by omega)
      obtain ⟨ka, kb, kd⟩ := fa i (by omega)
      rw [ka] at a
      rw [kb] at b
      have jn := hM.2.1.1.2.2.2.2.1.2.2.2.1 _ d1
      have aj := hM.2.1.1.2.1 _ jn
      have kj := k_j1 m3' (j := p_o i (M 0) l) (by rw [g3o 3 0 (by omega), g2o 3 0 (by omega) (by omega), g1o 3 0 (by omega) (by omega), f21 3 0 (by omega)]; exact jn)
      rw [g3o 17 _ (by omega), g2o 17 _ (by omega) (by omega), g1o 17 _ (by omega) (by omega), f21 17 _ (by omega)] at kj
      have ei : ((i + 1 : Nat) : Int) - 1 = (i : Int) := by omega
      rw [x88_25]
      repeat' (first | (exfalso; omega) | (simp (disch := first | omega | assumption | exact z_b_01) only [x88_22, x88_23, x88_27, x88_28, x88_31, x88_32, x88_34, x88_35, x88_37, x88_40, x88_41, x88_42, x88_44, x88_45, x88_46, x88_48, x88_49, x88_52, x88_53, x88_55, x88_57, x88_58, x88_59, x88_61, x88_62, x88_65, x88_66, x88_68, x88_71, x88_72, x88_74, x88_75, x88_76, x88_78, x88_79, x88_80, x88_81, x88_82, x88_83, x88_85, x88_86, x88_87, x88_88, x88_89, x88_92, x88_93, x88_96, x88_97, x88_98, x88_101, x88_105, x88_106, x88_109, x88_111, x88_114, x88_115, x88_116, x88_119, x88_121, x88_124, x88_125, x88_126, x88_127, x88_130, x88_131, x88_132, x88_134, x88_136, x88_138, x88_141, x88_142, x88_143, x88_146, x88_149, x88_150, x88_153, x88_156, x88_159, x88_160, x88_161, x88_164, x88_167, x88_168, x88_170, x88_172, x88_173, x88_176, x88_177, x88_178, x88_180, x88_181, x88_182, x88_185, x88_187, x88_189, x88_190, x88_192, x88_193, x88_196, x88_198, x88_200, x88_201, x88_203, x88_206, x88_208, x88_210, x88_212, x88_213, x88_216, x88_217, x88_218, x88_221, x88_224, x88_225, x88_228, x88_231, x88_232, x88_233, x88_236, x88_237, x88_240, x88_241, x88_244, x88_245, Option.bind_some, Option.toList_some, Option.toList_none, List.cons_append, List.nil_append, Int.toNat_natCast, Int.toNat_zero, z_w_id, z_b_0, z_b_1, z_b_n0, z_b_t, z_b_f, ↓reduceIte, Int.reduceEq, Int.reduceLT, Int.reduceLE, Int.reduceToNat, not_true_eq_false, not_false_eq_true, false_and, and_false, true_and, and_true, false_or, or_false, true_or, or_true, r1, hN1, g1, r2, hN2, q230, r3, hN3, z1, q331, ei, a, b, kj]) | split)
      all_goals rfl
theorem p_W_bd {A : Nat → Nat → Int} {l : List Nat} (hH : f_H A l) (h6 : A 0 6 ≤ 98) : 0 ≤ p_W A l ∧ p_W A l ≤ 98 + 99 * l.length := by
  have a := f_06 hH
  have b := s_sum_bd (l := l) (f := fun i => A 17 i) (b := 99) (fun i hi => by have := (hH.1.2.1 i (hH.1.2.2.2.2.1.2.2.2.1 i hi)).2.1; omega)
  unfold p_W
  omega
/-- the ticks: in the end all have begun -/
theorem q_loopB {M : z_M} {l : List Nat} {m : Int} (hM : w_M M l) (h40 : l.length ≤ 40) (ht : M 0 0 3 ≤ 3000) : ∀ (n i : Nat) (Mi : z_M) (li : List Nat) (d : Int), i + n = 12 → w_M Mi li → w_t M Mi → f_ps (M 0) (Mi 0) l li (500 * i) d →
    ∃ (Mb : z_M) (i' : Int), z_ex 88 134 [some (.inr (some (0, 21))), some (.inl m), some (.inr (some (0, 30))), some (.inr (some (0, 31))), some (.inr (some (0, 32))), some (.inl (i : Int)), none] [] Mi =
      z_ex 88 167 [some (.inr (some (0, 21))), some (.inl m), some (.inr (some (0, 30))), some (.inr (some (0, 31))), some (.inr (some (0, 32))), some (.inl i'), none] [] Mb ∧ w_M Mb [] ∧ w_t M Mb ∧ p_F (Mb 0) [] = p_F (M 0) l ∧ Mb 0 3 0 = M 0 3 0 := by
  intro n
  induction n with
  | zero =>
    intro i Mi li d e hi hw hp
    obtain rfl : i = 12 := by omega
    obtain rfl : li = [] := Classical.byContradiction fun q => by
      have a := hp.2.2.2.2.2.2.2.2.2.1 q
      have b := p_W_bd hM.2.1 hM.2.2.1
      have c := p_W_bd hi.2.1 hi.2.2.1
      omega
    refine ⟨Mi, 12, ?_, hi, hw, hp.2.2.2.2.2.2.2.2.1, hp.2.2.2.2.1⟩
    rw [show ((12 : Nat) : Int) = 12 from rfl, x88_134]
    repeat' (first | (exfalso; omega) | (simp (disch := first | omega | assumption | exact z_b_01) only [x88_22, x88_23, x88_25, x88_27, x88_28, x88_31, x88_32, x88_34, x88_35, x88_37, x88_40, x88_41, x88_42, x88_44, x88_45, x88_46, x88_48, x88_49, x88_52, x88_53, x88_55, x88_57, x88_58, x88_59, x88_61, x88_62, x88_65, x88_66, x88_68, x88_71, x88_72, x88_74, x88_75, x88_76, x88_78, x88_79, x88_80, x88_81, x88_82, x88_83, x88_85, x88_86, x88_87, x88_88, x88_89, x88_92, x88_93, x88_96, x88_97, x88_98, x88_101, x88_104, x88_105, x88_106, x88_109, x88_111, x88_114, x88_115, x88_116, x88_119, x88_121, x88_124, x88_125, x88_126, x88_127, x88_130, x88_131, x88_132, x88_136, x88_138, x88_141, x88_142, x88_143, x88_146, x88_149, x88_150, x88_153, x88_156, x88_159, x88_160, x88_161, x88_164, x88_168, x88_170, x88_172, x88_173, x88_176, x88_177, x88_178, x88_180, x88_181, x88_182, x88_185, x88_187, x88_189, x88_190, x88_192, x88_193, x88_196, x88_198, x88_200, x88_201, x88_203, x88_206, x88_208, x88_210, x88_212, x88_213, x88_216, x88_217, x88_218, x88_221, x88_224, x88_225, x88_228, x88_231, x88_232, x88_233, x88_236, x88_237, x88_240, x88_241, x88_244, x88_245, Option.bind_some, Option.toList_some, Option.toList_none, List.cons_append, List.nil_append, Int.toNat_natCast, Int.toNat_zero, z_w_id, z_b_0, z_b_1, z_b_n0, z_b_t, z_b_f, ↓reduceIte, Int.reduceEq, Int.reduceLT, Int.reduceLE, Int.reduceToNat, not_true_eq_false, not_false_eq_true, false_and, and_false, true_and, and_true, false_or, or_false, true_or, or_true]) | split)
    all_goals rfl
  | succ n ih =>
    intro i Mi li d e hi hw hp
    have k4 := k_c4 (M := Mi)
    have w5 := hi.2.1.1.2.2.2.2.1.1
    by_cases hl : li = []
    · subst hl
      simp only [List.length_nil, Int.natCast_zero] at w5
      rw [w5] at k4
      refine ⟨Mi, (i : Int), ?_, hi, hw, hp.2.2.2.2.2.2.2.2.1, hp.2.2.2.2.1⟩
      rw [x88_134]
      repeat' (first | (exfalso; omega) | (simp (disch := first | omega | assumption | exact z_b_01) only [x88_22, x88_23, x88_25, x88_27, x88_28, x88_31, x88_32, x88_34, x88_35, x88_37, x88_40, x88_41, x88_42, x88_44, x88_45, x88_46, x88_48, x88_49, x88_52, x88_53, x88_55, x88_57, x88_58, x88_59, x88_61, x88_62, x88_65, x88_66, x88_68, x88_71, x88_72, x88_74, x88_75, x88_76, x88_78, x88_79, x88_80, x88_81, x88_82, x88_83, x88_85, x88_86, x88_87, x88_88, x88_89, x88_92, x88_93, x88_96, x88_97, x88_98, x88_101, x88_104, x88_105, x88_106, x88_109, x88_111, x88_114, x88_115, x88_116, x88_119, x88_121, x88_124, x88_125, x88_126, x88_127, x88_130, x88_131, x88_132, x88_136, x88_138, x88_141, x88_142, x88_143, x88_146, x88_149, x88_150, x88_153, x88_156, x88_159, x88_160, x88_161, x88_164, x88_168, x88_170, x88_172, x88_173, x88_176, x88_177, x88_178, x88_180, x88_181, x88_182, x88_185, x88_187, x88_189, x88_190, x88_192, x88_193, x88_196, x88_198, x88_200, x88_201, x88_203, x88_206, x88_208, x88_210, x88_212, x88_213, x88_216, x88_217, x88_218, x88_221, x88_224, x88_225, x88_228, x88_231, x88_232, x88_233, x88_236, x88_237, x88_240, x88_241, x88_244, x88_245, Option.bind_some, Option.toList_some, Option.toList_none, List.cons_append, List.nil_append, Int.toNat_natCast, Int.toNat_zero, z_w_id, z_b_0, z_b_1, z_b_n0, z_b_t, z_b_f, ↓reduceIte, Int.reduceEq, Int.reduceLT, Int.reduceLE, Int.reduceToNat, not_true_eq_false, not_false_eq_true, false_and, and_false, true_and, and_true, false_or, or_false, true_or, or_true, k4]) | split)
      all_goals rfl
    · have hlen := List.length_pos_iff.mpr hl
      have h60 := f_len_60 hi.2.1.1
      have t3 := hp.2.2.1
      obtain ⟨M', l2, r, p1, p2, p3, p4⟩ := k_pass hi (n := 500) (by decide) (by omega)
      have hr := p4.2.2.2.2.2.2.2.1
      have pp := f_ps_app hp p4
      obtain ⟨Mb, i', z1, z2⟩ := ih (i + 1) M' l2 (d + r) (by omega) p2 (w_t_trans hw p3) (by rw [show 500 * (i + 1) = 500 * i + 500 by omega]; exact pp)
      simp only [Int.natCast_add, Int.natCast_one] at z1
      have p1 : z_ev 76 [.inr (some (0, 21)), .inl 500] Mi = some (some (.inl r), M') := p1
      refine ⟨Mb, i', ?_, z2⟩
      rw [x88_134]
      repeat' (first | (exfalso; omega) | (simp (disch := first | omega | assumption | exact z_b_01) only [x88_22, x88_23, x88_25, x88_27, x88_28, x88_31, x88_32, x88_34, x88_35, x88_37, x88_40, x88_41, x88_42, x88_44, x88_45, x88_46, x88_48, x88_49, x88_52, x88_53, x88_55, x88_57, x88_58, x88_59, x88_61, x88_62, x88_65, x88_66, x88_68, x88_71, x88_72, x88_74, x88_75, x88_76, x88_78, x88_79, x88_80, x88_81, x88_82, x88_83, x88_85, x88_86, x88_87, x88_88, x88_89, x88_92, x88_93, x88_96, x88_97, x88_98, x88_101, x88_104, x88_105, x88_106, x88_109, x88_111, x88_114, x88_115, x88_116, x88_119, x88_121, x88_124, x88_125, x88_126, x88_127, x88_130, x88_131, x88_132, x88_136, x88_138, x88_141, x88_142, x88_143, x88_146, x88_149, x88_150, x88_153, x88_156, x88_159, x88_160, x88_161, x88_164, x88_168, x88_170, x88_172, x88_173, x88_176, x88_177, x88_178, x88_180, x88_181, x88_182, x88_185, x88_187, x88_189, x88_190, x88_192, x88_193, x88_196, x88_198, x88_200, x88_201, x88_203, x88_206, x88_208, x88_210, x88_212, x88_213, x88_216, x88_217, x88_218, x88_221, x88_224, x88_225, x88_228, x88_231, x88_232, x88_233, x88_236, x88_237, x88_240, x88_241, x88_244, x88_245, Option.bind_some, Option.toList_some, Option.toList_none, List.cons_append, List.nil_append, Int.toNat_natCast, Int.toNat_zero, z_w_id, z_b_0, z_b_1, z_b_n0, z_b_t, z_b_f, ↓reduceIte, Int.reduceEq, Int.reduceLT, Int.reduceLE, Int.reduceToNat, not_true_eq_false, not_false_eq_true, false_and, and_false, true_and, and_true, false_or, or_false, true_or, or_true, k4, p1, z1]) | split)
      all_goals rfl
theorem q_loopC {M Mb : z_M} {l : List Nat} (hb : w_M Mb []) (h30 : ∀ k : Nat, k < l.length → ((p_o k (M 0) l : Int) < Mb 0 3 0 ∧ Mb 0 19 (p_o k (M 0) l) = p_b k (M 0) l) ∧ Mb 0 30 k = (p_o k (M 0) l : Int) ∧ Mb 0 31 k = p_b k (M 0) l ∧ (Mb 0 32 k = -5 ∨ p_b k (M 0) l ≤ Mb 0 32 k)) (h60 : l.length ≤ 60) : ∀ (n k : Nat) (l6 : Option z_V), k + n = l.length →
    ∃ l6' : Option z_V, z_ex 88 170 [some (.inr (some (0, 21))), some (.inl (l.length : Int)), some (.inr (some (0, 30))), some (.inr (some (0, 31))), some (.inr (some (0, 32))), some (.inl (k : Int)), l6] [] Mb =
      z_ex 88 224 [some (.inr (some (0, 21))), some (.inl (l.length : Int)), some (.inr (some (0, 30))), some (.inr (some (0, 31))), some (.inr (some (0, 32))), some (.inl (l.length : Int)), l6'] [] Mb := by
  intro n
  induction n with
  | zero =>
    intro k l6 e
    obtain rfl : k = l.length := by omega
    refine ⟨l6, ?_⟩
    rw [x88_170]
    repeat' (first | (exfalso; omega) | (simp (disch := first | omega | assumption | exact z_b_01) only [x88_22, x88_23, x88_25, x88_27, x88_28, x88_31, x88_32, x88_34, x88_35, x88_37, x88_40, x88_41, x88_42, x88_44, x88_45, x88_46, x88_48, x88_49, x88_52, x88_53, x88_55, x88_57, x88_58, x88_59, x88_61, x88_62, x88_65, x88_66, x88_68, x88_71, x88_72, x88_74, x88_75, x88_76, x88_78, x88_79, x88_80, x88_81, x88_82, x88_83, x88_85, x88_86, x88_87, x88_88, x88_89, x88_92, x88_93, x88_96, x88_97, x88_98, x88_101, x88_104, x88_105, x88_106, x88_109, x88_111, x88_114, x88_115, x88_116, x88_119, x88_121, x88_124, x88_125, x88_126, x88_127, x88_130, x88_131, x88_132, x88_134, x88_136, x88_138, x88_141, x88_142, x88_143, x88_146, x88_149, x88_150, x88_153, x88_156, x88_159, x88_160, x88_161, x88_164, x88_167, x88_168, x88_172, x88_173, x88_176, x88_177, x88_178, x88_180, x88_181, x88_182, x88_185, x88_187, x88_189, x88_190, x88_192, x88_193, x88_196, x88_198, x88_200, x88_201, x88_203, x88_206, x88_208, x88_210, x88_212, x88_213, x88_216, x88_217, x88_218, x88_221, x88_225, x88_228, x88_231, x88_232, x88_233, x88_236, x88_237, x88_240, x88_241, x88_244, x88_245, Option.bind_some, Option.toList_some, Option.toList_none, List.cons_append, List.nil_append, Int.toNat_natCast, Int.toNat_zero, z_w_id, z_b_0, z_b_1, z_b_n0, z_b_t, z_b_f, ↓reduceIte, Int.reduceEq, Int.reduceLT, Int.reduceLE, Int.reduceToNat, not_true_eq_false, not_false_eq_true, false_and, and_false, true_and, and_true, false_or, or_false, true_or, or_true]) | split)
    all_goals rfl
  | succ n ih =>
    intro k l6 e
    obtain ⟨⟨a1, a2⟩, a3, a4, a5⟩ := h30 k (by omega)
    have kj := k_j4 hb a1
    rw [a2] at kj
    obtain ⟨l6', z1⟩ := ih (k + 1) (some (.inl (p_b k (M 0) l))) (by omega)
    simp only [Int.natCast_add, Int.natCast_one] at z1
    refine ⟨l6', ?_⟩
    rw [x88_170]
    repeat' (first | (exfalso; omega) | (simp (disch := first | omega | assumption | exact z_b_01) only [x88_22, x88_23, x88_25, x88_27, x88_28, x88_31, x88_32, x88_34, x88_35, x88_37, x88_40, x88_41, x88_42, x88_44, x88_45, x88_46, x88_48, x88_49, x88_52, x88_53, x88_55, x88_57, x88_58, x88_59, x88_61, x88_62, x88_65, x88_66, x88_68, x88_71, x88_72, x88_74, x88_75, x88_76, x88_78, x88_79, x88_80, x88_81, x88_82, x88_83, x88_85, x88_86, x88_87, x88_88, x88_89, x88_92, x88_93, x88_96, x88_97, x88_98, x88_101, x88_104, x88_105, x88_106, x88_109, x88_111, x88_114, x88_115, x88_116, x88_119, x88_121, x88_124, x88_125, x88_126, x88_127, x88_130, x88_131, x88_132, x88_134, x88_136, x88_138, x88_141, x88_142, x88_143, x88_146, x88_149, x88_150, x88_153, x88_156, x88_159, x88_160, x88_161, x88_164, x88_167, x88_168, x88_172, x88_173, x88_176, x88_177, x88_178, x88_180, x88_181, x88_182, x88_185, x88_187, x88_189, x88_190, x88_192, x88_193, x88_196, x88_198, x88_200, x88_201, x88_203, x88_206, x88_208, x88_210, x88_212, x88_213, x88_216, x88_217, x88_218, x88_221, x88_225, x88_228, x88_231, x88_232, x88_233, x88_236, x88_237, x88_240, x88_241, x88_244, x88_245, Option.bind_some, Option.toList_some, Option.toList_none, List.cons_append, List.nil_append, Int.toNat_natCast, Int.toNat_zero, z_w_id, z_b_0, z_b_1, z_b_n0, z_b_t, z_b_f, ↓reduceIte, Int.reduceEq, Int.reduceLT, Int.reduceLE, Int.reduceToNat, not_true_eq_false, not_false_eq_true, false_and, and_false, true_and, and_true, false_or, or_false, true_or, or_true, a3, a4, kj, z1]) | split)
    all_goals rfl
/-- comes, behind the making of its rows -/
theorem q_comes {M : z_M} {l : List Nat} (hM : w_M M l) (h40 : l.length ≤ 40) (ht : M 0 0 3 ≤ 3000) :
    ∃ M' : z_M, z_ex 88 22 [some (.inr (some (0, 21))), some (.inl (l.length : Int)), some (.inr (some (0, 30))), some (.inr (some (0, 31))), some (.inr (some (0, 32))), none, none] [] M = some (some (.inl 1), M') ∧ w_M M' l ∧ (∀ o j : Nat, o < 21 → M' 0 o j = M 0 o j) ∧ ∀ o j : Nat, o = 24 ∨ o = 25 → M' 0 o j = M 0 o j := by
  have h60 := f_len_60 hM.2.1.1
  have hG := hM.2.1.1.1.2.2
  obtain ⟨Ma, a1, hA, f21, f1, fa⟩ := q_loopA hM (by omega) l.length 0 M (by omega) ⟨hM, fun _ _ _ => rfl, fun _ _ => rfl, fun i hi => absurd hi (Nat.not_lt_zero i)⟩
  simp only [Int.natCast_zero] at a1
  have s1 := k_served_no hA (Int.le_refl (l.length : Int))
  have s2 := k_served_neg (M := Ma) (k := -1) (by decide)
  obtain ⟨Mk, k1, hK, ko, kh, ks⟩ := k_keep hA
  have t0 : Mk 0 0 3 ≤ 3000 := by rw [ko 0 3 (by omega), f21 0 3 (by decide)]; exact ht
  obtain ⟨Mb, i', b1, hB, bt, bF, b30⟩ := q_loopB (m := (l.length : Int)) hK h40 t0 12 0 Mk l 0 rfl hK (w_t_rfl Mk) (f_ps_zero hK.2.1)
  simp only [Int.natCast_zero] at b1
  have e2 : f_e2 (M 0) (Mk 0) := f_e2_21 fun o i q => by rw [ko o i (by omega), f21 o i (by omega)]
  have eF : p_F (Mb 0) [] = p_F (M 0) l := bF.trans (p_F_eq e2 l)
  have eF2 : ∀ j, Mb 0 19 j = p_F (M 0) l j := fun j => congrFun eF j
  have top : ∀ o j : Nat, 30 ≤ o → Mb 0 o j = Ma 0 o j := fun o j q => by rw [bt.1 o j (by omega) (by omega) (by omega) (by omega), ko o j (by omega)]
  obtain ⟨l6', c1⟩ := q_loopC (M := M) (l := l) hB (fun k hk => by
    obtain ⟨d1, d2, d3⟩ := p_c_kth k (M 0) l hM.2.1.1 hM.2.1.2.1 (f_06 hM.2.1) hk (by omega)
    obtain ⟨x1, x2, x3⟩ := fa k hk
    refine ⟨⟨?_, by rw [eF2]; exact d2⟩, by rw [top 30 k (by decide)]; exact x1, by rw [top 31 k (by decide)]; exact x2, by rw [top 32 k (by decide)]; exact x3⟩
    rw [b30, ko 3 0 (by omega), f21 3 0 (by decide)]
    exact hM.2.1.1.2.2.2.2.1.2.2.2.1 _ d1) h60 l.length 0 none (by omega)
  simp only [Int.natCast_zero] at c1
  have e1 : ∀ o i : Nat, o < 21 → Mb 1 o i = M 0 o i := fun o i q => by rw [bt.2 o i, ks o i q, f21 o i (by omega)]
  obtain ⟨Mr, r1, hR, rt, r21⟩ := k_restore hB (by rw [bt.1 21 2 (by decide) (by decide) (by decide) (by omega)]; exact kh) (f_H_21 hM.2.1 e1) (by rw [e1 0 6 (by decide)]; exact hM.2.2.1)
  rw [e1 0 3 (by decide)] at r1
  have rf : ∀ o j : Nat, o < 21 → Mr 0 o j = M 0 o j := fun o j q => (r21 o j q).trans (e1 o j q)
  have k4 := k_c4 (M := Mr)
  rw [rf 3 5 (by decide), hM.2.1.1.2.2.2.2.1.1] at k4
  refine ⟨Mr, ?_, hR, rf, fun o j q => ?_⟩
  · simp (disch := first | omega | assumption) only [x88_22, x88_23, x88_27, x88_28, x88_31, x88_32, x88_34, x88_35, x88_37, x88_40, x88_41, x88_42, x88_44, x88_45, x88_46, x88_48, x88_49, x88_52, x88_53, x88_55, x88_57, x88_58, x88_59, x88_61, x88_62, x88_65, x88_66, x88_68, x88_71, x88_72, x88_74, x88_75, x88_76, x88_78, x88_79, x88_80, x88_81, x88_82, x88_83, x88_85, x88_86, x88_87, x88_88, x88_89, x88_92, x88_93, x88_96, x88_97, x88_98, x88_101, x88_105, x88_106, x88_109, x88_111, x88_114, x88_115, x88_116, x88_119, x88_121, x88_124, x88_125, x88_126, x88_127, x88_130, x88_131, x88_132, x88_136, x88_138, x88_141, x88_142, x88_143, x88_146, x88_149, x88_150, x88_153, x88_156, x88_159, x88_160, x88_161, x88_164, x88_168, x88_172, x88_173, x88_176, x88_177, x88_178, x88_180, x88_181, x88_182, x88_185, x88_187, x88_189, x88_190, x88_192, x88_193, x88_196, x88_198, x88_200, x88_201, x88_203, x88_206, x88_208, x88_210, x88_212, x88_213, x88_216, x88_217, x88_218, x88_221, x88_225, x88_228, x88_231, x88_232, x88_233, x88_236, x88_237, x88_240, x88_241, x88_244, x88_245, Option.bind_some, Option.toList_some, Option.toList_none, List.cons_append, List.nil_append, Int.toNat_natCast, Int.toNat_zero, z_w_id, z_b_0, z_b_1, z_b_n0, z_b_t, z_b_f, ↓reduceIte, Int.reduceEq, Int.reduceLT, Int.reduceLE, Int.reduceToNat, not_true_eq_false, not_false_eq_true, false_and, and_false, true_and, and_true, false_or, or_false, true_or, or_true]
    rw [a1, x88_104]
    simp (disch := first | omega | assumption) only [x88_22, x88_23, x88_27, x88_28, x88_31, x88_32, x88_34, x88_35, x88_37, x88_40, x88_41, x88_42, x88_44, x88_45, x88_46, x88_48, x88_49, x88_52, x88_53, x88_55, x88_57, x88_58, x88_59, x88_61, x88_62, x88_65, x88_66, x88_68, x88_71, x88_72, x88_74, x88_75, x88_76, x88_78, x88_79, x88_80, x88_81, x88_82, x88_83, x88_85, x88_86, x88_87, x88_88, x88_89, x88_92, x88_93, x88_96, x88_97, x88_98, x88_101, x88_105, x88_106, x88_109, x88_111, x88_114, x88_115, x88_116, x88_119, x88_121, x88_124, x88_125, x88_126, x88_127, x88_130, x88_131, x88_132, x88_136, x88_138, x88_141, x88_142, x88_143, x88_146, x88_149, x88_150, x88_153, x88_156, x88_159, x88_160, x88_161, x88_164, x88_168, x88_172, x88_173, x88_176, x88_177, x88_178, x88_180, x88_181, x88_182, x88_185, x88_187, x88_189, x88_190, x88_192, x88_193, x88_196, x88_198, x88_200, x88_201, x88_203, x88_206, x88_208, x88_210, x88_212, x88_213, x88_216, x88_217, x88_218, x88_221, x88_225, x88_228, x88_231, x88_232, x88_233, x88_236, x88_237, x88_240, x88_241, x88_244, x88_245, Option.bind_some, Option.toList_some, Option.toList_none, List.cons_append, List.nil_append, Int.toNat_natCast, Int.toNat_zero, z_w_id, z_b_0, z_b_1, z_b_n0, z_b_t, z_b_f, ↓reduceIte, Int.reduceEq, Int.reduceLT, Int.reduceLE, Int.reduceToNat, not_true_eq_false, not_false_eq_true, false_and, and_false, true_and, and_true, false_or, or_false, true_or, or_true, s1, s2, k1]
    rw [b1, x88_167]
    simp (disch := first | omega | assumption) only [x88_22, x88_23, x88_27, x88_28, x88_31, x88_32, x88_34, x88_35, x88_37, x88_40, x88_41, x88_42, x88_44, x88_45, x88_46, x88_48, x88_49, x88_52, x88_53, x88_55, x88_57, x88_58, x88_59, x88_61, x88_62, x88_65, x88_66, x88_68, x88_71, x88_72, x88_74, x88_75, x88_76, x88_78, x88_79, x88_80, x88_81, x88_82, x88_83, x88_85, x88_86, x88_87, x88_88, x88_89, x88_92, x88_93, x88_96, x88_97, x88_98, x88_101, x88_105, x88_106, x88_109, x88_111, x88_114, x88_115, x88_116, x88_119, x88_121, x88_124, x88_125, x88_126, x88_127, x88_130, x88_131, x88_132, x88_136, x88_138, x88_141, x88_142, x88_143, x88_146, x88_149, x88_150, x88_153, x88_156, x88_159, x88_160, x88_161, x88_164, x88_168, x88_172, x88_173, x88_176, x88_177, x88_178, x88_180, x88_181, x88_182, x88_185, x88_187, x88_189, x88_190, x88_192, x88_193, x88_196, x88_198, x88_200, x88_201, x88_203, x88_206, x88_208, x88_210, x88_212, x88_213, x88_216, x88_217, x88_218, x88_221, x88_225, x88_228, x88_231, x88_232, x88_233, x88_236, x88_237, x88_240, x88_241, x88_244, x88_245, Option.bind_some, Option.toList_some, Option.toList_none, List.cons_append, List.nil_append, Int.toNat_natCast, Int.toNat_zero, z_w_id, z_b_0, z_b_1, z_b_n0, z_b_t, z_b_f, ↓reduceIte, Int.reduceEq, Int.reduceLT, Int.reduceLE, Int.reduceToNat, not_true_eq_false, not_false_eq_true, false_and, and_false, true_and, and_true, false_or, or_false, true_or, or_true]
    rw [c1, x88_224]
    repeat' (first | (exfalso; omega) | (simp (disch := first | omega | assumption | exact z_b_01) only [x88_22, x88_23, x88_27, x88_28, x88_31, x88_32, x88_34, x88_35, x88_37, x88_40, x88_41, x88_42, x88_44, x88_45, x88_46, x88_48, x88_49, x88_52, x88_53, x88_55, x88_57, x88_58, x88_59, x88_61, x88_62, x88_65, x88_66, x88_68, x88_71, x88_72, x88_74, x88_75, x88_76, x88_78, x88_79, x88_80, x88_81, x88_82, x88_83, x88_85, x88_86, x88_87, x88_88, x88_89, x88_92, x88_93, x88_96, x88_97, x88_98, x88_101, x88_105, x88_106, x88_109, x88_111, x88_114, x88_115, x88_116, x88_119, x88_121, x88_124, x88_125, x88_126, x88_127, x88_130, x88_131, x88_132, x88_136, x88_138, x88_141, x88_142, x88_143, x88_146, x88_149, x88_150, x88_153, x88_156, x88_159, x88_160, x88_161, x88_164, x88_168, x88_172, x88_173, x88_176, x88_177, x88_178, x88_180, x88_181, x88_182, x88_185, x88_187, x88_189, x88_190, x88_192, x88_193, x88_196, x88_198, x88_200, x88_201, x88_203, x88_206, x88_208, x88_210, x88_212, x88_213, x88_216, x88_217, x88_218, x88_221, x88_225, x88_228, x88_231, x88_232, x88_233, x88_236, x88_237, x88_240, x88_241, x88_244, x88_245, Option.bind_some, Option.toList_some, Option.toList_none, List.cons_append, List.nil_append, Int.toNat_natCast, Int.toNat_zero, z_w_id, z_b_0, z_b_1, z_b_n0, z_b_t, z_b_f, ↓reduceIte, Int.reduceEq, Int.reduceLT, Int.reduceLE, Int.reduceToNat, not_true_eq_false, not_false_eq_true, false_and, and_false, true_and, and_true, false_or, or_false, true_or, or_true, r1, k4]) | split)
  · rw [rt o j (by omega) (by omega) (by omega), bt.1 o j (by omega) (by omega) (by omega) (by omega), ko o j (by omega), f21 o j (by omega)]
