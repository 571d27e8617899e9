/-! the jobs of a text, both sides -/
theorem k_jend {N : z_M} {n : Nat} (hn : N 0 30 7 = (n : Int)) (h60 : n ≤ 60) {ρ : Nat → Int} {b : Nat} (come cnt : Int) (told : Option z_V) : z_ex 112 9 [some (.inr (some (0, 30))), some (.inl come), some (.inl cnt), some (.inl 0), told] [] (t_m N ρ (b : Int)) = some (some (.inl (if b < n then -100 else cnt)), t_m N ρ (b : Int)) := by
  have e7 : t_m N ρ (b : Int) 0 30 7 = (n : Int) := by rw [t_m_o (by decide) (by omega)]; exact hn
  rw [x112_9]
  repeat' (first | (exfalso; omega) | (simp (disch := first | omega | assumption | exact z_b_01) only [x112_0, x112_1, x112_2, x112_5, x112_6, x112_7, x112_8, x112_10, x112_13, x112_14, x112_15, x112_18, x112_20, x112_22, x112_25, x112_27, x112_28, x112_31, x112_32, x112_34, x112_36, x112_39, x112_40, x112_41, x112_42, x112_45, x112_46, x112_49, x112_50, x112_53, x112_54, x112_55, x112_58, x112_61, x112_62, x112_65, x112_66, x112_69, x112_72, x112_74, x112_77, x112_78, Option.bind_some, Option.toList_some, Option.toList_none, List.cons_append, List.nil_append, Int.toNat_natCast, Int.toNat_zero, z_w_id, z_b_0, z_b_1, z_b_n0, z_b_t, z_b_f, ↓reduceIte, Int.reduceEq, Int.reduceLT, Int.reduceLE, Int.reduceToNat, not_true_eq_false, not_false_eq_true, false_and, and_false, true_and, and_true, false_or, or_false, true_or, or_true, t_m_at, e7]) | split)
  all_goals (refine z_ri ?_ rfl; split <;> omega)
/-- a job is read without fault: what comes behind it -/
theorem k_jnext {N : z_M} {n : Nat} (hn : N 0 30 7 = (n : Int)) (h60 : n ≤ 60) {S : Nat → Int} (hS : ∀ i, i < n → N 0 35 i = S i) {ρ ρ' : Nat → Int} {a b : Nat} {come cnt v : Int} (hc : 0 ≤ cnt ∧ cnt ≤ 100) (hb : b ≤ 100) (hv : 0 ≤ v) (told : Option z_V) (he : z_ev 124 [.inr (some (0, 30)), .inl come] (t_m N ρ (a : Int)) = some (some (.inl v), t_m N ρ' (b : Int))) :
    z_ex 112 9 [some (.inr (some (0, 30))), some (.inl come), some (.inl cnt), some (.inl 1), told] [] (t_m N ρ (a : Int)) = if b < n ∧ S b = 59 then z_ex 112 9 [some (.inr (some (0, 30))), some (.inl come), some (.inl (cnt + 1)), some (.inl 1), some (.inl v)] [] (t_m N ρ' ((b + 1 : Nat) : Int)) else some (some (.inl (if b < n then -100 else cnt + 1)), t_m N ρ' (b : Int)) := by
  have s0 := k_sees hn h60 hS ρ' b 59 59
  have ke := k_jend (ρ := ρ') (b := b) hn h60 come (cnt + 1) (some (.inl v))
  by_cases h : b < n ∧ S b = 59
  · rw [z_b_t (by omega)] at s0
    rw [if_pos h, x112_9, Int.natCast_add, Int.natCast_one]
    repeat' (first | (exfalso; omega) | (simp (disch := first | omega | assumption | exact z_b_01) only [x112_0, x112_1, x112_2, x112_5, x112_6, x112_7, x112_8, x112_10, x112_13, x112_14, x112_15, x112_18, x112_20, x112_22, x112_25, x112_27, x112_28, x112_31, x112_32, x112_34, x112_36, x112_39, x112_40, x112_41, x112_42, x112_45, x112_46, x112_49, x112_50, x112_53, x112_54, x112_55, x112_58, x112_61, x112_62, x112_65, x112_66, x112_69, x112_72, x112_74, x112_77, x112_78, Option.bind_some, Option.toList_some, Option.toList_none, List.cons_append, List.nil_append, Int.toNat_natCast, Int.toNat_zero, z_w_id, z_b_0, z_b_1, z_b_n0, z_b_t, z_b_f, ↓reduceIte, Int.reduceEq, Int.reduceLT, Int.reduceLE, Int.reduceToNat, not_true_eq_false, not_false_eq_true, false_and, and_false, true_and, and_true, false_or, or_false, true_or, or_true, he, s0, t_m_at, t_m_up]) | split)
  · rw [z_b_f (by omega)] at s0
    rw [if_neg h, ← ke, x112_9]
    repeat' (first | (exfalso; omega) | (simp (disch := first | omega | assumption | exact z_b_01) only [x112_0, x112_1, x112_2, x112_5, x112_6, x112_7, x112_8, x112_10, x112_13, x112_14, x112_15, x112_18, x112_20, x112_22, x112_25, x112_27, x112_28, x112_31, x112_32, x112_34, x112_36, x112_39, x112_40, x112_41, x112_42, x112_45, x112_46, x112_49, x112_50, x112_53, x112_54, x112_55, x112_58, x112_61, x112_62, x112_65, x112_66, x112_69, x112_72, x112_74, x112_77, x112_78, Option.bind_some, Option.toList_some, Option.toList_none, List.cons_append, List.nil_append, Int.toNat_natCast, Int.toNat_zero, z_w_id, z_b_0, z_b_1, z_b_n0, z_b_t, z_b_f, ↓reduceIte, Int.reduceEq, Int.reduceLT, Int.reduceLE, Int.reduceToNat, not_true_eq_false, not_false_eq_true, false_and, and_false, true_and, and_true, false_or, or_false, true_or, or_true, he, s0, t_m_at, t_m_up, Int.add_zero]) | split)
theorem k_jbad {N : z_M} {ρ ρ' : Nat → Int} {a : Nat} {b come cnt v : Int} (hv : v < 0) (told : Option z_V) (he : z_ev 124 [.inr (some (0, 30)), .inl come] (t_m N ρ (a : Int)) = some (some (.inl v), t_m N ρ' b)) :
    z_ex 112 9 [some (.inr (some (0, 30))), some (.inl come), some (.inl cnt), some (.inl 1), told] [] (t_m N ρ (a : Int)) = some (some (.inl v), t_m N ρ' b) := by
  rw [x112_9]
  repeat' (first | (exfalso; omega) | (simp (disch := first | omega | assumption | exact z_b_01) only [x112_0, x112_1, x112_2, x112_5, x112_6, x112_7, x112_8, x112_10, x112_13, x112_14, x112_15, x112_18, x112_20, x112_22, x112_25, x112_27, x112_28, x112_31, x112_32, x112_34, x112_36, x112_39, x112_40, x112_41, x112_42, x112_45, x112_46, x112_49, x112_50, x112_53, x112_54, x112_55, x112_58, x112_61, x112_62, x112_65, x112_66, x112_69, x112_72, x112_74, x112_77, x112_78, Option.bind_some, Option.toList_some, Option.toList_none, List.cons_append, List.nil_append, Int.toNat_natCast, Int.toNat_zero, z_w_id, z_b_0, z_b_1, z_b_n0, z_b_t, z_b_f, ↓reduceIte, Int.reduceEq, Int.reduceLT, Int.reduceLE, Int.reduceToNat, not_true_eq_false, not_false_eq_true, false_and, and_false, true_and, and_true, false_or, or_false, true_or, or_true, he]) | split)
theorem k_jobsF {N : z_M} {n : Nat} (hn : N 0 30 7 = (n : Int)) (h60 : n ≤ 60) {S : Nat → Int} (hS : ∀ i, i < n → N 0 35 i = S i) (ρ : Nat → Int) : ∀ (k a : Nat) (cnt : Int) (told : Option z_V), a ≤ n → n < k + a → 0 ≤ cnt → cnt ≤ (a : Int) →
    ∃ r a' : Int, z_ex 112 9 [some (.inr (some (0, 30))), some (.inl 0), some (.inl cnt), some (.inl 1), told] [] (t_m N ρ (a : Int)) = some (some (.inl r), t_m N ρ a') ∧ ((0 ≤ t_F S n k a ∧ r = -100 ∧ a' = t_F S n k a) ∨ (t_F S n k a = -5 ∧ 0 ≤ r)) ∧ 0 ≤ a' ∧ a' ≤ 100 := by
  intro k
  induction k with
  | zero => intro a cnt told h1 h2; omega
  | succ k ih =>
    intro a cnt told h1 h2 h3 h4
    unfold t_F
    by_cases c0 : a < n ∧ t_D (S a)
    · rw [if_neg (fun q => q c0)]
      by_cases c1 : a + 1 < n ∧ S (a + 1) = 58
      · rw [if_neg (fun q => q c1)]
        by_cases c2 : a + 2 < n ∧ 49 ≤ S (a + 2) ∧ S (a + 2) ≤ 57
        · rw [if_neg (fun q => q c2)]
          by_cases c3 : a + 3 < n ∧ t_D (S (a + 3))
          · rw [if_pos c3]
            have he : z_ev 124 [.inr (some (0, 30)), .inl 0] (t_m N ρ (a : Int)) = some (some (.inl 0), t_m N ρ ((a + 4 : Nat) : Int)) := by
              rw [x124, k_rj3 hn h60 hS 0 c0 c1 c2 c3, x124_137]
              repeat' (first | (exfalso; omega) | (simp (disch := first | omega | assumption | exact z_b_01) only [x124_0, x124_1, x124_3, x124_5, x124_8, x124_11, x124_13, x124_14, x124_15, x124_18, x124_19, x124_22, x124_23, x124_25, x124_26, x124_27, x124_28, x124_29, x124_32, x124_33, x124_34, x124_37, x124_38, x124_40, x124_42, x124_45, x124_48, x124_50, x124_51, x124_52, x124_53, x124_56, x124_57, x124_58, x124_61, x124_62, x124_64, x124_66, x124_69, x124_72, x124_74, x124_75, x124_76, x124_79, x124_80, x124_83, x124_84, x124_86, x124_87, x124_88, x124_89, x124_90, x124_93, x124_94, x124_95, x124_98, x124_99, x124_101, x124_103, x124_106, x124_109, x124_111, x124_112, x124_113, x124_114, x124_117, x124_118, x124_121, x124_122, x124_123, x124_125, x124_126, x124_127, x124_128, x124_129, x124_132, x124_133, x124_134, x124_138, x124_141, x124_142, x124_143, x124_144, x124_145, x124_146, x124_149, x124_151, x124_153, x124_156, x124_157, x124_158, x124_159, x124_162, x124_163, x124_165, Option.bind_some, Option.toList_some, Option.toList_none, List.cons_append, List.nil_append, Int.toNat_natCast, Int.toNat_zero, z_w_id, z_b_0, z_b_1, z_b_n0, z_b_t, z_b_f, ↓reduceIte, Int.reduceEq, Int.reduceLT, Int.reduceLE, Int.reduceToNat, not_true_eq_false, not_false_eq_true, false_and, and_false, true_and, and_true, false_or, or_false, true_or, or_true]) | split)
              rw [show (a : Int) + 1 + 1 + 1 + 1 = ((a + 4 : Nat) : Int) by omega]
            rw [k_jnext hn h60 hS (by omega) (by omega) (by decide) told he]
            by_cases c4 : a + 4 = n
            · rw [if_pos c4, if_neg (by omega), if_neg (by omega)]
              exact ⟨_, _, rfl, Or.inr ⟨rfl, by omega⟩, by omega, by omega⟩
            · rw [if_neg c4]
              by_cases c5 : S (a + 4) = 59
              · rw [if_pos c5, if_pos ⟨by omega, c5⟩]
                exact ih (a + 5) (cnt + 1) _ (by omega) (by omega) (by omega) (by omega)
              · rw [if_neg c5, if_neg (fun q => c5 q.2), if_pos (by omega)]
                exact ⟨_, _, rfl, Or.inl ⟨by omega, rfl, by omega⟩, by omega, by omega⟩
          · rw [if_neg c3]
            have he : z_ev 124 [.inr (some (0, 30)), .inl 0] (t_m N ρ (a : Int)) = some (some (.inl 0), t_m N ρ ((a + 3 : Nat) : Int)) := by
              rw [x124, k_rj4 hn h60 hS 0 c0 c1 c2 c3, x124_137]
              repeat' (first | (exfalso; omega) | (simp (disch := first | omega | assumption | exact z_b_01) only [x124_0, x124_1, x124_3, x124_5, x124_8, x124_11, x124_13, x124_14, x124_15, x124_18, x124_19, x124_22, x124_23, x124_25, x124_26, x124_27, x124_28, x124_29, x124_32, x124_33, x124_34, x124_37, x124_38, x124_40, x124_42, x124_45, x124_48, x124_50, x124_51, x124_52, x124_53, x124_56, x124_57, x124_58, x124_61, x124_62, x124_64, x124_66, x124_69, x124_72, x124_74, x124_75, x124_76, x124_79, x124_80, x124_83, x124_84, x124_86, x124_87, x124_88, x124_89, x124_90, x124_93, x124_94, x124_95, x124_98, x124_99, x124_101, x124_103, x124_106, x124_109, x124_111, x124_112, x124_113, x124_114, x124_117, x124_118, x124_121, x124_122, x124_123, x124_125, x124_126, x124_127, x124_128, x124_129, x124_132, x124_133, x124_134, x124_138, x124_141, x124_142, x124_143, x124_144, x124_145, x124_146, x124_149, x124_151, x124_153, x124_156, x124_157, x124_158, x124_159, x124_162, x124_163, x124_165, Option.bind_some, Option.toList_some, Option.toList_none, List.cons_append, List.nil_append, Int.toNat_natCast, Int.toNat_zero, z_w_id, z_b_0, z_b_1, z_b_n0, z_b_t, z_b_f, ↓reduceIte, Int.reduceEq, Int.reduceLT, Int.reduceLE, Int.reduceToNat, not_true_eq_false, not_false_eq_true, false_and, and_false, true_and, and_true, false_or, or_false, true_or, or_true]) | split)
              rw [show (a : Int) + 1 + 1 + 1 = ((a + 3 : Nat) : Int) by omega]
            rw [k_jnext hn h60 hS (by omega) (by omega) (by decide) told he]
            by_cases c4 : a + 3 = n
            · rw [if_pos c4, if_neg (by omega), if_neg (by omega)]
              exact ⟨_, _, rfl, Or.inr ⟨rfl, by omega⟩, by omega, by omega⟩
            · rw [if_neg c4]
              by_cases c5 : S (a + 3) = 59
              · rw [if_pos c5, if_pos ⟨by omega, c5⟩]
                exact ih (a + 4) (cnt + 1) _ (by omega) (by omega) (by omega) (by omega)
              · rw [if_neg c5, if_neg (fun q => c5 q.2), if_pos (by omega)]
                exact ⟨_, _, rfl, Or.inl ⟨by omega, rfl, by omega⟩, by omega, by omega⟩
        · rw [if_pos c2]
          have he : z_ev 124 [.inr (some (0, 30)), .inl 0] (t_m N ρ (a : Int)) = some (some (.inl (-100)), t_m N ρ ((a : Int) + 1 + 1)) := by
            rw [x124]; exact k_rj2 hn h60 hS 0 c0 c1 c2
          exact ⟨_, _, k_jbad (by decide) told he, Or.inl ⟨by omega, rfl, by omega⟩, by omega, by omega⟩
      · rw [if_pos c1]
        have he : z_ev 124 [.inr (some (0, 30)), .inl 0] (t_m N ρ (a : Int)) = some (some (.inl (-100)), t_m N ρ ((a : Int) + 1)) := by
          rw [x124]; exact k_rj1 hn h60 hS 0 c0 c1
        exact ⟨_, _, k_jbad (by decide) told he, Or.inl ⟨by omega, rfl, by omega⟩, by omega, by omega⟩
    · rw [if_pos c0]
      have he : z_ev 124 [.inr (some (0, 30)), .inl 0] (t_m N ρ (a : Int)) = some (some (.inl (-100)), t_m N ρ (a : Int)) := by
        rw [x124]; exact k_rj0 hn h60 hS 0 c0
      exact ⟨_, _, k_jbad (by decide) told he, Or.inl ⟨by omega, rfl, by omega⟩, by omega, by omega⟩
theorem k_digitAt {M : z_M} {n : Nat} (hn : M 0 24 0 = (n : Int)) (h60 : n ≤ 60) (a : Nat) : z_ev 47 [.inr (some (0, 24)), .inl (a : Int)] M = some (some (.inl (if a < n ∧ t_D (M 0 25 a) then M 0 25 a - 48 else -5)), M) := by
  rw [x47]
  repeat' (first | (exfalso; omega) | (simp (disch := first | omega | assumption | exact z_b_01) only [x47_0, x47_1, x47_4, x47_5, x47_6, x47_9, x47_12, x47_13, x47_15, x47_18, x47_19, x47_22, x47_23, x47_24, x47_26, x47_29, x47_30, x47_33, x47_34, x47_35, x47_37, x47_40, x47_42, x47_43, x47_44, x47_47, x47_48, x47_49, x47_51, x47_52, Option.bind_some, Option.toList_some, Option.toList_none, List.cons_append, List.nil_append, Int.toNat_natCast, Int.toNat_zero, z_w_id, z_b_0, z_b_1, z_b_n0, z_b_t, z_b_f, ↓reduceIte, Int.reduceEq, Int.reduceLT, Int.reduceLE, Int.reduceToNat, not_true_eq_false, not_false_eq_true, false_and, and_false, true_and, and_true, false_or, or_false, true_or, or_true, hn]) | split)
  all_goals (refine z_ri ?_ rfl; unfold t_D; (repeat' split) <;> omega)
theorem k_sizeAt {M : z_M} {n : Nat} (hn : M 0 24 0 = (n : Int)) (h60 : n ≤ 60) {b : Nat} (hb : b < n) (hd : t_D (M 0 25 b)) : z_ev 50 [.inr (some (0, 24)), .inl (b : Int)] M = some (some (.inl (if b + 1 < n ∧ t_D (M 0 25 (b + 1)) then 10 * (M 0 25 b - 48) + M 0 25 (b + 1) - 48 else M 0 25 b - 48)), M) := by
  have k1 := k_digitAt hn h60 b
  have k2 := k_digitAt hn h60 (b + 1)
  rw [if_pos ⟨hb, hd⟩] at k1
  simp only [Int.natCast_add, Int.natCast_one] at k2
  rw [x50]
  by_cases h : b + 1 < n ∧ t_D (M 0 25 (b + 1))
  · rw [if_pos h] at k2 ⊢
    obtain ⟨q1, q2⟩ := h
    repeat' (first | (exfalso; omega) | (simp (disch := first | omega | assumption | exact z_b_01) only [x50_0, x50_1, x50_2, x50_5, x50_6, x50_7, x50_8, x50_9, x50_10, x50_13, x50_14, x50_15, x50_17, x50_20, x50_21, x50_24, x50_25, x50_27, x50_28, x50_29, x50_30, Option.bind_some, Option.toList_some, Option.toList_none, List.cons_append, List.nil_append, Int.toNat_natCast, Int.toNat_zero, z_w_id, z_b_0, z_b_1, z_b_n0, z_b_t, z_b_f, ↓reduceIte, Int.reduceEq, Int.reduceLT, Int.reduceLE, Int.reduceToNat, not_true_eq_false, not_false_eq_true, false_and, and_false, true_and, and_true, false_or, or_false, true_or, or_true, k1, k2]) | split)
    all_goals (refine z_ri ?_ rfl; omega)
  · rw [if_neg h] at k2 ⊢
    repeat' (first | (exfalso; omega) | (simp (disch := first | omega | assumption | exact z_b_01) only [x50_0, x50_1, x50_2, x50_5, x50_6, x50_7, x50_8, x50_9, x50_10, x50_13, x50_14, x50_15, x50_17, x50_20, x50_21, x50_24, x50_25, x50_27, x50_28, x50_29, x50_30, Option.bind_some, Option.toList_some, Option.toList_none, List.cons_append, List.nil_append, Int.toNat_natCast, Int.toNat_zero, z_w_id, z_b_0, z_b_1, z_b_n0, z_b_t, z_b_f, ↓reduceIte, Int.reduceEq, Int.reduceLT, Int.reduceLE, Int.reduceToNat, not_true_eq_false, not_false_eq_true, false_and, and_false, true_and, and_true, false_or, or_false, true_or, or_true, k1, k2]) | split)
theorem a_why_ur (M : z_M) (s : Fin 7) (B : Nat → Nat → Int) (c z : Int) : a_why (z_ur M s B s) c z = a_why B c z := by
  unfold a_why
  simp (disch := decide) only [z_ur_get]
section TJ
theorem k_cjob {M : z_M} {n : Nat} (hn : M 0 24 0 = (n : Int)) (h60 : n ≤ 60) {B : Nat → Nat → Int} (hG : i_G B) (f : Int) (w s e : Option z_V) {a : Nat} {c z cnt : Int} (ha : a < n) (hd : z_ev 47 [.inr (some (0, 24)), .inl (a : Int)] (z_ur M 2 B) = some (some (.inl c), z_ur M 2 B)) (hs : z_ev 50 [.inr (some (0, 24)), .inl ((a : Int) + 2)] (z_ur M 2 B) = some (some (.inl z), z_ur M 2 B)) (hw : a_why B c z < 0) :
    z_ex 78 32 [some (.inr (some (0, 21))), some (.inl f), some (.inl cnt), some (.inl (a : Int)), w, s, e] [] (z_ur M 2 B) = some (some (.inl (a_why B c z)), z_ur M 2 B) := by
  have kw := k_whyNotAdmit (s := 2) (M := z_ur M 2 B) (i_G_ur hG) c z
  rw [a_why_ur] at kw
  have e24 : z_ur M 2 B 0 24 0 = (n : Int) := by rw [z_ur_top (by decide)]; exact hn
  rw [x78_32]
  repeat' (first | (exfalso; omega) | (simp (disch := first | omega | assumption | exact z_b_01) only [x78_0, x78_1, x78_4, x78_7, x78_8, x78_9, x78_12, x78_14, x78_15, x78_16, x78_17, x78_18, x78_21, x78_22, x78_25, x78_28, x78_29, x78_30, x78_31, x78_33, x78_34, x78_37, x78_40, x78_43, x78_44, x78_47, x78_48, x78_51, x78_53, x78_54, x78_57, x78_58, x78_59, x78_60, x78_63, x78_65, x78_66, x78_69, x78_71, x78_73, x78_76, x78_78, x78_80, x78_83, x78_85, x78_86, x78_87, x78_90, x78_92, x78_94, x78_97, x78_98, x78_101, x78_102, x78_104, x78_106, x78_109, x78_110, x78_113, x78_114, x78_115, x78_116, x78_120, x78_123, x78_124, x78_127, x78_130, x78_131, x78_134, x78_135, x78_138, x78_141, x78_142, Option.bind_some, Option.toList_some, Option.toList_none, List.cons_append, List.nil_append, Int.toNat_natCast, Int.toNat_zero, z_w_id, z_b_0, z_b_1, z_b_n0, z_b_t, z_b_f, ↓reduceIte, Int.reduceEq, Int.reduceLT, Int.reduceLE, Int.reduceToNat, not_true_eq_false, not_false_eq_true, false_and, and_false, true_and, and_true, false_or, or_false, true_or, or_true, e24, hd, hs, kw]) | split)
theorem k_cjob2 {M : z_M} {n : Nat} (hn : M 0 24 0 = (n : Int)) (h60 : n ≤ 60) {B B' : Nat → Nat → Int} (hG : i_G B) (f : Int) (w s e : Option z_V) {a : Nat} {c z cnt j : Int} (ha : a < n) (hc : 0 ≤ cnt ∧ cnt ≤ 100) (hd : z_ev 47 [.inr (some (0, 24)), .inl (a : Int)] (z_ur M 2 B) = some (some (.inl c), z_ur M 2 B)) (hs : z_ev 50 [.inr (some (0, 24)), .inl ((a : Int) + 2)] (z_ur M 2 B) = some (some (.inl z), z_ur M 2 B)) (hw : a_why B c z = 0) (hm : z_ev 26 [.inr (some (2, 0)), .inl c, .inl z] (z_ur M 2 B) = some (some (.inl j), z_ur M 2 B')) :
    z_ex 78 32 [some (.inr (some (0, 21))), some (.inl f), some (.inl cnt), some (.inl (a : Int)), w, s, e] [] (z_ur M 2 B) = z_ex 78 32 [some (.inr (some (0, 21))), some (.inl f), some (.inl (cnt + 1)), some (.inl ((a : Int) + if z < 10 then 4 else 5)), some (.inl c), some (.inl z), some (.inl 0)] [] (z_ur M 2 B') := by
  have kw := k_whyNotAdmit (s := 2) (M := z_ur M 2 B) (i_G_ur hG) c z
  rw [a_why_ur, hw] at kw
  have e24 : z_ur M 2 B 0 24 0 = (n : Int) := by rw [z_ur_top (by decide)]; exact hn
  by_cases h : z < 10
  · rw [if_pos h, x78_32]
    repeat' (first | (exfalso; omega) | (simp (disch := first | omega | assumption | exact z_b_01) only [x78_0, x78_1, x78_4, x78_7, x78_8, x78_9, x78_12, x78_14, x78_15, x78_16, x78_17, x78_18, x78_21, x78_22, x78_25, x78_28, x78_29, x78_30, x78_31, x78_33, x78_34, x78_37, x78_40, x78_43, x78_44, x78_47, x78_48, x78_51, x78_53, x78_54, x78_57, x78_58, x78_59, x78_60, x78_63, x78_65, x78_66, x78_69, x78_71, x78_73, x78_76, x78_78, x78_80, x78_83, x78_85, x78_86, x78_87, x78_90, x78_92, x78_94, x78_97, x78_98, x78_101, x78_102, x78_104, x78_106, x78_109, x78_110, x78_113, x78_114, x78_115, x78_116, x78_120, x78_123, x78_124, x78_127, x78_130, x78_131, x78_134, x78_135, x78_138, x78_141, x78_142, Option.bind_some, Option.toList_some, Option.toList_none, List.cons_append, List.nil_append, Int.toNat_natCast, Int.toNat_zero, z_w_id, z_b_0, z_b_1, z_b_n0, z_b_t, z_b_f, ↓reduceIte, Int.reduceEq, Int.reduceLT, Int.reduceLE, Int.reduceToNat, not_true_eq_false, not_false_eq_true, false_and, and_false, true_and, and_true, false_or, or_false, true_or, or_true, e24, hd, hs, kw, hm]) | split)
  · rw [if_neg h, x78_32]
    repeat' (first | (exfalso; omega) | (simp (disch := first | omega | assumption | exact z_b_01) only [x78_0, x78_1, x78_4, x78_7, x78_8, x78_9, x78_12, x78_14, x78_15, x78_16, x78_17, x78_18, x78_21, x78_22, x78_25, x78_28, x78_29, x78_30, x78_31, x78_33, x78_34, x78_37, x78_40, x78_43, x78_44, x78_47, x78_48, x78_51, x78_53, x78_54, x78_57, x78_58, x78_59, x78_60, x78_63, x78_65, x78_66, x78_69, x78_71, x78_73, x78_76, x78_78, x78_80, x78_83, x78_85, x78_86, x78_87, x78_90, x78_92, x78_94, x78_97, x78_98, x78_101, x78_102, x78_104, x78_106, x78_109, x78_110, x78_113, x78_114, x78_115, x78_116, x78_120, x78_123, x78_124, x78_127, x78_130, x78_131, x78_134, x78_135, x78_138, x78_141, x78_142, Option.bind_some, Option.toList_some, Option.toList_none, List.cons_append, List.nil_append, Int.toNat_natCast, Int.toNat_zero, z_w_id, z_b_0, z_b_1, z_b_n0, z_b_t, z_b_f, ↓reduceIte, Int.reduceEq, Int.reduceLT, Int.reduceLE, Int.reduceToNat, not_true_eq_false, not_false_eq_true, false_and, and_false, true_and, and_true, false_or, or_false, true_or, or_true, e24, hd, hs, kw, hm]) | split)
theorem k_cend {M : z_M} {n : Nat} (hn : M 0 24 0 = (n : Int)) {B : Nat → Nat → Int} (f cnt a : Int) (w s e : Option z_V) (ha : (n : Int) ≤ a) : z_ex 78 32 [some (.inr (some (0, 21))), some (.inl f), some (.inl cnt), some (.inl a), w, s, e] [] (z_ur M 2 B) = z_ex 78 119 [some (.inr (some (0, 21))), some (.inl f), some (.inl cnt), some (.inl a), w, s, e] [] (z_ur M 2 B) := by
  have e24 : z_ur M 2 B 0 24 0 = (n : Int) := by rw [z_ur_top (by decide)]; exact hn
  rw [x78_32]
  repeat' (first | (exfalso; omega) | (simp (disch := first | omega | assumption | exact z_b_01) only [x78_0, x78_1, x78_4, x78_7, x78_8, x78_9, x78_12, x78_14, x78_15, x78_16, x78_17, x78_18, x78_21, x78_22, x78_25, x78_28, x78_29, x78_30, x78_31, x78_33, x78_34, x78_37, x78_40, x78_43, x78_44, x78_47, x78_48, x78_51, x78_53, x78_54, x78_57, x78_58, x78_59, x78_60, x78_63, x78_65, x78_66, x78_69, x78_71, x78_73, x78_76, x78_78, x78_80, x78_83, x78_85, x78_86, x78_87, x78_90, x78_92, x78_94, x78_97, x78_98, x78_101, x78_102, x78_104, x78_106, x78_109, x78_110, x78_113, x78_114, x78_115, x78_116, x78_120, x78_123, x78_124, x78_127, x78_130, x78_131, x78_134, x78_135, x78_138, x78_141, x78_142, Option.bind_some, Option.toList_some, Option.toList_none, List.cons_append, List.nil_append, Int.toNat_natCast, Int.toNat_zero, z_w_id, z_b_0, z_b_1, z_b_n0, z_b_t, z_b_f, ↓reduceIte, Int.reduceEq, Int.reduceLT, Int.reduceLE, Int.reduceToNat, not_true_eq_false, not_false_eq_true, false_and, and_false, true_and, and_true, false_or, or_false, true_or, or_true, e24]) | split)
end TJ
/-- a job of the text, let in or refused, by the model -/
theorem k_mjob {N : z_M} {B : Nat → Nat → Int} {ρ : Nat → Int} {l : List Nat} (hF : e_F 0 B ρ l) {a b c : Nat} {z : Int} (hr : z_ex 124 0 [some (.inr (some (0, 30))), some (.inl 1), none, none, none] [] (t_m N ρ (a : Int)) = z_ex 124 137 [some (.inr (some (0, 30))), some (.inl 1), some (.inl (c : Int)), some (.inl z), none] [] (t_m N ρ (b : Int))) :
    (a_why B c z < 0 → z_ev 124 [.inr (some (0, 30)), .inl 1] (t_m N ρ (a : Int)) = some (some (.inl (a_why B c z)), t_m N ρ (b : Int))) ∧
    (a_why B c z = 0 → ∀ j : Nat, B 3 0 = (j : Int) → z_ev 124 [.inr (some (0, 30)), .inl 1] (t_m N ρ (a : Int)) = some (some (.inl 0), t_m N (m_come ρ j c z) (b : Int))) := by
  have hI := hF.1
  have hW := hF.2.1
  have g2 := hI.1.2.1
  have ka := k_against (M := t_m N ρ (b : Int)) (by unfold t_m; rw [z_mr_row]; exact e_mI hW hI) (c : Int) z
  have e31 : t_m N ρ (b : Int) 0 31 = ρ := by unfold t_m; rw [z_mr_row]
  rw [e31, e_why hF] at ka
  refine ⟨fun h => ?_, fun h j hj => ?_⟩
  · rw [x124, hr, x124_137]
    repeat' (first | (exfalso; omega) | (simp (disch := first | omega | assumption | exact z_b_01) only [x124_0, x124_1, x124_3, x124_5, x124_8, x124_11, x124_13, x124_14, x124_15, x124_18, x124_19, x124_22, x124_23, x124_25, x124_26, x124_27, x124_28, x124_29, x124_32, x124_33, x124_34, x124_37, x124_38, x124_40, x124_42, x124_45, x124_48, x124_50, x124_51, x124_52, x124_53, x124_56, x124_57, x124_58, x124_61, x124_62, x124_64, x124_66, x124_69, x124_72, x124_74, x124_75, x124_76, x124_79, x124_80, x124_83, x124_84, x124_86, x124_87, x124_88, x124_89, x124_90, x124_93, x124_94, x124_95, x124_98, x124_99, x124_101, x124_103, x124_106, x124_109, x124_111, x124_112, x124_113, x124_114, x124_117, x124_118, x124_121, x124_122, x124_123, x124_125, x124_126, x124_127, x124_128, x124_129, x124_132, x124_133, x124_134, x124_138, x124_141, x124_142, x124_143, x124_144, x124_145, x124_146, x124_149, x124_151, x124_153, x124_156, x124_157, x124_158, x124_159, x124_162, x124_163, x124_165, Option.bind_some, Option.toList_some, Option.toList_none, List.cons_append, List.nil_append, Int.toNat_natCast, Int.toNat_zero, z_w_id, z_b_0, z_b_1, z_b_n0, z_b_t, z_b_f, ↓reduceIte, Int.reduceEq, Int.reduceLT, Int.reduceLE, Int.reduceToNat, not_true_eq_false, not_false_eq_true, false_and, and_false, true_and, and_true, false_or, or_false, true_or, or_true, ka]) | split)
  · have hc : (c : Int) < B 2 0 ∧ (1 ≤ z ∧ z ≤ 99) ∧ z ≤ B 12 c ∧ B 3 0 < 200 := by
      unfold a_why at h
      rw [Int.toNat_natCast] at h
      (repeat' split at h) <;> omega
    have w3 : ρ 3 = B 3 0 := hW.1.2.2.2.1
    have ac := (hI.2.2.1 c hc.1).2.2.2
    have kc := k_mcome (M := z_up N 0 30 8 (b : Int)) (ρ := ρ) (j := j) (c := c) (w3.trans hj) (by omega) (by omega) hc.2.1 (by rw [e_tok0 hF hc.1]; omega)
    have kc' : z_ev 100 [.inr (some (0, 30)), .inl (c : Int), .inl z] (t_m N ρ (b : Int)) = some (some (.inl (j : Int)), t_m N (m_come ρ j c z) (b : Int)) := kc
    rw [h] at ka
    rw [x124, hr, x124_137]
    repeat' (first | (exfalso; omega) | (simp (disch := first | omega | assumption | exact z_b_01) only [x124_0, x124_1, x124_3, x124_5, x124_8, x124_11, x124_13, x124_14, x124_15, x124_18, x124_19, x124_22, x124_23, x124_25, x124_26, x124_27, x124_28, x124_29, x124_32, x124_33, x124_34, x124_37, x124_38, x124_40, x124_42, x124_45, x124_48, x124_50, x124_51, x124_52, x124_53, x124_56, x124_57, x124_58, x124_61, x124_62, x124_64, x124_66, x124_69, x124_72, x124_74, x124_75, x124_76, x124_79, x124_80, x124_83, x124_84, x124_86, x124_87, x124_88, x124_89, x124_90, x124_93, x124_94, x124_95, x124_98, x124_99, x124_101, x124_103, x124_106, x124_109, x124_111, x124_112, x124_113, x124_114, x124_117, x124_118, x124_121, x124_122, x124_123, x124_125, x124_126, x124_127, x124_128, x124_129, x124_132, x124_133, x124_134, x124_138, x124_141, x124_142, x124_143, x124_144, x124_145, x124_146, x124_149, x124_151, x124_153, x124_156, x124_157, x124_158, x124_159, x124_162, x124_163, x124_165, Option.bind_some, Option.toList_some, Option.toList_none, List.cons_append, List.nil_append, Int.toNat_natCast, Int.toNat_zero, z_w_id, z_b_0, z_b_1, z_b_n0, z_b_t, z_b_f, ↓reduceIte, Int.reduceEq, Int.reduceLT, Int.reduceLE, Int.reduceToNat, not_true_eq_false, not_false_eq_true, false_and, and_false, true_and, and_true, false_or, or_false, true_or, or_true, ka, kc']) | split)
