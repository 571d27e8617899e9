/-! a walk over the classes of a group -/
def v_nx (C which : Int) : Int := if 0 ≤ which + 1 ∧ which + 1 < C then which + 1 else 0
def v_vis (nd : Nat → Int) (g : Nat) (w : Int) (A : Nat → Nat → Int) : Nat → Nat → Int := a_u (a_u A 6 g w) 9 w.toNat (if nd w.toNat = 0 then 0 else A 9 w.toNat + A 8 w.toNat)
def v_wc (C : Int) (nd : Nat → Int) (g : Nat) : Nat → Int → (Nat → Nat → Int) → Int × (Nat → Nat → Int)
  | 0, _, A => (0, A)
  | n + 1, which, A => if A 7 (v_nx C which).toNat = (g : Int) then
      (if nd (v_nx C which).toNat = 0 then v_wc C nd g n (v_nx C which) (v_vis nd g (v_nx C which) A)
       else if nd (v_nx C which).toNat ≤ A 9 (v_nx C which).toNat + A 8 (v_nx C which).toNat then (1, v_vis nd g (v_nx C which) A)
       else v_wc C nd g n (v_nx C which) (v_vis nd g (v_nx C which) A))
      else v_wc C nd g n (v_nx C which) A
theorem v_wc_succ (C : Int) (nd : Nat → Int) (g n : Nat) (which : Int) (A : Nat → Nat → Int) : v_wc C nd g (n + 1) which A = if A 7 (v_nx C which).toNat = (g : Int) then
      (if nd (v_nx C which).toNat = 0 then v_wc C nd g n (v_nx C which) (v_vis nd g (v_nx C which) A)
       else if nd (v_nx C which).toNat ≤ A 9 (v_nx C which).toNat + A 8 (v_nx C which).toNat then (1, v_vis nd g (v_nx C which) A)
       else v_wc C nd g n (v_nx C which) (v_vis nd g (v_nx C which) A))
      else v_wc C nd g n (v_nx C which) A := rfl
theorem v_nx_in {C which : Int} (hC : 0 < C) : 0 ≤ v_nx C which ∧ v_nx C which < C := by
  unfold v_nx
  split <;> omega
theorem k_wc_loop {s : Fin 7} {M : z_M} {T : Nat → Nat → Int} {nd : Nat → Int} {C : Int} (h8 : C ≤ 8) {g : Nat} (hg : g < 3) (hT : ∀ c : Nat, c < 8 → T 27 c = nd c) : ∀ (n i : Nat) (which b : Int) (A : Nat → Nat → Int), (i : Int) + n = C → A 2 0 = C → -5 ≤ which → which < C → (∀ c : Nat, (c : Int) < C → (-b ≤ A 9 c ∧ A 9 c ≤ b) ∧ (1 ≤ A 8 c ∧ A 8 c ≤ 200)) → 0 ≤ b → b + 200 * n ≤ 1000000000 →
    z_ex 59 19 [some (.inr (some (0, 26))), some (.inr (some (s, 0))), some (.inl (g : Int)), some (.inr (some (s, 2))), some (.inl which), some (.inl (i : Int))] [] (z_ur (z_ut M T) s A) = some (some (.inl (v_wc C nd g n which A).1), z_ur (z_ut M T) s (v_wc C nd g n which A).2) := by
  intro n
  induction n with
  | zero =>
    intro i which b A e hA hw1 hw2 hb hb0 hbn
    rw [x59_19]
    repeat' (first | (exfalso; omega) | (simp (disch := first | omega | assumption | exact z_b_01) only [x59_0, x59_1, x59_4, x59_5, x59_6, x59_9, x59_12, x59_13, x59_14, x59_16, x59_17, x59_21, x59_22, x59_25, x59_28, x59_29, x59_31, x59_32, x59_33, x59_36, x59_39, x59_41, x59_42, x59_43, x59_46, x59_47, x59_49, x59_50, x59_53, x59_55, x59_56, x59_57, x59_60, x59_63, x59_64, x59_67, x59_70, x59_71, x59_73, x59_74, x59_75, x59_78, x59_80, x59_81, x59_84, x59_85, x59_88, x59_90, x59_91, x59_92, x59_95, x59_96, x59_99, x59_101, x59_102, x59_103, x59_104, x59_107, x59_109, x59_110, x59_111, x59_112, x59_113, x59_116, x59_118, x59_119, x59_120, x59_123, x59_125, x59_126, x59_129, x59_130, x59_131, x59_134, x59_137, x59_138, Option.bind_some, Option.toList_some, Option.toList_none, List.cons_append, List.nil_append, Int.toNat_natCast, Int.toNat_zero, z_w_id, z_b_0, z_b_1, z_b_n0, z_b_t, z_b_f, ↓reduceIte, Int.reduceEq, Int.reduceLT, Int.reduceLE, Int.reduceToNat, not_true_eq_false, not_false_eq_true, false_and, and_false, true_and, and_true, false_or, or_false, true_or, or_true, z_ur_get, hA]) | split)
    all_goals rfl
  | succ n ih =>
    intro i which b A e hA hw1 hw2 hb hb0 hbn
    have hin := v_nx_in (C := C) (which := which) (by omega)
    have hdef := v_wc_succ C nd g n which A
    generalize hwI : v_nx C which = w at hdef hin
    obtain ⟨hin0, hin1⟩ := hin
    have hbw := hb w.toNat (by omega)
    have hTw := hT w.toNat (by omega)
    have hvb : ∀ c : Nat, (c : Int) < C → (-(b + 200) ≤ (v_vis nd g w A) 9 c ∧ (v_vis nd g w A) 9 c ≤ b + 200) ∧ (1 ≤ (v_vis nd g w A) 8 c ∧ (v_vis nd g w A) 8 c ≤ 200) := by
      intro c hc
      have := hb c hc
      unfold v_vis
      rw [a_u_at, a_u_o (show 8 ≠ 9 by decide), a_u_o (show 8 ≠ 6 by decide), a_u_o (show 9 ≠ 6 by decide)]
      refine ⟨?_, this.2⟩
      split
      · split <;> omega
      · omega
    have hv2 : (v_vis nd g w A) 2 0 = C := by unfold v_vis; rw [a_u_o (by decide), a_u_o (by decide)]; exact hA
    have ih1 := ih (i + 1) w b A (by omega) hA (by omega) hin1 hb hb0 (by omega)
    have ih2 := ih (i + 1) w (b + 200) (v_vis nd g w A) (by omega) hv2 (by omega) hin1 hvb (by omega) (by omega)
    simp only [Int.natCast_add, Int.natCast_one] at ih1 ih2
    have hv9 : A 9 w.toNat + A 8 w.toNat = (if nd w.toNat = 0 then 0 else A 9 w.toNat + A 8 w.toNat) ∨ nd w.toNat = 0 := by
      by_cases q : nd w.toNat = 0
      · exact Or.inr q
      · exact Or.inl (by rw [if_neg q])
    rw [x59_19]
    by_cases hr : 0 ≤ which + 1 ∧ which + 1 < C
    · have ew : which + 1 = w := by unfold v_nx at hwI; rw [if_pos hr] at hwI; exact hwI
      by_cases h1 : A 7 w.toNat = (g : Int)
      · rw [if_pos h1] at hdef
        by_cases h2 : nd w.toNat = 0
        · rw [if_pos h2] at hdef
          rw [hdef]
          have ev : v_vis nd g w A = a_u (a_u A 6 g w) 9 w.toNat 0 := by unfold v_vis; rw [if_pos h2]
          rw [ev] at ih2 ⊢
          rw [← ih2]
          repeat' (first | (exfalso; omega) | (simp (disch := first | omega | assumption | exact z_b_01) only [x59_0, x59_1, x59_4, x59_5, x59_6, x59_9, x59_12, x59_13, x59_14, x59_16, x59_17, x59_21, x59_22, x59_25, x59_28, x59_29, x59_31, x59_32, x59_33, x59_36, x59_39, x59_41, x59_42, x59_43, x59_46, x59_47, x59_49, x59_50, x59_53, x59_55, x59_56, x59_57, x59_60, x59_63, x59_64, x59_67, x59_70, x59_71, x59_73, x59_74, x59_75, x59_78, x59_80, x59_81, x59_84, x59_85, x59_88, x59_90, x59_91, x59_92, x59_95, x59_96, x59_99, x59_101, x59_102, x59_103, x59_104, x59_107, x59_109, x59_110, x59_111, x59_112, x59_113, x59_116, x59_118, x59_119, x59_120, x59_123, x59_125, x59_126, x59_129, x59_130, x59_131, x59_134, x59_137, x59_138, Option.bind_some, Option.toList_some, Option.toList_none, List.cons_append, List.nil_append, Int.toNat_natCast, Int.toNat_zero, z_w_id, z_b_0, z_b_1, z_b_n0, z_b_t, z_b_f, ↓reduceIte, Int.reduceEq, Int.reduceLT, Int.reduceLE, Int.reduceToNat, not_true_eq_false, not_false_eq_true, false_and, and_false, true_and, and_true, false_or, or_false, true_or, or_true, z_ur_get, z_up_ur, z_ut_get, hA, ew, k_Classes_has, h1, hTw, h2, a_u_o]) | split)
        · rw [if_neg h2] at hdef
          have ev : v_vis nd g w A = a_u (a_u A 6 g w) 9 w.toNat (A 9 w.toNat + A 8 w.toNat) := by unfold v_vis; rw [if_neg h2]
          by_cases h3 : nd w.toNat ≤ A 9 w.toNat + A 8 w.toNat
          · rw [if_pos h3] at hdef
            rw [hdef, ev]
            repeat' (first | (exfalso; omega) | (simp (disch := first | omega | assumption | exact z_b_01) only [x59_0, x59_1, x59_4, x59_5, x59_6, x59_9, x59_12, x59_13, x59_14, x59_16, x59_17, x59_21, x59_22, x59_25, x59_28, x59_29, x59_31, x59_32, x59_33, x59_36, x59_39, x59_41, x59_42, x59_43, x59_46, x59_47, x59_49, x59_50, x59_53, x59_55, x59_56, x59_57, x59_60, x59_63, x59_64, x59_67, x59_70, x59_71, x59_73, x59_74, x59_75, x59_78, x59_80, x59_81, x59_84, x59_85, x59_88, x59_90, x59_91, x59_92, x59_95, x59_96, x59_99, x59_101, x59_102, x59_103, x59_104, x59_107, x59_109, x59_110, x59_111, x59_112, x59_113, x59_116, x59_118, x59_119, x59_120, x59_123, x59_125, x59_126, x59_129, x59_130, x59_131, x59_134, x59_137, x59_138, Option.bind_some, Option.toList_some, Option.toList_none, List.cons_append, List.nil_append, Int.toNat_natCast, Int.toNat_zero, z_w_id, z_b_0, z_b_1, z_b_n0, z_b_t, z_b_f, ↓reduceIte, Int.reduceEq, Int.reduceLT, Int.reduceLE, Int.reduceToNat, not_true_eq_false, not_false_eq_true, false_and, and_false, true_and, and_true, false_or, or_false, true_or, or_true, z_ur_get, z_up_ur, z_ut_get, hA, ew, k_Classes_has, h1, hTw, h2, a_u_o, a_u_same]) | split)
          · rw [if_neg h3] at hdef
            rw [hdef]
            rw [ev] at ih2 ⊢
            rw [← ih2]
            repeat' (first | (exfalso; omega) | (simp (disch := first | omega | assumption | exact z_b_01) only [x59_0, x59_1, x59_4, x59_5, x59_6, x59_9, x59_12, x59_13, x59_14, x59_16, x59_17, x59_21, x59_22, x59_25, x59_28, x59_29, x59_31, x59_32, x59_33, x59_36, x59_39, x59_41, x59_42, x59_43, x59_46, x59_47, x59_49, x59_50, x59_53, x59_55, x59_56, x59_57, x59_60, x59_63, x59_64, x59_67, x59_70, x59_71, x59_73, x59_74, x59_75, x59_78, x59_80, x59_81, x59_84, x59_85, x59_88, x59_90, x59_91, x59_92, x59_95, x59_96, x59_99, x59_101, x59_102, x59_103, x59_104, x59_107, x59_109, x59_110, x59_111, x59_112, x59_113, x59_116, x59_118, x59_119, x59_120, x59_123, x59_125, x59_126, x59_129, x59_130, x59_131, x59_134, x59_137, x59_138, Option.bind_some, Option.toList_some, Option.toList_none, List.cons_append, List.nil_append, Int.toNat_natCast, Int.toNat_zero, z_w_id, z_b_0, z_b_1, z_b_n0, z_b_t, z_b_f, ↓reduceIte, Int.reduceEq, Int.reduceLT, Int.reduceLE, Int.reduceToNat, not_true_eq_false, not_false_eq_true, false_and, and_false, true_and, and_true, false_or, or_false, true_or, or_true, z_ur_get, z_up_ur, z_ut_get, hA, ew, k_Classes_has, h1, hTw, h2, a_u_o, a_u_same]) | split)
      · rw [if_neg h1] at hdef
        rw [hdef, ← ih1]
        repeat' (first | (exfalso; omega) | (simp (disch := first | omega | assumption | exact z_b_01) only [x59_0, x59_1, x59_4, x59_5, x59_6, x59_9, x59_12, x59_13, x59_14, x59_16, x59_17, x59_21, x59_22, x59_25, x59_28, x59_29, x59_31, x59_32, x59_33, x59_36, x59_39, x59_41, x59_42, x59_43, x59_46, x59_47, x59_49, x59_50, x59_53, x59_55, x59_56, x59_57, x59_60, x59_63, x59_64, x59_67, x59_70, x59_71, x59_73, x59_74, x59_75, x59_78, x59_80, x59_81, x59_84, x59_85, x59_88, x59_90, x59_91, x59_92, x59_95, x59_96, x59_99, x59_101, x59_102, x59_103, x59_104, x59_107, x59_109, x59_110, x59_111, x59_112, x59_113, x59_116, x59_118, x59_119, x59_120, x59_123, x59_125, x59_126, x59_129, x59_130, x59_131, x59_134, x59_137, x59_138, Option.bind_some, Option.toList_some, Option.toList_none, List.cons_append, List.nil_append, Int.toNat_natCast, Int.toNat_zero, z_w_id, z_b_0, z_b_1, z_b_n0, z_b_t, z_b_f, ↓reduceIte, Int.reduceEq, Int.reduceLT, Int.reduceLE, Int.reduceToNat, not_true_eq_false, not_false_eq_true, false_and, and_false, true_and, and_true, false_or, or_false, true_or, or_true, z_ur_get, z_up_ur, z_ut_get, hA, ew, k_Classes_has, h1, hTw, a_u_o, a_u_same]) | split)
    · have ew : w = 0 := by unfold v_nx at hwI; rw [if_neg hr] at hwI; exact hwI.symm
      subst ew
      by_cases h1 : A 7 (0 : Int).toNat = (g : Int)
      · rw [if_pos h1] at hdef
        by_cases h2 : nd (0 : Int).toNat = 0
        · rw [if_pos h2] at hdef
          rw [hdef]
          have ev : v_vis nd g 0 A = a_u (a_u A 6 g 0) 9 (0 : Int).toNat 0 := by unfold v_vis; rw [if_pos h2]
          rw [ev] at ih2 ⊢
          rw [← ih2]
          simp only [Int.toNat_zero] at h1 h2 hTw
          repeat' (first | (exfalso; omega) | (simp (disch := first | omega | assumption | exact z_b_01) only [x59_0, x59_1, x59_4, x59_5, x59_6, x59_9, x59_12, x59_13, x59_14, x59_16, x59_17, x59_21, x59_22, x59_25, x59_28, x59_29, x59_31, x59_32, x59_33, x59_36, x59_39, x59_41, x59_42, x59_43, x59_46, x59_47, x59_49, x59_50, x59_53, x59_55, x59_56, x59_57, x59_60, x59_63, x59_64, x59_67, x59_70, x59_71, x59_73, x59_74, x59_75, x59_78, x59_80, x59_81, x59_84, x59_85, x59_88, x59_90, x59_91, x59_92, x59_95, x59_96, x59_99, x59_101, x59_102, x59_103, x59_104, x59_107, x59_109, x59_110, x59_111, x59_112, x59_113, x59_116, x59_118, x59_119, x59_120, x59_123, x59_125, x59_126, x59_129, x59_130, x59_131, x59_134, x59_137, x59_138, Option.bind_some, Option.toList_some, Option.toList_none, List.cons_append, List.nil_append, Int.toNat_natCast, Int.toNat_zero, z_w_id, z_b_0, z_b_1, z_b_n0, z_b_t, z_b_f, ↓reduceIte, Int.reduceEq, Int.reduceLT, Int.reduceLE, Int.reduceToNat, not_true_eq_false, not_false_eq_true, false_and, and_false, true_and, and_true, false_or, or_false, true_or, or_true, z_ur_get, z_up_ur, z_ut_get, hA, k_Classes_has, h1, hTw, h2, a_u_o]) | split)
        · rw [if_neg h2] at hdef
          have ev : v_vis nd g 0 A = a_u (a_u A 6 g 0) 9 (0 : Int).toNat (A 9 (0 : Int).toNat + A 8 (0 : Int).toNat) := by unfold v_vis; rw [if_neg h2]
          by_cases h3 : nd (0 : Int).toNat ≤ A 9 (0 : Int).toNat + A 8 (0 : Int).toNat
          · rw [if_pos h3] at hdef
            rw [hdef, ev]
            simp only [Int.toNat_zero] at h1 h2 h3 hTw hbw
            repeat' (first | (exfalso; omega) | (simp (disch := first | omega | assumption | exact z_b_01) only [x59_0, x59_1, x59_4, x59_5, x59_6, x59_9, x59_12, x59_13, x59_14, x59_16, x59_17, x59_21, x59_22, x59_25, x59_28, x59_29, x59_31, x59_32, x59_33, x59_36, x59_39, x59_41, x59_42, x59_43, x59_46, x59_47, x59_49, x59_50, x59_53, x59_55, x59_56, x59_57, x59_60, x59_63, x59_64, x59_67, x59_70, x59_71, x59_73, x59_74, x59_75, x59_78, x59_80, x59_81, x59_84, x59_85, x59_88, x59_90, x59_91, x59_92, x59_95, x59_96, x59_99, x59_101, x59_102, x59_103, x59_104, x59_107, x59_109, x59_110, x59_111, x59_112, x59_113, x59_116, x59_118, x59_119, x59_120, x59_123, x59_125, x59_126, x59_129, x59_130, x59_131, x59_134, x59_137, x59_138, Option.bind_some, Option.toList_some, Option.toList_none, List.cons_append, List.nil_append, Int.toNat_natCast, Int.toNat_zero, z_w_id, z_b_0, z_b_1, z_b_n0, z_b_t, z_b_f, ↓reduceIte, Int.reduceEq, Int.reduceLT, Int.reduceLE, Int.reduceToNat, not_true_eq_false, not_false_eq_true, false_and, and_false, true_and, and_true, false_or, or_false, true_or, or_true, z_ur_get, z_up_ur, z_ut_get, hA, k_Classes_has, h1, hTw, h2, a_u_o, a_u_same]) | split)
          · rw [if_neg h3] at hdef
            rw [hdef]
            rw [ev] at ih2 ⊢
            rw [← ih2]
            simp only [Int.toNat_zero] at h1 h2 h3 hTw hbw
            repeat' (first | (exfalso; omega) | (simp (disch := first | omega | assumption | exact z_b_01) only [x59_0, x59_1, x59_4, x59_5, x59_6, x59_9, x59_12, x59_13, x59_14, x59_16, x59_17, x59_21, x59_22, x59_25, x59_28, x59_29, x59_31, x59_32, x59_33, x59_36, x59_39, x59_41, x59_42, x59_43, x59_46, x59_47, x59_49, x59_50, x59_53, x59_55, x59_56, x59_57, x59_60, x59_63, x59_64, x59_67, x59_70, x59_71, x59_73, x59_74, x59_75, x59_78, x59_80, x59_81, x59_84, x59_85, x59_88, x59_90, x59_91, x59_92, x59_95, x59_96, x59_99, x59_101, x59_102, x59_103, x59_104, x59_107, x59_109, x59_110, x59_111, x59_112, x59_113, x59_116, x59_118, x59_119, x59_120, x59_123, x59_125, x59_126, x59_129, x59_130, x59_131, x59_134, x59_137, x59_138, Option.bind_some, Option.toList_some, Option.toList_none, List.cons_append, List.nil_append, Int.toNat_natCast, Int.toNat_zero, z_w_id, z_b_0, z_b_1, z_b_n0, z_b_t, z_b_f, ↓reduceIte, Int.reduceEq, Int.reduceLT, Int.reduceLE, Int.reduceToNat, not_true_eq_false, not_false_eq_true, false_and, and_false, true_and, and_true, false_or, or_false, true_or, or_true, z_ur_get, z_up_ur, z_ut_get, hA, k_Classes_has, h1, hTw, h2, a_u_o, a_u_same]) | split)
      · rw [if_neg h1] at hdef
        rw [hdef, ← ih1]
        simp only [Int.toNat_zero] at h1
        repeat' (first | (exfalso; omega) | (simp (disch := first | omega | assumption | exact z_b_01) only [x59_0, x59_1, x59_4, x59_5, x59_6, x59_9, x59_12, x59_13, x59_14, x59_16, x59_17, x59_21, x59_22, x59_25, x59_28, x59_29, x59_31, x59_32, x59_33, x59_36, x59_39, x59_41, x59_42, x59_43, x59_46, x59_47, x59_49, x59_50, x59_53, x59_55, x59_56, x59_57, x59_60, x59_63, x59_64, x59_67, x59_70, x59_71, x59_73, x59_74, x59_75, x59_78, x59_80, x59_81, x59_84, x59_85, x59_88, x59_90, x59_91, x59_92, x59_95, x59_96, x59_99, x59_101, x59_102, x59_103, x59_104, x59_107, x59_109, x59_110, x59_111, x59_112, x59_113, x59_116, x59_118, x59_119, x59_120, x59_123, x59_125, x59_126, x59_129, x59_130, x59_131, x59_134, x59_137, x59_138, Option.bind_some, Option.toList_some, Option.toList_none, List.cons_append, List.nil_append, Int.toNat_natCast, Int.toNat_zero, z_w_id, z_b_0, z_b_1, z_b_n0, z_b_t, z_b_f, ↓reduceIte, Int.reduceEq, Int.reduceLT, Int.reduceLE, Int.reduceToNat, not_true_eq_false, not_false_eq_true, false_and, and_false, true_and, and_true, false_or, or_false, true_or, or_true, z_ur_get, z_up_ur, z_ut_get, hA, k_Classes_has, h1, a_u_o, a_u_same]) | split)
theorem k_wc {s : Fin 7} {M : z_M} {T A : Nat → Nat → Int} {nd : Nat → Int} (h0 : 0 ≤ A 2 0) (h8 : A 2 0 ≤ 8) {g : Nat} (hg : g < 3) (hT : ∀ c : Nat, c < 8 → T 27 c = nd c) (hp : -5 ≤ A 6 g ∧ A 6 g < A 2 0) (hb : ∀ c : Nat, (c : Int) < A 2 0 → (-500000000 ≤ A 9 c ∧ A 9 c ≤ 500000000) ∧ (1 ≤ A 8 c ∧ A 8 c ≤ 200)) :
    z_ev 59 [.inr (some (0, 26)), .inr (some (s, 0)), .inl (g : Int)] (z_ur (z_ut M T) s A) = some (some (.inl (v_wc (A 2 0) nd g (A 2 0).toNat (A 6 g) A).1), z_ur (z_ut M T) s (v_wc (A 2 0) nd g (A 2 0).toNat (A 6 g) A).2) := by
  have h := k_wc_loop (s := s) (M := M) h8 hg hT (A 2 0).toNat 0 (A 6 g) 500000000 A (by omega) rfl hp.1 hp.2 hb (by omega) (by omega)
  rw [x59]
  simp (disch := first | omega | assumption) only [x59_0, x59_1, x59_4, x59_5, x59_6, x59_9, x59_12, x59_13, x59_14, x59_16, x59_17, x59_21, x59_22, x59_25, x59_28, x59_29, x59_31, x59_32, x59_33, x59_36, x59_39, x59_41, x59_42, x59_43, x59_46, x59_47, x59_49, x59_50, x59_53, x59_55, x59_56, x59_57, x59_60, x59_63, x59_64, x59_67, x59_70, x59_71, x59_73, x59_74, x59_75, x59_78, x59_80, x59_81, x59_84, x59_85, x59_88, x59_90, x59_91, x59_92, x59_95, x59_96, x59_99, x59_101, x59_102, x59_103, x59_104, x59_107, x59_109, x59_110, x59_111, x59_112, x59_113, x59_116, x59_118, x59_119, x59_120, x59_123, x59_125, x59_126, x59_129, x59_130, x59_131, x59_134, x59_137, x59_138, Option.bind_some, Option.toList_some, Option.toList_none, List.cons_append, List.nil_append, Int.toNat_natCast, Int.toNat_zero, z_w_id, z_b_0, z_b_1, z_b_n0, z_b_t, z_b_f, ↓reduceIte, Int.reduceEq, Int.reduceLT, Int.reduceLE, Int.reduceToNat, not_true_eq_false, not_false_eq_true, false_and, and_false, true_and, and_true, false_or, or_false, true_or, or_true, z_ur_get]
  exact h
