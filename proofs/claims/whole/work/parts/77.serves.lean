/-! served and beginsAt, both sides -/
theorem e_Z_of {A : Nat → Nat → Int} {ρ : Nat → Int} {l : List Nat} (hF : e_F 0 A ρ l) : e_Z A ρ l := by
  obtain ⟨hI, hW, ⟨y5, yj, yc⟩, s0, -⟩ := hF
  have cW := hI.2.2.2.2.1
  refine ⟨y5, ?_, fun i hi => ?_⟩
  · rcases s0 with q | ⟨j, q1, q2, q3, q4, q5, q6⟩
    · exact Or.inl q
    · have y := (yj j q2).2.2
      have a := (hI.2.1 j q2).2.1
      have st : a_stage A j = 1 := by unfold a_stage; rw [if_neg q3, if_pos q1.symm]
      rw [st, if_neg (by decide), if_pos rfl] at y
      exact Or.inr ⟨j, q1, q2, q3, y, q4, by omega⟩
  · have hj := cW.2.2.2.1 i hi
    have y := (yj i hj).2.2
    have el := hI.2.2.2.2.2.2.1
    rw [el] at hi
    have st : a_stage A i = 0 := by unfold a_stage; rw [if_pos (e_l_mem.mp hi).2]
    rw [st, if_pos rfl] at y
    exact y
/-- what is tried, and laid back -/
theorem w_tried {M : z_M} {T' A' : Nat → Nat → Int} {ρ' : Nat → Int} (hR : w_R M) : w_R (z_st (z_mr (z_st (z_ur (z_ut M T') 2 A') 34 0 1500 (M 0 31)) ρ') 31 0 1500 (z_mr (z_st (z_ur (z_ut M T') 2 A') 34 0 1500 (M 0 31)) ρ' 0 34)) := by
  have e : ∀ (s : Fin 7) (o j : Nat), ¬ (s = 2 ∧ o < 21) → ¬ (27 ≤ o ∧ o < 30) → z_ur (z_ut M T') 2 A' s o j = M s o j := fun s o j a b => by
    unfold z_ur
    rw [if_neg a]
    unfold z_ut
    rw [if_neg (fun q => b q.2)]
  refine w_R_of hR (fun s o j a b => ?_) (fun o j a b d f g => ?_)
  · rw [z_st_o (by omega), z_mr_o (by omega), z_st_o (by omega), e _ _ _ (fun q => a q.1) (by omega)]
  · by_cases h : o = 31
    · subst h
      rw [z_st_in ⟨by omega, g rfl⟩, z_mr_o (by decide), z_st_in ⟨by omega, g rfl⟩]
    · rw [z_st_o h, z_mr_o h, z_st_o d, e _ _ _ (fun q => absurd q.1 (by decide)) (by omega)]
theorem w_row2 (M : z_M) (T' A' : Nat → Nat → Int) : z_ur (z_ut M T') 2 A' 0 31 = M 0 31 := by
  funext j
  rw [z_ur_top (by decide)]
  exact z_ut_hi (by decide)
theorem w_rem2 {M : z_M} {T' A' : Nat → Nat → Int} : z_ev 127 [.inr (some (0, 30))] (z_ur (z_ut M T') 2 A') = some (none, z_mr (z_st (z_ur (z_ut M T') 2 A') 34 0 1500 (M 0 31)) (M 0 31)) := by
  have k := k_remember (z_ur (z_ut M T') 2 A')
  rw [w_row2] at k
  rw [k]
  have e : z_st (z_ur (z_ut M T') 2 A') 34 0 1500 (M 0 31) 0 31 = M 0 31 := by
    funext j
    rw [z_st_o (by decide), w_row2]
  have k2 := z_mr_self (z_st (z_ur (z_ut M T') 2 A') 34 0 1500 (M 0 31))
  rw [e] at k2
  rw [k2]
theorem c_served (p : Int) : w_c 80 131 [.inl p] := by
  intro M hR
  obtain ⟨⟨⟨l, hF⟩, ht⟩, -⟩ := id hR
  have hI := hF.1
  have hW := hF.2.1
  have cW := hI.2.2.2.2.1
  have c3 := cW.2.2.2.2
  have l60 := cW.2.1
  have wl := cW.1
  have hk := fun (N : z_M) (e : N 0 31 = M 0 31) => k_waiting (M := N) (by rw [e]; exact e_mI hW hI) (-5) (-5) 0
  by_cases hp : p < 0
  · refine ⟨-2, M, M, ?_, ?_, hR⟩
    · rw [x80]
      repeat' (first | (exfalso; omega) | (simp (disch := first | omega | assumption | exact z_b_01) only [x80_0, x80_1, x80_4, x80_6, x80_7, x80_8, x80_9, x80_12, x80_15, x80_18, x80_21, x80_23, x80_24, x80_25, x80_26, x80_27, x80_28, x80_31, Option.bind_some, Option.toList_some, Option.toList_none, List.cons_append, List.nil_append, Int.toNat_natCast, Int.toNat_zero, z_w_id, z_b_0, z_b_1, z_b_n0, z_b_t, z_b_f, ↓reduceIte, Int.reduceEq, Int.reduceLT, Int.reduceLE, Int.reduceToNat, not_true_eq_false, not_false_eq_true, false_and, and_false, true_and, and_true, false_or, or_false, true_or, or_true]) | split)
    · rw [x131]
      repeat' (first | (exfalso; omega) | (simp (disch := first | omega | assumption | exact z_b_01) only [x131_0, x131_1, x131_4, x131_6, x131_7, x131_8, x131_9, x131_11, x131_13, x131_14, x131_17, x131_20, x131_22, x131_23, x131_24, x131_27, x131_29, x131_30, x131_31, x131_33, x131_34, x131_37, x131_38, x131_41, x131_42, x131_45, x131_46, x131_49, x131_53, x131_56, x131_57, Option.bind_some, Option.toList_some, Option.toList_none, List.cons_append, List.nil_append, Int.toNat_natCast, Int.toNat_zero, z_w_id, z_b_0, z_b_1, z_b_n0, z_b_t, z_b_f, ↓reduceIte, Int.reduceEq, Int.reduceLT, Int.reduceLE, Int.reduceToNat, not_true_eq_false, not_false_eq_true, false_and, and_false, true_and, and_true, false_or, or_false, true_or, or_true]) | split)
  · by_cases hp2 : p < M 0 3 5
    · have kc := k_State_copy (s := 2) (s2 := 0) (by decide) (M := M) (A := M 2)
      rw [z_ur_self] at kc
      have hF2 := e_F_copy (A0 := M 2) hF
      obtain ⟨T1, A1, ρ1, b1, c1, -, -, -⟩ := k_ahead (M := M) (Mm := M) (n := p + 1) (by omega) (p + 1).toNat 0 (-5) (M 0) (a_copy (M 2) (M 0)) (M 0 31) l (by omega) hF2.1 hF2.2.1 (e_Z_of hF2) (by omega) (by rw [a_copy_cell _ _ _ _ (by unfold a_cell; omega)]; omega)
      rw [z_ut_self] at c1
      simp only [Int.natCast_zero] at c1
      have e1 : z_ev 80 [.inr (some (0, 21)), .inl p] M = some (some (.inl b1), z_ur (z_ut M T1) 2 A1) := by
        have e0 : z_ev 64 [.inr (some (0, 21)), .inl (p + 1)] M = some (some (.inl b1), z_ur (z_ut M T1) 2 A1) := by
          rw [x64]
          repeat' (first | (exfalso; omega) | (simp (disch := first | omega | assumption | exact z_b_01) only [x64_0, x64_1, x64_4, x64_5, x64_8, x64_11, x64_13, x64_14, x64_15, x64_17, x64_18, x64_21, x64_22, x64_25, x64_26, x64_29, x64_30, x64_33, x64_36, x64_37, x64_40, x64_41, x64_44, x64_45, x64_48, x64_51, x64_52, x64_53, x64_56, x64_57, x64_60, x64_63, x64_66, x64_67, Option.bind_some, Option.toList_some, Option.toList_none, List.cons_append, List.nil_append, Int.toNat_natCast, Int.toNat_zero, z_w_id, z_b_0, z_b_1, z_b_n0, z_b_t, z_b_f, ↓reduceIte, Int.reduceEq, Int.reduceLT, Int.reduceLE, Int.reduceToNat, not_true_eq_false, not_false_eq_true, false_and, and_false, true_and, and_true, false_or, or_false, true_or, or_true, kc]) | split)
          exact c1
        rw [x80]
        repeat' (first | (exfalso; omega) | (simp (disch := first | omega | assumption | exact z_b_01) only [x80_0, x80_1, x80_4, x80_6, x80_7, x80_8, x80_9, x80_12, x80_15, x80_18, x80_21, x80_23, x80_24, x80_25, x80_26, x80_27, x80_28, x80_31, Option.bind_some, Option.toList_some, Option.toList_none, List.cons_append, List.nil_append, Int.toNat_natCast, Int.toNat_zero, z_w_id, z_b_0, z_b_1, z_b_n0, z_b_t, z_b_f, ↓reduceIte, Int.reduceEq, Int.reduceLT, Int.reduceLE, Int.reduceToNat, not_true_eq_false, not_false_eq_true, false_and, and_false, true_and, and_true, false_or, or_false, true_or, or_true, e0]) | split)
      obtain ⟨N, hN⟩ : ∃ N, N = z_ur (z_ut M T1) 2 A1 := ⟨_, rfl⟩
      rw [← hN] at e1
      clear hN c1
      obtain ⟨T2, A2, ρ2, b2, c2, m2, -, -⟩ := k_ahead (M := M) (Mm := z_st N 34 0 1500 (M 0 31)) (n := p + 1) (by omega) (p + 1).toNat 0 (-5) (M 0) (a_copy (M 2) (M 0)) (M 0 31) l (by omega) hF2.1 hF2.2.1 (e_Z_of hF2) (by omega) (by rw [a_copy_cell _ _ _ _ (by unfold a_cell; omega)]; omega)
      rw [z_ut_self] at c2
      rw [show p + 1 - 1 = p by omega] at m2
      simp only [Int.natCast_zero] at c2 m2
      have e2 : z_ev 80 [.inr (some (0, 21)), .inl p] M = some (some (.inl b2), z_ur (z_ut M T2) 2 A2) := by
        have e0 : z_ev 64 [.inr (some (0, 21)), .inl (p + 1)] M = some (some (.inl b2), z_ur (z_ut M T2) 2 A2) := by
          rw [x64]
          repeat' (first | (exfalso; omega) | (simp (disch := first | omega | assumption | exact z_b_01) only [x64_0, x64_1, x64_4, x64_5, x64_8, x64_11, x64_13, x64_14, x64_15, x64_17, x64_18, x64_21, x64_22, x64_25, x64_26, x64_29, x64_30, x64_33, x64_36, x64_37, x64_40, x64_41, x64_44, x64_45, x64_48, x64_51, x64_52, x64_53, x64_56, x64_57, x64_60, x64_63, x64_66, x64_67, Option.bind_some, Option.toList_some, Option.toList_none, List.cons_append, List.nil_append, Int.toNat_natCast, Int.toNat_zero, z_w_id, z_b_0, z_b_1, z_b_n0, z_b_t, z_b_f, ↓reduceIte, Int.reduceEq, Int.reduceLT, Int.reduceLE, Int.reduceToNat, not_true_eq_false, not_false_eq_true, false_and, and_false, true_and, and_true, false_or, or_false, true_or, or_true, kc]) | split)
          exact c2
        rw [x80]
        repeat' (first | (exfalso; omega) | (simp (disch := first | omega | assumption | exact z_b_01) only [x80_0, x80_1, x80_4, x80_6, x80_7, x80_8, x80_9, x80_12, x80_15, x80_18, x80_21, x80_23, x80_24, x80_25, x80_26, x80_27, x80_28, x80_31, Option.bind_some, Option.toList_some, Option.toList_none, List.cons_append, List.nil_append, Int.toNat_natCast, Int.toNat_zero, z_w_id, z_b_0, z_b_1, z_b_n0, z_b_t, z_b_f, ↓reduceIte, Int.reduceEq, Int.reduceLT, Int.reduceLE, Int.reduceToNat, not_true_eq_false, not_false_eq_true, false_and, and_false, true_and, and_true, false_or, or_false, true_or, or_true, e0]) | split)
      obtain ⟨rfl, rfl⟩ := z_same e1 e2
      have kw := hk (z_ur (z_ut M T2) 2 A2) (w_row2 _ _ _)
      rw [w_row2, b_wait hI hW] at kw
      have kr := w_rem2 (M := M) (T' := T2) (A' := A2)
      have kb := k_goBack (z_mr (z_st (z_ur (z_ut M T2) 2 A2) 34 0 1500 (M 0 31)) ρ2)
      refine ⟨_, _, _, e1, ?_, w_tried (T' := T2) (A' := A2) (ρ' := ρ2) hR⟩
      rw [x131]
      repeat' (first | (exfalso; omega) | (simp (disch := first | omega | assumption | exact z_b_01) only [x131_0, x131_1, x131_4, x131_6, x131_7, x131_8, x131_9, x131_11, x131_13, x131_14, x131_17, x131_20, x131_22, x131_23, x131_24, x131_27, x131_29, x131_30, x131_31, x131_33, x131_34, x131_37, x131_38, x131_41, x131_42, x131_45, x131_46, x131_49, x131_53, x131_56, x131_57, Option.bind_some, Option.toList_some, Option.toList_none, List.cons_append, List.nil_append, Int.toNat_natCast, Int.toNat_zero, z_w_id, z_b_0, z_b_1, z_b_n0, z_b_t, z_b_f, ↓reduceIte, Int.reduceEq, Int.reduceLT, Int.reduceLE, Int.reduceToNat, not_true_eq_false, not_false_eq_true, false_and, and_false, true_and, and_true, false_or, or_false, true_or, or_true, kw, kr, m2]) | split)
      rw [x131_52]
      repeat' (first | (exfalso; omega) | (simp (disch := first | omega | assumption | exact z_b_01) only [x131_0, x131_1, x131_4, x131_6, x131_7, x131_8, x131_9, x131_11, x131_13, x131_14, x131_17, x131_20, x131_22, x131_23, x131_24, x131_27, x131_29, x131_30, x131_31, x131_33, x131_34, x131_37, x131_38, x131_41, x131_42, x131_45, x131_46, x131_49, x131_53, x131_56, x131_57, Option.bind_some, Option.toList_some, Option.toList_none, List.cons_append, List.nil_append, Int.toNat_natCast, Int.toNat_zero, z_w_id, z_b_0, z_b_1, z_b_n0, z_b_t, z_b_f, ↓reduceIte, Int.reduceEq, Int.reduceLT, Int.reduceLE, Int.reduceToNat, not_true_eq_false, not_false_eq_true, false_and, and_false, true_and, and_true, false_or, or_false, true_or, or_true, kb]) | split)
    · have kw := hk M rfl
      rw [b_wait hI hW] at kw
      refine ⟨-5, M, M, ?_, ?_, hR⟩
      · rw [x80]
        repeat' (first | (exfalso; omega) | (simp (disch := first | omega | assumption | exact z_b_01) only [x80_0, x80_1, x80_4, x80_6, x80_7, x80_8, x80_9, x80_12, x80_15, x80_18, x80_21, x80_23, x80_24, x80_25, x80_26, x80_27, x80_28, x80_31, Option.bind_some, Option.toList_some, Option.toList_none, List.cons_append, List.nil_append, Int.toNat_natCast, Int.toNat_zero, z_w_id, z_b_0, z_b_1, z_b_n0, z_b_t, z_b_f, ↓reduceIte, Int.reduceEq, Int.reduceLT, Int.reduceLE, Int.reduceToNat, not_true_eq_false, not_false_eq_true, false_and, and_false, true_and, and_true, false_or, or_false, true_or, or_true]) | split)
      · rw [x131]
        repeat' (first | (exfalso; omega) | (simp (disch := first | omega | assumption | exact z_b_01) only [x131_0, x131_1, x131_4, x131_6, x131_7, x131_8, x131_9, x131_11, x131_13, x131_14, x131_17, x131_20, x131_22, x131_23, x131_24, x131_27, x131_29, x131_30, x131_31, x131_33, x131_34, x131_37, x131_38, x131_41, x131_42, x131_45, x131_46, x131_49, x131_53, x131_56, x131_57, Option.bind_some, Option.toList_some, Option.toList_none, List.cons_append, List.nil_append, Int.toNat_natCast, Int.toNat_zero, z_w_id, z_b_0, z_b_1, z_b_n0, z_b_t, z_b_f, ↓reduceIte, Int.reduceEq, Int.reduceLT, Int.reduceLE, Int.reduceToNat, not_true_eq_false, not_false_eq_true, false_and, and_false, true_and, and_true, false_or, or_false, true_or, or_true, kw]) | split)
theorem c_beginsAt (g : Int) : w_c 65 92 [.inl g] := by
  intro M hR
  obtain ⟨⟨⟨l, hF⟩, ht⟩, -⟩ := id hR
  have hI := hF.1
  have hW := hF.2.1
  have w3 := hW.1.2.2.2.1
  have cW := hI.2.2.2.2.1
  have c3 := cW.2.2.2.2
  have l60 := cW.2.1
  have wl := cW.1
  by_cases hg : 0 ≤ g ∧ g < M 0 3 0
  · obtain ⟨k, rfl⟩ : ∃ k : Nat, g = (k : Int) := ⟨g.toNat, by omega⟩
    have wk := hW.2.2.2 k hg.2
    by_cases h19 : M 0 19 k = -5
    · have hkl : k ∈ l := by
        have el := hI.2.2.2.2.2.2.1
        rw [el]
        exact e_l_mem.mpr ⟨hg.2, h19⟩
      have kc := k_State_copy (s := 2) (s2 := 0) (by decide) (M := M) (A := M 2)
      rw [z_ur_self] at kc
      have hF2 := e_F_copy (A0 := M 2) hF
      obtain ⟨T1, A1, ρ1, b1, c1, -, -, -⟩ := k_ahead (M := M) (Mm := M) (n := M 0 3 5) (by omega) l.length 0 (-5) (M 0) (a_copy (M 2) (M 0)) (M 0 31) l (by omega) hF2.1 hF2.2.1 (e_Z_of hF2) (by omega) (by rw [a_copy_cell _ _ _ _ (by unfold a_cell; omega)]; omega)
      rw [z_ut_self] at c1
      simp only [Int.natCast_zero] at c1
      have f : ∀ T1 A1, z_ur (z_ut M T1) 2 A1 2 19 k = A1 19 k := fun T1 A1 => z_ur_get (by decide)
      have e1 : z_ev 65 [.inr (some (0, 21)), .inl (k : Int)] M = some (some (.inl (A1 19 k)), z_ur (z_ut M T1) 2 A1) := by
        have e0 : z_ev 64 [.inr (some (0, 21)), .inl (M 0 3 5)] M = some (some (.inl b1), z_ur (z_ut M T1) 2 A1) := by
          rw [x64]
          repeat' (first | (exfalso; omega) | (simp (disch := first | omega | assumption | exact z_b_01) only [x64_0, x64_1, x64_4, x64_5, x64_8, x64_11, x64_13, x64_14, x64_15, x64_17, x64_18, x64_21, x64_22, x64_25, x64_26, x64_29, x64_30, x64_33, x64_36, x64_37, x64_40, x64_41, x64_44, x64_45, x64_48, x64_51, x64_52, x64_53, x64_56, x64_57, x64_60, x64_63, x64_66, x64_67, Option.bind_some, Option.toList_some, Option.toList_none, List.cons_append, List.nil_append, Int.toNat_natCast, Int.toNat_zero, z_w_id, z_b_0, z_b_1, z_b_n0, z_b_t, z_b_f, ↓reduceIte, Int.reduceEq, Int.reduceLT, Int.reduceLE, Int.reduceToNat, not_true_eq_false, not_false_eq_true, false_and, and_false, true_and, and_true, false_or, or_false, true_or, or_true, kc]) | split)
          exact c1
        rw [x65]
        repeat' (first | (exfalso; omega) | (simp (disch := first | omega | assumption | exact z_b_01) only [x65_0, x65_1, x65_4, x65_7, x65_8, x65_11, x65_14, x65_15, x65_16, x65_17, x65_20, x65_23, x65_24, x65_27, x65_30, x65_32, x65_33, x65_34, x65_35, x65_38, x65_41, x65_44, x65_47, x65_48, x65_49, x65_52, x65_55, x65_58, x65_59, x65_60, Option.bind_some, Option.toList_some, Option.toList_none, List.cons_append, List.nil_append, Int.toNat_natCast, Int.toNat_zero, z_w_id, z_b_0, z_b_1, z_b_n0, z_b_t, z_b_f, ↓reduceIte, Int.reduceEq, Int.reduceLT, Int.reduceLE, Int.reduceToNat, not_true_eq_false, not_false_eq_true, false_and, and_false, true_and, and_true, false_or, or_false, true_or, or_true, k_Jobs_has, k_isWaiting, e0, f]) | split)
      obtain ⟨N, hN⟩ : ∃ N, N = z_ur (z_ut M T1) 2 A1 := ⟨_, rfl⟩
      rw [← hN] at e1
      clear hN c1
      obtain ⟨T2, A2, ρ2, b2, c2, -, -, m2⟩ := k_ahead (M := M) (Mm := z_st N 34 0 1500 (M 0 31)) (n := M 0 3 5) (by omega) l.length 0 (-5) (M 0) (a_copy (M 2) (M 0)) (M 0 31) l (by omega) hF2.1 hF2.2.1 (e_Z_of hF2) (by omega) (by rw [a_copy_cell _ _ _ _ (by unfold a_cell; omega)]; omega)
      rw [z_ut_self] at c2
      simp only [Int.natCast_zero] at c2
      have e2 : z_ev 65 [.inr (some (0, 21)), .inl (k : Int)] M = some (some (.inl (A2 19 k)), z_ur (z_ut M T2) 2 A2) := by
        have e0 : z_ev 64 [.inr (some (0, 21)), .inl (M 0 3 5)] M = some (some (.inl b2), z_ur (z_ut M T2) 2 A2) := by
          rw [x64]
          repeat' (first | (exfalso; omega) | (simp (disch := first | omega | assumption | exact z_b_01) only [x64_0, x64_1, x64_4, x64_5, x64_8, x64_11, x64_13, x64_14, x64_15, x64_17, x64_18, x64_21, x64_22, x64_25, x64_26, x64_29, x64_30, x64_33, x64_36, x64_37, x64_40, x64_41, x64_44, x64_45, x64_48, x64_51, x64_52, x64_53, x64_56, x64_57, x64_60, x64_63, x64_66, x64_67, Option.bind_some, Option.toList_some, Option.toList_none, List.cons_append, List.nil_append, Int.toNat_natCast, Int.toNat_zero, z_w_id, z_b_0, z_b_1, z_b_n0, z_b_t, z_b_f, ↓reduceIte, Int.reduceEq, Int.reduceLT, Int.reduceLE, Int.reduceToNat, not_true_eq_false, not_false_eq_true, false_and, and_false, true_and, and_true, false_or, or_false, true_or, or_true, kc]) | split)
          exact c2
        rw [x65]
        repeat' (first | (exfalso; omega) | (simp (disch := first | omega | assumption | exact z_b_01) only [x65_0, x65_1, x65_4, x65_7, x65_8, x65_11, x65_14, x65_15, x65_16, x65_17, x65_20, x65_23, x65_24, x65_27, x65_30, x65_32, x65_33, x65_34, x65_35, x65_38, x65_41, x65_44, x65_47, x65_48, x65_49, x65_52, x65_55, x65_58, x65_59, x65_60, Option.bind_some, Option.toList_some, Option.toList_none, List.cons_append, List.nil_append, Int.toNat_natCast, Int.toNat_zero, z_w_id, z_b_0, z_b_1, z_b_n0, z_b_t, z_b_f, ↓reduceIte, Int.reduceEq, Int.reduceLT, Int.reduceLE, Int.reduceToNat, not_true_eq_false, not_false_eq_true, false_and, and_false, true_and, and_true, false_or, or_false, true_or, or_true, k_Jobs_has, k_isWaiting, e0, f]) | split)
      obtain ⟨rr, rfl⟩ := z_same e1 e2
      obtain ⟨ρ3, m3, m4⟩ := m2 k hkl rfl
      have k0 := k_noJob (M := z_ur (z_ut M T2) 2 A2) (by rw [w_row2, w3]; omega) (k : Int)
      rw [w_row2, w3, z_b_f (fun y => y hg)] at k0
      have kw := k_mwaits (j := k) (by omega) (z_ur (z_ut M T2) 2 A2)
      rw [w_row2, z_b_t (wk.2.2.2.1.mpr h19)] at kw
      have kr := w_rem2 (M := M) (T' := T2) (A' := A2)
      have kb := k_goBack (z_mr (z_st (z_ur (z_ut M T2) 2 A2) 34 0 1500 (M 0 31)) ρ3)
      have kp := fun N => k_its (j := k) (by omega) N
      refine ⟨_, _, _, e2, ?_, w_tried (T' := T2) (A' := A2) (ρ' := ρ3) hR⟩
      rw [x92]
      repeat' (first | (exfalso; omega) | (simp (disch := first | omega | assumption | exact z_b_01) only [x92_0, x92_1, x92_2, x92_5, x92_8, x92_9, x92_10, x92_11, x92_12, x92_15, x92_18, x92_20, x92_21, x92_22, x92_26, x92_27, x92_30, x92_33, x92_34, x92_37, x92_38, x92_41, x92_42, x92_46, x92_49, x92_50, x92_53, x92_54, x92_55, x92_56, x92_57, x92_58, x92_61, x92_62, Option.bind_some, Option.toList_some, Option.toList_none, List.cons_append, List.nil_append, Int.toNat_natCast, Int.toNat_zero, z_w_id, z_b_0, z_b_1, z_b_n0, z_b_t, z_b_f, ↓reduceIte, Int.reduceEq, Int.reduceLT, Int.reduceLE, Int.reduceToNat, not_true_eq_false, not_false_eq_true, false_and, and_false, true_and, and_true, false_or, or_false, true_or, or_true, k0, kw, kr, m3]) | split)
      rw [x92_45]
      repeat' (first | (exfalso; omega) | (simp (disch := first | omega | assumption | exact z_b_01) only [x92_0, x92_1, x92_2, x92_5, x92_8, x92_9, x92_10, x92_11, x92_12, x92_15, x92_18, x92_20, x92_21, x92_22, x92_26, x92_27, x92_30, x92_33, x92_34, x92_37, x92_38, x92_41, x92_42, x92_46, x92_49, x92_50, x92_53, x92_54, x92_55, x92_56, x92_57, x92_58, x92_61, x92_62, Option.bind_some, Option.toList_some, Option.toList_none, List.cons_append, List.nil_append, Int.toNat_natCast, Int.toNat_zero, z_w_id, z_b_0, z_b_1, z_b_n0, z_b_t, z_b_f, ↓reduceIte, Int.reduceEq, Int.reduceLT, Int.reduceLE, Int.reduceToNat, not_true_eq_false, not_false_eq_true, false_and, and_false, true_and, and_true, false_or, or_false, true_or, or_true, kp, ix_4, z_mr_row, m4, kb]) | split)
    · have k0 := k_noJob (M := M) (by omega) (k : Int)
      rw [w3, z_b_f (fun y => y hg)] at k0
      have kw := k_mwaits (j := k) (by omega) M
      rw [z_b_f (fun q => h19 (wk.2.2.2.1.mp q))] at kw
      refine ⟨-4, M, M, ?_, ?_, hR⟩
      · rw [x65]
        repeat' (first | (exfalso; omega) | (simp (disch := first | omega | assumption | exact z_b_01) only [x65_0, x65_1, x65_4, x65_7, x65_8, x65_11, x65_14, x65_15, x65_16, x65_17, x65_20, x65_23, x65_24, x65_27, x65_30, x65_32, x65_33, x65_34, x65_35, x65_38, x65_41, x65_44, x65_47, x65_48, x65_49, x65_52, x65_55, x65_58, x65_59, x65_60, Option.bind_some, Option.toList_some, Option.toList_none, List.cons_append, List.nil_append, Int.toNat_natCast, Int.toNat_zero, z_w_id, z_b_0, z_b_1, z_b_n0, z_b_t, z_b_f, ↓reduceIte, Int.reduceEq, Int.reduceLT, Int.reduceLE, Int.reduceToNat, not_true_eq_false, not_false_eq_true, false_and, and_false, true_and, and_true, false_or, or_false, true_or, or_true, k_Jobs_has, k_isWaiting]) | split)
      · rw [x92]
        repeat' (first | (exfalso; omega) | (simp (disch := first | omega | assumption | exact z_b_01) only [x92_0, x92_1, x92_2, x92_5, x92_8, x92_9, x92_10, x92_11, x92_12, x92_15, x92_18, x92_20, x92_21, x92_22, x92_26, x92_27, x92_30, x92_33, x92_34, x92_37, x92_38, x92_41, x92_42, x92_46, x92_49, x92_50, x92_53, x92_54, x92_55, x92_56, x92_57, x92_58, x92_61, x92_62, Option.bind_some, Option.toList_some, Option.toList_none, List.cons_append, List.nil_append, Int.toNat_natCast, Int.toNat_zero, z_w_id, z_b_0, z_b_1, z_b_n0, z_b_t, z_b_f, ↓reduceIte, Int.reduceEq, Int.reduceLT, Int.reduceLE, Int.reduceToNat, not_true_eq_false, not_false_eq_true, false_and, and_false, true_and, and_true, false_or, or_false, true_or, or_true, k0, kw]) | split)
  · have k0 := k_noJob (M := M) (by omega) g
    rw [w3, z_b_t hg] at k0
    refine ⟨-1, M, M, ?_, ?_, hR⟩
    · rw [x65]
      repeat' (first | (exfalso; omega) | (simp (disch := first | omega | assumption | exact z_b_01) only [x65_0, x65_1, x65_4, x65_7, x65_8, x65_11, x65_14, x65_15, x65_16, x65_17, x65_20, x65_23, x65_24, x65_27, x65_30, x65_32, x65_33, x65_34, x65_35, x65_38, x65_41, x65_44, x65_47, x65_48, x65_49, x65_52, x65_55, x65_58, x65_59, x65_60, Option.bind_some, Option.toList_some, Option.toList_none, List.cons_append, List.nil_append, Int.toNat_natCast, Int.toNat_zero, z_w_id, z_b_0, z_b_1, z_b_n0, z_b_t, z_b_f, ↓reduceIte, Int.reduceEq, Int.reduceLT, Int.reduceLE, Int.reduceToNat, not_true_eq_false, not_false_eq_true, false_and, and_false, true_and, and_true, false_or, or_false, true_or, or_true, k_Jobs_has]) | split)
    · rw [x92]
      repeat' (first | (exfalso; omega) | (simp (disch := first | omega | assumption | exact z_b_01) only [x92_0, x92_1, x92_2, x92_5, x92_8, x92_9, x92_10, x92_11, x92_12, x92_15, x92_18, x92_20, x92_21, x92_22, x92_26, x92_27, x92_30, x92_33, x92_34, x92_37, x92_38, x92_41, x92_42, x92_46, x92_49, x92_50, x92_53, x92_54, x92_55, x92_56, x92_57, x92_58, x92_61, x92_62, Option.bind_some, Option.toList_some, Option.toList_none, List.cons_append, List.nil_append, Int.toNat_natCast, Int.toNat_zero, z_w_id, z_b_0, z_b_1, z_b_n0, z_b_t, z_b_f, ↓reduceIte, Int.reduceEq, Int.reduceLT, Int.reduceLE, Int.reduceToNat, not_true_eq_false, not_false_eq_true, false_and, and_false, true_and, and_true, false_or, or_false, true_or, or_true, k0]) | split)
