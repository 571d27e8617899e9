/-! add, mark, pass; undo, keep, restore, both sides -/
theorem e_tok0 {A : Nat → Nat → Int} {ρ : Nat → Int} {l : List Nat} (hF : e_F 0 A ρ l) {c : Nat} (hc : (c : Int) < A 2 0) : ρ (20 + 10 * c + 5) = A 12 c := by
  have y := (hF.2.2.1.2.2 c hc).1
  have a := (hF.1.2.2.1 c hc).2.2.2.2.2.1
  rw [Int.mul_zero, Int.add_zero] at y
  rw [y]
  split <;> omega
theorem e_why {A : Nat → Nat → Int} {ρ : Nat → Int} {l : List Nat} (hF : e_F 0 A ρ l) (c z : Int) : m_why ρ c z = a_why A c z := by
  have hI := hF.1
  have hW := hF.2.1
  have cW := hI.2.2.2.2.1
  have w2 : ρ 2 = A 2 0 := hW.1.2.2.1
  have w3 : ρ 3 = A 3 0 := hW.1.2.2.2.1
  have n : s_sum (List.range' 0 (ρ 3).toNat) (m_cnt ρ (-5) (-5) 0) = (l.length : Int) := by
    rw [e_cnt hW hI, ← s_sum_one (l := l)]
    refine s_sum_congr fun j _ => ?_
    rw [if_pos ⟨Or.inl (by decide), Or.inl (by decide)⟩, if_pos rfl]
  unfold m_why a_why
  rw [n, w2, w3, cW.1]
  have c3 := cW.2.2.2.2
  have c60 := cW.2.1
  by_cases hc : 0 ≤ c ∧ c < A 2 0
  · obtain ⟨k, rfl⟩ : ∃ k : Nat, c = (k : Int) := ⟨c.toNat, by omega⟩
    rw [Int.toNat_natCast, e_tok0 hF hc.2]
    (repeat' split) <;> omega
  · rw [if_pos hc, if_pos hc]
theorem c_add (c z : Int) : w_c 61 87 [.inl c, .inl z] := by
  intro M hR
  obtain ⟨⟨⟨l, hF⟩, ht⟩, -⟩ := id hR
  have hI := hF.1
  have cW := hI.2.2.2.2.1
  have c3 := cW.2.2.2.2
  have g2 := hF.1.1.2.1
  have k1 := k_whyNotAdmit (s := 0) (M := M) hI.1 c z
  by_cases hw : a_why (M 0) c z < 0
  · have k2 := k_against (M := M) (e_mI hF.2.1 hI) c z
    rw [e_why hF] at k2
    refine ⟨a_why (M 0) c z, M, M, ?_, ?_, hR⟩
    · rw [x61]
      repeat' (first | (exfalso; omega) | (simp (disch := first | omega | assumption | exact z_b_01) only [x61_0, x61_1, x61_4, x61_5, x61_6, x61_9, x61_10, x61_11, x61_14, x61_15, x61_16, x61_17, x61_20, x61_21, x61_24, x61_27, x61_28, x61_31, x61_32, x61_33, x61_36, Option.bind_some, Option.toList_some, Option.toList_none, List.cons_append, List.nil_append, Int.toNat_natCast, Int.toNat_zero, z_w_id, z_b_0, z_b_1, z_b_n0, z_b_t, z_b_f, ↓reduceIte, Int.reduceEq, Int.reduceLT, Int.reduceLE, Int.reduceToNat, not_true_eq_false, not_false_eq_true, false_and, and_false, true_and, and_true, false_or, or_false, true_or, or_true, k1]) | split)
      all_goals rfl
    · rw [x87]
      repeat' (first | (exfalso; omega) | (simp (disch := first | omega | assumption | exact z_b_01) only [x87_0, x87_1, x87_2, x87_3, x87_6, x87_7, x87_8, x87_11, x87_12, x87_13, x87_14, x87_17, x87_18, x87_19, x87_20, x87_23, Option.bind_some, Option.toList_some, Option.toList_none, List.cons_append, List.nil_append, Int.toNat_natCast, Int.toNat_zero, z_w_id, z_b_0, z_b_1, z_b_n0, z_b_t, z_b_f, ↓reduceIte, Int.reduceEq, Int.reduceLT, Int.reduceLE, Int.reduceToNat, not_true_eq_false, not_false_eq_true, false_and, and_false, true_and, and_true, false_or, or_false, true_or, or_true, k2]) | split)
      all_goals rfl
  · have hw' : (0 ≤ c ∧ c < M 0 2 0) ∧ (1 ≤ z ∧ z ≤ 99) ∧ z ≤ M 0 12 c.toNat ∧ M 0 3 0 < 200 ∧ M 0 3 5 < 60 := by
      unfold a_why at hw
      (repeat' split at hw) <;> omega
    have hw0 : a_why (M 0) c z = 0 := by
      unfold a_why
      (repeat' split) <;> omega
    obtain ⟨hc, hz, hk, h200, h60⟩ := hw'
    obtain ⟨k, rfl⟩ : ∃ k : Nat, c = (k : Int) := ⟨c.toNat, by omega⟩
    obtain ⟨j, hj⟩ : ∃ j : Nat, M 0 3 0 = (j : Int) := ⟨(M 0 3 0).toNat, by omega⟩
    rw [Int.toNat_natCast] at hk
    have ac := (hI.2.2.1 k hc.2).2.2.2
    obtain ⟨M', p1, p2, p3⟩ := k_push2 hR
    have w2 : M 0 31 2 = M 0 2 0 := hF.2.1.1.2.2.1
    have w3 : M 0 31 3 = M 0 3 0 := hF.2.1.1.2.2.2.1
    have a1 := k_admit (s := 0) (M := M') (A := M 0) (c := k) hc.2 g2.2 (by omega) (z := z) (by omega) c3.2 (by omega) (by have := cW.1; omega) (by omega)
    have k2 := k_against (M := z_mr (z_ur M' 0 (a_admit (M 0) k z)) (M 0 31)) (by rw [z_mr_row]; exact e_mI hF.2.1 hI) (k : Int) z
    rw [z_mr_row, e_why hF, w_mrow p3, hw0] at k2
    have kb := k_mbg (M := z_ur M' 0 (a_admit (M 0) k z)) (ρ := M 0 31) (w_30 hR p3)
    rw [w_mrow p3] at kb
    have kc := k_mcome (M := m_bg (z_ur M' 0 (a_admit (M 0) k z)) (M 0 31)) (ρ := M 0 31) (j := j) (c := k) (w3.trans hj) (by omega) (by omega) hz (by rw [e_tok0 hF hc.2]; omega)
    rw [hj] at a1
    rw [hw0] at k1
    refine ⟨j, z_ur M' 0 (a_admit (M 0) k z), _, ?_, ?_, w_done (A' := a_admit (M 0) k z) (ρ' := m_come (M 0 31) j k z) hR p2 p3 ⟨⟨l ++ [j], e_F_come hF hj (by omega) (by have := cW.1; omega) hc.2 hz hk⟩, ?_⟩⟩
    · rw [x61]
      repeat' (first | (exfalso; omega) | (simp (disch := first | omega | assumption | exact z_b_01) only [x61_0, x61_1, x61_4, x61_5, x61_6, x61_9, x61_10, x61_11, x61_14, x61_15, x61_16, x61_17, x61_20, x61_21, x61_24, x61_27, x61_28, x61_31, x61_32, x61_33, x61_36, Option.bind_some, Option.toList_some, Option.toList_none, List.cons_append, List.nil_append, Int.toNat_natCast, Int.toNat_zero, z_w_id, z_b_0, z_b_1, z_b_n0, z_b_t, z_b_f, ↓reduceIte, Int.reduceEq, Int.reduceLT, Int.reduceLE, Int.reduceToNat, not_true_eq_false, not_false_eq_true, false_and, and_false, true_and, and_true, false_or, or_false, true_or, or_true, k1, p1, a1]) | split)
    · rw [x87]
      repeat' (first | (exfalso; omega) | (simp (disch := first | omega | assumption | exact z_b_01) only [x87_0, x87_1, x87_2, x87_3, x87_6, x87_7, x87_8, x87_11, x87_12, x87_13, x87_14, x87_17, x87_18, x87_19, x87_20, x87_23, Option.bind_some, Option.toList_some, Option.toList_none, List.cons_append, List.nil_append, Int.toNat_natCast, Int.toNat_zero, z_w_id, z_b_0, z_b_1, z_b_n0, z_b_t, z_b_f, ↓reduceIte, Int.reduceEq, Int.reduceLT, Int.reduceLE, Int.reduceToNat, not_true_eq_false, not_false_eq_true, false_and, and_false, true_and, and_true, false_or, or_false, true_or, or_true, k2, kb, kc]) | split)
    · unfold a_admit a_append
      simp (disch := decide) only [a_u_o]
      exact ht
theorem e_units {A : Nat → Nat → Int} {ρ : Nat → Int} {l : List Nat} (hF : e_F 0 A ρ l) : (∀ g : Nat, (g : Int) < A 1 0 → 0 ≤ ρ (8 + 4 * g + 3) ∧ ρ (8 + 4 * g + 3) ≤ 1000000) ∧ s_sum (s_rg (A 1 0).toNat) (fun g => ρ (8 + 4 * g + 3)) = s_sum (s_rg (A 2 0).toNat) (fun c => A 15 c) := by
  have g1 := hF.1.1.1
  have g2 := hF.1.1.2.1
  have wg := hF.2.1.2.1
  have iC := hF.1.2.2.1
  refine ⟨fun g hg => ?_, ?_⟩
  · rw [(wg g hg).2.2.2]
    have h := s_sum_bd (l := s_rg (A 2 0).toNat) (f := fun c => if A 7 c = (g : Int) then A 15 c else 0) (b := 30000) (fun c hc => by
      have := s_rg_mem.mp hc
      have a := (iC c (by omega)).2.2.2.2.2.2.2.2
      split <;> omega)
    have hl : (s_rg (A 2 0).toNat).length = (A 2 0).toNat := by unfold s_rg; exact List.length_range'
    rw [hl] at h
    omega
  · rw [s_sum_congr (g := fun (g : Nat) => s_sum (s_rg (A 2 0).toNat) (fun c => if A 7 c = (g : Int) then A 15 c else 0)) (fun g hg => ?_)]
    · refine s_sum_swap _ _ fun c hc => ?_
      have := s_rg_mem.mp hc
      have a := (iC c (by omega)).1
      omega
    · have := s_rg_mem.mp hg
      exact (wg g (by omega)).2.2.2
theorem c_mark : w_c 75 116 [] := by
  intro M hR
  obtain ⟨⟨⟨l, hF⟩, ht⟩, -⟩ := id hR
  have hI := hF.1
  have g1 := hF.1.1.1
  have g2 := hF.1.1.2.1
  have w1 : M 0 31 1 = M 0 1 0 := hF.2.1.1.2.1
  have w2 : M 0 31 2 = M 0 2 0 := hF.2.1.1.2.2.1
  obtain ⟨u1, u2⟩ := e_units hF
  obtain ⟨M', p1, p2, p3⟩ := k_push2 hR
  have a1 := k_take (s := 0) (M := M') (A := M 0) hI.2.2.1 g2.1 g2.2
  have m1 := k_mmark (M := z_ur M' 0 (a_zero (M 0) (M 0 2 0).toNat)) (ρ := M 0 31) (w_30 hR p3) (G := (M 0 1 0).toNat) (C := (M 0 2 0).toNat) (by omega) (by omega) (by omega) (by omega) (fun g hg => u1 g (by omega))
  rw [w_mrow p3, u2] at m1
  refine ⟨_, _, _, ?_, m1, w_done hR p2 p3 ⟨⟨l, e_F_zero hF⟩, ?_⟩⟩
  · rw [x75]
    repeat' (first | (exfalso; omega) | (simp (disch := first | omega | assumption | exact z_b_01) only [x75_0, x75_1, x75_4, x75_5, x75_8, x75_11, x75_12, x75_15, x75_18, x75_21, Option.bind_some, Option.toList_some, Option.toList_none, List.cons_append, List.nil_append, Int.toNat_natCast, Int.toNat_zero, z_w_id, z_b_0, z_b_1, z_b_n0, z_b_t, z_b_f, ↓reduceIte, Int.reduceEq, Int.reduceLT, Int.reduceLE, Int.reduceToNat, not_true_eq_false, not_false_eq_true, false_and, and_false, true_and, and_true, false_or, or_false, true_or, or_true, p1, a1]) | split)
  · rw [a_zero_o (by decide)]; exact ht
theorem z_same {x : Option (Option z_V × z_M)} {r r2 : Int} {M1 M2 : z_M} (h1 : x = some (some (.inl r), M1)) (h2 : x = some (some (.inl r2), M2)) : r = r2 ∧ M1 = M2 := by
  rw [h1] at h2
  cases h2
  exact ⟨rfl, rfl⟩
theorem w_done_t {M M' : z_M} {T' : Nat → Nat → Int} (hR : w_R M) (hp : w_Hp M' (M 0 31)) (hf : w_pf M M') : w_Hp (z_ut M' T') (M 0 31) ∧ w_pf M (z_ut M' T') := by
  have e : ∀ (s : Fin 7) (o j : Nat), ¬ (27 ≤ o ∧ o < 30) → z_ut M' T' s o j = M' s o j := fun s o j h => by
    unfold z_ut
    rw [if_neg (fun q => h q.2)]
  refine ⟨w_Hp_of hp ⟨fun q o j a b => e _ _ _ (by omega), fun j => e _ _ _ (by omega), fun j => e _ _ _ (by omega), e _ _ _ (by omega), e _ _ _ (by omega)⟩, fun o j a b d => ?_, fun o j => ?_, fun o j => ?_⟩
  · rw [e _ _ _ d]; exact hf.1 o j a b d
  · unfold z_ut
    rw [if_neg (fun q => by have := q.1; revert this; decide)]
    exact hf.2.1 o j
  · unfold z_ut
    rw [if_neg (fun q => by have := q.1; revert this; decide)]
    exact hf.2.2 o j
theorem c_pass (n : Int) : w_c 76 123 [.inl n] := by
  intro M hR
  obtain ⟨⟨⟨l, hF⟩, ht⟩, -⟩ := id hR
  have hI := hF.1
  have g2 := hF.1.1.2.1
  have g3 := hF.1.1.2.2
  have w0 : M 0 31 0 = M 0 0 3 := hF.2.1.1.1
  by_cases hn : 1 ≤ n ∧ n ≤ 500
  · by_cases h2 : M 0 0 3 + n ≤ 20000
    · obtain ⟨M', p1, p2, p3⟩ := k_push2 hR
      obtain ⟨T', A1, ρ1, l1, r, F1, a03, a20, hr, c1, -⟩ := k_ticks (M := M') (Mm := M') (n := n) (by omega) n.toNat 0 0 (M' 0) (M 0) (M 0 31) l (by omega) hF (by omega) (by omega) (by omega)
      rw [z_ut_self] at c1
      simp only [Int.natCast_zero] at c1
      have hC1 := F1.1.2.2.1
      have a1 := k_fill (s := 0) (M := z_ut M' T') (A := A1) hC1 (by omega) (by omega) (t := n) (by omega)
      have e1 : z_ev 76 [.inr (some (0, 21)), .inl n] M = some (some (.inl r), z_ur (z_ut M' T') 0 (a_fill A1 n (A1 2 0).toNat)) := by
        rw [x76]
        repeat' (first | (exfalso; omega) | (simp (disch := first | omega | assumption | exact z_b_01) only [x76_0, x76_1, x76_2, x76_5, x76_8, x76_11, x76_13, x76_14, x76_15, x76_18, x76_21, x76_22, x76_23, x76_26, x76_29, x76_31, x76_32, x76_33, x76_36, x76_37, x76_40, x76_43, x76_44, x76_45, x76_46, x76_48, x76_49, x76_52, x76_53, x76_54, x76_57, x76_58, x76_59, x76_62, x76_66, x76_69, x76_72, x76_73, x76_76, x76_77, Option.bind_some, Option.toList_some, Option.toList_none, List.cons_append, List.nil_append, Int.toNat_natCast, Int.toNat_zero, z_w_id, z_b_0, z_b_1, z_b_n0, z_b_t, z_b_f, ↓reduceIte, Int.reduceEq, Int.reduceLT, Int.reduceLE, Int.reduceToNat, not_true_eq_false, not_false_eq_true, false_and, and_false, true_and, and_true, false_or, or_false, true_or, or_true, k_isWithin, p1]) | split)
        rw [c1, x76_65]
        repeat' (first | (exfalso; omega) | (simp (disch := first | omega | assumption | exact z_b_01) only [x76_0, x76_1, x76_2, x76_5, x76_8, x76_11, x76_13, x76_14, x76_15, x76_18, x76_21, x76_22, x76_23, x76_26, x76_29, x76_31, x76_32, x76_33, x76_36, x76_37, x76_40, x76_43, x76_44, x76_45, x76_46, x76_48, x76_49, x76_52, x76_53, x76_54, x76_57, x76_58, x76_59, x76_62, x76_66, x76_69, x76_72, x76_73, x76_76, x76_77, Option.bind_some, Option.toList_some, Option.toList_none, List.cons_append, List.nil_append, Int.toNat_natCast, Int.toNat_zero, z_w_id, z_b_0, z_b_1, z_b_n0, z_b_t, z_b_f, ↓reduceIte, Int.reduceEq, Int.reduceLT, Int.reduceLE, Int.reduceToNat, not_true_eq_false, not_false_eq_true, false_and, and_false, true_and, and_true, false_or, or_false, true_or, or_true, a1]) | split)
      obtain ⟨Mc, hMc⟩ : ∃ Mc, Mc = z_ur (z_ut M' T') 0 (a_fill A1 n (A1 2 0).toNat) := ⟨_, rfl⟩
      rw [← hMc] at e1
      clear hMc c1 a1 hC1 F1 a03 a20
      obtain ⟨T2, A2, ρ2, l2, r2, F2, b03, b20, hr2, c2, m2⟩ := k_ticks (M := M') (Mm := m_bg Mc (M 0 31)) (n := n) (by omega) n.toNat 0 0 (M' 0) (M 0) (M 0 31) l (by omega) hF (by omega) (by omega) (by omega)
      rw [z_ut_self] at c2
      simp only [Int.natCast_zero] at c2 m2
      have a2 := k_fill (s := 0) (M := z_ut M' T2) (A := A2) F2.1.2.2.1 (by omega) (by omega) (t := n) (by omega)
      have e2 : z_ev 76 [.inr (some (0, 21)), .inl n] M = some (some (.inl r2), z_ur (z_ut M' T2) 0 (a_fill A2 n (A2 2 0).toNat)) := by
        rw [x76]
        repeat' (first | (exfalso; omega) | (simp (disch := first | omega | assumption | exact z_b_01) only [x76_0, x76_1, x76_2, x76_5, x76_8, x76_11, x76_13, x76_14, x76_15, x76_18, x76_21, x76_22, x76_23, x76_26, x76_29, x76_31, x76_32, x76_33, x76_36, x76_37, x76_40, x76_43, x76_44, x76_45, x76_46, x76_48, x76_49, x76_52, x76_53, x76_54, x76_57, x76_58, x76_59, x76_62, x76_66, x76_69, x76_72, x76_73, x76_76, x76_77, Option.bind_some, Option.toList_some, Option.toList_none, List.cons_append, List.nil_append, Int.toNat_natCast, Int.toNat_zero, z_w_id, z_b_0, z_b_1, z_b_n0, z_b_t, z_b_f, ↓reduceIte, Int.reduceEq, Int.reduceLT, Int.reduceLE, Int.reduceToNat, not_true_eq_false, not_false_eq_true, false_and, and_false, true_and, and_true, false_or, or_false, true_or, or_true, k_isWithin, p1]) | split)
        rw [c2, x76_65]
        repeat' (first | (exfalso; omega) | (simp (disch := first | omega | assumption | exact z_b_01) only [x76_0, x76_1, x76_2, x76_5, x76_8, x76_11, x76_13, x76_14, x76_15, x76_18, x76_21, x76_22, x76_23, x76_26, x76_29, x76_31, x76_32, x76_33, x76_36, x76_37, x76_40, x76_43, x76_44, x76_45, x76_46, x76_48, x76_49, x76_52, x76_53, x76_54, x76_57, x76_58, x76_59, x76_62, x76_66, x76_69, x76_72, x76_73, x76_76, x76_77, Option.bind_some, Option.toList_some, Option.toList_none, List.cons_append, List.nil_append, Int.toNat_natCast, Int.toNat_zero, z_w_id, z_b_0, z_b_1, z_b_n0, z_b_t, z_b_f, ↓reduceIte, Int.reduceEq, Int.reduceLT, Int.reduceLE, Int.reduceToNat, not_true_eq_false, not_false_eq_true, false_and, and_false, true_and, and_true, false_or, or_false, true_or, or_true, a2]) | split)
      obtain ⟨rfl, rfl⟩ := z_same e1 e2
      obtain ⟨q2, q3⟩ := w_done_t (T' := T2) hR p2 p3
      have kb := k_mbg (M := z_ur (z_ut M' T2) 0 (a_fill A2 n (A2 2 0).toNat)) (ρ := M 0 31) (w_30 hR q3)
      rw [w_mrow q3] at kb
      have f0 : z_ur (z_ut M' T2) 0 (a_fill A2 n (A2 2 0).toNat) 0 31 0 = M 0 0 3 := by rw [z_ur_top (by decide), q3.1 31 0 (by decide) (by decide) (by omega)]; exact w0
      refine ⟨_, _, _, e1, ?_, w_done hR q2 q3 ⟨⟨l2, e_F_fill (by omega) F2⟩, ?_⟩⟩
      · rw [x123]
        repeat' (first | (exfalso; omega) | (simp (disch := first | omega | assumption | exact z_b_01) only [x123_0, x123_1, x123_2, x123_5, x123_8, x123_11, x123_13, x123_14, x123_15, x123_18, x123_19, x123_20, x123_21, x123_22, x123_25, x123_28, x123_30, x123_31, x123_32, x123_35, x123_36, x123_37, x123_38, x123_40, x123_41, x123_44, x123_45, x123_46, x123_49, x123_50, x123_51, x123_54, x123_57, x123_58, Option.bind_some, Option.toList_some, Option.toList_none, List.cons_append, List.nil_append, Int.toNat_natCast, Int.toNat_zero, z_w_id, z_b_0, z_b_1, z_b_n0, z_b_t, z_b_f, ↓reduceIte, Int.reduceEq, Int.reduceLT, Int.reduceLE, Int.reduceToNat, not_true_eq_false, not_false_eq_true, false_and, and_false, true_and, and_true, false_or, or_false, true_or, or_true, k_in, f0, kb, m2]) | split)
      · rw [a_fill_o (by decide)]; omega
    · refine ⟨-4, M, M, ?_, ?_, hR⟩
      · rw [x76]
        repeat' (first | (exfalso; omega) | (simp (disch := first | omega | assumption | exact z_b_01) only [x76_0, x76_1, x76_2, x76_5, x76_8, x76_11, x76_13, x76_14, x76_15, x76_18, x76_21, x76_22, x76_23, x76_26, x76_29, x76_31, x76_32, x76_33, x76_36, x76_37, x76_40, x76_43, x76_44, x76_45, x76_46, x76_48, x76_49, x76_52, x76_53, x76_54, x76_57, x76_58, x76_59, x76_62, x76_66, x76_69, x76_72, x76_73, x76_76, x76_77, Option.bind_some, Option.toList_some, Option.toList_none, List.cons_append, List.nil_append, Int.toNat_natCast, Int.toNat_zero, z_w_id, z_b_0, z_b_1, z_b_n0, z_b_t, z_b_f, ↓reduceIte, Int.reduceEq, Int.reduceLT, Int.reduceLE, Int.reduceToNat, not_true_eq_false, not_false_eq_true, false_and, and_false, true_and, and_true, false_or, or_false, true_or, or_true, k_isWithin]) | split)
        all_goals rfl
      · rw [x123]
        repeat' (first | (exfalso; omega) | (simp (disch := first | omega | assumption | exact z_b_01) only [x123_0, x123_1, x123_2, x123_5, x123_8, x123_11, x123_13, x123_14, x123_15, x123_18, x123_19, x123_20, x123_21, x123_22, x123_25, x123_28, x123_30, x123_31, x123_32, x123_35, x123_36, x123_37, x123_38, x123_40, x123_41, x123_44, x123_45, x123_46, x123_49, x123_50, x123_51, x123_54, x123_57, x123_58, Option.bind_some, Option.toList_some, Option.toList_none, List.cons_append, List.nil_append, Int.toNat_natCast, Int.toNat_zero, z_w_id, z_b_0, z_b_1, z_b_n0, z_b_t, z_b_f, ↓reduceIte, Int.reduceEq, Int.reduceLT, Int.reduceLE, Int.reduceToNat, not_true_eq_false, not_false_eq_true, false_and, and_false, true_and, and_true, false_or, or_false, true_or, or_true, k_in, w0]) | split)
        all_goals rfl
  · refine ⟨-2, M, M, ?_, ?_, hR⟩
    · rw [x76]
      repeat' (first | (exfalso; omega) | (simp (disch := first | omega | assumption | exact z_b_01) only [x76_0, x76_1, x76_2, x76_5, x76_8, x76_11, x76_13, x76_14, x76_15, x76_18, x76_21, x76_22, x76_23, x76_26, x76_29, x76_31, x76_32, x76_33, x76_36, x76_37, x76_40, x76_43, x76_44, x76_45, x76_46, x76_48, x76_49, x76_52, x76_53, x76_54, x76_57, x76_58, x76_59, x76_62, x76_66, x76_69, x76_72, x76_73, x76_76, x76_77, Option.bind_some, Option.toList_some, Option.toList_none, List.cons_append, List.nil_append, Int.toNat_natCast, Int.toNat_zero, z_w_id, z_b_0, z_b_1, z_b_n0, z_b_t, z_b_f, ↓reduceIte, Int.reduceEq, Int.reduceLT, Int.reduceLE, Int.reduceToNat, not_true_eq_false, not_false_eq_true, false_and, and_false, true_and, and_true, false_or, or_false, true_or, or_true, k_isWithin]) | split)
      all_goals rfl
    · rw [x123]
      repeat' (first | (exfalso; omega) | (simp (disch := first | omega | assumption | exact z_b_01) only [x123_0, x123_1, x123_2, x123_5, x123_8, x123_11, x123_13, x123_14, x123_15, x123_18, x123_19, x123_20, x123_21, x123_22, x123_25, x123_28, x123_30, x123_31, x123_32, x123_35, x123_36, x123_37, x123_38, x123_40, x123_41, x123_44, x123_45, x123_46, x123_49, x123_50, x123_51, x123_54, x123_57, x123_58, Option.bind_some, Option.toList_some, Option.toList_none, List.cons_append, List.nil_append, Int.toNat_natCast, Int.toNat_zero, z_w_id, z_b_0, z_b_1, z_b_n0, z_b_t, z_b_f, ↓reduceIte, Int.reduceEq, Int.reduceLT, Int.reduceLE, Int.reduceToNat, not_true_eq_false, not_false_eq_true, false_and, and_false, true_and, and_true, false_or, or_false, true_or, or_true, k_in]) | split)
      all_goals rfl
theorem c_undo : w_c 86 139 [] := by
  intro M hR
  obtain ⟨r1, ⟨n, h1, h2, h3, h4, h5⟩, r3, r4⟩ := id hR
  by_cases hn : n = 0
  · subst hn
    refine ⟨-5, M, M, ?_, ?_, hR⟩
    · rw [x86]
      repeat' (first | (exfalso; omega) | (simp (disch := first | omega | assumption | exact z_b_01) only [x86_0, x86_1, x86_4, x86_7, x86_10, x86_12, x86_13, x86_14, x86_17, x86_18, x86_21, x86_24, x86_25, x86_28, x86_31, Option.bind_some, Option.toList_some, Option.toList_none, List.cons_append, List.nil_append, Int.toNat_natCast, Int.toNat_zero, z_w_id, z_b_0, z_b_1, z_b_n0, z_b_t, z_b_f, ↓reduceIte, Int.reduceEq, Int.reduceLT, Int.reduceLE, Int.reduceToNat, not_true_eq_false, not_false_eq_true, false_and, and_false, true_and, and_true, false_or, or_false, true_or, or_true, h2]) | split)
      all_goals rfl
    · rw [x139]
      repeat' (first | (exfalso; omega) | (simp (disch := first | omega | assumption | exact z_b_01) only [x139_0, x139_1, x139_4, x139_7, x139_9, x139_10, x139_11, x139_12, x139_15, x139_16, x139_17, x139_20, x139_21, x139_23, x139_26, x139_29, x139_30, x139_33, x139_34, x139_35, x139_38, x139_41, x139_42, x139_45, x139_46, x139_47, x139_48, x139_49, x139_50, x139_53, x139_56, x139_57, x139_60, Option.bind_some, Option.toList_some, Option.toList_none, List.cons_append, List.nil_append, Int.toNat_natCast, Int.toNat_zero, z_w_id, z_b_0, z_b_1, z_b_n0, z_b_t, z_b_f, ↓reduceIte, Int.reduceEq, Int.reduceLT, Int.reduceLE, Int.reduceToNat, not_true_eq_false, not_false_eq_true, false_and, and_false, true_and, and_true, false_or, or_false, true_or, or_true, h3]) | split)
      all_goals rfl
  · obtain ⟨m, rfl⟩ : ∃ m, n = m + 1 := ⟨n - 1, by omega⟩
    have hq := h4.1 m (by omega)
    have k1 := k_takeLatest h2 (by omega) (z_rg_n0 hq).1
    have hS := h5 m (by omega)
    generalize hq' : z_rg (M 0 23 m) = q at k1 hS
    have q0 : q ≠ 0 := by rw [← hq']; exact (z_rg_n0 hq).1
    have h3' : z_up (z_ur M 0 (a_copy (M 0) (M q))) 0 22 0 (m : Int) 0 30 4 = (m : Int) + 1 := by
      rw [z_up_ne (by omega), z_ur_top (by decide), h3]; omega
    have k2 := k_mundo (M := z_up (z_ur M 0 (a_copy (M 0) (M q))) 0 22 0 (m : Int)) (h := m) (by omega) h3'
    have e22 : z_up (z_ur M 0 (a_copy (M 0) (M q))) 0 22 0 (m : Int) 0 22 0 = (m : Int) := z_up_at _ _ _ _ _
    refine ⟨_, _, _, ?_, k2, ?_⟩
    · rw [x86]
      repeat' (first | (exfalso; omega) | (simp (disch := first | omega | assumption | exact z_b_01) only [x86_0, x86_1, x86_4, x86_7, x86_10, x86_12, x86_13, x86_14, x86_17, x86_18, x86_21, x86_24, x86_25, x86_28, x86_31, Option.bind_some, Option.toList_some, Option.toList_none, List.cons_append, List.nil_append, Int.toNat_natCast, Int.toNat_zero, z_w_id, z_b_0, z_b_1, z_b_n0, z_b_t, z_b_f, ↓reduceIte, Int.reduceEq, Int.reduceLT, Int.reduceLE, Int.reduceToNat, not_true_eq_false, not_false_eq_true, false_and, and_false, true_and, and_true, false_or, or_false, true_or, or_true, h2, k1, e22]) | split)
      all_goals rfl
    · obtain ⟨Mz, hMz⟩ : ∃ Mz, Mz = z_st (z_up (z_up (z_ur M 0 (a_copy (M 0) (M q))) 0 22 0 (m : Int)) 0 30 4 (m : Int)) 31 0 1500 (fun j => z_up (z_ur M 0 (a_copy (M 0) (M q))) 0 22 0 (m : Int) 0 32 (1500 * m + j)) := ⟨_, rfl⟩
      rw [← hMz]
      have eo : ∀ (s : Fin 7) (o j : Nat), ¬ (s = 0 ∧ o < 21) → ¬ (o = 22 ∧ j = 0) → ¬ (o = 30 ∧ j = 4) → o ≠ 31 → Mz s o j = M s o j := fun s o j a b c d => by
        rw [hMz, z_st_o d, z_up_ne c, z_up_ne b]
        unfold z_ur
        rw [if_neg a]
      have f22 : Mz 0 22 0 = (m : Int) := by rw [hMz, z_st_o (by decide), z_up_ne (by omega), z_up_at]
      have f30 : Mz 0 30 4 = (m : Int) := by rw [hMz, z_st_o (by decide), z_up_at]
      have f31 : ∀ j, j < 1500 → Mz 0 31 j = M 0 32 (1500 * m + j) := fun j hj => by
        rw [hMz, z_st_in ⟨by omega, hj⟩, z_up_ne (by omega), z_ur_top (by decide)]
      have fc : ∀ o j, a_cell o j → Mz 0 o j = M q o j := fun o j c => by
        have := a_cell_lt c
        rw [hMz, z_st_o (by omega), z_up_ne (by omega), z_up_ne (by omega), a_copy_get c]
      have e23 : ∀ j, Mz 0 23 j = M 0 23 j := fun j => eo _ _ _ (by omega) (by omega) (by omega) (by decide)
      refine ⟨w_S_cell hS fc f31, ⟨m, by omega, f22, f30, w_pm_of h4 e23, fun p hp => ?_⟩, w_A_of r3 ⟨fun o j a => eo _ _ _ (by intro y; exact absurd y.1 (by decide)) (by omega) (by omega) (by omega), fun j => eo _ _ _ (by omega) (by omega) (by omega) (by decide), eo _ _ _ (by omega) (by omega) (by omega) (by decide), eo _ _ _ (by omega) (by omega) (by omega) (by decide)⟩, w_T_of r4 ⟨fun j => eo _ _ _ (by omega) (by omega) (by omega) (by decide), fun j => eo _ _ _ (by omega) (by omega) (by omega) (by decide), eo _ _ _ (by omega) (by omega) (by omega) (by decide), eo _ _ _ (by omega) (by omega) (by omega) (by decide)⟩⟩
      rw [e23]
      refine w_S_cell (h5 p (by omega)) (fun o j c => ?_) (fun j _ => eo _ _ _ (by omega) (by omega) (by omega) (by decide))
      have := a_cell_lt c
      exact eo _ _ _ (fun y => (z_rg_n0 (h4.1 p (by omega))).1 y.1) (by omega) (by omega) (by omega)
theorem c_keep : w_c 74 114 [] := by
  intro M hR
  obtain ⟨r1, r2, r3, r4⟩ := id hR
  have w0 : M 0 31 0 = M 0 0 3 := by obtain ⟨⟨l, hF⟩, ht⟩ := r1; exact hF.2.1.1.1
  have k1 := k_State_copy (s := 1) (s2 := 0) (by decide) (M := M) (A := M 1)
  rw [z_ur_self] at k1
  have e03 : z_up (z_ur M 1 (a_copy (M 1) (M 0))) 0 21 2 1 0 0 3 = M 0 0 3 := by rw [z_up_ne (by omega), z_ur_ne (by decide)]
  have k2 := k_mkeep (z_up (z_ur M 1 (a_copy (M 1) (M 0))) 0 21 2 1)
  have e31 : ∀ j, z_up (z_ur M 1 (a_copy (M 1) (M 0))) 0 21 2 1 0 31 j = M 0 31 j := fun j => by rw [z_up_ne (by omega), z_ur_top (by decide)]
  have e31' : z_up (z_ur M 1 (a_copy (M 1) (M 0))) 0 21 2 1 0 31 = M 0 31 := funext e31
  rw [e31', w0] at k2
  refine ⟨_, _, _, ?_, k2, ?_⟩
  · rw [x74]
    repeat' (first | (exfalso; omega) | (simp (disch := first | omega | assumption | exact z_b_01) only [x74_0, x74_1, x74_4, x74_5, x74_8, x74_11, x74_12, x74_13, x74_16, x74_17, x74_20, x74_23, Option.bind_some, Option.toList_some, Option.toList_none, List.cons_append, List.nil_append, Int.toNat_natCast, Int.toNat_zero, z_w_id, z_b_0, z_b_1, z_b_n0, z_b_t, z_b_f, ↓reduceIte, Int.reduceEq, Int.reduceLT, Int.reduceLE, Int.reduceToNat, not_true_eq_false, not_false_eq_true, false_and, and_false, true_and, and_true, false_or, or_false, true_or, or_true, k1, e03]) | split)
    all_goals first | rfl | exact Or.inr rfl
  · obtain ⟨Mz, hMz⟩ : ∃ Mz, Mz = z_up (z_st (z_up (z_ur M 1 (a_copy (M 1) (M 0))) 0 21 2 1) 33 0 1500 (M 0 31)) 0 30 5 1 := ⟨_, rfl⟩
    rw [← hMz]
    have eo : ∀ (s : Fin 7) (o j : Nat), ¬ (s = 1 ∧ o < 21) → ¬ (o = 21 ∧ j = 2) → ¬ (o = 30 ∧ j = 5) → o ≠ 33 → Mz s o j = M s o j := fun s o j a b c d => by
      rw [hMz, z_up_ne c, z_st_o d, z_up_ne b]
      unfold z_ur
      rw [if_neg a]
    have f21 : Mz 0 21 2 = 1 := by rw [hMz, z_up_ne (by omega), z_st_o (by decide), z_up_at]
    have f30 : Mz 0 30 5 = 1 := by rw [hMz, z_up_at]
    have f33 : ∀ j, j < 1500 → Mz 0 33 j = M 0 31 j := fun j hj => by
      rw [hMz, z_up_ne (by omega), z_st_in ⟨by omega, hj⟩]
    have fc : ∀ o j, a_cell o j → Mz 1 o j = M 0 o j := fun o j c => by
      have := a_cell_lt c
      rw [hMz, z_up_ne (by omega), z_st_o (by omega), z_up_ne (by omega), a_copy_get c]
    have n0 : ¬ ((0 : Fin 7) = 1 ∧ True) := by decide
    refine ⟨w_S_cell r1 (fun o j c => by have := a_cell_lt c; exact eo _ _ _ (fun y => absurd y.1 (by decide)) (by omega) (by omega) (by omega)) (fun j _ => eo _ _ _ (by omega) (by omega) (by omega) (by decide)), w_H_of r2 ⟨fun q o j a b => eo _ _ _ (fun y => by rw [y.1] at a; revert a; decide) (by omega) (by omega) (by omega), fun j => eo _ _ _ (by omega) (by omega) (by omega) (by decide), fun j => eo _ _ _ (by omega) (by omega) (by omega) (by decide), eo _ _ _ (by omega) (by omega) (by omega) (by decide), eo _ _ _ (by omega) (by omega) (by omega) (by decide)⟩, ⟨Or.inr f21, by rw [f21, f30], fun _ => w_S_cell r1 fc f33⟩, w_T_of r4 ⟨fun j => eo _ _ _ (by omega) (by omega) (by omega) (by decide), fun j => eo _ _ _ (by omega) (by omega) (by omega) (by decide), eo _ _ _ (by omega) (by omega) (by omega) (by decide), eo _ _ _ (by omega) (by omega) (by omega) (by decide)⟩⟩
theorem c_restore : w_c 79 128 [] := by
  intro M hR
  obtain ⟨r1, r2, ⟨a1, a2, a3⟩, r4⟩ := id hR
  rcases a1 with h | h
  · refine ⟨-5, M, M, ?_, ?_, hR⟩
    · rw [x79]
      repeat' (first | (exfalso; omega) | (simp (disch := first | omega | assumption | exact z_b_01) only [x79_0, x79_1, x79_4, x79_7, x79_9, x79_10, x79_11, x79_14, x79_15, x79_18, x79_21, x79_22, x79_25, x79_26, x79_29, x79_32, x79_33, x79_36, x79_39, Option.bind_some, Option.toList_some, Option.toList_none, List.cons_append, List.nil_append, Int.toNat_natCast, Int.toNat_zero, z_w_id, z_b_0, z_b_1, z_b_n0, z_b_t, z_b_f, ↓reduceIte, Int.reduceEq, Int.reduceLT, Int.reduceLE, Int.reduceToNat, not_true_eq_false, not_false_eq_true, false_and, and_false, true_and, and_true, false_or, or_false, true_or, or_true, h]) | split)
      all_goals rfl
    · rw [h] at a2
      rw [x128]
      repeat' (first | (exfalso; omega) | (simp (disch := first | omega | assumption | exact z_b_01) only [x128_0, x128_1, x128_4, x128_7, x128_9, x128_10, x128_11, x128_14, x128_15, x128_17, x128_20, x128_23, x128_24, x128_27, x128_28, x128_29, x128_32, x128_33, x128_34, x128_35, x128_38, x128_41, x128_42, x128_45, x128_46, x128_47, Option.bind_some, Option.toList_some, Option.toList_none, List.cons_append, List.nil_append, Int.toNat_natCast, Int.toNat_zero, z_w_id, z_b_0, z_b_1, z_b_n0, z_b_t, z_b_f, ↓reduceIte, Int.reduceEq, Int.reduceLT, Int.reduceLE, Int.reduceToNat, not_true_eq_false, not_false_eq_true, false_and, and_false, true_and, and_true, false_or, or_false, true_or, or_true, a2]) | split)
      all_goals rfl
  · have hS := a3 h
    obtain ⟨M', p1, p2, p3⟩ := k_push2 hR
    have e1 : M' 1 = M 1 := by funext o j; exact p3.2.1 o j
    have k1 := k_State_copy (s := 0) (s2 := 1) (by decide) (M := M') (A := M 0)
    rw [e1] at k1
    have e03 : a_copy (M 0) (M 1) 0 3 = M 1 0 3 := a_copy_cell _ _ _ _ (by unfold a_cell; omega)
    have w0 : M 0 33 0 = M 1 0 3 := by obtain ⟨⟨l, hF⟩, ht⟩ := hS; exact hF.2.1.1.1
    have f5 : z_ur M' 0 (a_copy (M 0) (M 1)) 0 30 5 = 1 := by rw [z_ur_top (by decide), p3.1 30 5 (by decide) (by decide) (by omega), a2, h]
    have f33 : z_ur M' 0 (a_copy (M 0) (M 1)) 0 33 = M 0 33 := by
      funext j
      rw [z_ur_top (by decide), p3.1 33 j (by decide) (by decide) (by omega)]
    have m1 := k_mrestore (M := z_ur M' 0 (a_copy (M 0) (M 1))) (ρ := M 0 31) (w_30 hR p3) f5
    rw [w_mrow p3, f33, w0] at m1
    refine ⟨_, _, _, ?_, m1, w_done hR p2 p3 (w_S_cell hS (a_copy_cell _ _) (fun j hj => ?_))⟩
    · rw [x79]
      repeat' (first | (exfalso; omega) | (simp (disch := first | omega | assumption | exact z_b_01) only [x79_0, x79_1, x79_4, x79_7, x79_9, x79_10, x79_11, x79_14, x79_15, x79_18, x79_21, x79_22, x79_25, x79_26, x79_29, x79_32, x79_33, x79_36, x79_39, Option.bind_some, Option.toList_some, Option.toList_none, List.cons_append, List.nil_append, Int.toNat_natCast, Int.toNat_zero, z_w_id, z_b_0, z_b_1, z_b_n0, z_b_t, z_b_f, ↓reduceIte, Int.reduceEq, Int.reduceLT, Int.reduceLE, Int.reduceToNat, not_true_eq_false, not_false_eq_true, false_and, and_false, true_and, and_true, false_or, or_false, true_or, or_true, h, p1, k1, z_ur_get, e03]) | split)
      all_goals rfl
    · unfold m_lay
      rw [if_pos hj]
