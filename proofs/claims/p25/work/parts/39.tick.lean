/-! a tick -/
theorem f_x_o {A A' : Nat → Nat → Int} {l : List Nat} (hx : f_x A l) (h : ∀ o i, o ≠ 0 → o ≠ 15 → o ≠ 12 → A' o i = A o i) : f_x A' l := by
  refine ⟨fun g hg hn => ?_, fun j hj hb => ?_⟩
  · rw [h 1 0 (by decide) (by decide) (by decide)] at hg
    rw [h 5 g (by decide) (by decide) (by decide)]
    exact hx.1 g hg fun j hj => by rw [← a_gr_c (A := A) (A' := A') (fun i => h 16 i (by decide) (by decide) (by decide)) (fun i => h 7 i (by decide) (by decide) (by decide))]; exact hn j hj
  · rw [h 3 0 (by decide) (by decide) (by decide)] at hj
    rw [h 19 j (by decide) (by decide) (by decide)] at hb ⊢
    rw [h 18 j (by decide) (by decide) (by decide)]
    exact hx.2 j hj hb
/-- the jobs that are done -/
def p_D (A : Nat → Nat → Int) : Int := A 3 0 - A 3 5 - if A 0 5 = -5 then 0 else 1
/-- the work that waits or is in service -/
def p_W (A : Nat → Nat → Int) (l : List Nat) : Int := A 0 6 + s_sum l (fun i => A 17 i)
/-- what holds of a state in a tick, ahead of its service -/
def f_H (A : Nat → Nat → Int) (l : List Nat) : Prop := e_I A l ∧ f_x A l ∧ e_Sv A
theorem f_06 {A : Nat → Nat → Int} {l : List Nat} (h : f_H A l) : 0 ≤ A 0 6 ∧ A 0 6 ≤ 99 := by
  rcases h.2.2.1 with q | ⟨j, -, q2, -, q4, q5, -⟩
  · omega
  · have := (h.1.2.1 j q2).2.1
    omega
theorem f_pre {M : z_M} {T A : Nat → Nat → Int} {l : List Nat} (hH : f_H A l) :
    ∃ (T' A1 : Nat → Nat → Int) (l1 : List Nat), z_ex 77 0 [some (.inr (some (0, 21))), none] [] (z_ur (z_ut M T) 0 A) = z_ex 77 43 [some (.inr (some (0, 21))), none] [] (z_ur (z_ut M T') 0 A1) ∧ f_H A1 l1 ∧ (A1 0 5 = -5 → l1 = []) ∧
      A1 0 3 = A 0 3 ∧ A1 0 7 = A 0 7 ∧ A1 3 0 = A 3 0 ∧ (∀ i, A1 17 i = A 17 i) ∧ p_D A1 = p_D A ∧ p_F A1 l1 = p_F A l ∧ p_W A1 l1 = p_W A l ∧ (∀ o i, o = 1 ∨ o = 2 → i = 0 → A1 o i = A o i) ∧ (l = [] → l1 = []) := by
  obtain ⟨hI, hx, hS⟩ := id hH
  have w5 := hI.2.2.2.2.1.1
  have hG := hI.1
  by_cases h5 : A 0 5 = -5
  · by_cases hl : l = []
    · subst hl
      simp only [List.length_nil, Int.natCast_zero] at w5
      refine ⟨T, A, [], ?_, hH, fun _ => rfl, rfl, rfl, rfl, fun _ => rfl, rfl, rfl, rfl, fun _ _ _ _ => rfl, fun _ => rfl⟩
      repeat' (first | (exfalso; omega) | (simp (disch := first | omega | assumption | exact z_b_01) only [x77_0, x77_1, x77_4, x77_7, x77_9, x77_12, x77_13, x77_16, x77_19, x77_22, x77_25, x77_26, x77_29, x77_30, x77_33, x77_34, x77_37, x77_40, x77_44, x77_47, x77_50, x77_51, x77_52, x77_55, x77_56, x77_59, x77_60, x77_61, x77_64, x77_65, Option.bind_some, Option.toList_some, Option.toList_none, List.cons_append, List.nil_append, Int.toNat_natCast, Int.toNat_zero, z_w_id, z_b_0, z_b_1, z_b_n0, z_b_t, z_b_f, ↓reduceIte, Int.reduceEq, Int.reduceLT, Int.reduceLE, Int.reduceToNat, not_true_eq_false, not_false_eq_true, false_and, and_false, true_and, and_true, false_or, or_false, true_or, or_true, z_ur_get, h5, w5]) | split)
      all_goals rfl
    · have hlen : 0 < l.length := List.length_pos_iff.mpr hl
      have h6 : A 0 6 = 0 := by
        rcases hS.1 with q | ⟨j, q, -⟩
        · exact q.2
        · omega
      obtain ⟨T', A1, hj, n1, b1, hI1, hx1, h20, o1, o19, o05, o06⟩ := f_step (s := 0) (M := M) (T := T) hI hx hl
      have hjn := hI.2.2.2.2.1.2.2.2.1 _ hj
      have aj := hI.2.1 _ hjn
      have len := f_len hI hj
      have w51 := hI1.2.2.2.2.1.1
      have e30 := o1 3 0 (by omega)
      have e03 := o1 0 3 (by omega)
      have e17 : ∀ i, A1 17 i = A 17 i := fun i => o1 17 i (by omega)
      obtain ⟨-, s15, s7, s7', s19⟩ := hS
      have hS1 : e_Sv A1 := by
        refine ⟨Or.inr ⟨p_j A l, o05, by rw [e30]; exact hjn, ?_, ?_, ?_, ?_⟩, fun c hc => ?_, ?_, ?_, fun k hk => ?_⟩
        · rw [o19, if_pos rfl]; have := hG.2.2; omega
        · rw [o06]; omega
        · rw [o06, e17]; omega
        · rw [o19, if_pos rfl, o06, e17, e03]; omega
        · rw [o1 2 0 (by omega)] at hc
          rw [o1 15 c (by omega), e03]; exact s15 c hc
        · rw [o1 0 7 (by omega)]; exact s7
        · rw [o1 0 7 (by omega), e03]; exact s7'
        · rw [e30] at hk
          rw [o19, e03]
          have := s19 k hk
          split <;> omega
      refine ⟨T', A1, _, ?_, ⟨hI1, hx1, hS1⟩, fun q => ?_, e03, o1 0 7 (by omega), e30, e17, ?_, ?_, ?_, fun o i a b => o1 o i (by omega), fun q => absurd q hl⟩
      · repeat' (first | (exfalso; omega) | (simp (disch := first | omega | assumption | exact z_b_01) only [x77_0, x77_1, x77_4, x77_7, x77_9, x77_12, x77_13, x77_16, x77_19, x77_22, x77_25, x77_26, x77_29, x77_30, x77_33, x77_34, x77_37, x77_40, x77_44, x77_47, x77_50, x77_51, x77_52, x77_55, x77_56, x77_59, x77_60, x77_61, x77_64, x77_65, Option.bind_some, Option.toList_some, Option.toList_none, List.cons_append, List.nil_append, Int.toNat_natCast, Int.toNat_zero, z_w_id, z_b_0, z_b_1, z_b_n0, z_b_t, z_b_f, ↓reduceIte, Int.reduceEq, Int.reduceLT, Int.reduceLE, Int.reduceToNat, not_true_eq_false, not_false_eq_true, false_and, and_false, true_and, and_true, false_or, or_false, true_or, or_true, z_ur_get, h5, w5, n1, b1]) | split)
        all_goals rfl
      · rw [o05] at q; omega
      · unfold p_D
        rw [e30, o05, h5, w51, w5, if_neg (by omega), if_pos rfl]
        omega
      · rw [p_F_eq (f_e2_20 h20)]
        unfold p_F
        rw [len, p_c_succ, p_t_idle h6]
      · unfold p_W
        rw [o06, h6]
        have pw : l.Pairwise (· < ·) := by rw [hI.2.2.2.2.2.2.1]; exact e_l_pw A
        rw [s_sum_erase (f := fun i => A 17 i) pw hj]
        have : s_sum (l.filter (q_ne (p_j A l : Int))) (fun i => A1 17 i) = s_sum (l.filter (q_ne (p_j A l : Int))) (fun i => A 17 i) := s_sum_congr fun i _ => e17 i
        rw [this]
        omega
  · obtain ⟨j, s5⟩ : ∃ j : Nat, A 0 5 = (j : Int) := by
      rcases hS.1 with q | ⟨j, q, -⟩
      · exact absurd q.1 h5
      · exact ⟨j, q⟩
    refine ⟨T, A, l, ?_, hH, fun q => absurd q h5, rfl, rfl, rfl, fun _ => rfl, rfl, rfl, rfl, fun _ _ _ _ => rfl, fun q => q⟩
    repeat' (first | (exfalso; omega) | (simp (disch := first | omega | assumption | exact z_b_01) only [x77_0, x77_1, x77_4, x77_7, x77_9, x77_12, x77_13, x77_16, x77_19, x77_22, x77_25, x77_26, x77_29, x77_30, x77_33, x77_34, x77_37, x77_40, x77_44, x77_47, x77_50, x77_51, x77_52, x77_55, x77_56, x77_59, x77_60, x77_61, x77_64, x77_65, Option.bind_some, Option.toList_some, Option.toList_none, List.cons_append, List.nil_append, Int.toNat_natCast, Int.toNat_zero, z_w_id, z_b_0, z_b_1, z_b_n0, z_b_t, z_b_f, ↓reduceIte, Int.reduceEq, Int.reduceLT, Int.reduceLE, Int.reduceToNat, not_true_eq_false, not_false_eq_true, false_and, and_false, true_and, and_true, false_or, or_false, true_or, or_true, z_ur_get, h5, s5]) | split)
    all_goals rfl
/-- what a tick leaves -/
def f_tk (A A2 : Nat → Nat → Int) (l l1 : List Nat) (r : Int) : Prop :=
  f_H A2 l1 ∧ A2 0 6 ≤ 98 ∧ A2 0 3 = A 0 3 + 1 ∧ (A 0 7 ≤ A2 0 7 ∧ A2 0 7 ≤ A 0 7 + 1) ∧ A2 3 0 = A 3 0 ∧ (∀ i, A2 17 i = A 17 i) ∧ p_D A2 = p_D A + r ∧ (0 ≤ r ∧ r ≤ 1) ∧ p_F A2 l1 = p_F A l ∧ (l1 ≠ [] → p_W A2 l1 + 1 = p_W A l) ∧ (∀ o i, o = 1 ∨ o = 2 → i = 0 → A2 o i = A o i) ∧ (l = [] → l1 = [])
theorem f_tick {M : z_M} {T A : Nat → Nat → Int} {l : List Nat} (hH : f_H A l) (ht : A 0 3 ≤ 29000) :
    ∃ (T' A2 : Nat → Nat → Int) (l1 : List Nat) (r : Int), z_ev 77 [.inr (some (0, 21))] (z_ur (z_ut M T) 0 A) = some (some (.inl r), z_ur (z_ut M T') 0 A2) ∧ f_tk A A2 l l1 r := by
  obtain ⟨T', A1, l1, c1, hH1, hl1, e03, e07, e30, e17, eD, eF, eW, e12, eN⟩ := f_pre (M := M) (T := T) hH
  obtain ⟨hI, hx, s0, s15, s7, s7', s19⟩ := id hH1
  have h66 := f_06 hH1
  have hG := hI.1
  have g1 := hG.1
  have g2 := hG.2.1
  have g3 := hG.2.2
  have hC := hI.2.2.1
  have c3 := hI.2.2.2.2.1.2.2.2.2
  rw [x77]
  by_cases h5 : A1 0 5 = -5
  · have k1 := k_serveIdle (s := 0) (M := z_ut M T') h5 (by omega)
    have z3 : a_u A1 0 7 (A1 0 7 + 1) 0 3 = A1 0 3 := a_u_j (by decide)
    have hl := hl1 h5
    have h6 : A1 0 6 = 0 := by
      rcases s0 with q | ⟨j, q, -⟩
      · exact q.2
      · omega
    have eo : ∀ o k, o ≠ 0 → a_u (a_u A1 0 7 (A1 0 7 + 1)) 0 3 (A1 0 3 + 1) o k = A1 o k := fun o k q => by rw [a_u_o q, a_u_o q]
    have e0 : ∀ k, k ≠ 3 → k ≠ 7 → a_u (a_u A1 0 7 (A1 0 7 + 1)) 0 3 (A1 0 3 + 1) 0 k = A1 0 k := fun k a b => by rw [a_u_j a, a_u_j b]
    have n07 : a_u (a_u A1 0 7 (A1 0 7 + 1)) 0 3 (A1 0 3 + 1) 0 7 = A1 0 7 + 1 := by rw [a_u_j (by decide), a_u_same]
    have n03 : a_u (a_u A1 0 7 (A1 0 7 + 1)) 0 3 (A1 0 3 + 1) 0 3 = A1 0 3 + 1 := a_u_same _ _ _ _
    have hI1 : e_I (a_u A1 0 7 (A1 0 7 + 1)) l1 := e_I_o hI (fun o k a b d => a_u_ne (by omega)) (fun c hc => by rw [a_u_o (by decide)]; exact (hC c hc).2.2.2.2.2.2.2.2) (fun c hc => by rw [a_u_o (by decide)]; exact (hC c hc).2.2.2.2.2.1)
    have hI2 := e_I_time hI1 (t := A1 0 3 + 1) (by rw [a_u_ne (by omega)]; omega) (by omega)
    refine ⟨T', a_u (a_u A1 0 7 (A1 0 7 + 1)) 0 3 (A1 0 3 + 1), l1, 0, ?_, ⟨hI2, f_x_o hx fun o i a _ _ => eo o i a, ⟨Or.inl ⟨?_, ?_⟩, fun c hc => ?_, ?_, ?_, fun j hj => ?_⟩⟩, ?_, ?_, ?_, ?_, fun i => ?_, ?_, by omega, ?_, fun q => absurd hl q, fun o i a b => ?_, eN⟩
    · rw [c1, x77_43]
      repeat' (first | (exfalso; omega) | (simp (disch := first | omega | assumption | exact z_b_01) only [x77_0, x77_1, x77_4, x77_7, x77_9, x77_12, x77_13, x77_16, x77_19, x77_22, x77_25, x77_26, x77_29, x77_30, x77_33, x77_34, x77_37, x77_40, x77_44, x77_47, x77_50, x77_51, x77_52, x77_55, x77_56, x77_59, x77_60, x77_61, x77_64, x77_65, Option.bind_some, Option.toList_some, Option.toList_none, List.cons_append, List.nil_append, Int.toNat_natCast, Int.toNat_zero, z_w_id, z_b_0, z_b_1, z_b_n0, z_b_t, z_b_f, ↓reduceIte, Int.reduceEq, Int.reduceLT, Int.reduceLE, Int.reduceToNat, not_true_eq_false, not_false_eq_true, false_and, and_false, true_and, and_true, false_or, or_false, true_or, or_true, k1, z_ur_get, z_up_ur, z3]) | split)
      all_goals rfl
    · rw [e0 5 (by decide) (by decide)]; exact h5
    · rw [e0 6 (by decide) (by decide)]; exact h6
    · rw [eo 2 0 (by decide)] at hc
      rw [eo 15 c (by decide), n03]
      have := s15 c hc
      omega
    · rw [n07]; omega
    · rw [n07, n03]; omega
    · rw [eo 3 0 (by decide)] at hj
      rw [eo 19 j (by decide), n03]
      have := s19 j hj
      omega
    · rw [e0 6 (by decide) (by decide)]; omega
    · rw [n03, e03]
    · rw [n07]; omega
    · rw [eo 3 0 (by decide)]; exact e30
    · rw [eo 17 i (by decide)]; exact e17 i
    · rw [← eD]
      unfold p_D
      rw [eo 3 0 (by decide), eo 3 5 (by decide), e0 5 (by decide) (by decide)]
      omega
    · rw [← eF, hl]
      show (fun j => a_u (a_u A1 0 7 (A1 0 7 + 1)) 0 3 (A1 0 3 + 1) 19 j) = _
      funext j
      exact eo 19 j (by decide)
    · rw [eo o i (by omega)]; exact e12 o i a b
  · obtain ⟨j, sj, sn, sw, sl, su, st⟩ : ∃ j : Nat, A1 0 5 = (j : Int) ∧ (j : Int) < A1 3 0 ∧ A1 19 j ≠ -5 ∧ 1 ≤ A1 0 6 ∧ A1 0 6 ≤ A1 17 j ∧ A1 19 j + A1 17 j - A1 0 6 = A1 0 3 := by
      rcases s0 with q | q
      · exact absurd q.1 h5
      · exact q
    have aj := hI.2.1 j sn
    obtain ⟨c, hc⟩ : ∃ c : Nat, A1 16 j = (c : Int) := ⟨(A1 16 j).toNat, by omega⟩
    have hc2 : (c : Int) < A1 2 0 := by omega
    have ac := hC c hc2
    have k1 := k_serve (s := 0) (M := z_ut M T') sj sn (by omega) hI.2.1 g2.2 (by omega) (by rw [hc, Int.toNat_natCast]; exact ac.2.2.2.2.2.2.2.2)
    rw [hc, Int.toNat_natCast] at k1
    have eo : ∀ o k, o ≠ 15 → ¬ (o = 0 ∧ (k = 5 ∨ k = 6)) → a_serve A1 c o k = A1 o k := fun o k a b => by
      unfold a_serve
      split
      · rw [a_u_ne (by omega), a_u_o a]
      · rw [a_u_ne (by omega), a_u_ne (by omega), a_u_o a]
    have e15 : ∀ k, a_serve A1 c 15 k = if k = c then A1 15 c + 1 else A1 15 k := fun k => by
      unfold a_serve
      split
      · rw [a_u_o (by decide), a_u_at]
      · rw [a_u_o (by decide), a_u_o (by decide), a_u_at]
    have e06 : a_serve A1 c 0 6 = A1 0 6 - 1 := by
      unfold a_serve
      split
      · rw [a_u_same]
      · rw [a_u_j (by decide), a_u_same]
    have e05 : a_serve A1 c 0 5 = if 1 < A1 0 6 then A1 0 5 else -5 := by
      unfold a_serve
      split
      · rw [a_u_j (by decide), a_u_o (by decide)]
      · rw [a_u_same]
    generalize a_serve A1 c = A2 at k1 eo e15 e06 e05
    have f03 := eo 0 3 (by decide) (by omega)
    have f07 := eo 0 7 (by decide) (by omega)
    have f20 := eo 2 0 (by decide) (by omega)
    have f30 := eo 3 0 (by decide) (by omega)
    have hI2 : e_I A2 l1 := e_I_o hI (fun o k a b d => eo o k a (by omega)) (fun k hk => by
      have a := (hC k hk).2.2.2.2.2.2.2.2
      have b := s15 k hk
      rw [e15]
      split
      · rename_i q; subst q; omega
      · omega) (fun k hk => by rw [eo 12 k (by decide) (by omega)]; exact (hC k hk).2.2.2.2.2.1)
    have hI3 := e_I_time hI2 (t := A2 0 3 + 1) (by omega) (by omega)
    have n : ∀ o k, ¬ (o = 0 ∧ k = 3) → a_u A2 0 3 (A2 0 3 + 1) o k = A2 o k := fun o k q => a_u_ne q
    have n3 : a_u A2 0 3 (A2 0 3 + 1) 0 3 = A1 0 3 + 1 := by rw [a_u_same, f03]
    have hS3 : e_Sv (a_u A2 0 3 (A2 0 3 + 1)) := by
      refine ⟨?_, fun k hk => ?_, ?_, ?_, fun k hk => ?_⟩
      · by_cases q : 1 < A1 0 6
        · refine Or.inr ⟨j, ?_, ?_, ?_, ?_, ?_, ?_⟩
          · rw [n 0 5 (by omega), e05, if_pos q]; exact sj
          · rw [n 3 0 (by omega), f30]; exact sn
          · rw [n 19 j (by omega), eo 19 j (by decide) (by omega)]; exact sw
          · rw [n 0 6 (by omega), e06]; omega
          · rw [n 0 6 (by omega), e06, n 17 j (by omega), eo 17 j (by decide) (by omega)]; omega
          · rw [n3, n 0 6 (by omega), e06, n 17 j (by omega), eo 17 j (by decide) (by omega), n 19 j (by omega), eo 19 j (by decide) (by omega)]; omega
        · refine Or.inl ⟨?_, ?_⟩
          · rw [n 0 5 (by omega), e05, if_neg q]
          · rw [n 0 6 (by omega), e06]; omega
      · rw [n 2 0 (by omega), f20] at hk
        have b := s15 k hk
        rw [n3, n 15 k (by omega), e15]
        split
        · rename_i q; subst q; omega
        · omega
      · rw [n 0 7 (by omega), f07]; exact s7
      · rw [n 0 7 (by omega), f07, n3]; omega
      · rw [n 3 0 (by omega), f30] at hk
        have b := s19 k hk
        rw [n3, n 19 k (by omega), eo 19 k (by decide) (by omega)]; omega
    have he2 : f_e2 A1 (a_u A2 0 3 (A2 0 3 + 1)) := by
      refine ⟨fun o i a b => ?_, ?_⟩
      · rw [n o i b]
        refine eo o i (fun e => f_S_n (o := o) (j := i) (by omega) a) (fun e => f_S_n (o := o) (j := i) (by omega) a)
      · rw [n3, n 0 6 (by omega), e06]; omega
    refine ⟨T', a_u A2 0 3 (A2 0 3 + 1), l1, (if 1 < A1 0 6 then 0 else 1), ?_, ⟨hI3, f_x_o hx fun o i a b _ => by rw [n o i (by omega), eo o i b (by omega)], hS3⟩, ?_, ?_, ?_, ?_, fun i => ?_, ?_, by split <;> omega, ?_, fun _ => ?_, fun o i a b => ?_, eN⟩
    · rw [c1, x77_43]
      by_cases q : 1 < A1 0 6
      · rw [if_pos q] at k1
        rw [if_pos q]
        repeat' (first | (exfalso; omega) | (simp (disch := first | omega | assumption | exact z_b_01) only [x77_0, x77_1, x77_4, x77_7, x77_9, x77_12, x77_13, x77_16, x77_19, x77_22, x77_25, x77_26, x77_29, x77_30, x77_33, x77_34, x77_37, x77_40, x77_44, x77_47, x77_50, x77_51, x77_52, x77_55, x77_56, x77_59, x77_60, x77_61, x77_64, x77_65, Option.bind_some, Option.toList_some, Option.toList_none, List.cons_append, List.nil_append, Int.toNat_natCast, Int.toNat_zero, z_w_id, z_b_0, z_b_1, z_b_n0, z_b_t, z_b_f, ↓reduceIte, Int.reduceEq, Int.reduceLT, Int.reduceLE, Int.reduceToNat, not_true_eq_false, not_false_eq_true, false_and, and_false, true_and, and_true, false_or, or_false, true_or, or_true, k1, z_ur_get, z_up_ur]) | split)
        all_goals first | rfl | (rw [z_w_id (by omega) (by omega)]; done)
      · rw [if_neg q] at k1
        rw [if_neg q]
        repeat' (first | (exfalso; omega) | (simp (disch := first | omega | assumption | exact z_b_01) only [x77_0, x77_1, x77_4, x77_7, x77_9, x77_12, x77_13, x77_16, x77_19, x77_22, x77_25, x77_26, x77_29, x77_30, x77_33, x77_34, x77_37, x77_40, x77_44, x77_47, x77_50, x77_51, x77_52, x77_55, x77_56, x77_59, x77_60, x77_61, x77_64, x77_65, Option.bind_some, Option.toList_some, Option.toList_none, List.cons_append, List.nil_append, Int.toNat_natCast, Int.toNat_zero, z_w_id, z_b_0, z_b_1, z_b_n0, z_b_t, z_b_f, ↓reduceIte, Int.reduceEq, Int.reduceLT, Int.reduceLE, Int.reduceToNat, not_true_eq_false, not_false_eq_true, false_and, and_false, true_and, and_true, false_or, or_false, true_or, or_true, k1, z_ur_get, z_up_ur]) | split)
        all_goals first | rfl | (rw [z_w_id (by omega) (by omega)]; done)
    · rw [n 0 6 (by omega), e06]; omega
    · rw [n3, e03]
    · rw [n 0 7 (by omega), f07]; omega
    · rw [n 3 0 (by omega), f30]; exact e30
    · rw [n 17 i (by omega), eo 17 i (by decide) (by omega)]; exact e17 i
    · rw [← eD]
      unfold p_D
      rw [n 3 0 (by omega), n 3 5 (by omega), n 0 5 (by omega), f30, eo 3 5 (by decide) (by omega), e05, sj]
      by_cases q : 1 < A1 0 6
      · rw [if_pos q, if_pos q, if_neg (by omega)]; omega
      · rw [if_neg q, if_neg q, if_pos rfl, if_neg (by omega)]; omega
    · rw [p_F_eq he2]; exact eF
    · rw [← eW]
      unfold p_W
      have : s_sum l1 (fun i => a_u A2 0 3 (A2 0 3 + 1) 17 i) = s_sum l1 (fun i => A1 17 i) := s_sum_congr fun i _ => by rw [n 17 i (by omega), eo 17 i (by decide) (by omega)]
      rw [this, n 0 6 (by omega), e06]
      omega
    · rw [n o i (by omega), eo o i (by omega) (by omega)]; exact e12 o i a b
