/-! a job's last tick, both sides -/
theorem k_tick1b {M Mm : z_M} {i : Int} {A : Nat → Nat → Int} {ρ : Nat → Int} {l : List Nat} (hi : 0 ≤ i) (hF : e_F i A ρ l) (h5 : A 0 5 ≠ -5) (ht : A 0 3 ≤ 29000) (h6 : ¬ 1 < A 0 6) :
    ∃ (A1 : Nat → Nat → Int) (ρ1 : Nat → Int), e_F (i + 1) A1 ρ1 l ∧ A1 0 3 = A 0 3 + 1 ∧ A1 2 0 = A 2 0 ∧
      z_ex 77 43 [some (.inr (some (0, 21))), none] [] (z_ur M 0 A) = some (some (.inl 1), z_ur M 0 A1) ∧
      z_ex 137 14 [some (.inr (some (0, 30))), none, none, none, none] [] (z_mr Mm ρ) = some (some (.inl 1), z_mr Mm ρ1) := by
  obtain ⟨hI, hW, ⟨y5, yj, yc⟩, s0, s15, s7, s7', s19⟩ := hF
  have hG := hI.1
  have hC := hI.2.2.1
  have g2 := hG.2.1
  have g1 := hG.1
  have c3 := hI.2.2.2.2.1.2.2.2.2
  obtain ⟨j, sj, sn, sw, sl, su, st⟩ : ∃ j : Nat, A 0 5 = (j : Int) ∧ (j : Int) < A 3 0 ∧ A 19 j ≠ -5 ∧ 1 ≤ A 0 6 ∧ A 0 6 ≤ A 17 j ∧ A 19 j + A 17 j - A 0 6 = A 0 3 := by
    rcases s0 with q | q
    · exact absurd q.1 h5
    · exact q
  have aj := hI.2.1 j sn
  obtain ⟨c, hc⟩ : ∃ c : Nat, A 16 j = (c : Int) := ⟨(A 16 j).toNat, by omega⟩
  have hc2 : (c : Int) < A 2 0 := by omega
  have ac := hC c hc2
  obtain ⟨g, hg⟩ : ∃ g : Nat, A 7 c = (g : Int) := ⟨(A 7 c).toNat, by omega⟩
  have hg2 : (g : Int) < A 1 0 := by omega
  have wj := hW.2.2.2 j sn
  have wc := hW.2.2.1 c hc2
  have wg := hW.2.1 g hg2
  have stj : a_stage A j = 1 := by unfold a_stage; rw [if_neg sw, if_pos sj.symm]
  have yjj := yj j sn
  rw [stj] at yjj
  have y6 : ρ (100 + 7 * j + 6) = A 0 6 := by rw [yjj.2.2]; rfl
  have y7 : 0 ≤ ρ (20 + 10 * c + 7) ∧ ρ (20 + 10 * c + 7) ≤ 200 := by
    rw [(yc c hc2).2]
    have := s_sum_bd (l := s_rg (A 3 0).toNat) (f := fun j => if A 16 j = (c : Int) ∧ a_stage A j = 2 then 1 else 0) (b := 1) (fun j _ => by split <;> omega)
    have e : (s_rg (A 3 0).toNat).length = (A 3 0).toNat := by unfold s_rg; rw [List.length_range']
    rw [e] at this
    omega
  have y3 : 0 ≤ ρ (8 + 4 * g + 3) ∧ ρ (8 + 4 * g + 3) ≤ 300000 := by
    rw [wg.2.2.2]
    have := s_sum_bd (l := s_rg (A 2 0).toNat) (f := fun k => if A 7 k = (g : Int) then A 15 k else 0) (b := 30000) (fun k hk => by
      have := (hC k (by have := s_rg_mem.mp hk; omega)).2.2.2.2.2.2.2.2
      split <;> omega)
    have e : (s_rg (A 2 0).toNat).length = (A 2 0).toNat := by unfold s_rg; rw [List.length_range']
    rw [e] at this
    omega
  have k1 := k_serve (s := 0) (M := M) sj sn (by omega) hI.2.1 g2.2 (by omega) (by rw [hc, Int.toNat_natCast]; exact ac.2.2.2.2.2.2.2.2)
  rw [hc, Int.toNat_natCast, if_neg h6] at k1
  have hA2 : a_serve A c = a_u (a_u (a_u A 15 c (A 15 c + 1)) 0 6 (A 0 6 - 1)) 0 5 (-5) := by unfold a_serve; rw [if_neg h6]
  rw [hA2] at k1
  have w0 := hW.1.1
  have g3 := hG.2.2
  have m1 := k_mserve (M := Mm) (ρ := ρ) (j := j) (c := c) (g := g) (by omega) (by omega) (by omega) (by rw [y5]; exact sj) (by rw [wj.1]; exact hc) (by rw [wc.1.1]; exact hg) (by omega) (by omega) y3 y7 (by omega)
  rw [y6, if_neg h6, if_neg h6, wc.2.2.2.2] at m1
  have hW0 : e_W A (r_u ρ (100 + 7 * j + 6) (A 0 6 - 1)) := e_W_congrR g1.2 g2.2 hW fun k a b d => r_u_ne (by omega)
  have hW1 := e_W_15 g1.2 g2.2 hW0 hc2 hg2 hg
  rw [r_u_ne (show 8 + 4 * g + 3 ≠ 100 + 7 * j + 6 by omega)] at hW1
  have hWs := e_W_st (j := j) (v := 2) (by rw [a_u_o (by decide)]; exact g1.2) (by rw [a_u_o (by decide)]; exact g2.2) hW1 (by rw [a_u_o (by decide)]; exact sn) (by rw [a_u_o (by decide)]; exact sw) (by decide)
  have hWr : e_W (a_u A 15 c (A 15 c + 1)) (r_u (r_u (r_u (r_u (r_u (r_u (r_u ρ (100 + 7 * j + 6) (A 0 6 - 1)) (20 + 10 * c + 9) (A 15 c + 1)) (8 + 4 * g + 3) (ρ (8 + 4 * g + 3) + 1)) (100 + 7 * j + 3) 2) (100 + 7 * j + 5) (ρ 0 + 1)) (20 + 10 * c + 7) (ρ (20 + 10 * c + 7) + 1)) 5 (-5)) := e_W_congrR (by rw [a_u_o (by decide)]; exact g1.2) (by rw [a_u_o (by decide)]; exact g2.2) hWs fun k a b d => by rw [r_u_ne (by omega), r_u_ne (by omega), r_u_ne (by omega)]
  have hW2 : e_W (a_u (a_u (a_u A 15 c (A 15 c + 1)) 0 6 (A 0 6 - 1)) 0 5 (-5)) (r_u (r_u (r_u (r_u (r_u (r_u (r_u ρ (100 + 7 * j + 6) (A 0 6 - 1)) (20 + 10 * c + 9) (A 15 c + 1)) (8 + 4 * g + 3) (ρ (8 + 4 * g + 3) + 1)) (100 + 7 * j + 3) 2) (100 + 7 * j + 5) (ρ 0 + 1)) (20 + 10 * c + 7) (ρ (20 + 10 * c + 7) + 1)) 5 (-5)) := e_W_congrA hWr fun o k a b d => by rw [a_u_ne (by omega), a_u_ne (by omega)]
  have e6 : (r_u (r_u (r_u (r_u (r_u (r_u (r_u ρ (100 + 7 * j + 6) (A 0 6 - 1)) (20 + 10 * c + 9) (A 15 c + 1)) (8 + 4 * g + 3) (ρ (8 + 4 * g + 3) + 1)) (100 + 7 * j + 3) 2) (100 + 7 * j + 5) (ρ 0 + 1)) (20 + 10 * c + 7) (ρ (20 + 10 * c + 7) + 1)) 5 (-5)) (100 + 7 * j + 6) = A 0 6 - 1 := by rw [r_u_ne (by omega), r_u_ne (by omega), r_u_ne (by omega), r_u_ne (by omega), r_u_ne (by omega), r_u_ne (by omega), r_u_same]
  have e3 : (r_u (r_u (r_u (r_u (r_u (r_u (r_u ρ (100 + 7 * j + 6) (A 0 6 - 1)) (20 + 10 * c + 9) (A 15 c + 1)) (8 + 4 * g + 3) (ρ (8 + 4 * g + 3) + 1)) (100 + 7 * j + 3) 2) (100 + 7 * j + 5) (ρ 0 + 1)) (20 + 10 * c + 7) (ρ (20 + 10 * c + 7) + 1)) 5 (-5)) (100 + 7 * j + 3) = 2 := by rw [r_u_ne (by omega), r_u_ne (by omega), r_u_ne (by omega), r_u_same]
  have ej5 : (r_u (r_u (r_u (r_u (r_u (r_u (r_u ρ (100 + 7 * j + 6) (A 0 6 - 1)) (20 + 10 * c + 9) (A 15 c + 1)) (8 + 4 * g + 3) (ρ (8 + 4 * g + 3) + 1)) (100 + 7 * j + 3) 2) (100 + 7 * j + 5) (ρ 0 + 1)) (20 + 10 * c + 7) (ρ (20 + 10 * c + 7) + 1)) 5 (-5)) (100 + 7 * j + 5) = ρ 0 + 1 := by rw [r_u_ne (by omega), r_u_ne (by omega), r_u_same]
  have e7 : (r_u (r_u (r_u (r_u (r_u (r_u (r_u ρ (100 + 7 * j + 6) (A 0 6 - 1)) (20 + 10 * c + 9) (A 15 c + 1)) (8 + 4 * g + 3) (ρ (8 + 4 * g + 3) + 1)) (100 + 7 * j + 3) 2) (100 + 7 * j + 5) (ρ 0 + 1)) (20 + 10 * c + 7) (ρ (20 + 10 * c + 7) + 1)) 5 (-5)) (20 + 10 * c + 7) = ρ (20 + 10 * c + 7) + 1 := by rw [r_u_ne (by omega), r_u_same]
  have e5 : (r_u (r_u (r_u (r_u (r_u (r_u (r_u ρ (100 + 7 * j + 6) (A 0 6 - 1)) (20 + 10 * c + 9) (A 15 c + 1)) (8 + 4 * g + 3) (ρ (8 + 4 * g + 3) + 1)) (100 + 7 * j + 3) 2) (100 + 7 * j + 5) (ρ 0 + 1)) (20 + 10 * c + 7) (ρ (20 + 10 * c + 7) + 1)) 5 (-5)) 5 = -5 := r_u_same _ _ _
  have er : ∀ k, k ≠ 100 + 7 * j + 6 → k ≠ 20 + 10 * c + 9 → k ≠ 8 + 4 * g + 3 → k ≠ 5 → k ≠ 100 + 7 * j + 3 → k ≠ 100 + 7 * j + 5 → k ≠ 20 + 10 * c + 7 → (r_u (r_u (r_u (r_u (r_u (r_u (r_u ρ (100 + 7 * j + 6) (A 0 6 - 1)) (20 + 10 * c + 9) (A 15 c + 1)) (8 + 4 * g + 3) (ρ (8 + 4 * g + 3) + 1)) (100 + 7 * j + 3) 2) (100 + 7 * j + 5) (ρ 0 + 1)) (20 + 10 * c + 7) (ρ (20 + 10 * c + 7) + 1)) 5 (-5)) k = ρ k := fun k a b d e f h m => by rw [r_u_ne e, r_u_ne m, r_u_ne h, r_u_ne f, r_u_ne d, r_u_ne b, r_u_ne a]
  generalize r_u (r_u (r_u (r_u (r_u (r_u (r_u ρ (100 + 7 * j + 6) (A 0 6 - 1)) (20 + 10 * c + 9) (A 15 c + 1)) (8 + 4 * g + 3) (ρ (8 + 4 * g + 3) + 1)) (100 + 7 * j + 3) 2) (100 + 7 * j + 5) (ρ 0 + 1)) (20 + 10 * c + 7) (ρ (20 + 10 * c + 7) + 1)) 5 (-5) = σ at m1 hW2 e6 e3 ej5 e7 e5 er
  have eo : ∀ o k, o ≠ 15 → ¬ (o = 0 ∧ (k = 6 ∨ k = 5)) → a_u (a_u (a_u A 15 c (A 15 c + 1)) 0 6 (A 0 6 - 1)) 0 5 (-5) o k = A o k := fun o k a b => by rw [a_u_ne (by omega), a_u_ne (by omega), a_u_o a]
  have e15 : ∀ k, a_u (a_u (a_u A 15 c (A 15 c + 1)) 0 6 (A 0 6 - 1)) 0 5 (-5) 15 k = if k = c then A 15 c + 1 else A 15 k := fun k => by rw [a_u_o (by decide), a_u_o (by decide), a_u_at]
  have e06 : a_u (a_u (a_u A 15 c (A 15 c + 1)) 0 6 (A 0 6 - 1)) 0 5 (-5) 0 6 = A 0 6 - 1 := by rw [a_u_j (by decide), a_u_same]
  have e05 : a_u (a_u (a_u A 15 c (A 15 c + 1)) 0 6 (A 0 6 - 1)) 0 5 (-5) 0 5 = -5 := a_u_same _ _ _ _
  generalize a_u (a_u (a_u A 15 c (A 15 c + 1)) 0 6 (A 0 6 - 1)) 0 5 (-5) = A2 at k1 hW2 eo e15 e06 e05
  have e03 := eo 0 3 (by decide) (by omega)
  have e07 := eo 0 7 (by decide) (by omega)
  have e20 := eo 2 0 (by decide) (by omega)
  have e30 := eo 3 0 (by decide) (by omega)
  have hI2 : e_I A2 l := e_I_o hI (fun o k a b d => eo o k a (by omega)) (fun k hk => by
    have a := (hC k hk).2.2.2.2.2.2.2.2
    have b := s15 k hk
    rw [e15]
    split
    · rename_i q; subst q; omega
    · omega) (fun k hk => by rw [eo 12 k (by decide) (by omega)]; exact (hC k hk).2.2.2.2.2.1)
  have hAj : a_stage A2 j = 2 := by unfold a_stage; rw [eo 19 j (by decide) (by omega), if_neg sw, e05, if_neg (by omega)]
  have hA : ∀ k, k ≠ j → a_stage A2 k = a_stage A k := fun k hk => by
    unfold a_stage
    rw [eo 19 k (by decide) (by omega), e05, sj, if_neg (show ¬ (k : Int) = -5 by omega), if_neg (show ¬ (k : Int) = (j : Int) by omega)]
  have hY2 : e_Y i A2 σ := by
    refine ⟨by rw [e5, e05], fun k hk => ?_, fun k hk => ?_⟩
    · rw [e30] at hk
      have y := yj k hk
      rw [eo 19 k (by decide) (by omega), eo 17 k (by decide) (by omega)]
      by_cases q : k = j
      · subst q
        rw [hAj, e3, ej5, e6]
        refine ⟨rfl, ?_, ?_⟩
        · rw [if_pos rfl]; omega
        · rw [if_neg (by decide), if_neg (by decide)]; omega
      · rw [hA k q, er (100 + 7 * k + 3) (by omega) (by omega) (by omega) (by omega) (by omega) (by omega) (by omega), er (100 + 7 * k + 5) (by omega) (by omega) (by omega) (by omega) (by omega) (by omega) (by omega), er (100 + 7 * k + 6) (by omega) (by omega) (by omega) (by omega) (by omega) (by omega) (by omega)]
        refine ⟨y.1, y.2.1, ?_⟩
        rw [y.2.2]
        have : a_stage A k ≠ 1 := by
          unfold a_stage
          rw [sj]
          split
          · decide
          · rw [if_neg (by omega)]; decide
        rw [if_neg this, if_neg this]
    · rw [e20] at hk
      have y := yc k hk
      rw [er (20 + 10 * k + 5) (by omega) (by omega) (by omega) (by omega) (by omega) (by omega) (by omega), eo 12 k (by decide) (by omega), eo 11 k (by decide) (by omega), eo 10 k (by decide) (by omega), e30]
      refine ⟨y.1, ?_⟩
      have hs := s_sum_upd (f := fun m => if A 16 m = (k : Int) ∧ a_stage A m = 2 then 1 else 0) (f' := fun m => if A2 16 m = (k : Int) ∧ a_stage A2 m = 2 then 1 else 0) (d := if k = c then 1 else 0) (c := j) (fun m hm => by
        rw [hA m hm, eo 16 m (by decide) (by omega)]) (by
        rw [hAj, stj, eo 16 j (by decide) (by omega), hc, if_neg (show ¬ ((c : Int) = (k : Int) ∧ (1 : Int) = 2) by omega)]
        by_cases z : k = c
        · rw [if_pos ⟨by omega, rfl⟩, if_pos z]; rfl
        · rw [if_neg (by omega), if_neg z]; rfl) (A 3 0).toNat 0
      rw [if_pos (by omega)] at hs
      unfold s_rg at y ⊢
      rw [hs, ← y.2]
      by_cases z : k = c
      · rw [z, e7, if_pos rfl]
      · rw [er (20 + 10 * k + 7) (by omega) (by omega) (by omega) (by omega) (by omega) (by omega) (by omega), if_neg z, Int.add_zero]
  have n : ∀ o k, ¬ (o = 0 ∧ k = 3) → a_u A2 0 3 (A2 0 3 + 1) o k = A2 o k := fun o k q => a_u_ne q
  have n3 : a_u A2 0 3 (A2 0 3 + 1) 0 3 = A 0 3 + 1 := by rw [a_u_same, e03]
  have hS2 : e_Sv (a_u A2 0 3 (A2 0 3 + 1)) := by
    refine ⟨Or.inl ⟨by rw [n 0 5 (by omega), e05], by rw [n 0 6 (by omega), e06]; omega⟩, fun k hk => ?_, ?_, ?_, fun k hk => ?_⟩
    · rw [n 2 0 (by omega), e20] at hk
      have b := s15 k hk
      rw [n3, n 15 k (by omega), e15]
      split
      · rename_i q; subst q; omega
      · omega
    · rw [n 0 7 (by omega), e07]; exact s7
    · rw [n 0 7 (by omega), e07, n3]; omega
    · rw [n 3 0 (by omega), e30] at hk
      have b := s19 k hk
      rw [n3, n 19 k (by omega), eo 19 k (by decide) (by omega)]; omega
  obtain ⟨ρ1, F, mf⟩ := k_fin (Mm := Mm) (x := 1) (l2 := some (.inl (j : Int))) (l3 := some (.inl (c : Int))) hi hI2 hW2 hY2 hS2 (by omega)
  refine ⟨_, ρ1, F, n3, by rw [n 2 0 (by omega), e20], ?_, by rw [m1, mf]⟩
  have q0 := hG.2.2
  rw [x77_43]
  repeat' (first | (exfalso; omega) | (simp (disch := first | omega | assumption | exact z_b_01) only [x77_0, x77_1, x77_4, x77_7, x77_9, x77_12, x77_13, x77_16, x77_19, x77_22, x77_25, x77_26, x77_29, x77_30, x77_33, x77_34, x77_37, x77_40, x77_44, x77_47, x77_50, x77_51, x77_52, x77_55, x77_56, x77_59, x77_60, x77_61, x77_64, x77_65, Option.bind_some, Option.toList_some, Option.toList_none, List.cons_append, List.nil_append, Int.toNat_natCast, Int.toNat_zero, z_w_id, z_b_0, z_b_1, z_b_n0, z_b_t, z_b_f, ↓reduceIte, Int.reduceEq, Int.reduceLT, Int.reduceLE, Int.reduceToNat, not_true_eq_false, not_false_eq_true, false_and, and_false, true_and, and_true, false_or, or_false, true_or, or_true, k1, z_ur_get, z_up_ur]) | split)
  all_goals first | rfl | (rw [z_w_id (by omega) (by omega)]; done)
