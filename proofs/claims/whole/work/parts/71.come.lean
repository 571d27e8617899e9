/-! a job more, in a state and its row -/
def m_come (ρ : Nat → Int) (j c : Nat) (z : Int) : Nat → Int := r_u (r_u (r_u (r_u (r_u (r_u (r_u (r_u (r_u ρ (100 + 7 * j) (c : Int)) (100 + 7 * j + 1) z) (100 + 7 * j + 2) (ρ 0)) (100 + 7 * j + 3) 0) (100 + 7 * j + 4) (-5)) (100 + 7 * j + 5) (-5)) (100 + 7 * j + 6) z) (20 + 10 * c + 5) (ρ (20 + 10 * c + 5) - z)) 3 ((j : Int) + 1)
theorem e_F_come {A : Nat → Nat → Int} {ρ : Nat → Int} {l : List Nat} (hF : e_F 0 A ρ l) {j c : Nat} (hj : A 3 0 = (j : Int)) (h200 : j < 200) (h60 : l.length < 60) (hc : (c : Int) < A 2 0) {z : Int} (hz : 1 ≤ z ∧ z ≤ 99) (hk : z ≤ A 12 c) : e_F 0 (a_admit A c z) (m_come ρ j c z) (l ++ [j]) := by
  obtain ⟨hI, ⟨⟨w0, w1, w2, w3, w4, w6, w7⟩, wg, wc, wj⟩, ⟨y5, yj, yc⟩, hS⟩ := hF
  obtain ⟨iG, iJ, iC, iK, cW, iD, el, c9, c5, c08, c08'⟩ := id hI
  obtain ⟨A', hA'⟩ : ∃ A', A' = a_admit A c z := ⟨_, rfl⟩
  obtain ⟨ρ', hρ'⟩ : ∃ ρ', ρ' = m_come ρ j c z := ⟨_, rfl⟩
  have cl := cW.1
  have eA : A' = a_u (a_u (a_u (a_u (a_u (a_u (a_u (a_u A 12 c (A 12 c - z)) 16 j (c : Int)) 17 j z) 18 j (A 0 3)) 19 j (-5)) 3 0 ((j : Int) + 1)) 20 l.length (j : Int)) 3 5 ((l.length : Int) + 1) := by
    rw [hA']
    unfold a_admit a_append
    rw [a_u_o (o := 12) (o' := 3) (by decide), a_u_o (o := 12) (o' := 3) (by decide), hj, cl, Int.toNat_natCast, Int.toNat_natCast]
  have eo : ∀ o k, o ≠ 3 → o ≠ 12 → ¬ (16 ≤ o ∧ o ≤ 20) → A' o k = A o k := fun o k a b d => by
    rw [eA, a_u_o a, a_u_o (by omega), a_u_o a, a_u_o (by omega), a_u_o (by omega), a_u_o (by omega), a_u_o (by omega), a_u_o b]
  have e30 : A' 3 0 = (j : Int) + 1 := by rw [eA, a_u_j (by decide), a_u_o (by decide), a_u_same]
  have e35 : A' 3 5 = (l.length : Int) + 1 := by rw [eA, a_u_same]
  have e20 : ∀ k, A' 20 k = if k = l.length then (j : Int) else A 20 k := fun k => by
    rw [eA, a_u_o (by decide), a_u_at, a_u_o (by decide), a_u_o (by decide), a_u_o (by decide), a_u_o (by decide), a_u_o (by decide), a_u_o (by decide)]
  have e19 : ∀ k, A' 19 k = if k = j then -5 else A 19 k := fun k => by
    rw [eA, a_u_o (by decide), a_u_o (by decide), a_u_o (by decide), a_u_at, a_u_o (by decide), a_u_o (by decide), a_u_o (by decide), a_u_o (by decide)]
  have e18 : ∀ k, A' 18 k = if k = j then A 0 3 else A 18 k := fun k => by
    rw [eA, a_u_o (by decide), a_u_o (by decide), a_u_o (by decide), a_u_o (by decide), a_u_at, a_u_o (by decide), a_u_o (by decide), a_u_o (by decide)]
  have e17 : ∀ k, A' 17 k = if k = j then z else A 17 k := fun k => by
    rw [eA, a_u_o (by decide), a_u_o (by decide), a_u_o (by decide), a_u_o (by decide), a_u_o (by decide), a_u_at, a_u_o (by decide), a_u_o (by decide)]
  have e16 : ∀ k, A' 16 k = if k = j then (c : Int) else A 16 k := fun k => by
    rw [eA, a_u_o (by decide), a_u_o (by decide), a_u_o (by decide), a_u_o (by decide), a_u_o (by decide), a_u_o (by decide), a_u_at, a_u_o (by decide)]
  have e12 : ∀ k, A' 12 k = if k = c then A 12 c - z else A 12 k := fun k => by
    rw [eA, a_u_o (by decide), a_u_o (by decide), a_u_o (by decide), a_u_o (by decide), a_u_o (by decide), a_u_o (by decide), a_u_o (by decide), a_u_at]
  have ro : ∀ p, p ≠ 3 → p ≠ 20 + 10 * c + 5 → ¬ (100 + 7 * j ≤ p ∧ p ≤ 100 + 7 * j + 6) → ρ' p = ρ p := fun p a b d => by
    rw [hρ', m_come, r_u_ne a, r_u_ne b, r_u_ne (by omega), r_u_ne (by omega), r_u_ne (by omega), r_u_ne (by omega), r_u_ne (by omega), r_u_ne (by omega), r_u_ne (by omega)]
  have g2 := iG.2.1
  have r3 : ρ' 3 = (j : Int) + 1 := by rw [hρ', m_come, r_u_same]
  have rt : ρ' (20 + 10 * c + 5) = ρ (20 + 10 * c + 5) - z := by rw [hρ', m_come, r_u_ne (by omega), r_u_same]
  have rj : ρ' (100 + 7 * j) = (c : Int) ∧ ρ' (100 + 7 * j + 1) = z ∧ ρ' (100 + 7 * j + 2) = ρ 0 ∧ ρ' (100 + 7 * j + 3) = 0 ∧ ρ' (100 + 7 * j + 4) = -5 ∧ ρ' (100 + 7 * j + 5) = -5 ∧ ρ' (100 + 7 * j + 6) = z := by
    rw [hρ']
    unfold m_come
    simp (disch := omega) only [r_u_ne, r_u_same, and_self]
  rw [← hA', ← hρ']
  clear hA' hρ' eA
  obtain ⟨j0, j1, j2, j3, j4, j5, j6⟩ := rj
  have g1 := iG.1
  have g3 := iG.2.2
  have c3 := cW.2.2.2.2
  have ac := iC c hc
  have b1 := eo 1 0 (by decide) (by decide) (by omega)
  have b2 := eo 2 0 (by decide) (by decide) (by omega)
  have lj : ∀ k ∈ l, k ≠ j := fun k hk => by have := cW.2.2.2.1 k hk; omega
  have s5 : A 0 5 ≠ (j : Int) := by
    rcases hS.1 with ⟨a, -⟩ | ⟨m, a, b, -⟩ <;> omega
  have hst : ∀ k, k ≠ j → a_stage A' k = a_stage A k := fun k hk => by unfold a_stage; rw [e19, if_neg hk, eo 0 5 (by decide) (by decide) (by omega)]
  have hsj : a_stage A' j = 0 := by unfold a_stage; rw [e19, if_pos rfl, if_pos rfl]
  have hll : (l ++ [j]).length = l.length + 1 := by simp
  refine ⟨⟨?_, fun k hk => ?_, fun k hk => ?_, fun k hk => ?_, ⟨?_, by omega, fun p k hp => ?_, fun k hk => ?_, by omega, by omega⟩, ⟨?_, fun k hk => ?_, fun k hk => ?_⟩, ?_, fun k hk => ?_, fun k hk => ?_, ?_, ?_⟩, ⟨⟨?_, ?_, ?_, ?_, ?_, ?_, ?_⟩, fun k hk => ?_, fun k hk => ?_, fun k hk => ?_⟩, ⟨?_, fun k hk => ?_, fun k hk => ?_⟩, ?_⟩
  · unfold i_G at iG ⊢
    simp (disch := omega) only [eo]
    exact iG
  · rw [e30] at hk
    rw [b2, eo 0 3 (by decide) (by decide) (by omega), e16, e17, e18, e19]
    by_cases y : k = j
    · rw [if_pos y, if_pos y, if_pos y, if_pos y]; omega
    · rw [if_neg y, if_neg y, if_neg y, if_neg y]; exact iJ k (by omega)
  · rw [b2] at hk
    have a := iC k hk
    rw [e12]
    simp (disch := omega) only [eo]
    refine ⟨a.1, a.2.1, a.2.2.1, a.2.2.2.1, a.2.2.2.2.1, ?_, a.2.2.2.2.2.2⟩
    split
    · rename_i y; subst y; omega
    · exact a.2.2.2.2.2.1
  · rw [b1] at hk
    have a := iK k hk
    simp (disch := omega) only [eo]
    exact a
  · rw [e35, hll]; rfl
  · rw [e20]
    by_cases y : p = l.length
    · rw [if_pos y]
      rw [y, List.getElem?_append_right (Nat.le_refl _), Nat.sub_self] at hp
      simp at hp
      rw [hp]
    · rw [if_neg y]
      have hpl : p < l.length := by
        have := (List.getElem?_eq_some_iff.mp hp).1
        omega
      rw [List.getElem?_append_left hpl] at hp
      exact cW.2.2.1 p k hp
  · rw [e30]
    rcases List.mem_append.mp hk with y | y
    · have := cW.2.2.2.1 k y; omega
    · simp at y; omega
  · rw [eo 0 4 (by decide) (by decide) (by omega), b1]; exact iD.1
  · rw [b1] at hk
    have a := iD.2.1 k hk
    simp (disch := omega) only [eo]
    refine ⟨a.1, a.2.1, fun y => a.2.2 ?_⟩
    rcases y with y | y
    · exact Or.inl y
    · refine Or.inr fun m hm => ?_
      have e := y m (List.mem_append_left _ hm)
      have : a_gr A' m = a_gr A m := by
        unfold a_gr
        rw [e16, if_neg (lj m hm), eo 7 _ (by decide) (by decide) (by omega)]
      rw [← this]; exact e
  · rw [b2] at hk
    have a := iD.2.2 k hk
    simp (disch := omega) only [eo]
    refine ⟨a.1, fun y => a.2 ?_⟩
    rcases y with y | y
    · exact Or.inl y
    · refine Or.inr fun m hm => ?_
      have e := y m (List.mem_append_left _ hm)
      rw [e16, if_neg (lj m hm)] at e
      exact e
  · have e1 : e_l A' = (s_rg (j + 1)).filter fun k => decide (A' 19 k = -5) := by
      unfold e_l
      rw [e30, show ((j : Int) + 1).toNat = j + 1 by omega]
    have e2 : (s_rg j).filter (fun k => decide (A' 19 k = -5)) = l := by
      rw [el]
      unfold e_l
      rw [hj, Int.toNat_natCast]
      refine List.filter_congr fun k hk => ?_
      have := s_rg_mem.mp hk
      rw [e19, if_neg (by omega)]
    have e3 : A' 19 j = -5 := by rw [e19, if_pos rfl]
    rw [e1, s_rg_succ, List.filter_append, e2]
    congr 1
    simp [e3]
  · rw [b2] at hk
    have := c9 k hk
    rw [e30, hll, eo 9 k (by decide) (by decide) (by omega)]
    simp only [Int.natCast_add, Int.natCast_one]
    omega
  · rw [b1] at hk
    have := c5 k hk
    rw [e30, hll, eo 5 k (by decide) (by decide) (by omega)]
    simp only [Int.natCast_add, Int.natCast_one]
    omega
  · rw [eo 0 8 (by decide) (by decide) (by omega)]; exact c08
  · rw [eo 0 8 (by decide) (by decide) (by omega), e30, hll]
    simp only [Int.natCast_add, Int.natCast_one]
    omega
  · rw [ro _ (by omega) (by omega) (by omega), eo 0 3 (by decide) (by decide) (by omega)]; exact w0
  · rw [ro _ (by omega) (by omega) (by omega), b1]; exact w1
  · rw [ro _ (by omega) (by omega) (by omega), b2]; exact w2
  · rw [r3, e30]
  · rw [ro _ (by omega) (by omega) (by omega), eo 0 4 (by decide) (by decide) (by omega)]; exact w4
  · rw [ro _ (by omega) (by omega) (by omega), eo 0 7 (by decide) (by decide) (by omega)]; exact w6
  · rw [ro _ (by omega) (by omega) (by omega), eo 0 8 (by decide) (by decide) (by omega)]; exact w7
  · rw [b1] at hk
    simp (disch := omega) only [eo, ro]
    exact wg k hk
  · rw [b2] at hk
    simp (disch := omega) only [eo, ro]
    exact wc k hk
  · rw [e30] at hk
    rw [e16, e17, e18, e19]
    by_cases y : k = j
    · subst y
      rw [if_pos rfl, if_pos rfl, if_pos rfl, if_pos rfl, j0, j1, j2, j3, j4]
      exact ⟨rfl, rfl, w0, ⟨fun _ => rfl, fun _ => rfl⟩, rfl⟩
    · rw [if_neg y, if_neg y, if_neg y, if_neg y]
      simp (disch := omega) only [ro]
      exact wj k (by omega)
  · rw [ro _ (by omega) (by omega) (by omega), eo 0 5 (by decide) (by decide) (by omega)]; exact y5
  · rw [e30] at hk
    by_cases y : k = j
    · subst y
      rw [hsj, j3, j5, j6, e17, if_pos rfl]
      exact ⟨rfl, rfl, rfl⟩
    · rw [hst k y, e17, if_neg y, e19, if_neg y, eo 0 6 (by decide) (by decide) (by omega)]
      simp (disch := omega) only [ro]
      exact yj k (by omega)
  · rw [b2] at hk
    have a := yc k hk
    have ak := iC k hk
    rw [ro (20 + 10 * k + 7) (by omega) (by omega) (by omega), a.2, e12, eo 11 k (by decide) (by decide) (by omega), eo 10 k (by decide) (by decide) (by omega), e30, show ((j : Int) + 1).toNat = j + 1 by omega, s_rg_succ, s_sum_app, s_sum_cons, s_sum_nil, hsj, hj, Int.toNat_natCast]
    rw [Int.mul_zero, Int.add_zero] at a ⊢
    refine ⟨?_, ?_⟩
    · by_cases y : k = c
      · subst y
        rw [rt, if_pos rfl, a.1]
        (repeat' split) <;> omega
      · rw [ro _ (by omega) (by omega) (by omega), if_neg y]
        exact a.1
    · rw [if_neg (by omega), Int.add_zero, Int.add_zero]
      refine s_sum_congr fun m hm => ?_
      have := s_rg_mem.mp hm
      rw [hst m (by omega), e16, if_neg (show ¬ m = j by omega)]
  · obtain ⟨s0, s15, s7, s7', s19⟩ := hS
    refine ⟨?_, fun k hk => ?_, ?_, ?_, fun k hk => ?_⟩
    · rw [eo 0 5 (by decide) (by decide) (by omega), eo 0 6 (by decide) (by decide) (by omega), eo 0 3 (by decide) (by decide) (by omega), e30]
      rcases s0 with y | ⟨m, m1, m2, m3, m4⟩
      · exact Or.inl y
      · refine Or.inr ⟨m, m1, by omega, ?_⟩
        rw [e19, if_neg (by omega), e17, if_neg (by omega)]
        exact ⟨m3, m4⟩
    · rw [b2] at hk
      rw [eo 15 k (by decide) (by decide) (by omega), eo 0 3 (by decide) (by decide) (by omega)]; exact s15 k hk
    · rw [eo 0 7 (by decide) (by decide) (by omega)]; exact s7
    · rw [eo 0 7 (by decide) (by decide) (by omega), eo 0 3 (by decide) (by decide) (by omega)]; exact s7'
    · rw [e30] at hk
      rw [e19, eo 0 3 (by decide) (by decide) (by omega)]
      split
      · omega
      · exact s19 k (by omega)
