/-! a group more, a class more, in a state and its row -/
def m_addGroup (ρ : Nat → Int) (g : Nat) (q : Int) : Nat → Int := r_u (r_u (r_u (r_u (r_u ρ (8 + 4 * g) q) (8 + 4 * g + 1) 0) (8 + 4 * g + 2) (-5)) (8 + 4 * g + 3) 0) 1 ((g : Int) + 1)
theorem e_F_addGroup {i : Int} {A : Nat → Nat → Int} {ρ : Nat → Int} {l : List Nat} (hF : e_F i A ρ l) {g : Nat} (hg : A 1 0 = (g : Int)) (h3 : g < 3) {q : Int} (hq : 1 ≤ q ∧ q ≤ 200) : e_F i (a_addGroup A q) (m_addGroup ρ g q) l := by
  obtain ⟨hI, ⟨⟨w0, w1, w2, w3, w4, w6, w7⟩, wg, wc, wj⟩, ⟨y5, yj, yc⟩, hS⟩ := hF
  obtain ⟨iG, iJ, iC, iK, cW, iD, el, c9, c5, c08, c08'⟩ := id hI
  obtain ⟨A', hA'⟩ : ∃ A', A' = a_addGroup A q := ⟨_, rfl⟩
  obtain ⟨ρ', hρ'⟩ : ∃ ρ', ρ' = m_addGroup ρ g q := ⟨_, rfl⟩
  have eo : ∀ o k, o ≠ 1 → o ≠ 4 → o ≠ 5 → o ≠ 6 → A' o k = A o k := fun o k a b c d => by rw [hA', a_addGroup, a_u_o a, a_u_o d, a_u_o c, a_u_o b]
  have e1 : A' 1 0 = (g : Int) + 1 := by rw [hA', a_addGroup, a_u_same, hg]
  have e4 : ∀ k, A' 4 k = if k = g then q else A 4 k := fun k => by rw [hA', a_addGroup, a_u_o (by decide), a_u_o (by decide), a_u_o (by decide), a_u_at, hg, Int.toNat_natCast]
  have e5 : ∀ k, A' 5 k = if k = g then 0 else A 5 k := fun k => by rw [hA', a_addGroup, a_u_o (by decide), a_u_o (by decide), a_u_at, hg, Int.toNat_natCast, a_u_o (by decide)]
  have e6 : ∀ k, A' 6 k = if k = g then -5 else A 6 k := fun k => by rw [hA', a_addGroup, a_u_o (by decide), a_u_at, hg, Int.toNat_natCast, a_u_o (by decide), a_u_o (by decide)]
  have ro : ∀ p, p ≠ 1 → ¬ (8 + 4 * g ≤ p ∧ p ≤ 8 + 4 * g + 3) → ρ' p = ρ p := fun p a b => by
    rw [hρ', m_addGroup, r_u_ne a, r_u_ne (by omega), r_u_ne (by omega), r_u_ne (by omega), r_u_ne (by omega)]
  have r1 : ρ' 1 = (g : Int) + 1 := by rw [hρ', m_addGroup, r_u_same]
  have r4 : ρ' (8 + 4 * g) = q := by rw [hρ', m_addGroup, r_u_ne (by omega), r_u_ne (by omega), r_u_ne (by omega), r_u_ne (by omega), r_u_same]
  have r5 : ρ' (8 + 4 * g + 1) = 0 := by rw [hρ', m_addGroup, r_u_ne (by omega), r_u_ne (by omega), r_u_ne (by omega), r_u_same]
  have r6 : ρ' (8 + 4 * g + 2) = -5 := by rw [hρ', m_addGroup, r_u_ne (by omega), r_u_ne (by omega), r_u_same]
  have r7 : ρ' (8 + 4 * g + 3) = 0 := by rw [hρ', m_addGroup, r_u_ne (by omega), r_u_same]
  rw [← hA', ← hρ']
  clear hA' hρ'
  have g2 := iG.2.1
  have c3 := cW.2.2.2.2
  have b2 := eo 2 0 (by decide) (by decide) (by decide) (by decide)
  have b3 := eo 3 0 (by decide) (by decide) (by decide) (by decide)
  have hst : ∀ k, a_stage A' k = a_stage A k := fun k => by unfold a_stage; rw [eo 19 k (by decide) (by decide) (by decide) (by decide), eo 0 5 (by decide) (by decide) (by decide) (by decide)]
  refine ⟨⟨?_, ?_, fun c hc => ?_, fun k hk => ?_, c_WL_congr cW (eo 20 · (by decide) (by decide) (by decide) (by decide)) (eo 3 5 (by decide) (by decide) (by decide) (by decide)) b3, ⟨?_, fun k hk => ?_, fun c hc => ?_⟩, ?_, fun c hc => ?_, fun k hk => ?_, ?_, ?_⟩, ⟨⟨?_, ?_, ?_, ?_, ?_, ?_, ?_⟩, fun k hk => ?_, fun c hc => ?_, fun j hj => ?_⟩, ⟨?_, fun j hj => ?_, fun c hc => ?_⟩, ?_⟩
  · unfold i_G
    rw [e1, b2, eo 0 3 (by decide) (by decide) (by decide) (by decide)]
    exact ⟨by omega, iG.2⟩
  · unfold i_J at iJ ⊢
    simp (disch := omega) only [eo]
    exact iJ
  · rw [b2] at hc
    have a := iC c hc
    simp (disch := omega) only [eo]
    rw [e1]
    exact ⟨by omega, a.2⟩
  · rw [e1] at hk
    rw [e4, e5, e6, b2]
    by_cases z : k = g
    · rw [if_pos z, if_pos z, if_pos z]; omega
    · rw [if_neg z, if_neg z, if_neg z]; exact iK k (by omega)
  · rw [eo 0 4 (by decide) (by decide) (by decide) (by decide), e1]
    rcases iD.1 with a | a
    · exact Or.inl a
    · exact Or.inr (by omega)
  · rw [e1] at hk
    rw [e5, e6]
    by_cases z : k = g
    · rw [if_pos z, if_pos z]
      exact ⟨Or.inl rfl, by omega, fun _ => by omega⟩
    · rw [if_neg z, if_neg z]
      have a := iD.2.1 k (by omega)
      unfold a_gr at a ⊢
      simp (disch := omega) only [eo]
      exact a
  · rw [b2] at hc
    have a := iD.2.2 c hc
    have ac := iC c hc
    rw [e6, eo 7 c (by decide) (by decide) (by decide) (by decide), eo 9 c (by decide) (by decide) (by decide) (by decide), if_neg (by omega)]
    simp (disch := omega) only [eo]
    exact a
  · rw [el]
    unfold e_l
    rw [b3]
    refine List.filter_congr fun j _ => ?_
    rw [eo 19 j (by decide) (by decide) (by decide) (by decide)]
  · rw [b2] at hc
    rw [b3, eo 9 c (by decide) (by decide) (by decide) (by decide)]; exact c9 c hc
  · rw [e1] at hk
    rw [b3, e5]
    split
    · omega
    · exact c5 k (by omega)
  · rw [eo 0 8 (by decide) (by decide) (by decide) (by decide)]; exact c08
  · rw [eo 0 8 (by decide) (by decide) (by decide) (by decide), b3]; exact c08'
  · rw [ro _ (by omega) (by omega), eo 0 3 (by decide) (by decide) (by decide) (by decide)]; exact w0
  · rw [r1, e1]
  · rw [ro _ (by omega) (by omega), b2]; exact w2
  · rw [ro _ (by omega) (by omega), b3]; exact w3
  · rw [ro _ (by omega) (by omega), eo 0 4 (by decide) (by decide) (by decide) (by decide)]; exact w4
  · rw [ro _ (by omega) (by omega), eo 0 7 (by decide) (by decide) (by decide) (by decide)]; exact w6
  · rw [ro _ (by omega) (by omega), eo 0 8 (by decide) (by decide) (by decide) (by decide)]; exact w7
  · rw [e1] at hk
    rw [e4, e5, e6, b2]
    have es : s_sum (s_rg (A 2 0).toNat) (fun c => if A' 7 c = (k : Int) then A' 15 c else 0) = s_sum (s_rg (A 2 0).toNat) (fun c => if A 7 c = (k : Int) then A 15 c else 0) := s_sum_congr fun c _ => by
      rw [eo 7 c (by decide) (by decide) (by decide) (by decide), eo 15 c (by decide) (by decide) (by decide) (by decide)]
    rw [es]
    by_cases z : k = g
    · subst z
      rw [if_pos rfl, if_pos rfl, if_pos rfl, r4, r5, r6, r7]
      refine ⟨rfl, rfl, rfl, (s_sum_zero fun c hc => ?_).symm⟩
      have := s_rg_mem.mp hc
      have ac := iC c (by omega)
      rw [if_neg (by omega)]
    · rw [if_neg z, if_neg z, if_neg z, ro _ (by omega) (by omega), ro (8 + 4 * k + 1) (by omega) (by omega), ro (8 + 4 * k + 2) (by omega) (by omega), ro (8 + 4 * k + 3) (by omega) (by omega)]
      exact wg k (by omega)
  · rw [b2] at hc
    simp (disch := omega) only [eo, ro]
    exact wc c hc
  · rw [b3] at hj
    simp (disch := omega) only [eo, ro]
    exact wj j hj
  · rw [ro _ (by omega) (by omega), eo 0 5 (by decide) (by decide) (by decide) (by decide)]; exact y5
  · rw [b3] at hj
    rw [hst]
    simp (disch := omega) only [eo, ro]
    exact yj j hj
  · rw [b2] at hc
    rw [ro _ (by omega) (by omega), ro (20 + 10 * c + 7) (by omega) (by omega), b3, eo 12 c (by decide) (by decide) (by decide) (by decide), eo 11 c (by decide) (by decide) (by decide) (by decide), eo 10 c (by decide) (by decide) (by decide) (by decide)]
    refine ⟨(yc c hc).1, ?_⟩
    rw [(yc c hc).2]
    refine s_sum_congr fun k _ => ?_
    rw [hst, eo 16 k (by decide) (by decide) (by decide) (by decide)]
  · unfold e_Sv at hS ⊢
    simp (disch := omega) only [eo]
    exact hS
def m_addClass (ρ : Nat → Int) (c : Nat) (g q z f : Int) : Nat → Int := fun p => if p = 2 then (c : Int) + 1 else if 20 + 10 * c ≤ p ∧ p < 20 + 10 * c + 10 then (if p = 20 + 10 * c then g else if p = 20 + 10 * c + 1 then q else if p = 20 + 10 * c + 3 then z else if p = 20 + 10 * c + 4 then f else if p = 20 + 10 * c + 5 then z else 0) else ρ p
theorem s_rg_succ (n : Nat) : s_rg (n + 1) = s_rg n ++ [n] := by
  unfold s_rg
  rw [List.range'_concat]
  simp
theorem e_F_addClass {A : Nat → Nat → Int} {ρ : Nat → Int} {l : List Nat} (hF : e_F 0 A ρ l) {c : Nat} (hc : A 2 0 = (c : Int)) (h8 : c < 8) {g q z f : Int} (hg : 0 ≤ g ∧ g < A 1 0) (hq : 1 ≤ q ∧ q ≤ 200) (hz : 10 ≤ z ∧ z ≤ 500) (hf : 0 ≤ f ∧ f ≤ 20) : e_F 0 (a_addClass A g q z f) (m_addClass ρ c g q z f) l := by
  obtain ⟨hI, ⟨⟨w0, w1, w2, w3, w4, w6, w7⟩, wg, wc, wj⟩, ⟨y5, yj, yc⟩, hS⟩ := hF
  obtain ⟨iG, iJ, iC, iK, cW, iD, el, c9, c5, c08, c08'⟩ := id hI
  obtain ⟨A', hA'⟩ : ∃ A', A' = a_addClass A g q z f := ⟨_, rfl⟩
  obtain ⟨ρ', hρ'⟩ : ∃ ρ', ρ' = m_addClass ρ c g q z f := ⟨_, rfl⟩
  have eo : ∀ o k, o ≠ 2 → ¬ (7 ≤ o ∧ o ≤ 15) → A' o k = A o k := fun o k a b => by
    rw [hA', a_addClass, a_u_o a, a_u_o (by omega), a_u_o (by omega), a_u_o (by omega), a_u_o (by omega), a_u_o (by omega), a_u_o (by omega), a_u_o (by omega), a_u_o (by omega), a_u_o (by omega)]
  have e2 : A' 2 0 = (c : Int) + 1 := by rw [hA', a_addClass, a_u_same, hc]
  have en : ∀ o k, k ≠ c → o ≠ 2 → A' o k = A o k := fun o k a b => by
    rw [hA', a_addClass, hc, Int.toNat_natCast, a_u_o b, a_u_j a, a_u_j a, a_u_j a, a_u_j a, a_u_j a, a_u_j a, a_u_j a, a_u_j a, a_u_j a]
  have ec : A' 7 c = g ∧ A' 8 c = q ∧ A' 9 c = 0 ∧ A' 10 c = z ∧ A' 11 c = f ∧ A' 12 c = z ∧ A' 13 c = 0 ∧ A' 14 c = 0 ∧ A' 15 c = 0 := by
    rw [hA']
    unfold a_addClass
    rw [hc, Int.toNat_natCast]
    simp (disch := decide) only [a_u_o, a_u_same, and_self]
  have ro : ∀ p, p ≠ 2 → ¬ (20 + 10 * c ≤ p ∧ p < 20 + 10 * c + 10) → ρ' p = ρ p := fun p a b => by
    rw [hρ', m_addClass, if_neg a, if_neg b]
  have r2 : ρ' 2 = (c : Int) + 1 := by rw [hρ', m_addClass, if_pos rfl]
  have rc : ∀ p, 20 + 10 * c ≤ p ∧ p < 20 + 10 * c + 10 → ρ' p = (if p = 20 + 10 * c then g else if p = 20 + 10 * c + 1 then q else if p = 20 + 10 * c + 3 then z else if p = 20 + 10 * c + 4 then f else if p = 20 + 10 * c + 5 then z else 0) := fun p a => by
    rw [hρ', m_addClass, if_neg (by omega), if_pos a]
  rw [← hA', ← hρ']
  clear hA' hρ'
  obtain ⟨c7, c8, c9', c10, c11, c12, c13, c14, c15⟩ := ec
  have g1 := iG.1
  have c3 := cW.2.2.2.2
  have b1 := eo 1 0 (by decide) (by omega)
  have b3 := eo 3 0 (by decide) (by omega)
  have en' : ∀ (o k : Nat), (k : Int) < A 2 0 → o ≠ 2 → A' o k = A o k := fun o k a b => en o k (by omega) b
  have hst : ∀ k, a_stage A' k = a_stage A k := fun k => by unfold a_stage; rw [eo 19 k (by decide) (by omega), eo 0 5 (by decide) (by omega)]
  refine ⟨⟨?_, fun j hj => ?_, fun k hk => ?_, fun k hk => ?_, c_WL_congr cW (eo 20 · (by decide) (by omega)) (eo 3 5 (by decide) (by omega)) b3, ⟨?_, fun k hk => ?_, fun k hk => ?_⟩, ?_, fun k hk => ?_, fun k hk => ?_, ?_, ?_⟩, ⟨⟨?_, ?_, ?_, ?_, ?_, ?_, ?_⟩, fun k hk => ?_, fun k hk => ?_, fun j hj => ?_⟩, ⟨?_, fun j hj => ?_, fun k hk => ?_⟩, ?_⟩
  · unfold i_G
    rw [b1, e2, eo 0 3 (by decide) (by omega)]
    exact ⟨g1, by omega, iG.2.2⟩
  · rw [b3] at hj
    have a := iJ j hj
    rw [e2]
    simp (disch := omega) only [eo]
    exact ⟨by omega, a.2⟩
  · rw [e2] at hk
    rw [b1]
    by_cases y : k = c
    · subst y
      rw [c7, c8, c9', c10, c11, c12, c13, c14, c15]
      omega
    · have a := iC k (by omega)
      simp (disch := omega) only [en]
      exact a
  · rw [b1] at hk
    have a := iK k hk
    rw [eo 4 k (by decide) (by omega), eo 5 k (by decide) (by omega), eo 6 k (by decide) (by omega), e2]
    omega
  · rw [eo 0 4 (by decide) (by omega), b1]; exact iD.1
  · rw [b1] at hk
    have a := iD.2.1 k hk
    have ak := iK k hk
    rw [eo 0 4 (by decide) (by omega), eo 5 k (by decide) (by omega), eo 6 k (by decide) (by omega), e2]
    have hgr : ∀ j ∈ l, a_gr A' j = a_gr A j := fun j hj => by
      have := iJ j (cW.2.2.2.1 j hj)
      unfold a_gr
      rw [eo 16 j (by decide) (by omega), en' 7 _ (by omega) (by decide)]
    refine ⟨?_, a.2.1, fun y => a.2.2 ?_⟩
    · rcases a.1 with y | y
      · exact Or.inl y
      · refine Or.inr ⟨y.1, by omega, ?_⟩
        rw [en' 7 _ (by omega) (by decide)]; exact y.2.2
    · rcases y with y | y
      · exact Or.inl y
      · exact Or.inr fun j hj => by rw [← hgr j hj]; exact y j hj
  · rw [e2] at hk
    by_cases y : k = c
    · subst y
      rw [c9']
      exact ⟨by omega, fun _ => by omega⟩
    · have a := iD.2.2 k (by omega)
      have ak := iC k (by omega)
      rw [en 9 k y (by decide), en 7 k y (by decide), eo 6 _ (by decide) (by omega)]
      simp (disch := omega) only [eo]
      exact a
  · rw [el]
    unfold e_l
    rw [b3]
    refine List.filter_congr fun j _ => ?_
    rw [eo 19 j (by decide) (by omega)]
  · rw [e2] at hk
    rw [b3]
    by_cases y : k = c
    · rw [y, c9']; omega
    · rw [en 9 k y (by decide)]; exact c9 k (by omega)
  · rw [b1] at hk
    rw [b3, eo 5 k (by decide) (by omega)]; exact c5 k hk
  · rw [eo 0 8 (by decide) (by omega)]; exact c08
  · rw [eo 0 8 (by decide) (by omega), b3]; exact c08'
  · rw [ro _ (by omega) (by omega), eo 0 3 (by decide) (by omega)]; exact w0
  · rw [ro _ (by omega) (by omega), b1]; exact w1
  · rw [r2, e2]
  · rw [ro _ (by omega) (by omega), b3]; exact w3
  · rw [ro _ (by omega) (by omega), eo 0 4 (by decide) (by omega)]; exact w4
  · rw [ro _ (by omega) (by omega), eo 0 7 (by decide) (by omega)]; exact w6
  · rw [ro _ (by omega) (by omega), eo 0 8 (by decide) (by omega)]; exact w7
  · rw [b1] at hk
    have w := wg k hk
    rw [ro _ (by omega) (by omega), ro (8 + 4 * k + 1) (by omega) (by omega), ro (8 + 4 * k + 2) (by omega) (by omega), ro (8 + 4 * k + 3) (by omega) (by omega), eo 4 k (by decide) (by omega), eo 5 k (by decide) (by omega), eo 6 k (by decide) (by omega), e2]
    refine ⟨w.1, w.2.1, w.2.2.1, ?_⟩
    rw [w.2.2.2, hc, show ((c : Int) + 1).toNat = c + 1 by omega, s_rg_succ, s_sum_app, s_sum_cons, s_sum_nil, Int.toNat_natCast, c15]
    rw [s_sum_congr (g := fun m => if A' 7 m = (k : Int) then A' 15 m else 0) (fun m hm => ?_)]
    · split <;> omega
    · have := s_rg_mem.mp hm
      rw [en 7 m (by omega) (by decide), en 15 m (by omega) (by decide)]
  · rw [e2] at hk
    by_cases y : k = c
    · subst y
      rw [rc _ (by omega), rc (20 + 10 * k + 1) (by omega), rc (20 + 10 * k + 2) (by omega), rc (20 + 10 * k + 3) (by omega), rc (20 + 10 * k + 4) (by omega), rc (20 + 10 * k + 6) (by omega), rc (20 + 10 * k + 8) (by omega), rc (20 + 10 * k + 9) (by omega), c7, c8, c9', c10, c11, c13, c14, c15]
      simp (disch := omega) only [if_pos, if_neg, and_self, if_true]
    · simp (disch := omega) only [en, ro]
      exact wc k (by omega)
  · rw [b3] at hj
    simp (disch := omega) only [eo, ro]
    exact wj j hj
  · rw [ro _ (by omega) (by omega), eo 0 5 (by decide) (by omega)]; exact y5
  · rw [b3] at hj
    rw [hst]
    simp (disch := omega) only [eo, ro]
    exact yj j hj
  · rw [e2] at hk
    rw [b3]
    have es : s_sum (s_rg (A 3 0).toNat) (fun j => if A' 16 j = (k : Int) ∧ a_stage A' j = 2 then 1 else 0) = s_sum (s_rg (A 3 0).toNat) (fun j => if A 16 j = (k : Int) ∧ a_stage A j = 2 then 1 else 0) := s_sum_congr fun j _ => by
      rw [hst, eo 16 j (by decide) (by omega)]
    rw [es]
    by_cases y : k = c
    · subst y
      rw [rc _ (by omega), rc (20 + 10 * k + 7) (by omega), c10, c11, c12, Int.mul_zero, Int.add_zero]
      refine ⟨?_, ?_⟩
      · simp (disch := omega) only [if_pos, if_neg, if_true]
      · rw [s_sum_zero]
        · simp (disch := omega) only [if_pos, if_neg, if_true]
        · intro j hj
          have := s_rg_mem.mp hj
          have a := iJ j (by omega)
          rw [if_neg (by omega)]
    · rw [ro _ (by omega) (by omega), ro (20 + 10 * k + 7) (by omega) (by omega), en 12 k y (by decide), en 11 k y (by decide), en 10 k y (by decide)]
      exact yc k (by omega)
  · obtain ⟨s0, s15, s7, s7', s19⟩ := hS
    refine ⟨?_, fun k hk => ?_, ?_, ?_, fun j hj => ?_⟩
    · simp (disch := omega) only [eo]; exact s0
    · rw [e2] at hk
      rw [eo 0 3 (by decide) (by omega)]
      by_cases y : k = c
      · rw [y, c15]; exact iG.2.2.1
      · rw [en 15 k y (by decide)]; exact s15 k (by omega)
    · rw [eo 0 7 (by decide) (by omega)]; exact s7
    · rw [eo 0 7 (by decide) (by omega), eo 0 3 (by decide) (by omega)]; exact s7'
    · rw [b3] at hj
      rw [eo 19 j (by decide) (by omega), eo 0 3 (by decide) (by omega)]; exact s19 j hj
