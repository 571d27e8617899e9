/-! what an act leaves of a state; out of whole's parts by pick2.py -/
theorem s_rg_succ (n : Nat) : s_rg (n + 1) = s_rg n ++ [n] := by
  unfold s_rg
  rw [List.range'_concat]
  simp
theorem e_I_q {A A' : Nat → Nat → Int} {l : List Nat} (hI : e_I A l) (h : ∀ o i, o ≠ 4 → o ≠ 8 → o ≠ 13 → A' o i = A o i) (h4 : ∀ g : Nat, (g : Int) < A 1 0 → 1 ≤ A' 4 g ∧ A' 4 g ≤ 200) (h8 : ∀ c : Nat, (c : Int) < A 2 0 → 1 ≤ A' 8 c ∧ A' 8 c ≤ 200) (h13 : ∀ c : Nat, (c : Int) < A 2 0 → 0 ≤ A' 13 c ∧ A' 13 c ≤ 2000) : e_I A' l := by
  obtain ⟨iG, iJ, iC, iK, cW, iD, el, c9, c5, c08, c08'⟩ := id hI
  have b20 := h 2 0 (by decide) (by decide) (by decide)
  have b10 := h 1 0 (by decide) (by decide) (by decide)
  have b30 := h 3 0 (by decide) (by decide) (by decide)
  refine ⟨?_, ?_, fun c q => ?_, fun g q => ?_, c_WL_congr cW (h 20 · (by decide) (by decide) (by decide)) (h 3 5 (by decide) (by decide) (by decide)) b30, ?_, ?_, ?_, ?_, ?_, ?_⟩
  · unfold i_G at iG ⊢
    simp (disch := omega) only [h]
    exact iG
  · unfold i_J at iJ ⊢
    simp (disch := omega) only [h]
    exact iJ
  · rw [b20] at q
    have a := iC c q
    have b := h8 c q
    have d := h13 c q
    rw [b10, h 7 c (by decide) (by decide) (by decide), h 9 c (by decide) (by decide) (by decide), h 10 c (by decide) (by decide) (by decide), h 11 c (by decide) (by decide) (by decide), h 12 c (by decide) (by decide) (by decide), h 14 c (by decide) (by decide) (by decide), h 15 c (by decide) (by decide) (by decide)]
    exact ⟨a.1, b, a.2.2.1, a.2.2.2.1, a.2.2.2.2.1, a.2.2.2.2.2.1, d, a.2.2.2.2.2.2.2⟩
  · rw [b10] at q
    have a := iK g q
    have b := h4 g q
    rw [b20, h 5 g (by decide) (by decide) (by decide), h 6 g (by decide) (by decide) (by decide)]
    exact ⟨b, a.2⟩
  · unfold i_D a_gr at iD ⊢
    simp (disch := omega) only [h]
    exact iD
  · rw [el]
    unfold e_l
    rw [b30]
    refine List.filter_congr fun j _ => ?_
    rw [h 19 j (by decide) (by decide) (by decide)]
  · simp (disch := omega) only [h]; exact c9
  · simp (disch := omega) only [h]; exact c5
  · rw [h 0 8 (by decide) (by decide) (by decide)]; exact c08
  · rw [h 0 8 (by decide) (by decide) (by decide), b30]; exact c08'
theorem f_H_addGroup {A : Nat → Nat → Int} {l : List Nat} (hH : f_H A l) {g : Nat} (hg : A 1 0 = (g : Int)) (h3 : g < 3) {q : Int} (hq : 1 ≤ q ∧ q ≤ 200) : f_H (a_addGroup A q) l := by
  obtain ⟨hI, hx, hS⟩ := hH
  obtain ⟨iG, iJ, iC, iK, cW, iD, el, c9, c5, c08, c08'⟩ := id hI
  obtain ⟨A', hA'⟩ : ∃ A', A' = a_addGroup A q := ⟨_, rfl⟩
  have eo : ∀ o k, o ≠ 1 → o ≠ 4 → o ≠ 5 → o ≠ 6 → A' o k = A o k := fun o k a b c d => by rw [hA', a_addGroup, a_u_o a, a_u_o d, a_u_o c, a_u_o b]
  have e1 : A' 1 0 = (g : Int) + 1 := by rw [hA', a_addGroup, a_u_same, hg]
  have e4 : ∀ k, A' 4 k = if k = g then q else A 4 k := fun k => by rw [hA', a_addGroup, a_u_o (by decide), a_u_o (by decide), a_u_o (by decide), a_u_at, hg, Int.toNat_natCast]
  have e5 : ∀ k, A' 5 k = if k = g then 0 else A 5 k := fun k => by rw [hA', a_addGroup, a_u_o (by decide), a_u_o (by decide), a_u_at, hg, Int.toNat_natCast, a_u_o (by decide)]
  have e6 : ∀ k, A' 6 k = if k = g then -5 else A 6 k := fun k => by rw [hA', a_addGroup, a_u_o (by decide), a_u_at, hg, Int.toNat_natCast, a_u_o (by decide), a_u_o (by decide)]
  rw [← hA']
  clear hA'
  have g2 := iG.2.1
  have c3 := cW.2.2.2.2
  have b2 := eo 2 0 (by decide) (by decide) (by decide) (by decide)
  have b3 := eo 3 0 (by decide) (by decide) (by decide) (by decide)
  have hst : ∀ k, a_stage A' k = a_stage A k := fun k => by unfold a_stage; rw [eo 19 k (by decide) (by decide) (by decide) (by decide), eo 0 5 (by decide) (by decide) (by decide) (by decide)]
  refine ⟨⟨?_, ?_, fun c hc => ?_, fun k hk => ?_, c_WL_congr cW (eo 20 · (by decide) (by decide) (by decide) (by decide)) (eo 3 5 (by decide) (by decide) (by decide) (by decide)) b3, ⟨?_, fun k hk => ?_, fun c hc => ?_⟩, ?_, fun c hc => ?_, fun k hk => ?_, ?_, ?_⟩, ⟨fun k hk hn => ?_, fun j hj hb => ?_⟩, ?_⟩
  · unfold i_G
    rw [e1, b2, eo 0 3 (by decide) (by decide) (by decide) (by decide)]
    exact ⟨by omega, iG.2⟩
  · unfold i_J at iJ ⊢
    simp (disch := omega) only [eo]
    exact iJ
  · rw [b2] at hc
    have a := iC c hc
    simp (disch := omega) only [eo]
    rw [e1]
    exact ⟨by omega, a.2⟩
  · rw [e1] at hk
    rw [e4, e5, e6, b2]
    by_cases z : k = g
    · rw [if_pos z, if_pos z, if_pos z]; omega
    · rw [if_neg z, if_neg z, if_neg z]; exact iK k (by omega)
  · rw [eo 0 4 (by decide) (by decide) (by decide) (by decide), e1]
    rcases iD.1 with a | a
    · exact Or.inl a
    · exact Or.inr (by omega)
  · rw [e1] at hk
    rw [e5, e6]
    by_cases z : k = g
    · rw [if_pos z, if_pos z]
      exact ⟨Or.inl rfl, by omega, fun _ => by omega⟩
    · rw [if_neg z, if_neg z]
      have a := iD.2.1 k (by omega)
      unfold a_gr at a ⊢
      simp (disch := omega) only [eo]
      exact a
  · rw [b2] at hc
    have a := iD.2.2 c hc
    have ac := iC c hc
    rw [e6, eo 7 c (by decide) (by decide) (by decide) (by decide), eo 9 c (by decide) (by decide) (by decide) (by decide), if_neg (by omega)]
    simp (disch := omega) only [eo]
    exact a
  · rw [el]
    unfold e_l
    rw [b3]
    refine List.filter_congr fun j _ => ?_
    rw [eo 19 j (by decide) (by decide) (by decide) (by decide)]
  · rw [b2] at hc
    rw [b3, eo 9 c (by decide) (by decide) (by decide) (by decide)]; exact c9 c hc
  · rw [e1] at hk
    rw [b3, e5]
    split
    · omega
    · exact c5 k (by omega)
  · rw [eo 0 8 (by decide) (by decide) (by decide) (by decide)]; exact c08
  · rw [eo 0 8 (by decide) (by decide) (by decide) (by decide), b3]; exact c08'
  · rw [e1] at hk
    rw [e5]
    by_cases z : k = g
    · rw [if_pos z]
    · rw [if_neg z]
      refine hx.1 k (by omega) fun j hj => ?_
      rw [← a_gr_c (A := A) (A' := A') (fun i => eo 16 i (by decide) (by decide) (by decide) (by decide)) (fun i => eo 7 i (by decide) (by decide) (by decide) (by decide))]
      exact hn j hj
  · rw [b3] at hj
    rw [eo 19 j (by decide) (by decide) (by decide) (by decide)] at hb ⊢
    rw [eo 18 j (by decide) (by decide) (by decide) (by decide)]
    exact hx.2 j hj hb
  · unfold e_Sv at hS ⊢
    simp (disch := omega) only [eo]
    exact hS
theorem f_H_addClass {A : Nat → Nat → Int} {l : List Nat} (hH : f_H A l) {c : Nat} (hc : A 2 0 = (c : Int)) (h8 : c < 8) {g q z f : Int} (hg : 0 ≤ g ∧ g < A 1 0) (hq : 1 ≤ q ∧ q ≤ 200) (hz : 10 ≤ z ∧ z ≤ 500) (hf : 0 ≤ f ∧ f ≤ 20) : f_H (a_addClass A g q z f) l := by
  obtain ⟨hI, hx, hS⟩ := hH
  obtain ⟨iG, iJ, iC, iK, cW, iD, el, c9, c5, c08, c08'⟩ := id hI
  obtain ⟨A', hA'⟩ : ∃ A', A' = a_addClass A g q z f := ⟨_, rfl⟩
  have eo : ∀ o k, o ≠ 2 → ¬ (7 ≤ o ∧ o ≤ 15) → A' o k = A o k := fun o k a b => by
    rw [hA', a_addClass, a_u_o a, a_u_o (by omega), a_u_o (by omega), a_u_o (by omega), a_u_o (by omega), a_u_o (by omega), a_u_o (by omega), a_u_o (by omega), a_u_o (by omega), a_u_o (by omega)]
  have e2 : A' 2 0 = (c : Int) + 1 := by rw [hA', a_addClass, a_u_same, hc]
  have en : ∀ o k, k ≠ c → o ≠ 2 → A' o k = A o k := fun o k a b => by
    rw [hA', a_addClass, hc, Int.toNat_natCast, a_u_o b, a_u_j a, a_u_j a, a_u_j a, a_u_j a, a_u_j a, a_u_j a, a_u_j a, a_u_j a, a_u_j a]
  have ec : A' 7 c = g ∧ A' 8 c = q ∧ A' 9 c = 0 ∧ A' 10 c = z ∧ A' 11 c = f ∧ A' 12 c = z ∧ A' 13 c = 0 ∧ A' 14 c = 0 ∧ A' 15 c = 0 := by
    rw [hA']
    unfold a_addClass
    rw [hc, Int.toNat_natCast]
    simp (disch := decide) only [a_u_o, a_u_same, and_self]
  rw [← hA']
  clear hA'
  obtain ⟨c7, c8, c9', c10, c11, c12, c13, c14, c15⟩ := ec
  have g1 := iG.1
  have c3 := cW.2.2.2.2
  have b1 := eo 1 0 (by decide) (by omega)
  have b3 := eo 3 0 (by decide) (by omega)
  have en' : ∀ (o k : Nat), (k : Int) < A 2 0 → o ≠ 2 → A' o k = A o k := fun o k a b => en o k (by omega) b
  have hst : ∀ k, a_stage A' k = a_stage A k := fun k => by unfold a_stage; rw [eo 19 k (by decide) (by omega), eo 0 5 (by decide) (by omega)]
  refine ⟨⟨?_, fun j hj => ?_, fun k hk => ?_, fun k hk => ?_, c_WL_congr cW (eo 20 · (by decide) (by omega)) (eo 3 5 (by decide) (by omega)) b3, ⟨?_, fun k hk => ?_, fun k hk => ?_⟩, ?_, fun k hk => ?_, fun k hk => ?_, ?_, ?_⟩, ⟨fun k hk hn => ?_, fun j hj hb => ?_⟩, ?_⟩
  · unfold i_G
    rw [b1, e2, eo 0 3 (by decide) (by omega)]
    exact ⟨g1, by omega, iG.2.2⟩
  · rw [b3] at hj
    have a := iJ j hj
    rw [e2]
    simp (disch := omega) only [eo]
    exact ⟨by omega, a.2⟩
  · rw [e2] at hk
    rw [b1]
    by_cases y : k = c
    · subst y
      rw [c7, c8, c9', c10, c11, c12, c13, c14, c15]
      omega
    · have a := iC k (by omega)
      simp (disch := omega) only [en]
      exact a
  · rw [b1] at hk
    have a := iK k hk
    rw [eo 4 k (by decide) (by omega), eo 5 k (by decide) (by omega), eo 6 k (by decide) (by omega), e2]
    omega
  · rw [eo 0 4 (by decide) (by omega), b1]; exact iD.1
  · rw [b1] at hk
    have a := iD.2.1 k hk
    have ak := iK k hk
    rw [eo 0 4 (by decide) (by omega), eo 5 k (by decide) (by omega), eo 6 k (by decide) (by omega), e2]
    have hgr : ∀ j ∈ l, a_gr A' j = a_gr A j := fun j hj => by
      have := iJ j (cW.2.2.2.1 j hj)
      unfold a_gr
      rw [eo 16 j (by decide) (by omega), en' 7 _ (by omega) (by decide)]
    refine ⟨?_, a.2.1, fun y => a.2.2 ?_⟩
    · rcases a.1 with y | y
      · exact Or.inl y
      · refine Or.inr ⟨y.1, by omega, ?_⟩
        rw [en' 7 _ (by omega) (by decide)]; exact y.2.2
    · rcases y with y | y
      · exact Or.inl y
      · exact Or.inr fun j hj => by rw [← hgr j hj]; exact y j hj
  · rw [e2] at hk
    by_cases y : k = c
    · subst y
      rw [c9']
      exact ⟨by omega, fun _ => by omega⟩
    · have a := iD.2.2 k (by omega)
      have ak := iC k (by omega)
      rw [en 9 k y (by decide), en 7 k y (by decide), eo 6 _ (by decide) (by omega)]
      simp (disch := omega) only [eo]
      exact a
  · rw [el]
    unfold e_l
    rw [b3]
    refine List.filter_congr fun j _ => ?_
    rw [eo 19 j (by decide) (by omega)]
  · rw [e2] at hk
    rw [b3]
    by_cases y : k = c
    · rw [y, c9']; omega
    · rw [en 9 k y (by decide)]; exact c9 k (by omega)
  · rw [b1] at hk
    rw [b3, eo 5 k (by decide) (by omega)]; exact c5 k hk
  · rw [eo 0 8 (by decide) (by omega)]; exact c08
  · rw [eo 0 8 (by decide) (by omega), b3]; exact c08'
  · rw [b1] at hk
    rw [eo 5 k (by decide) (by omega)]
    refine hx.1 k hk fun j hj => ?_
    have := iJ j (cW.2.2.2.1 j hj)
    have e : a_gr A' j = a_gr A j := by
      unfold a_gr
      rw [eo 16 j (by decide) (by omega), en' 7 _ (by omega) (by decide)]
    rw [← e]; exact hn j hj
  · rw [b3] at hj
    rw [eo 19 j (by decide) (by omega)] at hb ⊢
    rw [eo 18 j (by decide) (by omega)]
    exact hx.2 j hj hb
  · obtain ⟨s0, s15, s7, s7', s19⟩ := hS
    refine ⟨?_, fun k hk => ?_, ?_, ?_, fun j hj => ?_⟩
    · simp (disch := omega) only [eo]; exact s0
    · rw [e2] at hk
      rw [eo 0 3 (by decide) (by omega)]
      by_cases y : k = c
      · rw [y, c15]; exact iG.2.2.1
      · rw [en 15 k y (by decide)]; exact s15 k (by omega)
    · rw [eo 0 7 (by decide) (by omega)]; exact s7
    · rw [eo 0 7 (by decide) (by omega), eo 0 3 (by decide) (by omega)]; exact s7'
    · rw [b3] at hj
      rw [eo 19 j (by decide) (by omega), eo 0 3 (by decide) (by omega)]; exact s19 j hj
theorem f_H_come {A : Nat → Nat → Int} {l : List Nat} (hH : f_H A l) {j c : Nat} (hj : A 3 0 = (j : Int)) (h200 : j < 200) (h60 : l.length < 60) (hc : (c : Int) < A 2 0) {z : Int} (hz : 1 ≤ z ∧ z ≤ 99) (hk : z ≤ A 12 c) : f_H (a_admit A c z) (l ++ [j]) := by
  obtain ⟨hI, hx, hS⟩ := hH
  obtain ⟨iG, iJ, iC, iK, cW, iD, el, c9, c5, c08, c08'⟩ := id hI
  obtain ⟨A', hA'⟩ : ∃ A', A' = a_admit A c z := ⟨_, rfl⟩
  have cl := cW.1
  have eA : A' = a_u (a_u (a_u (a_u (a_u (a_u (a_u (a_u A 12 c (A 12 c - z)) 16 j (c : Int)) 17 j z) 18 j (A 0 3)) 19 j (-5)) 3 0 ((j : Int) + 1)) 20 l.length (j : Int)) 3 5 ((l.length : Int) + 1) := by
    rw [hA']
    unfold a_admit a_append
    rw [a_u_o (o := 12) (o' := 3) (by decide), a_u_o (o := 12) (o' := 3) (by decide), hj, cl, Int.toNat_natCast, Int.toNat_natCast]
  have eo : ∀ o k, o ≠ 3 → o ≠ 12 → ¬ (16 ≤ o ∧ o ≤ 20) → A' o k = A o k := fun o k a b d => by
    rw [eA, a_u_o a, a_u_o (by omega), a_u_o a, a_u_o (by omega), a_u_o (by omega), a_u_o (by omega), a_u_o (by omega), a_u_o b]
  have e30 : A' 3 0 = (j : Int) + 1 := by rw [eA, a_u_j (by decide), a_u_o (by decide), a_u_same]
  have e35 : A' 3 5 = (l.length : Int) + 1 := by rw [eA, a_u_same]
  have e20 : ∀ k, A' 20 k = if k = l.length then (j : Int) else A 20 k := fun k => by
    rw [eA, a_u_o (by decide), a_u_at, a_u_o (by decide), a_u_o (by decide), a_u_o (by decide), a_u_o (by decide), a_u_o (by decide), a_u_o (by decide)]
  have e19 : ∀ k, A' 19 k = if k = j then -5 else A 19 k := fun k => by
    rw [eA, a_u_o (by decide), a_u_o (by decide), a_u_o (by decide), a_u_at, a_u_o (by decide), a_u_o (by decide), a_u_o (by decide), a_u_o (by decide)]
  have e18 : ∀ k, A' 18 k = if k = j then A 0 3 else A 18 k := fun k => by
    rw [eA, a_u_o (by decide), a_u_o (by decide), a_u_o (by decide), a_u_o (by decide), a_u_at, a_u_o (by decide), a_u_o (by decide), a_u_o (by decide)]
  have e17 : ∀ k, A' 17 k = if k = j then z else A 17 k := fun k => by
    rw [eA, a_u_o (by decide), a_u_o (by decide), a_u_o (by decide), a_u_o (by decide), a_u_o (by decide), a_u_at, a_u_o (by decide), a_u_o (by decide)]
  have e16 : ∀ k, A' 16 k = if k = j then (c : Int) else A 16 k := fun k => by
    rw [eA, a_u_o (by decide), a_u_o (by decide), a_u_o (by decide), a_u_o (by decide), a_u_o (by decide), a_u_o (by decide), a_u_at, a_u_o (by decide)]
  have e12 : ∀ k, A' 12 k = if k = c then A 12 c - z else A 12 k := fun k => by
    rw [eA, a_u_o (by decide), a_u_o (by decide), a_u_o (by decide), a_u_o (by decide), a_u_o (by decide), a_u_o (by decide), a_u_o (by decide), a_u_at]
  have g2 := iG.2.1
  rw [← hA']
  clear hA' eA
  have g1 := iG.1
  have g3 := iG.2.2
  have c3 := cW.2.2.2.2
  have ac := iC c hc
  have b1 := eo 1 0 (by decide) (by decide) (by omega)
  have b2 := eo 2 0 (by decide) (by decide) (by omega)
  have lj : ∀ k ∈ l, k ≠ j := fun k hk => by have := cW.2.2.2.1 k hk; omega
  have s5 : A 0 5 ≠ (j : Int) := by
    rcases hS.1 with ⟨a, -⟩ | ⟨m, a, b, -⟩ <;> omega
  have hst : ∀ k, k ≠ j → a_stage A' k = a_stage A k := fun k hk => by unfold a_stage; rw [e19, if_neg hk, eo 0 5 (by decide) (by decide) (by omega)]
  have hsj : a_stage A' j = 0 := by unfold a_stage; rw [e19, if_pos rfl, if_pos rfl]
  have hll : (l ++ [j]).length = l.length + 1 := by simp
  refine ⟨⟨?_, fun k hk => ?_, fun k hk => ?_, fun k hk => ?_, ⟨?_, by omega, fun p k hp => ?_, fun k hk => ?_, by omega, by omega⟩, ⟨?_, fun k hk => ?_, fun k hk => ?_⟩, ?_, fun k hk => ?_, fun k hk => ?_, ?_, ?_⟩, ⟨fun k hk hn => ?_, fun k hk hb => ?_⟩, ?_⟩
  · unfold i_G at iG ⊢
    simp (disch := omega) only [eo]
    exact iG
  · rw [e30] at hk
    rw [b2, eo 0 3 (by decide) (by decide) (by omega), e16, e17, e18, e19]
    by_cases y : k = j
    · rw [if_pos y, if_pos y, if_pos y, if_pos y]; omega
    · rw [if_neg y, if_neg y, if_neg y, if_neg y]; exact iJ k (by omega)
  · rw [b2] at hk
    have a := iC k hk
    rw [e12]
    simp (disch := omega) only [eo]
    refine ⟨a.1, a.2.1, a.2.2.1, a.2.2.2.1, a.2.2.2.2.1, ?_, a.2.2.2.2.2.2⟩
    split
    · rename_i y; subst y; omega
    · exact a.2.2.2.2.2.1
  · rw [b1] at hk
    have a := iK k hk
    simp (disch := omega) only [eo]
    exact a
  · rw [e35, hll]; rfl
  · rw [e20]
    by_cases y : p = l.length
    · rw [if_pos y]
      rw [y, List.getElem?_append_right (Nat.le_refl _), Nat.sub_self] at hp
      simp at hp
      rw [hp]
    · rw [if_neg y]
      have hpl : p < l.length := by
        have := (List.getElem?_eq_some_iff.mp hp).1
        omega
      rw [List.getElem?_append_left hpl] at hp
      exact cW.2.2.1 p k hp
  · rw [e30]
    rcases List.mem_append.mp hk with y | y
    · have := cW.2.2.2.1 k y; omega
    · simp at y; omega
  · rw [eo 0 4 (by decide) (by decide) (by omega), b1]; exact iD.1
  · rw [b1] at hk
    have a := iD.2.1 k hk
    simp (disch := omega) only [eo]
    refine ⟨a.1, a.2.1, fun y => a.2.2 ?_⟩
    rcases y with y | y
    · exact Or.inl y
    · refine Or.inr fun m hm => ?_
      have e := y m (List.mem_append_left _ hm)
      have : a_gr A' m = a_gr A m := by
        unfold a_gr
        rw [e16, if_neg (lj m hm), eo 7 _ (by decide) (by decide) (by omega)]
      rw [← this]; exact e
  · rw [b2] at hk
    have a := iD.2.2 k hk
    simp (disch := omega) only [eo]
    refine ⟨a.1, fun y => a.2 ?_⟩
    rcases y with y | y
    · exact Or.inl y
    · refine Or.inr fun m hm => ?_
      have e := y m (List.mem_append_left _ hm)
      rw [e16, if_neg (lj m hm)] at e
      exact e
  · have e1 : e_l A' = (s_rg (j + 1)).filter fun k => decide (A' 19 k = -5) := by
      unfold e_l
      rw [e30, show ((j : Int) + 1).toNat = j + 1 by omega]
    have e2 : (s_rg j).filter (fun k => decide (A' 19 k = -5)) = l := by
      rw [el]
      unfold e_l
      rw [hj, Int.toNat_natCast]
      refine List.filter_congr fun k hk => ?_
      have := s_rg_mem.mp hk
      rw [e19, if_neg (by omega)]
    have e3 : A' 19 j = -5 := by rw [e19, if_pos rfl]
    rw [e1, s_rg_succ, List.filter_append, e2]
    congr 1
    simp [e3]
  · rw [b2] at hk
    have := c9 k hk
    rw [e30, hll, eo 9 k (by decide) (by decide) (by omega)]
    simp only [Int.natCast_add, Int.natCast_one]
    omega
  · rw [b1] at hk
    have := c5 k hk
    rw [e30, hll, eo 5 k (by decide) (by decide) (by omega)]
    simp only [Int.natCast_add, Int.natCast_one]
    omega
  · rw [eo 0 8 (by decide) (by decide) (by omega)]; exact c08
  · rw [eo 0 8 (by decide) (by decide) (by omega), e30, hll]
    simp only [Int.natCast_add, Int.natCast_one]
    omega
  · rw [b1] at hk
    rw [eo 5 k (by decide) (by decide) (by omega)]
    refine hx.1 k hk fun m hm => ?_
    have e : a_gr A' m = a_gr A m := by
      unfold a_gr
      rw [e16, if_neg (lj m hm), eo 7 _ (by decide) (by decide) (by omega)]
    rw [← e]; exact hn m (List.mem_append_left _ hm)
  · rw [e30] at hk
    rw [e19] at hb ⊢
    rw [e18]
    by_cases y : k = j
    · rw [if_pos y] at hb; exact absurd rfl hb
    · rw [if_neg y] at hb
      rw [if_neg y, if_neg y]
      exact hx.2 k (by omega) hb
  · obtain ⟨s0, s15, s7, s7', s19⟩ := hS
    refine ⟨?_, fun k hk => ?_, ?_, ?_, fun k hk => ?_⟩
    · rw [eo 0 5 (by decide) (by decide) (by omega), eo 0 6 (by decide) (by decide) (by omega), eo 0 3 (by decide) (by decide) (by omega), e30]
      rcases s0 with y | ⟨m, m1, m2, m3, m4⟩
      · exact Or.inl y
      · refine Or.inr ⟨m, m1, by omega, ?_⟩
        rw [e19, if_neg (by omega), e17, if_neg (by omega)]
        exact ⟨m3, m4⟩
    · rw [b2] at hk
      rw [eo 15 k (by decide) (by decide) (by omega), eo 0 3 (by decide) (by decide) (by omega)]; exact s15 k hk
    · rw [eo 0 7 (by decide) (by decide) (by omega)]; exact s7
    · rw [eo 0 7 (by decide) (by decide) (by omega), eo 0 3 (by decide) (by decide) (by omega)]; exact s7'
    · rw [e30] at hk
      rw [e19, eo 0 3 (by decide) (by decide) (by omega)]
      split
      · omega
      · exact s19 k (by omega)
theorem f_H_zero {A : Nat → Nat → Int} {l : List Nat} (hH : f_H A l) : f_H (a_zero A (A 2 0).toNat) l := by
  obtain ⟨hI, hx, hS⟩ := hH
  have g3 := hI.1.2.2
  have eo : ∀ o, o ≠ 15 → ∀ k, a_zero A (A 2 0).toNat o k = A o k := fun o q k => a_zero_o q
  have e15 : ∀ c : Nat, (c : Int) < A 2 0 → a_zero A (A 2 0).toNat 15 c = 0 := fun c hc => by unfold a_zero; rw [if_pos ⟨rfl, by omega⟩]
  refine ⟨e_I_o hI (fun o k a _ _ => eo o a k) (fun c hc => by rw [e15 c hc]; omega) (fun c hc => by rw [eo 12 (by decide)]; exact (hI.2.2.1 c hc).2.2.2.2.2.1), f_x_o hx fun o i _ b _ => eo o b i, ?_⟩
  obtain ⟨s0, s15, s7, s7', s19⟩ := hS
  refine ⟨?_, fun c hc => ?_, ?_, ?_, fun j hj => ?_⟩
  · simp (disch := decide) only [eo]; exact s0
  · rw [eo 2 (by decide)] at hc
    rw [e15 c hc, eo 0 (by decide)]; omega
  · rw [eo 0 (by decide)]; exact s7
  · rw [eo 0 (by decide), eo 0 (by decide)]; exact s7'
  · rw [eo 3 (by decide)] at hj
    rw [eo 19 (by decide), eo 0 (by decide)]; exact s19 j hj
theorem f_H_set {A : Nat → Nat → Int} {l : List Nat} (hH : f_H A l) {o k : Nat} {v : Int} (ho : o = 4 ∨ o = 8 ∨ o = 13) (hv : (1 ≤ v ∧ v ≤ 200) ∨ (o = 13 ∧ 0 ≤ v ∧ v ≤ 2000)) : f_H (a_u A o k v) l := by
  obtain ⟨hI, hx, hS⟩ := hH
  have e : ∀ o' i, o' ≠ 4 → o' ≠ 8 → o' ≠ 13 → a_u A o k v o' i = A o' i := fun o' i a b c => a_u_o (by omega)
  refine ⟨e_I_q hI e (fun g hg => ?_) (fun c hc => ?_) (fun c hc => ?_), ?_, ?_⟩
  · have a := (hI.2.2.2.1 g hg).1
    by_cases q : 4 = o ∧ g = k
    · rw [q.2, ← q.1, a_u_same]; omega
    · rw [a_u_ne q]; exact a
  · have a := (hI.2.2.1 c hc).2.1
    by_cases q : 8 = o ∧ c = k
    · rw [q.2, ← q.1, a_u_same]; omega
    · rw [a_u_ne q]; exact a
  · have a := (hI.2.2.1 c hc).2.2.2.2.2.2.1
    by_cases q : 13 = o ∧ c = k
    · rw [q.2, ← q.1, a_u_same]; omega
    · rw [a_u_ne q]; exact a
  · refine ⟨fun g hg hn => ?_, fun j hj hb => ?_⟩
    · rw [e 1 0 (by decide) (by decide) (by decide)] at hg
      rw [e 5 g (by decide) (by decide) (by decide)]
      exact hx.1 g hg fun j hj => by rw [← a_gr_c (A := A) (A' := a_u A o k v) (fun i => e 16 i (by decide) (by decide) (by decide)) (fun i => e 7 i (by decide) (by decide) (by decide))]; exact hn j hj
    · rw [e 3 0 (by decide) (by decide) (by decide)] at hj
      rw [e 19 j (by decide) (by decide) (by decide)] at hb ⊢
      rw [e 18 j (by decide) (by decide) (by decide)]
      exact hx.2 j hj hb
  · unfold e_Sv at hS ⊢
    simp (disch := decide) only [e]
    exact hS
