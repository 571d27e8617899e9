/-! what holds still holds after a beginning -/
theorem e_I_beg {A A' : Nat → Nat → Int} {l : List Nat} (hI : e_I A l) {j : Nat} (hj : j ∈ l) (hA : a_e20 A' (a_beg A (l.filter (q_ne j)) j)) (hW' : c_WL A' (l.filter (q_ne j))) : e_I A' (l.filter (q_ne j)) := by
  obtain ⟨iG, iJ, iC, iK, cW, iD, el, c9, c5, c08, c08'⟩ := id hI
  have c3 := cW.2.2.2.2
  have hjn := cW.2.2.2.1 j hj
  have aj := iJ j hjn
  have h19 : A 19 j = -5 := by rw [el] at hj; exact (e_l_mem.mp hj).2
  obtain ⟨c, hc⟩ : ∃ c : Nat, A 16 j = (c : Int) := ⟨(A 16 j).toNat, by omega⟩
  have hc2 : (c : Int) < A 2 0 := by omega
  have ac := iC c hc2
  obtain ⟨g, hg⟩ : ∃ g : Nat, A 7 c = (g : Int) := ⟨(A 7 c).toNat, by omega⟩
  have hg1 : (g : Int) < A 1 0 := by omega
  have ag := iK g hg1
  have hgr : a_gr A j = (g : Int) := by unfold a_gr; rw [hc, Int.toNat_natCast, hg]
  obtain ⟨G1, G2, G3, G4⟩ := iG
  have hlen : (l.filter (q_ne j)).length + 1 ≤ l.length := by
    have : (l.filter (q_ne j)).length < l.length := by
      rcases Nat.lt_or_ge (l.filter (q_ne j)).length l.length with h | h
      · exact h
      · have h2 := List.length_filter_eq_length_iff.mp (Nat.le_antisymm (List.length_filter_le _ _) h) j hj
        unfold q_ne at h2
        simp at h2
    omega
  have hl' : ∀ i, i ∈ l.filter (q_ne j) ↔ i ∈ l ∧ i ≠ j := fun i => by
    rw [List.mem_filter]
    unfold q_ne
    rw [decide_eq_true_iff]
    exact ⟨fun q => ⟨q.1, fun e => q.2 (by rw [e])⟩, fun q => ⟨q.1, fun e => q.2 (by omega)⟩⟩
  have o1 : ∀ o i, o ≠ 20 → ¬ (o = 0 ∧ (i = 5 ∨ i = 6)) → ¬ (o = 3 ∧ i = 5) → ¬ (o = 0 ∧ i = 8) → o ≠ 19 → o ≠ 14 → o ≠ 9 → o ≠ 5 → A' o i = A o i := fun o i a b d e f h k m => by
    rw [e_beg_o hA o i a b d]
    unfold e_beg
    rw [a_u_o m, a_u_o k, a_u_o h, a_u_o f, a_beg0_o A j e]
  have o19 : ∀ i, A' 19 i = if i = j then A 0 3 else A 19 i := fun i => by
    rw [e_beg_o hA 19 i (by omega) (by omega) (by omega)]
    unfold e_beg
    rw [a_u_o (by decide), a_u_o (by decide), a_u_o (by decide), a_u_at, a_beg0_o A j (by omega)]
  have o14 : ∀ i, A' 14 i = if i = c then (if A 14 c < A 0 3 - A 18 j then A 0 3 - A 18 j else A 14 c) else A 14 i := fun i => by
    rw [e_beg_o hA 14 i (by omega) (by omega) (by omega)]
    unfold e_beg
    rw [a_u_o (by decide), a_u_o (by decide), a_u_at, a_u_o (by decide), a_beg0_o A j (by omega), hc, Int.toNat_natCast]
  have o9 : ∀ i, A' 9 i = if i = c then (if 0 < s_sum (l.filter (q_ne j)) (fun i => if A 16 i = (c : Int) then 1 else 0) then A 9 c - A 17 j else 0) else A 9 i := fun i => by
    rw [e_beg_o hA 9 i (by omega) (by omega) (by omega)]
    unfold e_beg
    rw [a_u_o (by decide), a_u_at, a_u_o (by decide), a_u_o (by decide), a_beg0_o A j (by omega), hc, Int.toNat_natCast]
  have o5 : ∀ i, A' 5 i = if i = g then (if 0 < s_sum (l.filter (q_ne j)) (fun i => if a_gr A i = (g : Int) then 1 else 0) then A 5 g - A 17 j else 0) else A 5 i := fun i => by
    rw [e_beg_o hA 5 i (by omega) (by omega) (by omega)]
    unfold e_beg
    rw [a_u_at, a_u_o (by decide), a_u_o (by decide), a_u_o (by decide), a_beg0_o A j (by omega), hgr, Int.toNat_natCast]
  have o08 : A' 0 8 = A 0 8 ∨ A' 0 8 = A 0 8 + 1 := by
    rw [e_beg_o hA 0 8 (by omega) (by omega) (by omega)]
    unfold e_beg
    rw [a_u_o (by decide), a_u_o (by decide), a_u_o (by decide), a_u_o (by decide)]
    unfold a_beg0
    split
    · rw [a_u_same]; exact Or.inr rfl
    · exact Or.inl rfl
  have p10 : A' 1 0 = A 1 0 := o1 1 0 (by omega) (by omega) (by omega) (by omega) (by omega) (by omega) (by omega) (by omega)
  have p20 : A' 2 0 = A 2 0 := o1 2 0 (by omega) (by omega) (by omega) (by omega) (by omega) (by omega) (by omega) (by omega)
  have p30 : A' 3 0 = A 3 0 := o1 3 0 (by omega) (by omega) (by omega) (by omega) (by omega) (by omega) (by omega) (by omega)
  have p03 : A' 0 3 = A 0 3 := o1 0 3 (by omega) (by omega) (by omega) (by omega) (by omega) (by omega) (by omega) (by omega)
  have p04 : A' 0 4 = A 0 4 := o1 0 4 (by omega) (by omega) (by omega) (by omega) (by omega) (by omega) (by omega) (by omega)
  have po : ∀ o, 4 ≤ o → o ≠ 20 → o ≠ 19 → o ≠ 14 → o ≠ 9 → o ≠ 5 → ∀ i, A' o i = A o i := fun o a b d e f h i => o1 o i b (by omega) (by omega) (by omega) d e f h
  have hv9 : ∀ v, v = (if 0 < s_sum (l.filter (q_ne j)) (fun i => if A 16 i = (c : Int) then 1 else 0) then A 9 c - A 17 j else 0) → (v = A 9 c - A 17 j ∨ v = 0) ∧ ((∀ i ∈ l.filter (q_ne j), A 16 i ≠ (c : Int)) → v = 0) := fun v hv => by
    by_cases q : ∃ i ∈ l.filter (q_ne j), A 16 i = (c : Int)
    · rw [if_pos (s_sum_pos.mpr q)] at hv
      exact ⟨Or.inl hv, fun z => by obtain ⟨i, q1, q2⟩ := q; exact absurd q2 (z i q1)⟩
    · rw [if_neg (fun z => q (s_sum_pos.mp z))] at hv
      exact ⟨Or.inr hv, fun _ => hv⟩
  have hv5 : ∀ v, v = (if 0 < s_sum (l.filter (q_ne j)) (fun i => if a_gr A i = (g : Int) then 1 else 0) then A 5 g - A 17 j else 0) → (v = A 5 g - A 17 j ∨ v = 0) ∧ ((∀ i ∈ l.filter (q_ne j), a_gr A i ≠ (g : Int)) → v = 0) := fun v hv => by
    by_cases q : ∃ i ∈ l.filter (q_ne j), a_gr A i = (g : Int)
    · rw [if_pos (s_sum_pos.mpr q)] at hv
      exact ⟨Or.inl hv, fun z => by obtain ⟨i, q1, q2⟩ := q; exact absurd q2 (z i q1)⟩
    · rw [if_neg (fun z => q (s_sum_pos.mp z))] at hv
      exact ⟨Or.inr hv, fun _ => hv⟩
  obtain ⟨v9, hv9e⟩ : ∃ v, v = (if 0 < s_sum (l.filter (q_ne j)) (fun i => if A 16 i = (c : Int) then 1 else 0) then A 9 c - A 17 j else 0) := ⟨_, rfl⟩
  obtain ⟨v5, hv5e⟩ : ∃ v, v = (if 0 < s_sum (l.filter (q_ne j)) (fun i => if a_gr A i = (g : Int) then 1 else 0) then A 5 g - A 17 j else 0) := ⟨_, rfl⟩
  have k9 := hv9 v9 hv9e
  have k5 := hv5 v5 hv5e
  rw [← hv9e] at o9
  rw [← hv5e] at o5
  have D9 := iD.2.2 c hc2
  have D5 := iD.2.1 g hg1
  have L9 := c9 c hc2
  have L5 := c5 g hg1
  have gr' : ∀ i, a_gr A' i = a_gr A i := fun i => by unfold a_gr; rw [po 16 (by omega) (by omega) (by omega) (by omega) (by omega) (by omega), po 7 (by omega) (by omega) (by omega) (by omega) (by omega) (by omega)]
  have n9 : ∀ i : Nat, (i : Int) < A 2 0 → (-20000 ≤ A' 9 i ∧ A' 9 i ≤ 298) ∧ -99 * (A 3 0 - (l.filter (q_ne j)).length) ≤ A' 9 i := fun i hi => by
    have d := iD.2.2 i hi
    have e := c9 i hi
    rw [o9]
    split <;> omega
  have n5 : ∀ i : Nat, (i : Int) < A 1 0 → (-20000 ≤ A' 5 i ∧ A' 5 i ≤ 298) ∧ -99 * (A 3 0 - (l.filter (q_ne j)).length) ≤ A' 5 i := fun i hi => by
    have d := iD.2.1 i hi
    have e := c5 i hi
    rw [o5]
    split <;> omega
  refine ⟨i_G_congr ⟨G1, G2, G3, G4⟩ p10 p20 p03, i_J_congr iJ p30 p20 p03 (po 16 (by omega) (by omega) (by omega) (by omega) (by omega) (by omega)) (po 17 (by omega) (by omega) (by omega) (by omega) (by omega) (by omega)) (po 18 (by omega) (by omega) (by omega) (by omega) (by omega) (by omega)) (fun i hi => ?_), fun i hi => ?_, fun i hi => ?_, hW', ⟨?_, fun i hi => ?_, fun i hi => ?_⟩, ?_, fun i hi => ?_, fun i hi => ?_, ?_, ?_⟩
  · have := iJ i hi
    rw [o19]
    split <;> omega
  · rw [p20] at hi
    have a := iC i hi
    have b := (n9 i hi).1
    rw [p10, po 7 (by omega) (by omega) (by omega) (by omega) (by omega) (by omega), po 8 (by omega) (by omega) (by omega) (by omega) (by omega) (by omega), po 10 (by omega) (by omega) (by omega) (by omega) (by omega) (by omega), po 11 (by omega) (by omega) (by omega) (by omega) (by omega) (by omega), po 12 (by omega) (by omega) (by omega) (by omega) (by omega) (by omega), po 13 (by omega) (by omega) (by omega) (by omega) (by omega) (by omega), po 15 (by omega) (by omega) (by omega) (by omega) (by omega) (by omega), o14]
    refine ⟨a.1, a.2.1, by omega, a.2.2.2.1, a.2.2.2.2.1, a.2.2.2.2.2.1, a.2.2.2.2.2.2.1, ?_, a.2.2.2.2.2.2.2.2⟩
    split
    · split <;> omega
    · exact a.2.2.2.2.2.2.2.1
  · rw [p10] at hi
    have a := iK i hi
    have b := (n5 i hi).1
    rw [po 4 (by omega) (by omega) (by omega) (by omega) (by omega) (by omega), po 6 (by omega) (by omega) (by omega) (by omega) (by omega) (by omega), p20]
    exact ⟨a.1, by omega, a.2.2⟩
  · rw [p04, p10]; exact iD.1
  · rw [p10] at hi
    have d := iD.2.1 i hi
    rw [po 6 (by omega) (by omega) (by omega) (by omega) (by omega) (by omega), po 7 (by omega) (by omega) (by omega) (by omega) (by omega) (by omega), p20, p04]
    refine ⟨d.1, (n5 i hi).1, fun hq => ?_⟩
    rw [o5]
    by_cases z : i = g
    · rw [if_pos z]
      rw [z] at hq
      rcases hq with hq | hq
      · have := D5.2.2 (Or.inl hq); omega
      · have := k5.2 (fun k hk => by rw [← gr']; exact hq k hk); omega
    · rw [if_neg z]
      refine d.2.2 ?_
      rcases hq with hq | hq
      · exact Or.inl hq
      · refine Or.inr (fun k hk => ?_)
        by_cases y : k = j
        · rw [y, hgr]; omega
        · rw [← gr']; exact hq k ((hl' k).mpr ⟨hk, y⟩)
  · rw [p20] at hi
    have d := iD.2.2 i hi
    rw [po 6 (by omega) (by omega) (by omega) (by omega) (by omega) (by omega), po 7 (by omega) (by omega) (by omega) (by omega) (by omega) (by omega)]
    refine ⟨(n9 i hi).1, fun hq => ?_⟩
    rw [o9]
    by_cases z : i = c
    · rw [if_pos z]
      rw [z] at hq
      rcases hq with hq | hq
      · have := D9.2 (Or.inl hq); omega
      · have := k9.2 (fun k hk => by rw [← po 16 (by omega) (by omega) (by omega) (by omega) (by omega) (by omega)]; exact hq k hk); omega
    · rw [if_neg z]
      refine d.2 ?_
      rcases hq with hq | hq
      · exact Or.inl hq
      · refine Or.inr (fun k hk => ?_)
        by_cases y : k = j
        · rw [y, hc]; omega
        · rw [← po 16 (by omega) (by omega) (by omega) (by omega) (by omega) (by omega)]; exact hq k ((hl' k).mpr ⟨hk, y⟩)
  · rw [el]
    unfold e_l
    rw [p30, List.filter_filter]
    refine List.filter_congr fun i _ => ?_
    rw [o19]
    unfold q_ne
    by_cases q : i = j
    · rw [if_pos q, q]
      have : ¬ A 0 3 = -5 := by omega
      simp [this]
    · rw [if_neg q]
      have : ¬ ((i : Int) = (j : Int)) := by omega
      simp [this]
  · rw [p20] at hi; rw [p30]; exact (n9 i hi).2
  · rw [p10] at hi; rw [p30]; exact (n5 i hi).2
  · omega
  · rw [p30]; omega
