/-! who comes next, on both sides -/
theorem r_u_self (ρ : Nat → Int) (j : Nat) : r_u ρ j (ρ j) = ρ := by
  funext i
  unfold r_u
  split
  · rename_i h; rw [h]
  · rfl
theorem e_I_turn {A B : Nat → Nat → Int} {l : List Nat} (hI : e_I A l) (hl : l ≠ []) (hT : g_T (a_nd A l) (a_gb A l) A B) (hK : h_K (-99 * (A 3 0 - l.length)) (a_gb A l) A B) : e_I B l := by
  obtain ⟨iG, iJ, iC, iK, cW, iD, el, c9, c5, c08, c08'⟩ := id hI
  obtain ⟨tJ, tf, t04, tgb, tok, tle, t5⟩ := hT
  obtain ⟨k9, k5, k6, k7⟩ := hK
  have f := fun o j a b c d => tf o j a b c d
  have b10 : B 1 0 = A 1 0 := tf 1 0 (by decide) (by decide) (by decide) (by omega)
  have b20 : B 2 0 = A 2 0 := tf 2 0 (by decide) (by decide) (by decide) (by omega)
  have b30 : B 3 0 = A 3 0 := tf 3 0 (by decide) (by decide) (by decide) (by omega)
  have b08 : B 0 8 = A 0 8 := tf 0 8 (by decide) (by decide) (by decide) (by omega)
  have b03 : B 0 3 = A 0 3 := tf 0 3 (by decide) (by decide) (by decide) (by omega)
  have bo : ∀ o, o ≠ 0 → o ≠ 9 → o ≠ 6 → o ≠ 5 → ∀ j, B o j = A o j := fun o a b c d j => tf o j b c d (by omega)
  have hz : ∀ j ∈ l, 1 ≤ A 17 j ∧ A 17 j ≤ 99 := fun j hj => (iJ j (cW.2.2.2.1 j hj)).2.1
  have hB6 : ∀ g : Nat, (g : Int) < A 1 0 → B 6 g = -5 ∨ (0 ≤ B 6 g ∧ B 6 g < A 2 0 ∧ A 7 (B 6 g).toNat = (g : Int)) := fun g hg => by
    by_cases q : a_gb A l g = 0
    · rw [(k6 g q).1]; exact (iD.2.1 g hg).1
    · have := (tJ.2.2.2.1 g (by rw [b10]; exact hg) q).1.2.1
      rw [k7, b20] at this
      exact this
  have hB9 : ∀ c : Nat, (c : Int) < A 2 0 → (-20000 ≤ B 9 c ∧ B 9 c ≤ 298) ∧ (B 6 (A 7 c).toNat ≠ (c : Int) ∨ (∀ j ∈ l, A 16 j ≠ (c : Int)) → B 9 c ≤ 98) := fun c hc => by
    have ac := iC c hc
    obtain ⟨g, hg⟩ : ∃ g : Nat, A 7 c = (g : Int) := ⟨(A 7 c).toNat, by omega⟩
    rw [hg, Int.toNat_natCast]
    by_cases q : a_gb A l g = 0
    · rw [(k6 g q).1, (k6 g q).2 c hg]
      have := iD.2.2 c hc
      rw [hg, Int.toNat_natCast] at this
      exact this
    · have h := (tJ.2.2.2.1 g (by rw [b10]; omega) q).1.2.2 c (by rw [b20]; exact hc) (by rw [k7]; exact hg)
      refine ⟨h.1, fun hq => h.2 ?_⟩
      rcases hq with hq | hq
      · exact Or.inl hq
      · refine Or.inr (Classical.byContradiction fun hn => ?_)
        obtain ⟨j, hj, e⟩ := (a_nd_ne hz c).mp hn
        exact hq j hj e
  refine ⟨i_G_congr iG b10 b20 b03, i_J_congr iJ b30 b20 b03 (bo 16 (by decide) (by decide) (by decide) (by decide)) (bo 17 (by decide) (by decide) (by decide) (by decide)) (bo 18 (by decide) (by decide) (by decide) (by decide)) (fun j hj => ?_), fun c hc => ?_, fun g hg => ?_, c_WL_congr cW (bo 20 (by decide) (by decide) (by decide) (by decide)) (bo 3 (by decide) (by decide) (by decide) (by decide) 5) b30, ⟨?_, fun g hg => ?_, fun c hc => ?_⟩, ?_, fun c hc => ?_, fun g hg => ?_, ?_, ?_⟩
  · rw [bo 19 (by decide) (by decide) (by decide) (by decide)]; exact (iJ j hj).2.2.2
  · rw [b20] at hc
    have a := iC c hc
    have b := hB9 c hc
    rw [b10, k7, bo 8 (by decide) (by decide) (by decide) (by decide), bo 10 (by decide) (by decide) (by decide) (by decide), bo 11 (by decide) (by decide) (by decide) (by decide), bo 12 (by decide) (by decide) (by decide) (by decide), bo 13 (by decide) (by decide) (by decide) (by decide), bo 14 (by decide) (by decide) (by decide) (by decide), bo 15 (by decide) (by decide) (by decide) (by decide)]
    exact ⟨a.1, a.2.1, by omega, a.2.2.2⟩
  · rw [b10] at hg
    have a := iK g hg
    have b := t5 g hg
    have d := hB6 g hg
    rw [bo 4 (by decide) (by decide) (by decide) (by decide), b20]
    have h2 := iG.2.1
    exact ⟨a.1, by omega, by omega⟩
  · rw [b10]; exact Or.inr t04
  · rw [b10] at hg
    have b := t5 g hg
    have d := hB6 g hg
    rw [b20, k7]
    refine ⟨d, by omega, fun hq => b.2.2 ?_⟩
    rcases hq with hq | hq
    · exact hq
    · intro e
      apply tgb
      rw [e, Int.toNat_natCast]
      refine Classical.byContradiction fun hn => ?_
      obtain ⟨j, hj, ej⟩ := (a_gb_ne g).mp hn
      have := hq j hj
      unfold a_gr at this ej
      rw [k7, bo 16 (by decide) (by decide) (by decide) (by decide)] at this
      exact this ej
  · rw [b20] at hc
    have b := hB9 c hc
    rw [k7]
    refine ⟨b.1, fun hq => b.2 ?_⟩
    rcases hq with hq | hq
    · exact Or.inl hq
    · exact Or.inr (fun j hj => by have := hq j hj; rw [bo 16 (by decide) (by decide) (by decide) (by decide)] at this; exact this)
  · rw [el]
    unfold e_l
    rw [b30]
    refine List.filter_congr fun j _ => ?_
    rw [bo 19 (by decide) (by decide) (by decide) (by decide)]
  · rw [b30]; exact k9 c hc
  · rw [b30]; exact k5 g hg
  · rw [b08]; exact c08
  · rw [b08, b30]; exact c08'
theorem e_W_turn {A B : Nat → Nat → Int} {nd gb : Nat → Int} {ρ ρ' : Nat → Int} (hG : i_G A) (h : e_W A ρ) (hf : w_fr ρ ρ') (hR : w_rel nd gb B ρ') (hB : ∀ o j, o ≠ 9 → o ≠ 6 → o ≠ 5 → ¬ (o = 0 ∧ j = 4) → B o j = A o j) : e_W B ρ' := by
  obtain ⟨⟨w0, w1, w2, w3, w4, w6, w7⟩, wg, wc, wj⟩ := h
  obtain ⟨r1, r2, r3, -, -⟩ := hR
  have h1 := hG.1
  have h2 := hG.2.1
  have b10 : B 1 0 = A 1 0 := hB 1 0 (by decide) (by decide) (by decide) (by omega)
  have b20 : B 2 0 = A 2 0 := hB 2 0 (by decide) (by decide) (by decide) (by omega)
  have b30 : B 3 0 = A 3 0 := hB 3 0 (by decide) (by decide) (by decide) (by omega)
  have b08 : B 0 8 = A 0 8 := hB 0 8 (by decide) (by decide) (by decide) (by omega)
  have b07 : B 0 7 = A 0 7 := hB 0 7 (by decide) (by decide) (by decide) (by omega)
  have b03 : B 0 3 = A 0 3 := hB 0 3 (by decide) (by decide) (by decide) (by omega)
  have bo : ∀ o, o ≠ 0 → o ≠ 9 → o ≠ 6 → o ≠ 5 → ∀ j, B o j = A o j := fun o a b c d j => hB o j b c d (by omega)
  have hn : ∀ i, i ≠ 4 → ¬ (8 ≤ i ∧ i < 20 ∧ (i % 4 = 1 ∨ i % 4 = 2)) → ¬ (20 ≤ i ∧ i < 100 ∧ i % 10 = 2) → ρ' i = ρ i := fun i a b c => hf i (by
    unfold w_cell
    rintro (q | ⟨g, q1, q2⟩ | ⟨k, q1, q2⟩) <;> omega)
  refine ⟨⟨?_, r1.1, r1.2.1, ?_, r1.2.2.1, ?_, ?_⟩, fun g hg => ?_, fun c hc => ?_, fun j hj => ?_⟩
  · rw [hn 0 (by omega) (by omega) (by omega), b03]; exact w0
  · rw [hn 3 (by omega) (by omega) (by omega), b30]; exact w3
  · rw [hn 6 (by omega) (by omega) (by omega), b07]; exact w6
  · rw [hn 7 (by omega) (by omega) (by omega), b08]; exact w7
  · have q := r2 g hg
    rw [b10] at hg
    refine ⟨q.1, q.2.1, q.2.2, ?_⟩
    rw [hn _ (by omega) (by omega) (by omega), (wg g hg).2.2.2, b20]
    refine s_sum_congr fun c _ => ?_
    rw [bo 7 (by decide) (by decide) (by decide) (by decide), bo 15 (by decide) (by decide) (by decide) (by decide)]
  · have q := r3 c hc
    rw [b20] at hc
    have a := wc c hc
    rw [hn (20 + 10 * c + 3) (by omega) (by omega) (by omega), hn (20 + 10 * c + 4) (by omega) (by omega) (by omega), hn (20 + 10 * c + 6) (by omega) (by omega) (by omega), hn (20 + 10 * c + 8) (by omega) (by omega) (by omega), hn (20 + 10 * c + 9) (by omega) (by omega) (by omega)]
    rw [bo 10 (by decide) (by decide) (by decide) (by decide), bo 11 (by decide) (by decide) (by decide) (by decide), bo 13 (by decide) (by decide) (by decide) (by decide), bo 14 (by decide) (by decide) (by decide) (by decide), bo 15 (by decide) (by decide) (by decide) (by decide)]
    exact ⟨⟨q.1, q.2.1, q.2.2, a.1.2.2.2.1, a.1.2.2.2.2⟩, a.2⟩
  · rw [b30] at hj
    have a := wj j hj
    rw [hn (100 + 7 * j) (by omega) (by omega) (by omega), hn (100 + 7 * j + 1) (by omega) (by omega) (by omega), hn (100 + 7 * j + 2) (by omega) (by omega) (by omega), hn (100 + 7 * j + 3) (by omega) (by omega) (by omega), hn (100 + 7 * j + 4) (by omega) (by omega) (by omega)]
    rw [bo 16 (by decide) (by decide) (by decide) (by decide), bo 17 (by decide) (by decide) (by decide) (by decide), bo 18 (by decide) (by decide) (by decide) (by decide), bo 19 (by decide) (by decide) (by decide) (by decide)]
    exact a
