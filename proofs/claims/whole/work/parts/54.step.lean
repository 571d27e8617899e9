/-! the next job comes and begins, both sides -/
/-- what a beginning leaves -/
def e_fr (A A' : Nat → Nat → Int) (ρ ρ' : Nat → Int) (j : Nat) : Prop :=
  (∀ o i, o = 4 ∨ o = 7 ∨ o = 8 ∨ (10 ≤ o ∧ o ≤ 13) ∨ (15 ≤ o ∧ o ≤ 18) ∨ (o = 0 ∧ (i = 3 ∨ i = 7)) ∨ ((o = 1 ∨ o = 2 ∨ o = 3) ∧ i = 0) → A' o i = A o i) ∧
  (∀ i, A' 19 i = if i = j then A 0 3 else A 19 i) ∧ A' 0 5 = (j : Int) ∧ A' 0 6 = A 17 j ∧ ρ' 5 = (j : Int) ∧ ρ' (100 + 7 * j + 3) = 1 ∧
  ∀ i, ¬ (i = 4 ∨ i = 5 ∨ i = 7 ∨ i = 100 + 7 * j + 3 ∨ i = 100 + 7 * j + 4 ∨ (20 ≤ i ∧ i < 100 ∧ (i % 10 = 2 ∨ i % 10 = 8)) ∨ (8 ≤ i ∧ i < 20 ∧ (i % 4 = 1 ∨ i % 4 = 2))) → ρ' i = ρ i
theorem e_beg_all {A A' : Nat → Nat → Int} {l' : List Nat} {j : Nat} (h : a_e20 A' (a_beg A l' j)) : (∀ o i, o = 4 ∨ o = 7 ∨ o = 8 ∨ (10 ≤ o ∧ o ≤ 13) ∨ (15 ≤ o ∧ o ≤ 18) ∨ (o = 0 ∧ (i = 3 ∨ i = 7)) ∨ ((o = 1 ∨ o = 2 ∨ o = 3) ∧ i = 0) → A' o i = A o i) ∧ (∀ i, A' 19 i = if i = j then A 0 3 else A 19 i) ∧ A' 0 5 = (j : Int) ∧ A' 0 6 = A 17 j := by
  refine ⟨fun o i ho => ?_, fun i => ?_, ?_, ?_⟩
  · rw [e_beg_o h o i (by omega) (by omega) (by omega)]
    unfold e_beg
    rw [a_u_o (by omega), a_u_o (by omega), a_u_o (by omega), a_u_o (by omega), a_beg0_o A j (by omega)]
  · rw [e_beg_o h 19 i (by omega) (by omega) (by omega)]
    unfold e_beg
    rw [a_u_o (by decide), a_u_o (by decide), a_u_o (by decide), a_u_at, a_beg0_o A j (by omega)]
  · rw [h 0 5 (by decide)]
    unfold a_beg a_beg1
    rw [a_u_o (by decide), a_u_o (by decide), a_u_o (by decide), a_u_j (by decide), a_u_same]
  · rw [h 0 6 (by decide)]
    unfold a_beg a_beg1
    rw [a_u_o (by decide), a_u_o (by decide), a_u_o (by decide), a_u_same]
theorem k_step {s : Fin 7} {M Mm : z_M} {T A : Nat → Nat → Int} {ρ : Nat → Int} {l : List Nat} (hI : e_I A l) (hW : e_W A ρ) (hl : l ≠ []) :
    ∃ (T' B : Nat → Nat → Int) (j : Nat) (A' : Nat → Nat → Int) (ρ' : Nat → Int), j ∈ l ∧ z_ev 52 [.inr (some (0, 26)), .inr (some (s, 0))] (z_ur (z_ut M T) s A) = some (some (.inl (j : Int)), z_ur (z_ut M T') s B) ∧
      z_ev 28 [.inr (some (s, 0)), .inl (j : Int)] (z_ur (z_ut M T') s B) = some (none, z_ur (z_ut M T') s A') ∧ z_ev 96 [.inr (some (0, 30))] (z_mr Mm ρ) = some (some (.inl (j : Int)), z_mr Mm ρ') ∧
      e_I A' (l.filter (q_ne j)) ∧ e_W A' ρ' ∧ e_fr A A' ρ ρ' j := by
  obtain ⟨iG, iJ, iC, iK, cW, iD, el, c9, c5, c08, c08'⟩ := id hI
  by_cases ho : s_fst l (fun j => a_old A j) = -5
  · obtain ⟨T', B, n1, hT, hm⟩ := k_nextTurn (s := s) (M := M) (T := T) iG iJ iC iK cW iD hl ho
    obtain ⟨j, ρ1, hj, q1, hIB, hWB, hf, hno, m1⟩ := k_pickTurn (M := Mm) hI hW hl ho hT hm
    rw [q1] at n1
    have h19 : B 19 j = -5 := by
      have := hIB.2.2.2.2.2.2.1
      rw [this] at hj
      exact (e_l_mem.mp hj).2
    have c3 := hIB.2.2.2.2.1.2.2.2.2
    have c8 := hIB.2.2.2.2.2.2.2.2.2
    obtain ⟨A', b1, b2, b3⟩ := k_begin (s := s) (M := z_ut M T') hIB.1 hIB.2.1 hIB.2.2.1 hIB.2.2.2.1 hIB.2.2.2.2.1 hj h19 (by omega)
    obtain ⟨ρ', d1, d2, d3, d4, d5⟩ := k_beg (M := Mm) hIB hWB hj b3
    rw [if_neg hno] at d1
    obtain ⟨a1, a2, a3, a4⟩ := e_beg_all b3
    have tf := hT.2.1
    refine ⟨T', B, j, A', ρ', hj, n1, b1, by rw [m1, d1], e_I_beg hIB hj b3 b2, d2, fun o i q => ?_, fun i => ?_, a3, ?_, d3, d4, fun i hi => ?_⟩
    · rw [a1 o i q, tf o i (by omega) (by omega) (by omega) (by omega)]
    · rw [a2, tf 0 3 (by omega) (by omega) (by omega) (by omega), tf 19 i (by omega) (by omega) (by omega) (by omega)]
    · rw [a4, tf 17 j (by omega) (by omega) (by omega) (by omega)]
    · rw [d5 i (by omega), hf i]
      unfold w_cell
      rintro (q | ⟨g, q1, q2⟩ | ⟨k, q1, q2⟩) <;> omega
  · have n1 := k_nextOld (s := s) (M := z_ut M T) iG iJ cW hl ho
    rcases s_fst_ge (l := l) (p := fun j => a_old A j) with ⟨q, -⟩ | ⟨j, hj, hold, q⟩
    · exact absurd q ho
    · rw [q] at n1
      have m1 := k_pickOld (M := Mm) hI hW hl q
      have h19 : A 19 j = -5 := by
        rw [el] at hj
        exact (e_l_mem.mp hj).2
      have c3 := cW.2.2.2.2
      obtain ⟨A', b1, b2, b3⟩ := k_begin (s := s) (M := z_ut M T) iG iJ iC iK cW hj h19 (by omega)
      obtain ⟨ρ', d1, d2, d3, d4, d5⟩ := k_beg (M := Mm) hI hW hj b3
      rw [if_pos hold] at d1
      obtain ⟨a1, a2, a3, a4⟩ := e_beg_all b3
      exact ⟨T, A, j, A', ρ', hj, n1, b1, by rw [m1, d1], e_I_beg hI hj b3 b2, d2, a1, a2, a3, a4, d3, d4, fun i hi => d5 i (by omega)⟩
