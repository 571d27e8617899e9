/-! the full relation, over a copy -/
theorem e_F_cell {i : Int} {A A2 : Nat → Nat → Int} {ρ : Nat → Int} {l : List Nat} (hF : e_F i A ρ l) (h : ∀ o j, a_cell o j → A2 o j = A o j) : e_F i A2 ρ l := by
  obtain ⟨hI, hW, ⟨y5, yj, yc⟩, s0, s15, s7, s7', s19⟩ := hF
  have hG := hI.1
  have g1 := hG.1
  have g2 := hG.2.1
  have c3 := hI.2.2.2.2.1.2.2.2.2
  have h0 : ∀ k, 3 ≤ k → k ≤ 8 → A2 0 k = A 0 k := fun k a b => h 0 k (Or.inl ⟨rfl, a, b⟩)
  have h2 : A2 2 0 = A 2 0 := h 2 0 (by unfold a_cell; omega)
  have h3 : A2 3 0 = A 3 0 := h 3 0 (by unfold a_cell; omega)
  have hc : ∀ o, 7 ≤ o → o ≤ 15 → ∀ g : Nat, (g : Int) < A 2 0 → A2 o g = A o g := fun o a b g q => h o g (by unfold a_cell; omega)
  have hj : ∀ o, 16 ≤ o → o ≤ 19 → ∀ g : Nat, (g : Int) < A 3 0 → A2 o g = A o g := fun o a b g q => h o g (by unfold a_cell; omega)
  have hA : ∀ k : Nat, (k : Int) < A 3 0 → a_stage A2 k = a_stage A k := fun k hk => by
    unfold a_stage
    rw [hj 19 (by omega) (by omega) k hk, h0 5 (by omega) (by omega)]
  refine ⟨e_cell hI h, e_Wcell g1.2 g2.2 c3.1 hW h, ⟨by rw [h0 5 (by omega) (by omega)]; exact y5, fun j q => ?_, fun c q => ?_⟩, ?_, fun c q => ?_, ?_, ?_, fun j q => ?_⟩
  · rw [h3] at q
    rw [hA j q, hj 19 (by omega) (by omega) j q, hj 17 (by omega) (by omega) j q, h0 6 (by omega) (by omega)]
    exact yj j q
  · rw [h2] at q
    rw [hc 12 (by omega) (by omega) c q, hc 11 (by omega) (by omega) c q, hc 10 (by omega) (by omega) c q, h3]
    refine ⟨(yc c q).1, ?_⟩
    rw [(yc c q).2]
    refine s_sum_congr fun k hk => ?_
    have hk' : (k : Int) < A 3 0 := by have := s_rg_mem.mp hk; omega
    rw [hA k hk', hj 16 (by omega) (by omega) k hk']
  · rw [h0 5 (by omega) (by omega), h0 6 (by omega) (by omega), h0 3 (by omega) (by omega), h3]
    rcases s0 with q | ⟨j, q1, q2, q3⟩
    · exact Or.inl q
    · refine Or.inr ⟨j, q1, q2, ?_⟩
      rw [hj 19 (by omega) (by omega) j q2, hj 17 (by omega) (by omega) j q2]
      exact q3
  · rw [h2] at q
    rw [hc 15 (by omega) (by omega) c q, h0 3 (by omega) (by omega)]; exact s15 c q
  · rw [h0 7 (by omega) (by omega)]; exact s7
  · rw [h0 7 (by omega) (by omega), h0 3 (by omega) (by omega)]; exact s7'
  · rw [h3] at q
    rw [hj 19 (by omega) (by omega) j q, h0 3 (by omega) (by omega)]; exact s19 j q
theorem e_F_copy {i : Int} {A A0 : Nat → Nat → Int} {ρ : Nat → Int} {l : List Nat} (hF : e_F i A ρ l) : e_F i (a_copy A0 A) ρ l := e_F_cell hF (a_copy_cell A0 A)
