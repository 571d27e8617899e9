/-! a pass's end: the tokens of the class -/
theorem e_F_fill {n : Int} {A : Nat → Nat → Int} {ρ : Nat → Int} {l : List Nat} (hn : 0 ≤ n) (hF : e_F n A ρ l) : e_F 0 (a_fill A n (A 2 0).toNat) ρ l := by
  obtain ⟨hI, hW, ⟨y5, yj, yc⟩, hS⟩ := hF
  have hC := hI.2.2.1
  have eo : ∀ o, o ≠ 12 → ∀ k, a_fill A n (A 2 0).toNat o k = A o k := fun o q k => a_fill_o q
  have e12 : ∀ c : Nat, (c : Int) < A 2 0 → a_fill A n (A 2 0).toNat 12 c = if A 12 c + A 11 c * n < A 10 c then A 12 c + A 11 c * n else A 10 c := fun c hc => by
    unfold a_fill
    rw [if_pos ⟨rfl, by omega⟩]
  have hb : ∀ c : Nat, (c : Int) < A 2 0 → 0 ≤ a_fill A n (A 2 0).toNat 12 c ∧ a_fill A n (A 2 0).toNat 12 c ≤ A 10 c := fun c hc => by
    have a := hC c hc
    exact e_tok_b a.2.2.2.2.2.1 a.2.2.2.2.1.1 hn (e12 c hc)
  have hA : ∀ k, a_stage (a_fill A n (A 2 0).toNat) k = a_stage A k := fun k => by unfold a_stage; rw [eo 19 (by decide), eo 0 (by decide)]
  refine ⟨e_I_o hI (fun o k _ q _ => eo o q k) (fun c hc => by rw [eo 15 (by decide)]; exact (hC c hc).2.2.2.2.2.2.2.2) hb, e_W_congrA hW (fun o k a _ _ => eo o a.2 k), ⟨by rw [eo 0 (by decide)]; exact y5, fun j hj => ?_, fun c hc => ?_⟩, ?_⟩
  · rw [eo 3 (by decide)] at hj
    rw [hA, eo 19 (by decide), eo 17 (by decide), eo 0 (by decide)]
    exact yj j hj
  · rw [eo 2 (by decide)] at hc
    have b := hb c hc
    rw [eo 11 (by decide), eo 10 (by decide), eo 3 (by decide), Int.mul_zero, Int.add_zero]
    refine ⟨?_, ?_⟩
    · rw [(yc c hc).1, ← e12 c hc]
      split <;> omega
    · rw [(yc c hc).2]
      refine s_sum_congr fun k _ => ?_
      rw [hA, eo 16 (by decide)]
  · unfold e_Sv at hS ⊢
    simp (disch := decide) only [eo]
    exact hS
