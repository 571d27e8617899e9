/-! the history, on a memory -/
def w_h (M : z_M) : Prop := ∃ n : Nat, n ≤ 4 ∧ M 0 22 0 = (n : Int) ∧ w_pm M
/-- what push leaves -/
def w_pf (M M' : z_M) : Prop := (∀ (o j : Nat), o ≠ 22 → o ≠ 23 → M' 0 o j = M 0 o j) ∧ (∀ (o j : Nat), M' 1 o j = M 1 o j) ∧ (∀ (o j : Nat), M' 2 o j = M 2 o j) ∧ w_h M' ∧ (0 < M' 0 22 0)
theorem k_push {M : z_M} (hH : w_h M) : ∃ M', z_ev 11 [.inr (some (0, 22)), .inr (some (0, 0))] M = some (none, M') ∧ w_pf M M' := by
  obtain ⟨n, h1, h2, h4⟩ := hH
  by_cases hn : n < 4
  · have hq := h4.1 n hn
    refine ⟨_, k_pushRoom h2 hn (z_rg_n0 hq).1, fun o j a b => ?_, fun o j => ?_, fun o j => ?_, ⟨n + 1, by omega, ?_, w_pm_of h4 fun j => ?_⟩, ?_⟩
    · rw [z_up_ne (by omega), z_ur_ne (z_rg_n0 hq).1.symm]
    · rw [z_up_s (by decide), z_ur_ne (z_rg_n0 hq).2.1.symm]
    · rw [z_up_s (by decide), z_ur_ne (z_rg_n0 hq).2.2.symm]
    · rw [z_up_at]; omega
    · rw [z_up_ne (by omega), z_ur_top (by decide)]
    · rw [z_up_at]; omega
  · obtain rfl : n = 4 := by omega
    have r0 := h4.1 0 (by decide)
    have r1 := h4.1 1 (by decide)
    have r2 := h4.1 2 (by decide)
    have r3 := h4.1 3 (by decide)
    have hd := k_dropOldest (M := M) (by omega)
    rw [(z_rg_36 r0).1, (z_rg_36 r1).1, (z_rg_36 r2).1, (z_rg_36 r3).1] at hd
    generalize hM1 : z_up (z_up (z_up (z_up (z_up M 0 23 0 (M 0 23 1)) 0 23 1 (M 0 23 2)) 0 23 2 (M 0 23 3)) 0 23 3 (M 0 23 0)) 0 22 0 (M 0 22 0 - 1) = M1 at hd
    have e22 : M1 0 22 0 = 3 := by rw [← hM1, z_up_at]; omega
    have e0 : M1 0 23 0 = M 0 23 1 := by rw [← hM1, z_up_ne (by omega), z_up_ne (by omega), z_up_ne (by omega), z_up_ne (by omega), z_up_at]
    have e1 : M1 0 23 1 = M 0 23 2 := by rw [← hM1, z_up_ne (by omega), z_up_ne (by omega), z_up_ne (by omega), z_up_at]
    have e2 : M1 0 23 2 = M 0 23 3 := by rw [← hM1, z_up_ne (by omega), z_up_ne (by omega), z_up_at]
    have e3 : M1 0 23 3 = M 0 23 0 := by rw [← hM1, z_up_ne (by omega), z_up_at]
    have eo : ∀ (q : Fin 7) (o j : Nat), o ≠ 22 → o ≠ 23 → M1 q o j = M q o j := fun q o j a b => by
      rw [← hM1, z_up_ne (by omega), z_up_ne (by omega), z_up_ne (by omega), z_up_ne (by omega), z_up_ne (by omega)]
    have pm : w_pm M1 := by
      have d01 := h4.2 0 1 (by decide) (by decide)
      have d02 := h4.2 0 2 (by decide) (by decide)
      have d03 := h4.2 0 3 (by decide) (by decide)
      have d12 := h4.2 1 2 (by decide) (by decide)
      have d13 := h4.2 1 3 (by decide) (by decide)
      have d23 := h4.2 2 3 (by decide) (by decide)
      refine ⟨fun i hi => ?_, fun i j hi hj => ?_⟩
      · rcases (by omega : i = 0 ∨ i = 1 ∨ i = 2 ∨ i = 3) with rfl | rfl | rfl | rfl
        · rw [e0]; exact r1
        · rw [e1]; exact r2
        · rw [e2]; exact r3
        · rw [e3]; exact r0
      · rcases (by omega : i = 0 ∨ i = 1 ∨ i = 2 ∨ i = 3) with rfl | rfl | rfl | rfl <;> rcases (by omega : j = 0 ∨ j = 1 ∨ j = 2 ∨ j = 3) with rfl | rfl | rfl | rfl <;> intro e <;> omega
    have hq := pm.1 3 (by decide)
    refine ⟨_, k_pushFull (M1 := M1) h2 hd e22 (z_rg_n0 hq).1, fun o j a b => ?_, fun o j => ?_, fun o j => ?_, ⟨4, by decide, ?_, w_pm_of pm fun j => ?_⟩, ?_⟩
    · rw [z_up_ne (by omega), z_ur_ne (z_rg_n0 hq).1.symm, eo _ _ _ a b]
    · rw [z_up_s (by decide), z_ur_ne (z_rg_n0 hq).2.1.symm, ← hM1, z_up_s (by decide), z_up_s (by decide), z_up_s (by decide), z_up_s (by decide), z_up_s (by decide)]
    · rw [z_up_s (by decide), z_ur_ne (z_rg_n0 hq).2.2.symm, ← hM1, z_up_s (by decide), z_up_s (by decide), z_up_s (by decide), z_up_s (by decide), z_up_s (by decide)]
    · rw [z_up_at]; rfl
    · rw [z_up_ne (by omega), z_ur_top (by decide)]
    · rw [z_up_at]; decide
/-- a push, and the state that is pushed as a picture -/
theorem k_push2 {M : z_M} (hH : w_h M) : ∃ M', z_ev 11 [.inr (some (0, 22)), .inr (some (0, 0))] M = some (none, z_ur M' 0 (M 0)) ∧ w_pf M M' := by
  obtain ⟨M', a, b⟩ := k_push hH
  refine ⟨M', ?_, b⟩
  have e : z_ur M' 0 (M 0) = M' := by
    funext s o j
    by_cases q : s = 0 ∧ o < 21
    · rw [q.1, z_ur_get q.2, b.1 o j (by omega) (by omega)]
    · unfold z_ur
      rw [if_neg q]
  rw [e]; exact a
theorem w_h_of {M M' : z_M} (h : w_h M) (e1 : M' 0 22 0 = M 0 22 0) (e2 : ∀ j, M' 0 23 j = M 0 23 j) : w_h M' := by
  obtain ⟨n, a, b, c⟩ := h
  exact ⟨n, a, e1.trans b, w_pm_of c e2⟩
theorem k_undo {M : z_M} (hH : w_h M) : ∃ M', z_ev 86 [.inr (some (0, 21))] M = some (some (.inl (if 0 < M 0 22 0 then M 0 22 0 - 1 else -5)), M') := by
  obtain ⟨n, h1, h2, h4⟩ := hH
  cases n with
  | zero =>
    refine ⟨M, ?_⟩
    rw [x86]
    repeat' (first | (exfalso; omega) | (simp (disch := first | omega | assumption | exact z_b_01) only [x86_0, x86_1, x86_4, x86_7, x86_10, x86_12, x86_13, x86_14, x86_17, x86_18, x86_21, x86_24, x86_25, x86_28, x86_31, Option.bind_some, Option.toList_some, Option.toList_none, List.cons_append, List.nil_append, Int.toNat_natCast, Int.toNat_zero, z_w_id, z_b_0, z_b_1, z_b_n0, z_b_t, z_b_f, ↓reduceIte, Int.reduceEq, Int.reduceLT, Int.reduceLE, Int.reduceToNat, not_true_eq_false, not_false_eq_true, false_and, and_false, true_and, and_true, false_or, or_false, true_or, or_true, h2]) | split)
  | succ n =>
    have k := k_takeLatest (M := M) h2 (by omega) (z_rg_n0 (h4.1 n (by omega))).1
    have e : z_up (z_ur M 0 (a_copy (M 0) (M (z_rg (M 0 23 n))))) 0 22 0 (n : Int) 0 22 0 = (n : Int) := z_up_at _ _ _ _ _
    have e2 : ((n + 1 : Nat) : Int) - 1 = (n : Int) := by omega
    rw [h2, if_pos (by omega), e2]
    refine ⟨z_up (z_ur M 0 (a_copy (M 0) (M (z_rg (M 0 23 n))))) 0 22 0 (n : Int), ?_⟩
    rw [x86]
    repeat' (first | (exfalso; omega) | (simp (disch := first | omega | assumption | exact z_b_01) only [x86_0, x86_1, x86_4, x86_7, x86_10, x86_12, x86_13, x86_14, x86_17, x86_18, x86_21, x86_24, x86_25, x86_28, x86_31, Option.bind_some, Option.toList_some, Option.toList_none, List.cons_append, List.nil_append, Int.toNat_natCast, Int.toNat_zero, z_w_id, z_b_0, z_b_1, z_b_n0, z_b_t, z_b_f, ↓reduceIte, Int.reduceEq, Int.reduceLT, Int.reduceLE, Int.reduceToNat, not_true_eq_false, not_false_eq_true, false_and, and_false, true_and, and_true, false_or, or_false, true_or, or_true, h2, k, e]) | split)
    all_goals rfl
