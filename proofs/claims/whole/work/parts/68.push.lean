/-! push, on both sides of the relation -/
theorem a_copy_get {M : z_M} {q : Fin 7} {A B : Nat → Nat → Int} {o j : Nat} (h : a_cell o j) : z_ur M q (a_copy A B) q o j = B o j := by
  rw [z_ur_get (a_cell_lt h)]
  exact a_copy_cell A B o j h
theorem z_up_s {M : z_M} {s s' : Fin 7} {o j o' j' : Nat} {v : Int} (h : s' ≠ s) : z_up M s o j v s' o' j' = M s' o' j' := by unfold z_up; rw [if_neg (fun q => h q.1)]
theorem z_rg_ne6 {x y : Int} (hx : 3 ≤ x ∧ x ≤ 6) (hy : 3 ≤ y ∧ y ≤ 6) (h : x ≠ y) : z_rg x ≠ z_rg y := by
  intro e
  have a := (z_rg_36 hx).1
  have b := (z_rg_36 hy).1
  rw [e] at a
  omega
theorem z_rg_n0 {x : Int} (hx : 3 ≤ x ∧ x ≤ 6) : z_rg x ≠ 0 ∧ z_rg x ≠ 1 ∧ z_rg x ≠ 2 := by
  have a := (z_rg_36 hx).2
  refine ⟨fun e => ?_, fun e => ?_, fun e => ?_⟩ <;> rw [e] at a <;> revert a <;> decide
/-- what push leaves -/
def w_pf (M M' : z_M) : Prop := (∀ (o j : Nat), o ≠ 22 → o ≠ 23 → ¬ (27 ≤ o ∧ o < 30) → M' 0 o j = M 0 o j) ∧ (∀ (o j : Nat), M' 1 o j = M 1 o j) ∧ ∀ (o j : Nat), M' 2 o j = M 2 o j
theorem k_push {M : z_M} (hS : w_S (M 0) (M 0 31)) (hH : w_H M) : ∃ M', z_ev 11 [.inr (some (0, 22)), .inr (some (0, 0))] M = some (none, M') ∧ w_Hp M' (M 0 31) ∧ w_pf M M' := by
  obtain ⟨n, h1, h2, h3, h4, h5⟩ := hH
  by_cases hn : n < 4
  · have hq := h4.1 n hn
    refine ⟨_, k_pushRoom h2 hn (z_rg_n0 hq).1, ⟨n, hn, z_up_at _ _ _ _ _, w_pm_of h4 fun j => ?_, ?_, Or.inl ⟨?_, fun p hp => ?_⟩⟩, fun o j a b _ => ?_, fun o j => ?_, fun o j => ?_⟩
    · rw [z_up_ne (by omega), z_ur_top (by decide)]
    · rw [z_up_ne (by omega), z_ur_top (by decide)]
      refine w_S_cell hS (fun o j c => ?_) (fun _ _ => rfl)
      rw [z_up_ne (by have := a_cell_lt c; omega), a_copy_get c]
    · rw [z_up_ne (by omega), z_ur_top (by decide)]; exact h3
    · rw [z_up_ne (by omega), z_ur_top (by decide)]
      refine w_S_cell (h5 p hp) (fun o j c => ?_) (fun j _ => ?_)
      · rw [z_up_ne (by have := a_cell_lt c; omega), z_ur_ne]
        exact z_rg_ne6 (h4.1 p (by omega)) hq fun e => by have := h4.2 p n (by omega) hn e; omega
      · rw [z_up_ne (by omega), z_ur_top (by decide)]
    · rw [z_up_ne (by omega), z_ur_ne (z_rg_n0 hq).1.symm]
    · rw [z_up_s (by decide), z_ur_ne (z_rg_n0 hq).2.1.symm]
    · rw [z_up_s (by decide), z_ur_ne (z_rg_n0 hq).2.2.symm]
  · obtain rfl : n = 4 := by omega
    have r0 := h4.1 0 (by decide)
    have r1 := h4.1 1 (by decide)
    have r2 := h4.1 2 (by decide)
    have r3 := h4.1 3 (by decide)
    have hd := k_dropOldest (M := M) (by omega)
    rw [(z_rg_36 r0).1, (z_rg_36 r1).1, (z_rg_36 r2).1, (z_rg_36 r3).1] at hd
    generalize hM1 : z_up (z_up (z_up (z_up (z_up M 0 23 0 (M 0 23 1)) 0 23 1 (M 0 23 2)) 0 23 2 (M 0 23 3)) 0 23 3 (M 0 23 0)) 0 22 0 (M 0 22 0 - 1) = M1 at hd
    have e22 : M1 0 22 0 = 3 := by rw [← hM1, z_up_at]; omega
    have e0 : M1 0 23 0 = M 0 23 1 := by rw [← hM1, z_up_ne (by omega), z_up_ne (by omega), z_up_ne (by omega), z_up_ne (by omega), z_up_at]
    have e1 : M1 0 23 1 = M 0 23 2 := by rw [← hM1, z_up_ne (by omega), z_up_ne (by omega), z_up_ne (by omega), z_up_at]
    have e2 : M1 0 23 2 = M 0 23 3 := by rw [← hM1, z_up_ne (by omega), z_up_ne (by omega), z_up_at]
    have e3 : M1 0 23 3 = M 0 23 0 := by rw [← hM1, z_up_ne (by omega), z_up_at]
    have eo : ∀ (q : Fin 7) (o j : Nat), o ≠ 22 → o ≠ 23 → M1 q o j = M q o j := fun q o j a b => by
      rw [← hM1, z_up_ne (by omega), z_up_ne (by omega), z_up_ne (by omega), z_up_ne (by omega), z_up_ne (by omega)]
    have pm : w_pm M1 := by
      have d01 := h4.2 0 1 (by decide) (by decide)
      have d02 := h4.2 0 2 (by decide) (by decide)
      have d03 := h4.2 0 3 (by decide) (by decide)
      have d12 := h4.2 1 2 (by decide) (by decide)
      have d13 := h4.2 1 3 (by decide) (by decide)
      have d23 := h4.2 2 3 (by decide) (by decide)
      refine ⟨fun i hi => ?_, fun i j hi hj => ?_⟩
      · rcases (by omega : i = 0 ∨ i = 1 ∨ i = 2 ∨ i = 3) with rfl | rfl | rfl | rfl
        · rw [e0]; exact r1
        · rw [e1]; exact r2
        · rw [e2]; exact r3
        · rw [e3]; exact r0
      · rcases (by omega : i = 0 ∨ i = 1 ∨ i = 2 ∨ i = 3) with rfl | rfl | rfl | rfl <;> rcases (by omega : j = 0 ∨ j = 1 ∨ j = 2 ∨ j = 3) with rfl | rfl | rfl | rfl <;> intro e <;> omega
    have ep : ∀ p, p < 3 → M1 0 23 p = M 0 23 (p + 1) := fun p hp => by
      rcases (by omega : p = 0 ∨ p = 1 ∨ p = 2) with rfl | rfl | rfl
      · exact e0
      · exact e1
      · exact e2
    have hq := pm.1 3 (by decide)
    refine ⟨_, k_pushFull (M1 := M1) h2 hd e22 (z_rg_n0 hq).1, ⟨3, by decide, z_up_at _ _ _ _ _, w_pm_of pm fun j => ?_, ?_, Or.inr ⟨rfl, ?_, fun p hp => ?_⟩⟩, fun o j a b _ => ?_, fun o j => ?_, fun o j => ?_⟩
    · rw [z_up_ne (by omega), z_ur_top (by decide)]
    · rw [z_up_ne (by omega), z_ur_top (by decide)]
      refine w_S_cell hS (fun o j c => ?_) (fun _ _ => rfl)
      have := a_cell_lt c
      rw [z_up_ne (by omega), a_copy_get c, eo _ _ _ (by omega) (by omega)]
    · rw [z_up_ne (by omega), z_ur_top (by decide), eo _ _ _ (by decide) (by decide)]; exact h3
    · rw [z_up_ne (by omega), z_ur_top (by decide), ep p hp]
      refine w_S_cell (h5 (p + 1) (by omega)) (fun o j c => ?_) (fun j _ => ?_)
      · have := a_cell_lt c
        rw [z_up_ne (by omega), z_ur_ne, eo _ _ _ (by omega) (by omega)]
        rw [e3]
        exact z_rg_ne6 (h4.1 (p + 1) (by omega)) r0 fun e => by have := h4.2 (p + 1) 0 (by omega) (by omega) e; omega
      · rw [z_up_ne (by omega), z_ur_top (by decide), eo _ _ _ (by decide) (by decide)]
    · rw [z_up_ne (by omega), z_ur_ne (z_rg_n0 hq).1.symm, eo _ _ _ a b]
    · rw [z_up_s (by decide), z_ur_ne (z_rg_n0 hq).2.1.symm, ← hM1, z_up_s (by decide), z_up_s (by decide), z_up_s (by decide), z_up_s (by decide), z_up_s (by decide)]
    · rw [z_up_s (by decide), z_ur_ne (z_rg_n0 hq).2.2.symm, ← hM1, z_up_s (by decide), z_up_s (by decide), z_up_s (by decide), z_up_s (by decide), z_up_s (by decide)]
theorem k_push2 {M : z_M} (hR : w_R M) : ∃ M', z_ev 11 [.inr (some (0, 22)), .inr (some (0, 0))] M = some (none, z_ur M' 0 (M 0)) ∧ w_Hp M' (M 0 31) ∧ w_pf M M' := by
  obtain ⟨M', a, b, d⟩ := k_push hR.1 hR.2.1
  refine ⟨M', ?_, b, d⟩
  have e : z_ur M' 0 (M 0) = M' := by
    funext s o j
    by_cases q : s = 0 ∧ o < 21
    · rw [q.1, z_ur_get q.2, d.1 o j (by omega) (by omega) (by omega)]
    · unfold z_ur
      rw [if_neg q]
  rw [e]; exact a
/-- what of a memory counts -/
theorem w_R_of {M M' : z_M} (hR : w_R M) (h1 : ∀ (s : Fin 7) (o j : Nat), s ≠ 2 → o < 21 → M' s o j = M s o j) (h2 : ∀ o j : Nat, 21 ≤ o → ¬ (26 ≤ o ∧ o < 30) → o ≠ 34 → ¬ (o = 30 ∧ j = 8) → (o = 31 → j < 1500) → M' 0 o j = M 0 o j) : w_R M' := by
  obtain ⟨r1, r2, r3, r4⟩ := hR
  refine ⟨w_S_cell r1 (fun o j c => h1 0 o j (by decide) (a_cell_lt c)) (fun j hj => h2 _ _ (by decide) (by omega) (by decide) (by omega) (fun _ => hj)), w_H_of r2 ⟨fun q o j a b => h1 q o j (fun y => by rw [y] at a; revert a; decide) b, fun j => h2 _ _ (by decide) (by omega) (by decide) (by omega) (by omega), fun j => h2 _ _ (by decide) (by omega) (by decide) (by omega) (by omega), h2 _ _ (by decide) (by omega) (by decide) (by omega) (by omega), h2 _ _ (by decide) (by omega) (by decide) (by omega) (by omega)⟩, w_A_of r3 ⟨fun o j a => h1 1 o j (by decide) a, fun j => h2 _ _ (by decide) (by omega) (by decide) (by omega) (by omega), h2 _ _ (by decide) (by omega) (by decide) (by omega) (by omega), h2 _ _ (by decide) (by omega) (by decide) (by omega) (by omega)⟩, w_T_of r4 ⟨fun j => h2 _ _ (by decide) (by omega) (by decide) (by omega) (by omega), fun j => h2 _ _ (by decide) (by omega) (by decide) (by omega) (by omega), h2 _ _ (by decide) (by omega) (by decide) (by omega) (by omega), h2 _ _ (by decide) (by omega) (by decide) (by omega) (by omega)⟩⟩
/-- an act, whatever it does to the state: what is kept; Mr is the memory as the model's record finds it -/
theorem w_act {M M' Mr Mz : z_M} (hR : w_R M) (hp : w_Hp M' (M 0 31)) (hf : w_pf M M') (h1 : ∀ (s : Fin 7) (o j : Nat), s ≠ 0 → s ≠ 2 → o < 21 → Mr s o j = M' s o j) (h2 : ∀ o j : Nat, 21 ≤ o → ¬ (26 ≤ o ∧ o < 30) → o ≠ 34 → ¬ (o = 30 ∧ j = 8) → o ≠ 31 → Mr 0 o j = M' 0 o j) (h34 : ∀ j, j < 1500 → Mr 0 34 j = M 0 31 j)
    (hz1 : ∀ (s : Fin 7) (o j : Nat), s ≠ 0 → s ≠ 2 → o < 21 → Mz s o j = m_rec Mr s o j) (hz2 : ∀ o j : Nat, 21 ≤ o → ¬ (26 ≤ o ∧ o < 30) → o ≠ 34 → ¬ (o = 30 ∧ j = 8) → o ≠ 31 → Mz 0 o j = m_rec Mr 0 o j) (hS : w_S (Mz 0) (Mz 0 31)) : w_R Mz := by
  obtain ⟨r1, r2, r3, r4⟩ := hR
  have e30 : Mr 0 30 4 = M' 0 30 4 := h2 _ _ (by decide) (by omega) (by decide) (by omega) (by decide)
  have w := w_rec (w_Hp_of hp ⟨fun q o j a b => h1 q o j (fun y => by rw [y] at a; revert a; decide) (fun y => by rw [y] at a; revert a; decide) b, fun j => h2 _ _ (by decide) (by omega) (by decide) (by omega) (by decide), fun j => h2 _ _ (by decide) (by omega) (by decide) (by omega) (by decide), h2 _ _ (by decide) (by omega) (by decide) (by omega) (by decide), e30⟩) h34
  have e : ∀ o j : Nat, o = 21 ∨ o = 24 ∨ o = 25 ∨ o = 33 ∨ o = 35 ∨ (o = 30 ∧ (j = 5 ∨ j = 7)) → Mz 0 o j = M 0 o j := fun o j q => by
    rw [hz2 o j (by omega) (by omega) (by omega) (by omega) (by omega), m_rec_o (by omega) (by omega), h2 o j (by omega) (by omega) (by omega) (by omega) (by omega), hf.1 o j (by omega) (by omega) (by omega)]
  refine ⟨hS, w_H_of w ⟨fun q o j a b => hz1 q o j (fun y => by rw [y] at a; revert a; decide) (fun y => by rw [y] at a; revert a; decide) b, fun j => hz2 _ _ (by decide) (by omega) (by decide) (by omega) (by decide), fun j => hz2 _ _ (by decide) (by omega) (by decide) (by omega) (by decide), hz2 _ _ (by decide) (by omega) (by decide) (by omega) (by decide), hz2 _ _ (by decide) (by omega) (by decide) (by omega) (by decide)⟩, w_A_of r3 ⟨fun o j a => ?_, fun j => e _ _ (by omega), e _ _ (by omega), e _ _ (by omega)⟩, w_T_of r4 ⟨fun j => e _ _ (by omega), fun j => e _ _ (by omega), e _ _ (by omega), e _ _ (by omega)⟩⟩
  rw [hz1 1 o j (by decide) (by decide) a, m_rec_o (by omega) (by omega), h1 1 o j (by decide) (by decide) a, hf.2.1 o j]
/-- the model's begin, on a row -/
def m_bg (M : z_M) (ρ : Nat → Int) : z_M := m_rec (z_st (z_mr M ρ) 34 0 1500 ρ)
theorem k_mbg {M : z_M} {ρ : Nat → Int} (h : 0 ≤ M 0 30 4 ∧ M 0 30 4 ≤ 4) : z_ev 91 [.inr (some (0, 30))] (z_mr M ρ) = some (none, z_mr (m_bg M ρ) ρ) := by
  have k := k_mbegin (M := z_mr M ρ) (by rw [z_mr_o (by decide)]; exact h)
  rw [z_mr_row] at k
  rw [k]
  have e : m_bg M ρ 0 31 = ρ := by
    funext j
    unfold m_bg
    rw [m_rec_o (by decide) (by omega), z_st_o (by decide), z_mr_row]
  have e2 : z_mr (m_bg M ρ) ρ = m_bg M ρ := by
    have k2 := z_mr_self (m_bg M ρ)
    rw [e] at k2
    exact k2
  rw [e2]; rfl
theorem w_R30 {M : z_M} (hR : w_R M) : 0 ≤ M 0 30 4 ∧ M 0 30 4 ≤ 4 := by
  obtain ⟨n, a, -, b, -⟩ := hR.2.1
  omega
theorem w_done {M M' : z_M} {A' : Nat → Nat → Int} {ρ' : Nat → Int} (hR : w_R M) (hp : w_Hp M' (M 0 31)) (hf : w_pf M M') (hS : w_S A' ρ') : w_R (z_mr (m_bg (z_ur M' 0 A') (M 0 31)) ρ') := by
  refine w_act (Mr := z_st (z_mr (z_ur M' 0 A') (M 0 31)) 34 0 1500 (M 0 31)) hR hp hf (fun s o j a b d => ?_) (fun o j a b d e f => ?_) (fun j hj => ?_) (fun s o j a b d => ?_) (fun o j a b d e f => ?_) ?_
  · rw [z_st_o (by omega), z_mr_o (by omega), z_ur_ne a]
  · rw [z_st_o d, z_mr_o f, z_ur_top a]
  · rw [z_st_in ⟨by omega, hj⟩]
  · rw [z_mr_o (by omega)]; rfl
  · rw [z_mr_o f]; rfl
  · rw [z_mr_row]
    refine w_S_cell hS (fun o j c => ?_) (fun _ _ => rfl)
    have := a_cell_lt c
    rw [z_mr_o (by omega), m_bg, m_rec_o (by omega) (by omega), z_st_o (by omega), z_mr_o (by omega), z_ur_get this]
