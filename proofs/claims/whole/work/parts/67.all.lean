/-! all that is kept, both sides -/
theorem e_F_row {i : Int} {A : Nat → Nat → Int} {ρ ρ' : Nat → Int} {l : List Nat} (hF : e_F i A ρ l) (h : ∀ j, j < 1500 → ρ' j = ρ j) : e_F i A ρ' l := by
  obtain ⟨hI, ⟨⟨w0, w1, w2, w3, w4, w6, w7⟩, wg, wc, wj⟩, ⟨y5, yj, yc⟩, hS⟩ := hF
  have g1 := hI.1.1
  have g2 := hI.1.2.1
  have c3 := hI.2.2.2.2.1.2.2.2.2
  refine ⟨hI, ⟨⟨by rw [h 0 (by omega)]; exact w0, by rw [h 1 (by omega)]; exact w1, by rw [h 2 (by omega)]; exact w2, by rw [h 3 (by omega)]; exact w3, by rw [h 4 (by omega)]; exact w4, by rw [h 6 (by omega)]; exact w6, by rw [h 7 (by omega)]; exact w7⟩, fun g hg => ?_, fun c hc => ?_, fun j hj => ?_⟩, ⟨by rw [h 5 (by omega)]; exact y5, fun j hj => ?_, fun c hc => ?_⟩, hS⟩
  · have w := wg g hg
    simp (disch := omega) only [h]
    exact w
  · have w := wc c hc
    simp (disch := omega) only [h]
    exact w
  · have w := wj j hj
    simp (disch := omega) only [h]
    exact w
  · have w := yj j hj
    simp (disch := omega) only [h]
    exact w
  · have w := yc c hc
    simp (disch := omega) only [h]
    exact w
/-- a state and its row -/
def w_S (A : Nat → Nat → Int) (ρ : Nat → Int) : Prop := (∃ l, e_F 0 A ρ l) ∧ A 0 3 ≤ 20000
theorem w_S_cell {A A2 : Nat → Nat → Int} {ρ ρ2 : Nat → Int} (h : w_S A ρ) (hA : ∀ o j, a_cell o j → A2 o j = A o j) (hρ : ∀ j, j < 1500 → ρ2 j = ρ j) : w_S A2 ρ2 := by
  obtain ⟨⟨l, hF⟩, ht⟩ := h
  exact ⟨⟨l, e_F_row (e_F_cell hF hA) hρ⟩, by rw [hA 0 3 (by unfold a_cell; omega)]; exact ht⟩
theorem a_cell_lt {o j : Nat} (h : a_cell o j) : o < 21 := by unfold a_cell at h; omega
/-- the rooms of the history -/
def w_pm (M : z_M) : Prop := (∀ i, i < 4 → 3 ≤ M 0 23 i ∧ M 0 23 i ≤ 6) ∧ ∀ i j, i < 4 → j < 4 → M 0 23 i = M 0 23 j → i = j
def w_H (M : z_M) : Prop := ∃ n : Nat, n ≤ 4 ∧ M 0 22 0 = (n : Int) ∧ M 0 30 4 = (n : Int) ∧ w_pm M ∧ ∀ p, p < n → w_S (M (z_rg (M 0 23 p))) (fun j => M 0 32 (1500 * p + j))
/-- pushed on the class's side alone -/
def w_Hp (M : z_M) (ρ0 : Nat → Int) : Prop := ∃ n : Nat, n < 4 ∧ M 0 22 0 = (n : Int) + 1 ∧ w_pm M ∧ w_S (M (z_rg (M 0 23 n))) ρ0 ∧
  ((M 0 30 4 = (n : Int) ∧ ∀ p, p < n → w_S (M (z_rg (M 0 23 p))) (fun j => M 0 32 (1500 * p + j))) ∨ (n = 3 ∧ M 0 30 4 = 4 ∧ ∀ p, p < 3 → w_S (M (z_rg (M 0 23 p))) (fun j => M 0 32 (1500 * (p + 1) + j))))
def w_A (M : z_M) : Prop := (M 0 21 2 = 0 ∨ M 0 21 2 = 1) ∧ M 0 30 5 = M 0 21 2 ∧ (M 0 21 2 = 1 → w_S (M 1) (M 0 33))
def w_T (M : z_M) : Prop := ∃ n : Nat, n ≤ 60 ∧ M 0 24 0 = (n : Int) ∧ M 0 30 7 = (n : Int) ∧ ∀ i, i < n → M 0 35 i = M 0 25 i ∧ 0 ≤ M 0 25 i ∧ M 0 25 i ≤ 65535
def w_R (M : z_M) : Prop := w_S (M 0) (M 0 31) ∧ w_H M ∧ w_A M ∧ w_T M
/-- what the parts of it look at -/
def w_eH (M M' : z_M) : Prop := (∀ (q : Fin 7) (o j : Nat), 3 ≤ q.val → o < 21 → M' q o j = M q o j) ∧ (∀ j, M' 0 23 j = M 0 23 j) ∧ (∀ j, M' 0 32 j = M 0 32 j) ∧ M' 0 22 0 = M 0 22 0 ∧ M' 0 30 4 = M 0 30 4
def w_eA (M M' : z_M) : Prop := (∀ o j : Nat, o < 21 → M' 1 o j = M 1 o j) ∧ (∀ j, M' 0 33 j = M 0 33 j) ∧ M' 0 21 2 = M 0 21 2 ∧ M' 0 30 5 = M 0 30 5
def w_eT (M M' : z_M) : Prop := (∀ j, M' 0 25 j = M 0 25 j) ∧ (∀ j, M' 0 35 j = M 0 35 j) ∧ M' 0 24 0 = M 0 24 0 ∧ M' 0 30 7 = M 0 30 7
theorem z_rg_36 {x : Int} (h : 3 ≤ x ∧ x ≤ 6) : ((z_rg x).val : Int) = x ∧ 3 ≤ (z_rg x).val := by
  unfold z_rg
  dsimp only
  omega
theorem w_pm_of {M M' : z_M} (h : w_pm M) (e : ∀ j, M' 0 23 j = M 0 23 j) : w_pm M' := by
  unfold w_pm at *
  simp only [e]
  exact h
theorem w_H_of {M M' : z_M} (h : w_H M) (e : w_eH M M') : w_H M' := by
  obtain ⟨n, h1, h2, h3, h4, h5⟩ := h
  obtain ⟨e1, e2, e3, e4, e5⟩ := e
  refine ⟨n, h1, e4.trans h2, e5.trans h3, w_pm_of h4 e2, fun p hp => ?_⟩
  rw [e2]
  exact w_S_cell (h5 p hp) (fun o j c => e1 _ o j (z_rg_36 (h4.1 p (by omega))).2 (a_cell_lt c)) (fun j _ => e3 _)
theorem w_Hp_of {M M' : z_M} {ρ0 : Nat → Int} (h : w_Hp M ρ0) (e : w_eH M M') : w_Hp M' ρ0 := by
  obtain ⟨n, h1, h2, h4, h5, h6⟩ := h
  obtain ⟨e1, e2, e3, e4, e5⟩ := e
  refine ⟨n, h1, e4.trans h2, w_pm_of h4 e2, ?_, ?_⟩
  · rw [e2]
    exact w_S_cell h5 (fun o j c => e1 _ o j (z_rg_36 (h4.1 n (by omega))).2 (a_cell_lt c)) (fun j _ => rfl)
  · rw [e5]
    rcases h6 with ⟨a, b⟩ | ⟨a, b, d⟩
    · refine Or.inl ⟨a, fun p hp => ?_⟩
      rw [e2]
      exact w_S_cell (b p hp) (fun o j c => e1 _ o j (z_rg_36 (h4.1 p (by omega))).2 (a_cell_lt c)) (fun j _ => e3 _)
    · refine Or.inr ⟨a, b, fun p hp => ?_⟩
      rw [e2]
      exact w_S_cell (d p hp) (fun o j c => e1 _ o j (z_rg_36 (h4.1 p (by omega))).2 (a_cell_lt c)) (fun j _ => e3 _)
theorem w_A_of {M M' : z_M} (h : w_A M) (e : w_eA M M') : w_A M' := by
  obtain ⟨h1, h2, h3⟩ := h
  obtain ⟨e1, e2, e3, e4⟩ := e
  rw [w_A, e3, e4]
  exact ⟨h1, h2, fun q => w_S_cell (h3 q) (fun o j c => e1 o j (a_cell_lt c)) (fun j _ => e2 j)⟩
theorem w_T_of {M M' : z_M} (h : w_T M) (e : w_eT M M') : w_T M' := by
  obtain ⟨n, h1, h2, h3, h4⟩ := h
  obtain ⟨e1, e2, e3, e4⟩ := e
  refine ⟨n, h1, e3.trans h2, e4.trans h3, fun i hi => ?_⟩
  rw [e1, e2]
  exact h4 i hi
theorem m_rec_o {M : z_M} {s : Fin 7} {o j : Nat} (h : o ≠ 32) (h2 : ¬ (o = 30 ∧ j = 4)) : m_rec M s o j = M s o j := by
  unfold m_rec
  split
  · rw [z_up_ne (by omega), z_st_o h, z_up_ne (by omega), z_st_o h]
  · rw [z_up_ne (by omega), z_st_o h]
theorem w_rec {M : z_M} {ρ0 : Nat → Int} (h : w_Hp M ρ0) (h34 : ∀ j, j < 1500 → M 0 34 j = ρ0 j) : w_H (m_rec M) := by
  obtain ⟨n, h1, h2, h4, h5, h6⟩ := h
  have e23 : ∀ j, m_rec M 0 23 j = M 0 23 j := fun j => m_rec_o (by decide) (by omega)
  have ec : ∀ (q : Fin 7) (o j : Nat), a_cell o j → m_rec M q o j = M q o j := fun q o j c => by
    have := a_cell_lt c
    exact m_rec_o (by omega) (by omega)
  refine ⟨n + 1, by omega, ?_, ?_, w_pm_of h4 e23, fun p hp => ?_⟩
  · rw [m_rec_o (by decide) (by omega), h2]; omega
  · unfold m_rec
    rcases h6 with ⟨a, b⟩ | ⟨a, b, d⟩
    · rw [if_neg (by omega), z_up_at, a]; omega
    · rw [if_pos b, z_up_at, a]; rfl
  · rw [e23]
    rcases h6 with ⟨a, b⟩ | ⟨a, b, d⟩
    · have e32 : ∀ j, m_rec M 0 32 j = if 1500 * n ≤ j ∧ j < 1500 * n + 1500 then M 0 34 (j - 1500 * n) else M 0 32 j := fun j => by
        unfold m_rec
        rw [if_neg (by omega), z_up_ne (by omega), a, Int.toNat_natCast]
        unfold z_st
        by_cases q : 1500 * n ≤ j ∧ j < 1500 * n + 1500
        · rw [if_pos q, if_pos ⟨rfl, rfl, q⟩]
        · rw [if_neg q, if_neg (fun y => q y.2.2)]
      by_cases q : p = n
      · subst q
        refine w_S_cell h5 (ec _) (fun j hj => ?_)
        show m_rec M 0 32 _ = _
        rw [e32, if_pos (by omega), show 1500 * p + j - 1500 * p = j by omega]
        exact h34 j hj
      · refine w_S_cell (b p (by omega)) (ec _) (fun j hj => ?_)
        show m_rec M 0 32 _ = _
        rw [e32, if_neg (by omega)]
    · have e32 : ∀ j, j < 6000 → m_rec M 0 32 j = if 4500 ≤ j then M 0 34 (j - 4500) else M 0 32 (j + 1500) := fun j hj => by
        unfold m_rec
        rw [if_pos b, z_up_ne (by omega)]
        by_cases q : 4500 ≤ j
        · rw [if_pos q, z_st_in ⟨q, by omega⟩]
        · rw [if_neg q, z_st_ge (by omega), z_up_ne (by omega), z_st_in ⟨by omega, by omega⟩]
      subst a
      by_cases q : p = 3
      · subst q
        refine w_S_cell h5 (ec _) (fun j hj => ?_)
        show m_rec M 0 32 _ = _
        rw [e32 _ (by omega), if_pos (by omega), show 1500 * 3 + j - 4500 = j by omega]
        exact h34 j hj
      · refine w_S_cell (d p (by omega)) (ec _) (fun j hj => ?_)
        show m_rec M 0 32 _ = M 0 32 _
        rw [e32 _ (by omega), if_neg (by omega)]
        congr 1
        omega
