/-! the model's walk over the classes of a group -/
theorem s_fst_congr : ∀ (l : List Nat) (p q : Nat → Prop) [DecidablePred p] [DecidablePred q], (∀ j ∈ l, (p j ↔ q j)) → s_fst l p = s_fst l q := by
  intro l
  induction l with
  | nil => intro p q _ _ _; rfl
  | cons j l ih =>
    intro p q _ _ h
    have hj := h j List.mem_cons_self
    have ih' := ih p q (fun i hi => h i (List.mem_cons_of_mem _ hi))
    rw [s_fst_cons, s_fst_cons, ih']
    by_cases hp : p j
    · rw [if_pos hp, if_pos (hj.mp hp)]
    · rw [if_neg hp, if_neg (fun q => hp (hj.mpr q))]
theorem m_fo_congr {ρ ρ' : Nat → Int} (h3 : ρ' 3 = ρ 3) (h : ∀ i, 100 ≤ i → ρ' i = ρ i) (c : Int) : m_fo ρ' c = m_fo ρ c := by
  unfold m_fo
  rw [h3]
  refine s_fst_congr _ _ _ fun j _ => ?_
  rw [h _ (by omega), h _ (by omega)]
theorem m_gs_congr {ρ ρ' : Nat → Int} (h3 : ρ' 3 = ρ 3) (h : ∀ i, 100 ≤ i → ρ' i = ρ i) (h2 : ∀ c : Nat, ρ' (20 + 10 * c) = ρ (20 + 10 * c)) (g : Int) : ∀ (L : List Nat) (is : Int), m_gs ρ' g L is = m_gs ρ g L is := by
  intro L
  induction L with
  | nil => intro is; rfl
  | cons c L ih => intro is; rw [m_gs_cons, m_gs_cons, ih, h2, m_fo_congr h3 h]
theorem m_gb_congr {ρ ρ' : Nat → Int} (h3 : ρ' 3 = ρ 3) (h : ∀ i, 100 ≤ i → ρ' i = ρ i) (hC : ρ' 2 = ρ 2) (h2 : ∀ c : Nat, ρ' (20 + 10 * c) = ρ (20 + 10 * c)) (g : Int) : m_gb ρ' g = m_gb ρ g := by
  unfold m_gb
  rw [hC, m_gs_congr h3 h h2]
/-- a row of the model stands for a state, as far as the turns look at it -/
def w_rel (nd gb : Nat → Int) (A : Nat → Nat → Int) (ρ : Nat → Int) : Prop :=
  (ρ 1 = A 1 0 ∧ ρ 2 = A 2 0 ∧ ρ 4 = A 0 4 ∧ 0 ≤ ρ 3 ∧ ρ 3 ≤ 200) ∧
  (∀ g : Nat, (g : Int) < A 1 0 → ρ (8 + 4 * g) = A 4 g ∧ ρ (8 + 4 * g + 1) = A 5 g ∧ ρ (8 + 4 * g + 2) = A 6 g) ∧
  (∀ c : Nat, (c : Int) < A 2 0 → ρ (20 + 10 * c) = A 7 c ∧ ρ (20 + 10 * c + 1) = A 8 c ∧ ρ (20 + 10 * c + 2) = A 9 c) ∧
  (∀ c : Nat, (c : Int) < A 2 0 → (nd c ≠ 0 ↔ 0 ≤ m_fo ρ c) ∧ (0 ≤ m_fo ρ c → m_fo ρ c < 200 ∧ ρ (100 + 7 * (m_fo ρ c).toNat + 1) = nd c)) ∧
  ∀ g : Nat, (g : Int) < A 1 0 → (gb g ≠ 0 ↔ m_gb ρ g ≠ 0)
theorem m_gb_01 (ρ : Nat → Int) (g : Int) : m_gb ρ g = 0 ∨ m_gb ρ g = 1 := m_gs_01 ρ g _ 0 (Or.inl rfl)
/-- cells that the turns change -/
def w_cell (i : Nat) : Prop := i = 4 ∨ (∃ g : Nat, g < 3 ∧ (i = 8 + 4 * g + 1 ∨ i = 8 + 4 * g + 2)) ∨ ∃ c : Nat, c < 8 ∧ i = 20 + 10 * c + 2
def w_fr (ρ ρ' : Nat → Int) : Prop := ∀ i, ¬ w_cell i → ρ' i = ρ i
theorem w_fr_u {ρ ρ' : Nat → Int} (h : w_fr ρ ρ') {i : Nat} {v : Int} (hi : w_cell i) : w_fr ρ (r_u ρ' i v) := by
  intro j hj
  rw [r_u_ne (fun e => hj (by rw [e]; exact hi))]
  exact h j hj
theorem w_fr_facts {ρ ρ' : Nat → Int} (h : w_fr ρ ρ') : ρ' 3 = ρ 3 ∧ (∀ i, 100 ≤ i → ρ' i = ρ i) ∧ ρ' 2 = ρ 2 ∧ ∀ c : Nat, ρ' (20 + 10 * c) = ρ (20 + 10 * c) := by
  refine ⟨h 3 ?_, fun i hi => h i ?_, h 2 ?_, fun c => h _ ?_⟩ <;> (unfold w_cell; rintro (h | ⟨g, h1, h2⟩ | ⟨c', h1, h2⟩) <;> omega)
theorem k_canServe {M : z_M} {nd gb : Nat → Int} {A : Nat → Nat → Int} {ρ : Nat → Int} (h8 : A 2 0 ≤ 8) (hR : w_rel nd gb A ρ) {c : Nat} (hc : (c : Int) < A 2 0) : z_ev 94 [.inr (some (0, 30)), .inl (c : Int)] (z_mr M ρ) = some (some (.inl (z_b (nd c ≠ 0 ∧ nd c ≤ A 9 c))), z_mr M ρ) := by
  obtain ⟨r1, r2, r3, r4, r5⟩ := hR
  have k1 := k_mfirstOf (M := z_mr M ρ) (by rw [z_mr_row]; exact r1.2.2.2) (c : Int)
  rw [z_mr_row] at k1
  obtain ⟨a1, a2⟩ := r4 c hc
  have b := r3 c hc
  have k2 := k_kind (j := c) (by omega) (z_mr M ρ)
  by_cases hz : 0 ≤ m_fo ρ c
  · obtain ⟨k, hk⟩ : ∃ k : Nat, m_fo ρ c = (k : Int) := ⟨(m_fo ρ c).toNat, by omega⟩
    rw [hk] at k1 a2
    have a2' := a2 (by omega)
    rw [Int.toNat_natCast] at a2'
    have k3 := k_its (j := k) (by omega) (z_mr M ρ)
    have hnz := a1.mpr hz
    rw [x94]
    repeat' (first | (exfalso; omega) | (simp (disch := first | omega | assumption | exact z_b_01) only [x94_0, x94_1, x94_4, x94_6, x94_9, x94_10, x94_11, x94_14, x94_15, x94_16, x94_19, x94_20, x94_23, x94_24, x94_27, x94_28, x94_29, x94_30, x94_31, x94_34, x94_35, x94_38, x94_39, x94_40, x94_41, x94_44, x94_45, x94_48, x94_49, Option.bind_some, Option.toList_some, Option.toList_none, List.cons_append, List.nil_append, Int.toNat_natCast, Int.toNat_zero, z_w_id, z_b_0, z_b_1, z_b_n0, z_b_t, z_b_f, ↓reduceIte, Int.reduceEq, Int.reduceLT, Int.reduceLE, Int.reduceToNat, not_true_eq_false, not_false_eq_true, false_and, and_false, true_and, and_true, false_or, or_false, true_or, or_true, k1, k2, k3, z_mr_row, ix_2, ix_1, b.2.2, a2'.2]) | split)
    all_goals (refine z_ri ?_ rfl; unfold z_b; split <;> omega)
  · have hnz : nd c = 0 := Classical.byContradiction fun q => hz (a1.mp q)
    rw [x94]
    repeat' (first | (exfalso; omega) | (simp (disch := first | omega | assumption | exact z_b_01) only [x94_0, x94_1, x94_4, x94_6, x94_9, x94_10, x94_11, x94_14, x94_15, x94_16, x94_19, x94_20, x94_23, x94_24, x94_27, x94_28, x94_29, x94_30, x94_31, x94_34, x94_35, x94_38, x94_39, x94_40, x94_41, x94_44, x94_45, x94_48, x94_49, Option.bind_some, Option.toList_some, Option.toList_none, List.cons_append, List.nil_append, Int.toNat_natCast, Int.toNat_zero, z_w_id, z_b_0, z_b_1, z_b_n0, z_b_t, z_b_f, ↓reduceIte, Int.reduceEq, Int.reduceLT, Int.reduceLE, Int.reduceToNat, not_true_eq_false, not_false_eq_true, false_and, and_false, true_and, and_true, false_or, or_false, true_or, or_true, k1]) | split)
    all_goals (refine z_ri ?_ rfl; unfold z_b; split <;> omega)
theorem k_canServeN (M : z_M) : z_ev 94 [.inr (some (0, 30)), .inl (-5)] M = some (some (.inl 0), M) := by
  rw [x94]
  repeat' (first | (exfalso; omega) | (simp (disch := first | omega | assumption | exact z_b_01) only [x94_0, x94_1, x94_4, x94_6, x94_9, x94_10, x94_11, x94_14, x94_15, x94_16, x94_19, x94_20, x94_23, x94_24, x94_27, x94_28, x94_29, x94_30, x94_31, x94_34, x94_35, x94_38, x94_39, x94_40, x94_41, x94_44, x94_45, x94_48, x94_49, Option.bind_some, Option.toList_some, Option.toList_none, List.cons_append, List.nil_append, Int.toNat_natCast, Int.toNat_zero, z_w_id, z_b_0, z_b_1, z_b_n0, z_b_t, z_b_f, ↓reduceIte, Int.reduceEq, Int.reduceLT, Int.reduceLE, Int.reduceToNat, not_true_eq_false, not_false_eq_true, false_and, and_false, true_and, and_true, false_or, or_false, true_or, or_true]) | split)
theorem v_nx_mod {C w : Int} (h0 : 0 ≤ w) (h1 : w < C) : (w + 1).tmod C = v_nx C w := by
  unfold v_nx
  by_cases h : w + 1 < C
  · rw [if_pos ⟨by omega, h⟩, Int.tmod_eq_emod_of_nonneg (by omega), Int.emod_eq_of_lt (by omega) h]
  · rw [if_neg (fun q => h q.2), show w + 1 = C by omega, Int.tmod_self]
theorem k_classBehind {M : z_M} {nd gb : Nat → Int} {A B : Nat → Nat → Int} {ρ : Nat → Int} (hC : 0 < A 2 0 ∧ A 2 0 ≤ 8) (hR : w_rel nd gb A ρ) {g : Nat} (c0 : Int) : ∀ (n : Nat) (which : Int), r_mc (A 2 0) nd g n which A B → (which = -5 ∨ (0 ≤ which ∧ which < A 2 0)) →
    ∃ (w : Nat) (n' : Nat), (w : Int) < A 2 0 ∧ A 7 w = (g : Int) ∧ n' < n ∧ z_ex 97 2 [some (.inr (some (0, 30))), some (.inl (g : Int)), some (.inl c0), some (.inl which)] [] (z_mr M ρ) = some (some (.inl (w : Int)), z_mr M ρ) ∧
      (nd w ≠ 0 ∧ nd w ≤ A 9 w + A 8 w → B = v_vis nd g w A) ∧ (¬ (nd w ≠ 0 ∧ nd w ≤ A 9 w + A 8 w) → r_mc (A 2 0) nd g n' w (v_vis nd g w A) B) := by
  obtain ⟨r1, r2, r3, r4, r5⟩ := hR
  intro n
  induction n with
  | zero => intro which h; exact absurd h id
  | succ n ih =>
    intro which h hw
    have hin := v_nx_in (C := A 2 0) (which := which) hC.1
    rw [r_mc_succ] at h
    obtain ⟨w, hwn⟩ : ∃ w : Nat, v_nx (A 2 0) which = (w : Int) := ⟨(v_nx (A 2 0) which).toNat, by omega⟩
    rw [hwn] at h hin
    simp only [Int.toNat_natCast] at h
    have b := r3 w hin.2
    have k2 := k_kind (j := w) (by omega) (z_mr M ρ)
    have step : z_ex 97 2 [some (.inr (some (0, 30))), some (.inl (g : Int)), some (.inl c0), some (.inl which)] [] (z_mr M ρ) = if ¬ A 7 w = (g : Int) then z_ex 97 2 [some (.inr (some (0, 30))), some (.inl (g : Int)), some (.inl c0), some (.inl (w : Int))] [] (z_mr M ρ) else some (some (.inl (w : Int)), z_mr M ρ) := by
      rw [x97_2]
      rcases hw with rfl | ⟨h0, h1⟩
      · have : (w : Int) = 0 := by rw [← hwn]; unfold v_nx; rw [if_neg (by omega)]
        obtain rfl : w = 0 := by omega
        simp only [Int.natCast_zero] at k2 ⊢
        repeat' (first | (exfalso; omega) | (simp (disch := first | omega | assumption | exact z_b_01) only [x97_0, x97_1, x97_3, x97_6, x97_7, x97_10, x97_11, x97_12, x97_13, x97_14, x97_17, x97_18, x97_19, x97_20, x97_21, x97_22, x97_25, x97_26, x97_29, x97_30, x97_31, x97_32, x97_33, x97_36, x97_37, Option.bind_some, Option.toList_some, Option.toList_none, List.cons_append, List.nil_append, Int.toNat_natCast, Int.toNat_zero, z_w_id, z_b_0, z_b_1, z_b_n0, z_b_t, z_b_f, ↓reduceIte, Int.reduceEq, Int.reduceLT, Int.reduceLE, Int.reduceToNat, not_true_eq_false, not_false_eq_true, false_and, and_false, true_and, and_true, false_or, or_false, true_or, or_true, k2, z_mr_row, Int.add_zero, b.1]) | split)
        all_goals rfl
      · have em := v_nx_mod h0 h1
        rw [hwn] at em
        repeat' (first | (exfalso; omega) | (simp (disch := first | omega | assumption | exact z_b_01) only [x97_0, x97_1, x97_3, x97_6, x97_7, x97_10, x97_11, x97_12, x97_13, x97_14, x97_17, x97_18, x97_19, x97_20, x97_21, x97_22, x97_25, x97_26, x97_29, x97_30, x97_31, x97_32, x97_33, x97_36, x97_37, Option.bind_some, Option.toList_some, Option.toList_none, List.cons_append, List.nil_append, Int.toNat_natCast, Int.toNat_zero, z_w_id, z_b_0, z_b_1, z_b_n0, z_b_t, z_b_f, ↓reduceIte, Int.reduceEq, Int.reduceLT, Int.reduceLE, Int.reduceToNat, not_true_eq_false, not_false_eq_true, false_and, and_false, true_and, and_true, false_or, or_false, true_or, or_true, k2, z_mr_row, Int.add_zero, b.1, r1.2.1, em]) | split)
        all_goals rfl
    by_cases hg : A 7 w = (g : Int)
    · rw [if_pos hg] at h
      rw [if_neg (fun q => q hg)] at step
      refine ⟨w, n, hin.2, hg, by omega, step, fun hq => ?_, fun hq => ?_⟩
      · rw [if_pos hq] at h; exact h
      · rw [if_neg hq] at h; exact h
    · rw [if_neg hg] at h
      rw [if_pos hg] at step
      obtain ⟨w', n', c1, c2, c3, c4, c5, c6⟩ := ih w h (Or.inr ⟨by omega, hin.2⟩)
      exact ⟨w', n', c1, c2, by omega, by rw [step]; exact c4, c5, c6⟩
