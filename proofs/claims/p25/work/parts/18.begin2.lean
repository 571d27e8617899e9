/-! begin, whole; what else Classes do -/
def a_e20 (A B : Nat → Nat → Int) : Prop := ∀ o i, o ≠ 20 → A o i = B o i
theorem a_e20_u {A B : Nat → Nat → Int} (h : a_e20 A B) (o j : Nat) (v : Int) : a_e20 (a_u A o j v) (a_u B o j v) := by
  intro o' i ho
  unfold a_u
  split
  · rfl
  · exact h o' i ho
theorem c_WL_congr {A A' : Nat → Nat → Int} {l : List Nat} (h : c_WL A l) (h1 : ∀ j, A' 20 j = A 20 j) (h2 : A' 3 5 = A 3 5) (h3 : A' 3 0 = A 3 0) : c_WL A' l := by
  unfold c_WL at *
  simp only [h1, h2, h3]
  exact h
theorem i_G_congr {A A' : Nat → Nat → Int} (h : i_G A) (h1 : A' 1 0 = A 1 0) (h2 : A' 2 0 = A 2 0) (h3 : A' 0 3 = A 0 3) : i_G A' := by
  unfold i_G at *
  rw [h1, h2, h3]
  exact h
theorem i_J_congr {A A' : Nat → Nat → Int} (h : i_J A) (h1 : A' 3 0 = A 3 0) (h2 : A' 2 0 = A 2 0) (h3 : A' 0 3 = A 0 3) (h4 : ∀ j, A' 16 j = A 16 j) (h5 : ∀ j, A' 17 j = A 17 j) (h6 : ∀ j, A' 18 j = A 18 j) (h7 : ∀ j : Nat, (j : Int) < A 3 0 → -5 ≤ A' 19 j ∧ A' 19 j ≤ 30000) : i_J A' := by
  intro j hj
  rw [h1] at hj
  rw [h2, h3, h4, h5, h6]
  have := h j hj
  exact ⟨this.1, this.2.1, this.2.2.1, h7 j hj⟩
/-- what a state's classes and groups are -/
def i_C (A : Nat → Nat → Int) : Prop := ∀ c : Nat, (c : Int) < A 2 0 → (0 ≤ A 7 c ∧ A 7 c < A 1 0) ∧ (1 ≤ A 8 c ∧ A 8 c ≤ 200) ∧ (-20000 ≤ A 9 c ∧ A 9 c ≤ 300) ∧ (10 ≤ A 10 c ∧ A 10 c ≤ 500) ∧ (0 ≤ A 11 c ∧ A 11 c ≤ 20) ∧ (0 ≤ A 12 c ∧ A 12 c ≤ A 10 c) ∧ (0 ≤ A 13 c ∧ A 13 c ≤ 2000) ∧ (0 ≤ A 14 c ∧ A 14 c ≤ 30000) ∧ (0 ≤ A 15 c ∧ A 15 c ≤ 30000)
def i_K (A : Nat → Nat → Int) : Prop := ∀ g : Nat, (g : Int) < A 1 0 → (1 ≤ A 4 g ∧ A 4 g ≤ 200) ∧ (-20000 ≤ A 5 g ∧ A 5 g ≤ 300) ∧ (-5 ≤ A 6 g ∧ A 6 g < A 2 0)
theorem a_beg0_o (A : Nat → Nat → Int) (j : Nat) {o i : Nat} (h : ¬ (o = 0 ∧ i = 8)) : a_beg0 A j o i = A o i := by
  unfold a_beg0
  split
  · unfold a_u; rw [if_neg h]
  · rfl
set_option maxHeartbeats 4000000 in
theorem k_begin {s : Fin 7} {M : z_M} {A : Nat → Nat → Int} {l : List Nat} (hG : i_G A) (hJ : i_J A) (hC : i_C A) (hK : i_K A) (hW : c_WL A l) {j : Nat} (hj : j ∈ l) (h19 : A 19 j = -5) (h8 : 0 ≤ A 0 8 ∧ A 0 8 ≤ 30000) :
    ∃ A', z_ev 28 [.inr (some (s, 0)), .inl (j : Int)] (z_ur M s A) = some (none, z_ur M s A') ∧ c_WL A' (l.filter (q_ne j)) ∧ a_e20 A' (a_beg A (l.filter (q_ne j)) j) := by
  have hjJ := hW.2.2.2.1 j hj
  have h200 := hW.2.2.2.2.1
  have h3 := hJ j hjJ
  obtain ⟨c, hc⟩ : ∃ c : Nat, A 16 j = (c : Int) := ⟨(A 16 j).toNat, by omega⟩
  have h4 := hC c (by omega)
  obtain ⟨g, hg⟩ : ∃ g : Nat, A 7 c = (g : Int) := ⟨(A 7 c).toNat, by omega⟩
  have h5 := hK g (by omega)
  have h6 := hG.1
  have h7 := hG.2
  have hgr : a_gr A j = (g : Int) := by unfold a_gr; rw [hc, Int.toNat_natCast, hg]
  have hW0 : c_WL (a_beg0 A j) l := c_WL_congr hW (fun i => a_beg0_o A j (by omega)) (a_beg0_o A j (by omega)) (a_beg0_o A j (by omega))
  obtain ⟨A1, e1, hW1, h1⟩ := k_leave (s := s) (M := M) hW0 (j : Int)
  generalize hl' : l.filter (q_ne (j : Int)) = l' at e1 hW1 ⊢
  have hA1 : ∀ o i, o ≠ 20 → ¬ (o = 3 ∧ i = 5) → ¬ (o = 0 ∧ i = 8) → A1 o i = A o i := fun o i a b d => by rw [h1 o i a b, a_beg0_o A j d]
  have hb0 : a_e20 A1 (a_u (a_beg0 A j) 3 5 (l'.length : Int)) := by
    intro o i ho
    by_cases q : o = 3 ∧ i = 5
    · rw [q.1, q.2, a_u_same]; exact hW1.1
    · rw [h1 o i ho q]; unfold a_u; rw [if_neg q]
  -- the steps
  generalize hA2 : a_u (a_u (a_u A1 19 j (A 0 3)) 0 5 (j : Int)) 0 6 (A 17 j) = A2
  generalize hA3 : a_u A2 14 c (if A 14 c < A 0 3 - A 18 j then A 0 3 - A 18 j else A 14 c) = A3
  have hA2' : ∀ o i, o ≠ 20 → o ≠ 19 → o ≠ 0 → ¬ (o = 3 ∧ i = 5) → A2 o i = A o i := fun o i a b d e => by
    rw [← hA2, a_u_o d, a_u_o d, a_u_o b]; exact hA1 o i a e (fun q => d q.1)
  have hA203 : A2 0 3 = A 0 3 := by rw [← hA2, a_u_j (by decide), a_u_j (by decide), a_u_o (by decide)]; exact hA1 0 3 (by decide) (by decide) (by decide)
  have hA219 : ∀ i : Nat, A2 19 i = if i = j then A 0 3 else A 19 i := fun i => by
    rw [← hA2, a_u_o (by decide), a_u_o (by decide), a_u_at]
    split
    · rfl
    · exact hA1 19 i (by decide) (by omega) (by omega)
  have hA206 : A2 0 6 = A 17 j := by rw [← hA2, a_u_same]
  have hA3' : ∀ o i, o ≠ 14 → A3 o i = A2 o i := fun o i a => by rw [← hA3, a_u_o a]
  have hW2 : c_WL A2 l' := c_WL_congr hW1 (fun i => by rw [← hA2, a_u_o (by decide), a_u_o (by decide), a_u_o (by decide)]) (by rw [← hA2, a_u_o (by decide), a_u_o (by decide), a_u_o (by decide)]) (by rw [← hA2, a_u_o (by decide), a_u_o (by decide), a_u_o (by decide)])
  have hW3 : c_WL A3 l' := c_WL_congr hW2 (fun i => hA3' _ _ (by decide)) (hA3' _ _ (by decide)) (hA3' _ _ (by decide))
  have k4 := k_noteWait (s := s) (M := M) (A := A2) (c := c) (by rw [hA2' 2 0 (by decide) (by decide) (by decide) (by decide)]; omega) (by rw [hA2' 2 0 (by decide) (by decide) (by decide) (by decide)]; omega) (A 0 3 - A 18 j)
  rw [hA2' 14 c (by decide) (by decide) (by decide) (by omega), hA3] at k4
  have e16 : ∀ i, A3 16 i = A 16 i := fun i => by rw [hA3' _ _ (by decide), hA2' _ _ (by decide) (by decide) (by decide) (by omega)]
  have e7 : ∀ i, A3 7 i = A 7 i := fun i => by rw [hA3' _ _ (by decide), hA2' _ _ (by decide) (by decide) (by decide) (by omega)]
  have k5 := k_payClass (s := s) (M := M) (A := A3) hW3 (c := c) (by rw [hA3' _ _ (by decide), hA2' 2 0 (by decide) (by decide) (by decide) (by decide)]; omega) (by rw [hA3' _ _ (by decide), hA2' 2 0 (by decide) (by decide) (by decide) (by decide)]; omega) (by rw [hA3' _ _ (by decide), hA2' _ _ (by decide) (by decide) (by decide) (by omega)]; omega) (z := A 17 j) (by omega)
  rw [hA3' 9 c (by decide), hA2' 9 c (by decide) (by decide) (by decide) (by omega)] at k5
  simp only [e16] at k5
  generalize hA4 : a_u A3 9 c (if 0 < s_sum l' (fun i => if A 16 i = (c : Int) then 1 else 0) then A 9 c - A 17 j else 0) = A4 at k5
  have hA4' : ∀ o i, o ≠ 9 → A4 o i = A3 o i := fun o i a => by rw [← hA4, a_u_o a]
  have hW4 : c_WL A4 l' := c_WL_congr hW3 (fun i => hA4' _ _ (by decide)) (hA4' _ _ (by decide)) (hA4' _ _ (by decide))
  have f : ∀ o i, o ≠ 20 → o ≠ 19 → o ≠ 0 → o ≠ 14 → o ≠ 9 → ¬ (o = 3 ∧ i = 5) → A4 o i = A o i := fun o i a1 a2 a3 a4 a5 a6 => by rw [hA4' o i a5, hA3' o i a4, hA2' o i a1 a2 a3 a6]
  have f03 : A4 0 3 = A 0 3 := by rw [hA4' _ _ (by decide), hA3' _ _ (by decide), hA203]
  have f06 : A4 0 6 = A 17 j := by rw [hA4' _ _ (by decide), hA3' _ _ (by decide), hA206]
  have hG4 : i_G A4 := i_G_congr hG (f _ _ (by decide) (by decide) (by decide) (by decide) (by decide) (by decide)) (f _ _ (by decide) (by decide) (by decide) (by decide) (by decide) (by decide)) f03
  have hJ4 : i_J A4 := i_J_congr hJ (f _ _ (by decide) (by decide) (by decide) (by decide) (by decide) (by decide)) (f _ _ (by decide) (by decide) (by decide) (by decide) (by decide) (by decide)) f03 (fun i => f _ _ (by decide) (by decide) (by decide) (by decide) (by decide) (by omega)) (fun i => f _ _ (by decide) (by decide) (by decide) (by decide) (by decide) (by omega)) (fun i => f _ _ (by decide) (by decide) (by decide) (by decide) (by decide) (by omega)) (fun i hi => by
      rw [hA4' _ _ (by decide), hA3' _ _ (by decide), hA219]
      have := (hJ i hi).2.2.2
      split <;> omega)
  have e164 : ∀ i, A4 16 i = A 16 i := fun i => f _ _ (by decide) (by decide) (by decide) (by decide) (by decide) (by omega)
  have e74 : ∀ i, A4 7 i = A 7 i := fun i => f _ _ (by decide) (by decide) (by decide) (by decide) (by decide) (by omega)
  have k6 := k_groupFor (i_G_ur (M := M) (s := s) hG4) (i_J_ur (M := M) (s := s) hJ4) (j := j) (by rw [z_ur_get (by decide), f 3 0 (by decide) (by decide) (by decide) (by decide) (by decide) (by decide)]; omega) (by rw [z_ur_get (by decide), f 3 0 (by decide) (by decide) (by decide) (by decide) (by decide) (by decide)]; omega)
  simp (disch := omega) only [a_gr, z_ur_get, e164, e74, hc, hg, Int.toNat_natCast] at k6
  have k7 := k_payGroup (s := s) (M := M) hG4 hJ4 hW4 (g := g) (by rw [f 1 0 (by decide) (by decide) (by decide) (by decide) (by decide) (by decide)]; omega) (by rw [f 5 g (by decide) (by decide) (by decide) (by decide) (by decide) (by omega)]; omega) (z := A 17 j) (by omega)
  rw [f 5 g (by decide) (by decide) (by decide) (by decide) (by decide) (by omega)] at k7
  simp only [a_gr, e164, e74] at k7
  have k2 := k_isOld (i_G_ur (M := M) (s := s) hG) (i_J_ur (M := M) (s := s) hJ) (j := j) (by rw [z_ur_get (by decide)]; exact h200) (by rw [z_ur_get (by decide)]; exact hjJ)
  simp (disch := omega) only [a_old, z_ur_get] at k2
  refine ⟨a_u A4 5 g (if 0 < s_sum l' (fun i => if A 7 (A 16 i).toNat = (g : Int) then 1 else 0) then A 5 g - A 17 j else 0), ?_, c_WL_congr hW4 (fun i => a_u_o (by decide)) (a_u_o (by decide)) (a_u_o (by decide)), ?_⟩
  · have r1 : A2 16 j = (c : Int) := by rw [hA2' 16 j (by decide) (by decide) (by decide) (by omega)]; exact hc
    have r2 : A2 18 j = A 18 j := hA2' 18 j (by decide) (by decide) (by decide) (by omega)
    have r3 : A3 16 j = (c : Int) := by rw [hA3' _ _ (by decide)]; exact r1
    have r4 : A3 0 6 = A 17 j := by rw [hA3' _ _ (by decide)]; exact hA206
    generalize (if 0 < s_sum l' (fun i => if A 7 (A 16 i).toNat = (g : Int) then 1 else 0) then A 5 g - A 17 j else 0) = V at k7 ⊢
    rw [x28]
    by_cases ho : a_old A j
    · rw [z_b_t ho] at k2
      have e0 : a_beg0 A j = a_u A 0 8 (A 0 8 + 1) := by unfold a_beg0; rw [if_pos ho]
      rw [e0] at e1
      repeat' (first | (exfalso; omega) | (simp (disch := first | omega | assumption | exact z_b_01) only [x28_0, x28_1, x28_4, x28_5, x28_8, x28_11, x28_12, x28_13, x28_14, x28_17, x28_20, x28_21, x28_22, x28_25, x28_26, x28_27, x28_30, x28_31, x28_34, x28_35, x28_38, x28_39, x28_42, x28_45, x28_46, x28_47, x28_50, x28_51, x28_52, x28_53, x28_56, x28_57, x28_58, x28_61, x28_64, x28_65, x28_66, x28_69, x28_70, x28_71, x28_74, x28_77, x28_78, x28_79, x28_80, x28_83, x28_84, x28_87, x28_90, x28_91, x28_92, x28_93, x28_96, x28_97, x28_98, x28_101, x28_104, x28_105, x28_106, x28_107, x28_110, x28_113, x28_114, x28_115, x28_116, x28_119, x28_120, x28_123, x28_126, Option.bind_some, Option.toList_some, Option.toList_none, List.cons_append, List.nil_append, Int.toNat_natCast, Int.toNat_zero, z_w_id, z_b_0, z_b_1, z_b_n0, z_b_t, z_b_f, ↓reduceIte, Int.reduceEq, Int.reduceLT, Int.reduceLE, Int.reduceToNat, not_true_eq_false, not_false_eq_true, false_and, and_false, true_and, and_true, false_or, or_false, true_or, or_true, z_ur_get, z_up_ur, k_isWaiting, k2, e1, hA1, a_u_o, a_u_j, a_u_same, hc, hA2, k4, hA3, k5, hA4, k6, k7, f06, e164, hA203, hA206, h19, r1, r2, r3, r4]) | split)
    · rw [z_b_f ho] at k2
      have e0 : a_beg0 A j = A := by unfold a_beg0; rw [if_neg ho]
      rw [e0] at e1
      repeat' (first | (exfalso; omega) | (simp (disch := first | omega | assumption | exact z_b_01) only [x28_0, x28_1, x28_4, x28_5, x28_8, x28_11, x28_12, x28_13, x28_14, x28_17, x28_20, x28_21, x28_22, x28_25, x28_26, x28_27, x28_30, x28_31, x28_34, x28_35, x28_38, x28_39, x28_42, x28_45, x28_46, x28_47, x28_50, x28_51, x28_52, x28_53, x28_56, x28_57, x28_58, x28_61, x28_64, x28_65, x28_66, x28_69, x28_70, x28_71, x28_74, x28_77, x28_78, x28_79, x28_80, x28_83, x28_84, x28_87, x28_90, x28_91, x28_92, x28_93, x28_96, x28_97, x28_98, x28_101, x28_104, x28_105, x28_106, x28_107, x28_110, x28_113, x28_114, x28_115, x28_116, x28_119, x28_120, x28_123, x28_126, Option.bind_some, Option.toList_some, Option.toList_none, List.cons_append, List.nil_append, Int.toNat_natCast, Int.toNat_zero, z_w_id, z_b_0, z_b_1, z_b_n0, z_b_t, z_b_f, ↓reduceIte, Int.reduceEq, Int.reduceLT, Int.reduceLE, Int.reduceToNat, not_true_eq_false, not_false_eq_true, false_and, and_false, true_and, and_true, false_or, or_false, true_or, or_true, z_ur_get, z_up_ur, k_isWaiting, k2, e1, hA1, a_u_o, a_u_j, a_u_same, hc, hA2, k4, hA3, k5, hA4, k6, k7, f06, e164, hA203, hA206, h19, r1, r2, r3, r4]) | split)
  · unfold a_beg a_beg1
    rw [hgr, hc]
    simp only [Int.toNat_natCast]
    rw [← hA4, ← hA3, ← hA2]
    have e3 : ∀ i, a_gr A i = A 7 (A 16 i).toNat := fun i => rfl
    simp only [e3]
    exact a_e20_u (a_e20_u (a_e20_u (a_e20_u (a_e20_u (a_e20_u hb0 _ _ _) _ _ _) _ _ _) _ _ _) _ _ _) _ _ _
