/-! a job begins; a unit is served -/
theorem z_list_pre {α : Type} (pre : List α) (j : α) (r : List α) : (pre ++ j :: r)[pre.length]? = some j := by simp
def q_ne (job : Int) : Nat → Bool := fun j => decide (¬ (j : Int) = job)
theorem k_leave_loop {s : Fin 7} {M : z_M} {l : List Nat} (h60 : l.length ≤ 60) (job : Int) : ∀ (r pre : List Nat) (A : Nat → Nat → Int), l = pre ++ r → A 3 5 = (l.length : Int) → (∀ (p j : Nat), (pre.filter (q_ne job))[p]? = some j → A 20 p = (j : Int)) → (∀ (p j : Nat), pre.length ≤ p → l[p]? = some j → A 20 p = (j : Int)) →
    ∃ A', z_ex 21 4 [some (.inr (some (s, 3))), some (.inl job), some (.inl ((pre.filter (q_ne job)).length : Int)), some (.inl (pre.length : Int))] [] (z_ur M s A) = some (none, z_ur M s A') ∧ A' 3 5 = ((l.filter (q_ne job)).length : Int) ∧ (∀ (p j : Nat), (l.filter (q_ne job))[p]? = some j → A' 20 p = (j : Int)) ∧ ∀ o j, o ≠ 20 → ¬ (o = 3 ∧ j = 5) → A' o j = A o j := by
  intro r
  induction r with
  | nil =>
    intro pre A e h1 h2 h3
    have e' : pre = l := by rw [e, List.append_nil]
    subst e'
    have hle : (pre.filter (q_ne job)).length ≤ pre.length := List.length_filter_le _ _
    refine ⟨a_u A 3 5 ((pre.filter (q_ne job)).length : Int), ?_, a_u_same _ _ _ _, fun p j hp => by rw [a_u_o (by decide)]; exact h2 p j hp, fun o j ho hj => ?_⟩
    · rw [x21_4]
      repeat' (first | (exfalso; omega) | (simp (disch := first | omega | assumption | exact z_b_01) only [x21_0, x21_1, x21_2, x21_3, x21_5, x21_6, x21_9, x21_12, x21_13, x21_15, x21_18, x21_19, x21_22, x21_23, x21_24, x21_25, x21_28, x21_29, x21_32, x21_33, x21_34, x21_37, x21_38, x21_39, x21_40, x21_43, x21_46, x21_49, x21_50, x21_51, x21_54, Option.bind_some, Option.toList_some, Option.toList_none, List.cons_append, List.nil_append, Int.toNat_natCast, Int.toNat_zero, z_w_id, z_b_0, z_b_1, z_b_n0, z_b_t, z_b_f, ↓reduceIte, Int.reduceEq, Int.reduceLT, Int.reduceLE, Int.reduceToNat, not_true_eq_false, not_false_eq_true, false_and, and_false, true_and, and_true, false_or, or_false, true_or, or_true, z_ur_get, z_up_ur]) | split)
    · unfold a_u; rw [if_neg hj]
  | cons j r ih =>
    intro pre A e h1 h2 h3
    have hlen := congrArg List.length e
    simp only [List.length_append, List.length_cons] at hlen
    have hle : (pre.filter (q_ne job)).length ≤ pre.length := List.length_filter_le _ _
    have hj : A 20 pre.length = (j : Int) := h3 _ _ (Nat.le_refl _) (by rw [e]; exact z_list_pre _ _ _)
    have e2 : l = (pre ++ [j]) ++ r := by rw [e]; simp
    by_cases hq : (j : Int) = job
    · have ef : (pre ++ [j]).filter (q_ne job) = pre.filter (q_ne job) := by rw [List.filter_append]; simp [q_ne, hq]
      obtain ⟨A', g1, g2, g3, g4⟩ := ih (pre ++ [j]) A e2 h1 (by rw [ef]; exact h2) (fun p k hp hk => h3 p k (by rw [List.length_append] at hp; omega) hk)
      rw [ef] at g1
      simp only [List.length_append, List.length_cons, List.length_nil, Int.natCast_add, Int.natCast_one, Int.zero_add, Nat.zero_add] at g1
      refine ⟨A', ?_, g2, g3, g4⟩
      rw [x21_4]
      repeat' (first | (exfalso; omega) | (simp (disch := first | omega | assumption | exact z_b_01) only [x21_0, x21_1, x21_2, x21_3, x21_5, x21_6, x21_9, x21_12, x21_13, x21_15, x21_18, x21_19, x21_22, x21_23, x21_24, x21_25, x21_28, x21_29, x21_32, x21_33, x21_34, x21_37, x21_38, x21_39, x21_40, x21_43, x21_46, x21_49, x21_50, x21_51, x21_54, Option.bind_some, Option.toList_some, Option.toList_none, List.cons_append, List.nil_append, Int.toNat_natCast, Int.toNat_zero, z_w_id, z_b_0, z_b_1, z_b_n0, z_b_t, z_b_f, ↓reduceIte, Int.reduceEq, Int.reduceLT, Int.reduceLE, Int.reduceToNat, not_true_eq_false, not_false_eq_true, false_and, and_false, true_and, and_true, false_or, or_false, true_or, or_true, z_ur_get, z_up_ur, hj, g1]) | split)
    · have ef : (pre ++ [j]).filter (q_ne job) = pre.filter (q_ne job) ++ [j] := by rw [List.filter_append]; simp [q_ne, hq]
      obtain ⟨A', g1, g2, g3, g4⟩ := ih (pre ++ [j]) (a_u A 20 (pre.filter (q_ne job)).length (j : Int)) e2 (by rw [a_u_o (by decide)]; exact h1) (by
          intro p k hp
          rw [ef] at hp
          rw [a_u_at]
          rcases Nat.lt_trichotomy p (pre.filter (q_ne job)).length with h | h | h
          · rw [if_neg (by omega)]
            rw [List.getElem?_append_left h] at hp
            exact h2 p k hp
          · subst h
            rw [z_list_pre] at hp
            cases hp
            rw [if_pos rfl]
          · rw [List.getElem?_append_right (by omega)] at hp
            rw [List.getElem?_eq_none (by simp; omega)] at hp
            cases hp)
        (fun p k hp hk => by
          rw [List.length_append] at hp
          simp only [List.length_cons, List.length_nil] at hp
          rw [a_u_at, if_neg (by omega)]
          exact h3 p k (by omega) hk)
      rw [ef] at g1
      simp only [List.length_append, List.length_cons, List.length_nil, Int.natCast_add, Int.natCast_one, Int.zero_add, Nat.zero_add] at g1
      refine ⟨A', ?_, g2, g3, fun o i ho hi => by rw [g4 o i ho hi, a_u_o ho]⟩
      rw [x21_4]
      repeat' (first | (exfalso; omega) | (simp (disch := first | omega | assumption | exact z_b_01) only [x21_0, x21_1, x21_2, x21_3, x21_5, x21_6, x21_9, x21_12, x21_13, x21_15, x21_18, x21_19, x21_22, x21_23, x21_24, x21_25, x21_28, x21_29, x21_32, x21_33, x21_34, x21_37, x21_38, x21_39, x21_40, x21_43, x21_46, x21_49, x21_50, x21_51, x21_54, Option.bind_some, Option.toList_some, Option.toList_none, List.cons_append, List.nil_append, Int.toNat_natCast, Int.toNat_zero, z_w_id, z_b_0, z_b_1, z_b_n0, z_b_t, z_b_f, ↓reduceIte, Int.reduceEq, Int.reduceLT, Int.reduceLE, Int.reduceToNat, not_true_eq_false, not_false_eq_true, false_and, and_false, true_and, and_true, false_or, or_false, true_or, or_true, z_ur_get, z_up_ur, hj, g1]) | split)
theorem k_leave {s : Fin 7} {M : z_M} {A : Nat → Nat → Int} {l : List Nat} (hW : c_WL A l) (job : Int) : ∃ A', z_ev 21 [.inr (some (s, 3)), .inl job] (z_ur M s A) = some (none, z_ur M s A') ∧ c_WL A' (l.filter (q_ne job)) ∧ ∀ o j, o ≠ 20 → ¬ (o = 3 ∧ j = 5) → A' o j = A o j := by
  obtain ⟨A', g1, g2, g3, g4⟩ := k_leave_loop (s := s) (M := M) hW.2.1 job l [] A rfl hW.1 (fun p j h => by simp at h) (fun p j _ h => hW.2.2.1 p j h)
  refine ⟨A', ?_, ⟨g2, Nat.le_trans (List.length_filter_le _ _) hW.2.1, g3, fun j hj => ?_, ?_⟩, g4⟩
  · rw [x21]
    simp (disch := first | omega | assumption) only [x21_0, x21_1, x21_2, x21_3, x21_5, x21_6, x21_9, x21_12, x21_13, x21_15, x21_18, x21_19, x21_22, x21_23, x21_24, x21_25, x21_28, x21_29, x21_32, x21_33, x21_34, x21_37, x21_38, x21_39, x21_40, x21_43, x21_46, x21_49, x21_50, x21_51, x21_54, Option.bind_some, Option.toList_some, Option.toList_none, List.cons_append, List.nil_append, Int.toNat_natCast, Int.toNat_zero, z_w_id, z_b_0, z_b_1, z_b_n0, z_b_t, z_b_f, ↓reduceIte, Int.reduceEq, Int.reduceLT, Int.reduceLE, Int.reduceToNat, not_true_eq_false, not_false_eq_true, false_and, and_false, true_and, and_true, false_or, or_false, true_or, or_true]
    exact g1
  · rw [g4 3 0 (by decide) (by decide)]
    exact hW.2.2.2.1 j (List.mem_filter.mp hj).1
  · rw [g4 3 0 (by decide) (by decide)]
    exact hW.2.2.2.2
theorem k_noteWait {s : Fin 7} {M : z_M} {A : Nat → Nat → Int} {c : Nat} (hc : (c : Int) < A 2 0) (h8 : A 2 0 ≤ 8) (w : Int) : z_ev 37 [.inr (some (s, 0)), .inl (c : Int), .inl w] (z_ur M s A) = some (none, z_ur M s (a_u A 14 c (if A 14 c < w then w else A 14 c))) := by
  rw [x37]
  repeat' (first | (exfalso; omega) | (simp (disch := first | omega | assumption | exact z_b_01) only [x37_0, x37_1, x37_4, x37_5, x37_8, x37_11, x37_12, x37_15, x37_18, x37_19, x37_20, x37_23, x37_26, x37_27, x37_28, x37_29, x37_32, x37_33, Option.bind_some, Option.toList_some, Option.toList_none, List.cons_append, List.nil_append, Int.toNat_natCast, Int.toNat_zero, z_w_id, z_b_0, z_b_1, z_b_n0, z_b_t, z_b_f, ↓reduceIte, Int.reduceEq, Int.reduceLT, Int.reduceLE, Int.reduceToNat, not_true_eq_false, not_false_eq_true, false_and, and_false, true_and, and_true, false_or, or_false, true_or, or_true, z_ur_get, z_up_ur, k_Classes_has]) | split)
  all_goals rfl
theorem k_payClass {s : Fin 7} {M : z_M} {A : Nat → Nat → Int} {l : List Nat} (hW : c_WL A l) {c : Nat} (hc : (c : Int) < A 2 0) (h8 : A 2 0 ≤ 8) (hd : -20000 ≤ A 9 c ∧ A 9 c ≤ 300) {z : Int} (hz : 0 ≤ z ∧ z ≤ 99) :
    z_ev 39 [.inr (some (s, 0)), .inl (c : Int), .inl z] (z_ur M s A) = some (none, z_ur M s (a_u A 9 c (if 0 < s_sum l (fun j => if A 16 j = (c : Int) then 1 else 0) then A 9 c - z else 0))) := by
  have hk := k_waitsOf (c_WL_ur (M := M) (s := s) hW) c
  simp (disch := omega) only [z_ur_get] at hk
  rw [x39]
  repeat' (first | (exfalso; omega) | (simp (disch := first | omega | assumption | exact z_b_01) only [x39_0, x39_1, x39_4, x39_5, x39_8, x39_11, x39_12, x39_15, x39_16, x39_19, x39_22, x39_23, x39_26, x39_27, x39_28, x39_29, x39_32, x39_35, x39_36, x39_37, x39_40, x39_41, x39_44, x39_47, x39_48, x39_49, x39_50, x39_51, x39_54, x39_55, x39_56, Option.bind_some, Option.toList_some, Option.toList_none, List.cons_append, List.nil_append, Int.toNat_natCast, Int.toNat_zero, z_w_id, z_b_0, z_b_1, z_b_n0, z_b_t, z_b_f, ↓reduceIte, Int.reduceEq, Int.reduceLT, Int.reduceLE, Int.reduceToNat, not_true_eq_false, not_false_eq_true, false_and, and_false, true_and, and_true, false_or, or_false, true_or, or_true, z_ur_get, z_up_ur, k_Classes_has, hk]) | split)
  all_goals rfl
theorem k_payGroup {s : Fin 7} {M : z_M} {A : Nat → Nat → Int} {l : List Nat} (hG : i_G A) (hJ : i_J A) (hW : c_WL A l) {g : Nat} (hg : (g : Int) < A 1 0) (hd : -20000 ≤ A 5 g ∧ A 5 g ≤ 300) {z : Int} (hz : 0 ≤ z ∧ z ≤ 99) :
    z_ev 40 [.inr (some (s, 0)), .inl (g : Int), .inl z] (z_ur M s A) = some (none, z_ur M s (a_u A 5 g (if 0 < s_sum l (fun j => if a_gr A j = (g : Int) then 1 else 0) then A 5 g - z else 0))) := by
  have h3 := hG.1
  have hk := k_waitsOfGroup (c_WL_ur (M := M) (s := s) hW) (i_G_ur hG) (i_J_ur hJ) g
  simp (disch := omega) only [a_gr, z_ur_get] at hk
  unfold a_gr
  rw [x40]
  repeat' (first | (exfalso; omega) | (simp (disch := first | omega | assumption | exact z_b_01) only [x40_0, x40_1, x40_4, x40_5, x40_8, x40_11, x40_12, x40_13, x40_16, x40_19, x40_20, x40_23, x40_24, x40_25, x40_26, x40_29, x40_32, x40_33, x40_34, x40_37, x40_38, x40_41, x40_44, x40_45, x40_46, x40_47, x40_48, x40_51, x40_52, x40_53, Option.bind_some, Option.toList_some, Option.toList_none, List.cons_append, List.nil_append, Int.toNat_natCast, Int.toNat_zero, z_w_id, z_b_0, z_b_1, z_b_n0, z_b_t, z_b_f, ↓reduceIte, Int.reduceEq, Int.reduceLT, Int.reduceLE, Int.reduceToNat, not_true_eq_false, not_false_eq_true, false_and, and_false, true_and, and_true, false_or, or_false, true_or, or_true, z_ur_get, z_up_ur, k_Groups_has, hk]) | split)
  all_goals rfl
theorem k_serveIdle {s : Fin 7} {M : z_M} {A : Nat → Nat → Int} (h : A 0 5 = -5) (h2 : 0 ≤ A 0 7 ∧ A 0 7 ≤ 30000) : z_ev 41 [.inr (some (s, 0))] (z_ur M s A) = some (some (.inl 0), z_ur M s (a_u A 0 7 (A 0 7 + 1))) := by
  rw [x41]
  repeat' (first | (exfalso; omega) | (simp (disch := first | omega | assumption | exact z_b_01) only [x41_0, x41_1, x41_4, x41_5, x41_8, x41_11, x41_14, x41_15, x41_16, x41_19, x41_20, x41_21, x41_24, x41_25, x41_26, x41_27, x41_30, x41_33, x41_34, x41_37, x41_38, x41_39, x41_40, x41_43, x41_44, x41_47, x41_50, x41_51, x41_54, x41_57, x41_58, x41_59, x41_60, x41_61, x41_62, x41_63, x41_64, x41_65, x41_68, x41_69, x41_70, x41_73, x41_74, x41_77, x41_80, x41_81, x41_82, x41_83, x41_85, x41_88, x41_89, Option.bind_some, Option.toList_some, Option.toList_none, List.cons_append, List.nil_append, Int.toNat_natCast, Int.toNat_zero, z_w_id, z_b_0, z_b_1, z_b_n0, z_b_t, z_b_f, ↓reduceIte, Int.reduceEq, Int.reduceLT, Int.reduceLE, Int.reduceToNat, not_true_eq_false, not_false_eq_true, false_and, and_false, true_and, and_true, false_or, or_false, true_or, or_true, z_ur_get, z_up_ur, k_Jobs_has, h]) | split)
def a_serve (A : Nat → Nat → Int) (c : Nat) : Nat → Nat → Int := if 1 < A 0 6 then a_u (a_u A 15 c (A 15 c + 1)) 0 6 (A 0 6 - 1) else a_u (a_u (a_u A 15 c (A 15 c + 1)) 0 6 (A 0 6 - 1)) 0 5 (-5)
theorem k_serve {s : Fin 7} {M : z_M} {A : Nat → Nat → Int} {j : Nat} (h : A 0 5 = (j : Int)) (hj : (j : Int) < A 3 0) (h200 : A 3 0 ≤ 200) (hJ : i_J A) (h8 : A 2 0 ≤ 8) (h6 : 1 ≤ A 0 6 ∧ A 0 6 ≤ 99) (hu : 0 ≤ A 15 (A 16 j).toNat ∧ A 15 (A 16 j).toNat ≤ 30000) :
    z_ev 41 [.inr (some (s, 0))] (z_ur M s A) = some (some (.inl (if 1 < A 0 6 then 0 else 1)), z_ur M s (a_serve A (A 16 j).toNat)) := by
  have h1 := hJ j hj
  rw [x41]
  unfold a_serve
  repeat' (first | (exfalso; omega) | (simp (disch := first | omega | assumption | exact z_b_01) only [x41_0, x41_1, x41_4, x41_5, x41_8, x41_11, x41_14, x41_15, x41_16, x41_19, x41_20, x41_21, x41_24, x41_25, x41_26, x41_27, x41_30, x41_33, x41_34, x41_37, x41_38, x41_39, x41_40, x41_43, x41_44, x41_47, x41_50, x41_51, x41_54, x41_57, x41_58, x41_59, x41_60, x41_61, x41_62, x41_63, x41_64, x41_65, x41_68, x41_69, x41_70, x41_73, x41_74, x41_77, x41_80, x41_81, x41_82, x41_83, x41_85, x41_88, x41_89, Option.bind_some, Option.toList_some, Option.toList_none, List.cons_append, List.nil_append, Int.toNat_natCast, Int.toNat_zero, z_w_id, z_b_0, z_b_1, z_b_n0, z_b_t, z_b_f, ↓reduceIte, Int.reduceEq, Int.reduceLT, Int.reduceLE, Int.reduceToNat, not_true_eq_false, not_false_eq_true, false_and, and_false, true_and, and_true, false_or, or_false, true_or, or_true, z_ur_get, z_up_ur, k_Jobs_has, k_Classes_has, h, a_u_o, a_u_same]) | split)
  all_goals rfl

def a_beg0 (A : Nat → Nat → Int) (j : Nat) : Nat → Nat → Int := if a_old A j then a_u A 0 8 (A 0 8 + 1) else A
/-- what a job's beginning changes, the line apart: l' are the jobs that wait then -/
def a_beg1 (A : Nat → Nat → Int) (l' : List Nat) (j : Nat) : Nat → Nat → Int := a_u (a_u (a_u (a_u (a_u (a_beg0 A j) 3 5 (l'.length : Int)) 19 j (A 0 3)) 0 5 (j : Int)) 0 6 (A 17 j)) 14 (A 16 j).toNat (if A 14 (A 16 j).toNat < A 0 3 - A 18 j then A 0 3 - A 18 j else A 14 (A 16 j).toNat)
def a_beg (A : Nat → Nat → Int) (l' : List Nat) (j : Nat) : Nat → Nat → Int :=
  a_u (a_u (a_beg1 A l' j) 9 (A 16 j).toNat (if 0 < s_sum l' (fun i => if A 16 i = A 16 j then 1 else 0) then A 9 (A 16 j).toNat - A 17 j else 0)) 5 (a_gr A j).toNat (if 0 < s_sum l' (fun i => if a_gr A i = a_gr A j then 1 else 0) then A 5 (a_gr A j).toNat - A 17 j else 0)
