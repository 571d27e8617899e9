/-! Jobs -/
/-- the line of a state holds the jobs of l -/
def c_WL (A : Nat → Nat → Int) (l : List Nat) : Prop := A 3 5 = (l.length : Int) ∧ l.length ≤ 60 ∧ (∀ (p j : Nat), l[p]? = some j → A 20 p = (j : Int)) ∧ (∀ j ∈ l, (j : Int) < A 3 0) ∧ A 3 0 ≤ 200 ∧ 0 ≤ A 3 0
theorem k_Jobs_has (s : Fin 7) (c : Int) (M : z_M) : z_ev 18 [.inr (some (s, 3)), .inl c] M = some (some (.inl (z_b (0 ≤ c ∧ c < M s 3 0 ∧ c < 200))), M) := by
  rw [x18]
  repeat' (first | (exfalso; omega) | (simp (disch := first | omega | assumption | exact z_b_01) only [x18_0, x18_1, x18_4, x18_5, x18_6, x18_9, x18_12, x18_13, x18_16, x18_19, x18_20, x18_23, x18_24, Option.bind_some, Option.toList_some, Option.toList_none, List.cons_append, List.nil_append, Int.toNat_natCast, Int.toNat_zero, z_w_id, z_b_0, z_b_1, z_b_n0, z_b_t, z_b_f, ↓reduceIte, Int.reduceEq, Int.reduceLT, Int.reduceLE, Int.reduceToNat, not_true_eq_false, not_false_eq_true, false_and, and_false, true_and, and_true, false_or, or_false, true_or, or_true]) | split)
  all_goals (refine z_ri ?_ rfl; unfold z_b; split <;> omega)
theorem k_Groups_has (s : Fin 7) (c : Int) (M : z_M) : z_ev 9 [.inr (some (s, 1)), .inl c] M = some (some (.inl (z_b (0 ≤ c ∧ c < M s 1 0 ∧ c < 3))), M) := by
  rw [x9]
  repeat' (first | (exfalso; omega) | (simp (disch := first | omega | assumption | exact z_b_01) only [x9_0, x9_1, x9_4, x9_5, x9_6, x9_9, x9_12, x9_13, x9_14, x9_17, x9_18, x9_21, x9_22, Option.bind_some, Option.toList_some, Option.toList_none, List.cons_append, List.nil_append, Int.toNat_natCast, Int.toNat_zero, z_w_id, z_b_0, z_b_1, z_b_n0, z_b_t, z_b_f, ↓reduceIte, Int.reduceEq, Int.reduceLT, Int.reduceLE, Int.reduceToNat, not_true_eq_false, not_false_eq_true, false_and, and_false, true_and, and_true, false_or, or_false, true_or, or_true]) | split)
  all_goals (refine z_ri ?_ rfl; unfold z_b; split <;> omega)
theorem k_Classes_has (s : Fin 7) (c : Int) (M : z_M) : z_ev 3 [.inr (some (s, 2)), .inl c] M = some (some (.inl (z_b (0 ≤ c ∧ c < M s 2 0 ∧ c < 8))), M) := by
  rw [x3]
  repeat' (first | (exfalso; omega) | (simp (disch := first | omega | assumption | exact z_b_01) only [x3_0, x3_1, x3_4, x3_5, x3_6, x3_9, x3_12, x3_13, x3_15, x3_18, x3_19, x3_22, x3_23, Option.bind_some, Option.toList_some, Option.toList_none, List.cons_append, List.nil_append, Int.toNat_natCast, Int.toNat_zero, z_w_id, z_b_0, z_b_1, z_b_n0, z_b_t, z_b_f, ↓reduceIte, Int.reduceEq, Int.reduceLT, Int.reduceLE, Int.reduceToNat, not_true_eq_false, not_false_eq_true, false_and, and_false, true_and, and_true, false_or, or_false, true_or, or_true]) | split)
  all_goals (refine z_ri ?_ rfl; unfold z_b; split <;> omega)
theorem k_isWaiting (s : Fin 7) (j : Int) (M : z_M) : z_ev 20 [.inr (some (s, 3)), .inl j] M = some (some (.inl (z_b ((0 ≤ j ∧ j < M s 3 0 ∧ j < 200) ∧ M s 19 j.toNat = -5))), M) := by
  rw [x20]
  repeat' (first | (exfalso; omega) | (simp (disch := first | omega | assumption | exact z_b_01) only [x20_0, x20_1, x20_2, x20_5, x20_8, x20_9, x20_12, x20_13, x20_14, x20_16, x20_19, x20_20, x20_23, x20_24, Option.bind_some, Option.toList_some, Option.toList_none, List.cons_append, List.nil_append, Int.toNat_natCast, Int.toNat_zero, z_w_id, z_b_0, z_b_1, z_b_n0, z_b_t, z_b_f, ↓reduceIte, Int.reduceEq, Int.reduceLT, Int.reduceLE, Int.reduceToNat, not_true_eq_false, not_false_eq_true, false_and, and_false, true_and, and_true, false_or, or_false, true_or, or_true, k_Jobs_has]) | split)
  all_goals (refine z_ri ?_ rfl; unfold z_b; split <;> omega)
theorem k_isFull (s : Fin 7) (M : z_M) : z_ev 19 [.inr (some (s, 3))] M = some (some (.inl (z_b (200 ≤ M s 3 0 ∨ 60 ≤ M s 3 5))), M) := by
  rw [x19]
  repeat' (first | (exfalso; omega) | (simp (disch := first | omega | assumption | exact z_b_01) only [x19_0, x19_1, x19_4, x19_7, x19_10, x19_11, x19_14, x19_16, x19_19, x19_20, x19_23, x19_24, Option.bind_some, Option.toList_some, Option.toList_none, List.cons_append, List.nil_append, Int.toNat_natCast, Int.toNat_zero, z_w_id, z_b_0, z_b_1, z_b_n0, z_b_t, z_b_f, ↓reduceIte, Int.reduceEq, Int.reduceLT, Int.reduceLE, Int.reduceToNat, not_true_eq_false, not_false_eq_true, false_and, and_false, true_and, and_true, false_or, or_false, true_or, or_true]) | split)
  all_goals (refine z_ri ?_ rfl; unfold z_b; split <;> omega)
theorem k_waitingAt {s : Fin 7} {M : z_M} {l : List Nat} (hW : c_WL (M s) l) {p j : Nat} (hp : l[p]? = some j) : z_ev 24 [.inr (some (s, 3)), .inl (p : Int)] M = some (some (.inl (j : Int)), M) := by
  obtain ⟨h1, h2, h3, h4, h5, h6⟩ := hW
  have h7 := h3 p j hp
  have h8 := h4 j (List.mem_of_getElem? hp)
  have h9 := (List.getElem?_eq_some_iff.mp hp).1
  rw [x24]
  repeat' (first | (exfalso; omega) | (simp (disch := first | omega | assumption | exact z_b_01) only [x24_0, x24_1, x24_4, x24_5, x24_6, x24_9, x24_12, x24_13, x24_15, x24_18, x24_20, x24_21, x24_22, x24_23, x24_26, x24_27, x24_28, x24_31, x24_34, x24_35, x24_38, x24_39, x24_40, x24_43, x24_45, Option.bind_some, Option.toList_some, Option.toList_none, List.cons_append, List.nil_append, Int.toNat_natCast, Int.toNat_zero, z_w_id, z_b_0, z_b_1, z_b_n0, z_b_t, z_b_f, ↓reduceIte, Int.reduceEq, Int.reduceLT, Int.reduceLE, Int.reduceToNat, not_true_eq_false, not_false_eq_true, false_and, and_false, true_and, and_true, false_or, or_false, true_or, or_true, k_Jobs_has, h7]) | split)
  all_goals (refine z_ri ?_ rfl; omega)
theorem k_firstOf_loop {s : Fin 7} {M : z_M} {l : List Nat} (hW : c_WL (M s) l) (c : Int) (lj : Option z_V) : ∀ (r pre : List Nat) (lj : Option z_V), l = pre ++ r → z_ex 17 2 [some (.inr (some (s, 3))), some (.inl c), some (.inl (pre.length : Int)), lj] [] M = some (some (.inl (s_fst r fun j => M s 16 j = c)), M) := by
  intro r
  induction r with
  | nil =>
    intro pre lj e
    have h1 := hW.1
    have h2 := congrArg List.length e
    simp only [List.length_append, List.length_nil] at h2
    rw [x17_2]
    repeat' (first | (exfalso; omega) | (simp (disch := first | omega | assumption | exact z_b_01) only [x17_0, x17_1, x17_3, x17_4, x17_7, x17_10, x17_11, x17_12, x17_15, x17_16, x17_17, x17_19, x17_22, x17_23, x17_26, x17_27, x17_28, x17_29, x17_32, x17_33, x17_34, x17_37, x17_40, x17_42, Option.bind_some, Option.toList_some, Option.toList_none, List.cons_append, List.nil_append, Int.toNat_natCast, Int.toNat_zero, z_w_id, z_b_0, z_b_1, z_b_n0, z_b_t, z_b_f, ↓reduceIte, Int.reduceEq, Int.reduceLT, Int.reduceLE, Int.reduceToNat, not_true_eq_false, not_false_eq_true, false_and, and_false, true_and, and_true, false_or, or_false, true_or, or_true, s_fst_nil]) | split)
    all_goals rfl
  | cons j r ih =>
    intro pre lj e
    have h1 := hW.1
    have h0 := hW.2.1
    have h2 := congrArg List.length e
    simp only [List.length_append, List.length_cons] at h2
    have hp : l[pre.length]? = some j := by rw [e]; simp
    have hj := hW.2.2.2.1 j (List.mem_of_getElem? hp)
    have hJ := hW.2.2.2.2.1
    have hc := k_waitingAt hW hp
    have ih' := fun lj => ih (pre ++ [j]) lj (by rw [e]; simp)
    simp only [List.length_append, List.length_cons, List.length_nil, Int.natCast_add, Int.natCast_one, Int.zero_add, Nat.zero_add] at ih'
    rw [x17_2]
    repeat' (first | (exfalso; omega) | (simp (disch := first | omega | assumption | exact z_b_01) only [x17_0, x17_1, x17_3, x17_4, x17_7, x17_10, x17_11, x17_12, x17_15, x17_16, x17_17, x17_19, x17_22, x17_23, x17_26, x17_27, x17_28, x17_29, x17_32, x17_33, x17_34, x17_37, x17_40, x17_42, Option.bind_some, Option.toList_some, Option.toList_none, List.cons_append, List.nil_append, Int.toNat_natCast, Int.toNat_zero, z_w_id, z_b_0, z_b_1, z_b_n0, z_b_t, z_b_f, ↓reduceIte, Int.reduceEq, Int.reduceLT, Int.reduceLE, Int.reduceToNat, not_true_eq_false, not_false_eq_true, false_and, and_false, true_and, and_true, false_or, or_false, true_or, or_true, hc, s_fst_cons, ih']) | split)
    all_goals rfl
theorem k_firstOf {s : Fin 7} {M : z_M} {l : List Nat} (hW : c_WL (M s) l) (c : Int) : z_ev 17 [.inr (some (s, 3)), .inl c] M = some (some (.inl (s_fst l fun j => M s 16 j = c)), M) := by
  have h := k_firstOf_loop hW c none l [] none rfl
  rw [x17]
  simp (disch := first | omega | assumption) only [x17_0, x17_1, x17_3, x17_4, x17_7, x17_10, x17_11, x17_12, x17_15, x17_16, x17_17, x17_19, x17_22, x17_23, x17_26, x17_27, x17_28, x17_29, x17_32, x17_33, x17_34, x17_37, x17_40, x17_42, Option.bind_some, Option.toList_some, Option.toList_none, List.cons_append, List.nil_append, Int.toNat_natCast, Int.toNat_zero, z_w_id, z_b_0, z_b_1, z_b_n0, z_b_t, z_b_f, ↓reduceIte, Int.reduceEq, Int.reduceLT, Int.reduceLE, Int.reduceToNat, not_true_eq_false, not_false_eq_true, false_and, and_false, true_and, and_true, false_or, or_false, true_or, or_true]
  exact h

theorem k_waitsOf_loop {s : Fin 7} {M : z_M} {l : List Nat} (hW : c_WL (M s) l)  (c : Int) : ∀ (r pre : List Nat) (sum : Int) (lj0 : Option z_V), l = pre ++ r → 0 ≤ sum → sum + 99 * (r.length : Int) ≤ 5940 → z_ex 25 4 [some (.inr (some (s, 3))), some (.inl c), some (.inl sum), some (.inl (pre.length : Int)), lj0] [] M = some (some (.inl (sum + s_sum r fun j => if M s 16 j = c then 1 else 0)), M) := by
  intro r
  induction r with
  | nil =>
    intro pre sum lj0 e hs hb
    have h1 := hW.1
    have h2 := congrArg List.length e
    simp only [List.length_append, List.length_nil] at h2
    rw [x25_4]
    repeat' (first | (exfalso; omega) | (simp (disch := first | omega | assumption | exact z_b_01) only [x25_0, x25_1, x25_2, x25_3, x25_5, x25_6, x25_9, x25_12, x25_13, x25_14, x25_17, x25_19, x25_21, x25_23, x25_26, x25_27, x25_30, x25_32, x25_33, x25_34, x25_37, x25_40, x25_43, x25_46, x25_47, Option.bind_some, Option.toList_some, Option.toList_none, List.cons_append, List.nil_append, Int.toNat_natCast, Int.toNat_zero, z_w_id, z_b_0, z_b_1, z_b_n0, z_b_t, z_b_f, ↓reduceIte, Int.reduceEq, Int.reduceLT, Int.reduceLE, Int.reduceToNat, not_true_eq_false, not_false_eq_true, false_and, and_false, true_and, and_true, false_or, or_false, true_or, or_true, s_sum_nil]) | split)
    all_goals (refine z_ri ?_ rfl; omega)
  | cons j r ih =>
    intro pre sum lj0 e hs hb
    have h1 := hW.1
    have h0 := hW.2.1
    have h2 := congrArg List.length e
    simp only [List.length_append, List.length_cons] at h2 hb
    have hp : l[pre.length]? = some j := by rw [e]; simp
    have hj := hW.2.2.2.1 j (List.mem_of_getElem? hp)
    have hJ := hW.2.2.2.2.1
    have hc := k_waitingAt hW hp

    have ih' := fun (sum : Int) (lj0 : Option z_V) (h1 : 0 ≤ sum) (h2 : sum + 99 * (r.length : Int) ≤ 5940) => ih (pre ++ [j]) sum lj0 (by rw [e]; simp) h1 h2
    simp only [List.length_append, List.length_cons, List.length_nil, Int.natCast_add, Int.natCast_one, Int.zero_add, Nat.zero_add] at ih'
    rw [x25_4]
    repeat' (first | (exfalso; omega) | (simp (disch := first | omega | assumption | exact z_b_01) only [x25_0, x25_1, x25_2, x25_3, x25_5, x25_6, x25_9, x25_12, x25_13, x25_14, x25_17, x25_19, x25_21, x25_23, x25_26, x25_27, x25_30, x25_32, x25_33, x25_34, x25_37, x25_40, x25_43, x25_46, x25_47, Option.bind_some, Option.toList_some, Option.toList_none, List.cons_append, List.nil_append, Int.toNat_natCast, Int.toNat_zero, z_w_id, z_b_0, z_b_1, z_b_n0, z_b_t, z_b_f, ↓reduceIte, Int.reduceEq, Int.reduceLT, Int.reduceLE, Int.reduceToNat, not_true_eq_false, not_false_eq_true, false_and, and_false, true_and, and_true, false_or, or_false, true_or, or_true, hc, ih']) | split)
    all_goals (refine z_ri ?_ rfl; simp only [s_sum_cons]; (repeat' split) <;> omega)
theorem k_waitsOf {s : Fin 7} {M : z_M} {l : List Nat} (hW : c_WL (M s) l)  (c : Int) : z_ev 25 [.inr (some (s, 3)), .inl c] M = some (some (.inl (s_sum l fun j => if M s 16 j = c then 1 else 0)), M) := by
  have h0 := hW.2.1
  have h := fun (lj0 : Option z_V) => k_waitsOf_loop hW c l [] 0 lj0 rfl (by omega) (by omega)
  rw [x25]
  simp (disch := first | omega | assumption) only [x25_0, x25_1, x25_2, x25_3, x25_5, x25_6, x25_9, x25_12, x25_13, x25_14, x25_17, x25_19, x25_21, x25_23, x25_26, x25_27, x25_30, x25_32, x25_33, x25_34, x25_37, x25_40, x25_43, x25_46, x25_47, Option.bind_some, Option.toList_some, Option.toList_none, List.cons_append, List.nil_append, Int.toNat_natCast, Int.toNat_zero, z_w_id, z_b_0, z_b_1, z_b_n0, z_b_t, z_b_f, ↓reduceIte, Int.reduceEq, Int.reduceLT, Int.reduceLE, Int.reduceToNat, not_true_eq_false, not_false_eq_true, false_and, and_false, true_and, and_true, false_or, or_false, true_or, or_true]
  refine (h _).trans (z_ri (by omega) rfl)

theorem k_sizesOf_loop {s : Fin 7} {M : z_M} {l : List Nat} (hW : c_WL (M s) l) (hz : ∀ j ∈ l, 0 ≤ M s 17 j ∧ M s 17 j ≤ 99) (c : Int) : ∀ (r pre : List Nat) (sum : Int) (lj0 : Option z_V), l = pre ++ r → 0 ≤ sum → sum + 99 * (r.length : Int) ≤ 5940 → z_ex 23 4 [some (.inr (some (s, 3))), some (.inl c), some (.inl sum), some (.inl (pre.length : Int)), lj0] [] M = some (some (.inl (sum + s_sum r fun j => if M s 16 j = c then M s 17 j else 0)), M) := by
  intro r
  induction r with
  | nil =>
    intro pre sum lj0 e hs hb
    have h1 := hW.1
    have h2 := congrArg List.length e
    simp only [List.length_append, List.length_nil] at h2
    rw [x23_4]
    repeat' (first | (exfalso; omega) | (simp (disch := first | omega | assumption | exact z_b_01) only [x23_0, x23_1, x23_2, x23_3, x23_5, x23_6, x23_9, x23_12, x23_13, x23_14, x23_17, x23_19, x23_21, x23_23, x23_26, x23_27, x23_30, x23_32, x23_33, x23_34, x23_37, x23_38, x23_39, x23_42, x23_44, x23_45, x23_46, x23_47, x23_50, x23_53, x23_54, Option.bind_some, Option.toList_some, Option.toList_none, List.cons_append, List.nil_append, Int.toNat_natCast, Int.toNat_zero, z_w_id, z_b_0, z_b_1, z_b_n0, z_b_t, z_b_f, ↓reduceIte, Int.reduceEq, Int.reduceLT, Int.reduceLE, Int.reduceToNat, not_true_eq_false, not_false_eq_true, false_and, and_false, true_and, and_true, false_or, or_false, true_or, or_true, s_sum_nil]) | split)
    all_goals (refine z_ri ?_ rfl; omega)
  | cons j r ih =>
    intro pre sum lj0 e hs hb
    have h1 := hW.1
    have h0 := hW.2.1
    have h2 := congrArg List.length e
    simp only [List.length_append, List.length_cons] at h2 hb
    have hp : l[pre.length]? = some j := by rw [e]; simp
    have hj := hW.2.2.2.1 j (List.mem_of_getElem? hp)
    have hJ := hW.2.2.2.2.1
    have hc := k_waitingAt hW hp
    have hz' := hz j (List.mem_of_getElem? hp)
    have ih' := fun (sum : Int) (lj0 : Option z_V) (h1 : 0 ≤ sum) (h2 : sum + 99 * (r.length : Int) ≤ 5940) => ih (pre ++ [j]) sum lj0 (by rw [e]; simp) h1 h2
    simp only [List.length_append, List.length_cons, List.length_nil, Int.natCast_add, Int.natCast_one, Int.zero_add, Nat.zero_add] at ih'
    rw [x23_4]
    repeat' (first | (exfalso; omega) | (simp (disch := first | omega | assumption | exact z_b_01) only [x23_0, x23_1, x23_2, x23_3, x23_5, x23_6, x23_9, x23_12, x23_13, x23_14, x23_17, x23_19, x23_21, x23_23, x23_26, x23_27, x23_30, x23_32, x23_33, x23_34, x23_37, x23_38, x23_39, x23_42, x23_44, x23_45, x23_46, x23_47, x23_50, x23_53, x23_54, Option.bind_some, Option.toList_some, Option.toList_none, List.cons_append, List.nil_append, Int.toNat_natCast, Int.toNat_zero, z_w_id, z_b_0, z_b_1, z_b_n0, z_b_t, z_b_f, ↓reduceIte, Int.reduceEq, Int.reduceLT, Int.reduceLE, Int.reduceToNat, not_true_eq_false, not_false_eq_true, false_and, and_false, true_and, and_true, false_or, or_false, true_or, or_true, hc, ih']) | split)
    all_goals (refine z_ri ?_ rfl; simp only [s_sum_cons]; (repeat' split) <;> omega)
theorem k_sizesOf {s : Fin 7} {M : z_M} {l : List Nat} (hW : c_WL (M s) l) (hz : ∀ j ∈ l, 0 ≤ M s 17 j ∧ M s 17 j ≤ 99) (c : Int) : z_ev 23 [.inr (some (s, 3)), .inl c] M = some (some (.inl (s_sum l fun j => if M s 16 j = c then M s 17 j else 0)), M) := by
  have h0 := hW.2.1
  have h := fun (lj0 : Option z_V) => k_sizesOf_loop hW hz c l [] 0 lj0 rfl (by omega) (by omega)
  rw [x23]
  simp (disch := first | omega | assumption) only [x23_0, x23_1, x23_2, x23_3, x23_5, x23_6, x23_9, x23_12, x23_13, x23_14, x23_17, x23_19, x23_21, x23_23, x23_26, x23_27, x23_30, x23_32, x23_33, x23_34, x23_37, x23_38, x23_39, x23_42, x23_44, x23_45, x23_46, x23_47, x23_50, x23_53, x23_54, Option.bind_some, Option.toList_some, Option.toList_none, List.cons_append, List.nil_append, Int.toNat_natCast, Int.toNat_zero, z_w_id, z_b_0, z_b_1, z_b_n0, z_b_t, z_b_f, ↓reduceIte, Int.reduceEq, Int.reduceLT, Int.reduceLE, Int.reduceToNat, not_true_eq_false, not_false_eq_true, false_and, and_false, true_and, and_true, false_or, or_false, true_or, or_true]
  refine (h _).trans (z_ri (by omega) rfl)

theorem k_sizesAheadOf_loop {s : Fin 7} {M : z_M} {l : List Nat} (hW : c_WL (M s) l) (hz : ∀ j ∈ l, 0 ≤ M s 17 j ∧ M s 17 j ≤ 99) (c : Int) : ∀ (r pre : List Nat) (sum : Int) (lj0 : Option z_V), l = pre ++ r → 0 ≤ sum → sum + 99 * (r.length : Int) ≤ 5940 → z_ex 22 4 [some (.inr (some (s, 3))), some (.inl c), some (.inl sum), some (.inl (pre.length : Int)), lj0] [] M = some (some (.inl (sum + s_sum r fun j => if (j : Int) < c then M s 17 j else 0)), M) := by
  intro r
  induction r with
  | nil =>
    intro pre sum lj0 e hs hb
    have h1 := hW.1
    have h2 := congrArg List.length e
    simp only [List.length_append, List.length_nil] at h2
    rw [x22_4]
    repeat' (first | (exfalso; omega) | (simp (disch := first | omega | assumption | exact z_b_01) only [x22_0, x22_1, x22_2, x22_3, x22_5, x22_6, x22_9, x22_12, x22_13, x22_14, x22_17, x22_19, x22_21, x22_23, x22_26, x22_28, x22_29, x22_32, x22_33, x22_34, x22_37, x22_39, x22_40, x22_41, x22_42, x22_45, x22_48, x22_49, Option.bind_some, Option.toList_some, Option.toList_none, List.cons_append, List.nil_append, Int.toNat_natCast, Int.toNat_zero, z_w_id, z_b_0, z_b_1, z_b_n0, z_b_t, z_b_f, ↓reduceIte, Int.reduceEq, Int.reduceLT, Int.reduceLE, Int.reduceToNat, not_true_eq_false, not_false_eq_true, false_and, and_false, true_and, and_true, false_or, or_false, true_or, or_true, s_sum_nil]) | split)
    all_goals (refine z_ri ?_ rfl; omega)
  | cons j r ih =>
    intro pre sum lj0 e hs hb
    have h1 := hW.1
    have h0 := hW.2.1
    have h2 := congrArg List.length e
    simp only [List.length_append, List.length_cons] at h2 hb
    have hp : l[pre.length]? = some j := by rw [e]; simp
    have hj := hW.2.2.2.1 j (List.mem_of_getElem? hp)
    have hJ := hW.2.2.2.2.1
    have hc := k_waitingAt hW hp
    have hz' := hz j (List.mem_of_getElem? hp)
    have ih' := fun (sum : Int) (lj0 : Option z_V) (h1 : 0 ≤ sum) (h2 : sum + 99 * (r.length : Int) ≤ 5940) => ih (pre ++ [j]) sum lj0 (by rw [e]; simp) h1 h2
    simp only [List.length_append, List.length_cons, List.length_nil, Int.natCast_add, Int.natCast_one, Int.zero_add, Nat.zero_add] at ih'
    rw [x22_4]
    repeat' (first | (exfalso; omega) | (simp (disch := first | omega | assumption | exact z_b_01) only [x22_0, x22_1, x22_2, x22_3, x22_5, x22_6, x22_9, x22_12, x22_13, x22_14, x22_17, x22_19, x22_21, x22_23, x22_26, x22_28, x22_29, x22_32, x22_33, x22_34, x22_37, x22_39, x22_40, x22_41, x22_42, x22_45, x22_48, x22_49, Option.bind_some, Option.toList_some, Option.toList_none, List.cons_append, List.nil_append, Int.toNat_natCast, Int.toNat_zero, z_w_id, z_b_0, z_b_1, z_b_n0, z_b_t, z_b_f, ↓reduceIte, Int.reduceEq, Int.reduceLT, Int.reduceLE, Int.reduceToNat, not_true_eq_false, not_false_eq_true, false_and, and_false, true_and, and_true, false_or, or_false, true_or, or_true, hc, ih']) | split)
    all_goals (refine z_ri ?_ rfl; simp only [s_sum_cons]; (repeat' split) <;> omega)
theorem k_sizesAheadOf {s : Fin 7} {M : z_M} {l : List Nat} (hW : c_WL (M s) l) (hz : ∀ j ∈ l, 0 ≤ M s 17 j ∧ M s 17 j ≤ 99) (c : Int) : z_ev 22 [.inr (some (s, 3)), .inl c] M = some (some (.inl (s_sum l fun j => if (j : Int) < c then M s 17 j else 0)), M) := by
  have h0 := hW.2.1
  have h := fun (lj0 : Option z_V) => k_sizesAheadOf_loop hW hz c l [] 0 lj0 rfl (by omega) (by omega)
  rw [x22]
  simp (disch := first | omega | assumption) only [x22_0, x22_1, x22_2, x22_3, x22_5, x22_6, x22_9, x22_12, x22_13, x22_14, x22_17, x22_19, x22_21, x22_23, x22_26, x22_28, x22_29, x22_32, x22_33, x22_34, x22_37, x22_39, x22_40, x22_41, x22_42, x22_45, x22_48, x22_49, Option.bind_some, Option.toList_some, Option.toList_none, List.cons_append, List.nil_append, Int.toNat_natCast, Int.toNat_zero, z_w_id, z_b_0, z_b_1, z_b_n0, z_b_t, z_b_f, ↓reduceIte, Int.reduceEq, Int.reduceLT, Int.reduceLE, Int.reduceToNat, not_true_eq_false, not_false_eq_true, false_and, and_false, true_and, and_true, false_or, or_false, true_or, or_true]
  refine (h _).trans (z_ri (by omega) rfl)

theorem k_allSizes {s : Fin 7} {M : z_M} {l : List Nat} (hW : c_WL (M s) l) (hz : ∀ j ∈ l, 0 ≤ M s 17 j ∧ M s 17 j ≤ 99) : z_ev 14 [.inr (some (s, 3))] M = some (some (.inl (s_sum l fun j => M s 17 j)), M) := by
  have h := k_sizesAheadOf hW hz (M s 3 0)
  rw [x14]
  simp (disch := first | omega | assumption) only [x14_0, x14_1, x14_2, x14_5, x14_8, Option.bind_some, Option.toList_some, Option.toList_none, List.cons_append, List.nil_append, Int.toNat_natCast, Int.toNat_zero, z_w_id, z_b_0, z_b_1, z_b_n0, z_b_t, z_b_f, ↓reduceIte, Int.reduceEq, Int.reduceLT, Int.reduceLE, Int.reduceToNat, not_true_eq_false, not_false_eq_true, false_and, and_false, true_and, and_true, false_or, or_false, true_or, or_true, h]
  exact z_ri (s_sum_congr fun j hj => if_pos (hW.2.2.2.1 j hj)) rfl
