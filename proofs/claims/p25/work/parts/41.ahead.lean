/-! what is told ahead -/
theorem f_len_60 {A : Nat → Nat → Int} {l : List Nat} (hI : e_I A l) : l.length ≤ 60 := hI.2.2.2.2.1.2.1
theorem k_ahead_loop {M : z_M} {n : Int} (hn : 0 ≤ n ∧ n ≤ 1000) : ∀ (m i : Nat) (b : Int) (T A : Nat → Nat → Int) (l : List Nat), (i : Int) + m = n → e_I A l → f_x A l → (0 ≤ A 0 6 ∧ A 0 6 ≤ 99) → m ≤ l.length → A 0 3 + 99 * (m + 1) ≤ 30000 →
    ∃ (T' A' : Nat → Nat → Int) (b' : Int), z_ex 64 16 [some (.inr (some (0, 21))), some (.inl n), some (.inl b), some (.inl (i : Int))] [] (z_ur (z_ut M T) 2 A) = some (some (.inl b'), z_ur (z_ut M T') 2 A') ∧ f_e2 (p_c m A l).1 A' ∧ b' = if m = 0 then b else (p_o (m - 1) A l : Int) := by
  intro m
  induction m with
  | zero =>
    intro i b T A l e hI hx h6 hm ht
    refine ⟨T, A, b, ?_, f_e2_rfl A, rfl⟩
    rw [x64_16]
    repeat' (first | (exfalso; omega) | (simp (disch := first | omega | assumption | exact z_b_01) only [x64_0, x64_1, x64_4, x64_5, x64_8, x64_11, x64_13, x64_14, x64_15, x64_17, x64_18, x64_21, x64_22, x64_25, x64_26, x64_29, x64_30, x64_33, x64_36, x64_37, x64_40, x64_41, x64_44, x64_45, x64_48, x64_51, x64_52, x64_53, x64_56, x64_57, x64_60, x64_63, x64_66, x64_67, Option.bind_some, Option.toList_some, Option.toList_none, List.cons_append, List.nil_append, Int.toNat_natCast, Int.toNat_zero, z_w_id, z_b_0, z_b_1, z_b_n0, z_b_t, z_b_f, ↓reduceIte, Int.reduceEq, Int.reduceLT, Int.reduceLE, Int.reduceToNat, not_true_eq_false, not_false_eq_true, false_and, and_false, true_and, and_true, false_or, or_false, true_or, or_true]) | split)
    all_goals rfl
  | succ m ih =>
    intro i b T A l e hI hx h6 hm ht
    simp only [Int.natCast_add, Int.natCast_one] at e ht
    obtain ⟨T1, A1, ⟨n1, b1⟩, q1, q2, q3, q4, q16, q17, -, -, -, q03, q06, q19, -⟩ := f_nextz (s := 2) (M := M) (T := T) hI hx (f_ln (by omega)) h6 (by omega)
    have hjn := hI.2.2.2.2.1.2.2.2.1 _ q1
    have a := hI.2.1 _ hjn
    have len := f_len hI q1
    have hG := hI.1
    obtain ⟨T', A', b', r1, r2, r3⟩ := ih (i + 1) (p_j (p_t A) l : Int) T1 A1 _ (by omega) q2 q3 (by omega) (by omega) (by omega)
    simp only [Int.natCast_add, Int.natCast_one] at r1
    refine ⟨T', A', b', ?_, ?_, ?_⟩
    · unfold p_t at n1 b1 r1
      rw [x64_16]
      repeat' (first | (exfalso; omega) | (simp (disch := first | omega | assumption | exact z_b_01) only [x64_0, x64_1, x64_4, x64_5, x64_8, x64_11, x64_13, x64_14, x64_15, x64_17, x64_18, x64_21, x64_22, x64_25, x64_26, x64_29, x64_30, x64_33, x64_36, x64_37, x64_40, x64_41, x64_44, x64_45, x64_48, x64_51, x64_52, x64_53, x64_56, x64_57, x64_60, x64_63, x64_66, x64_67, Option.bind_some, Option.toList_some, Option.toList_none, List.cons_append, List.nil_append, Int.toNat_natCast, Int.toNat_zero, z_w_id, z_b_0, z_b_1, z_b_n0, z_b_t, z_b_f, ↓reduceIte, Int.reduceEq, Int.reduceLT, Int.reduceLE, Int.reduceToNat, not_true_eq_false, not_false_eq_true, false_and, and_false, true_and, and_true, false_or, or_false, true_or, or_true, z_ur_get, z_up_ur, n1, b1, r1]) | split)
      all_goals rfl
    · rw [p_c_succ]
      exact f_e2_trans (p_c_eq m _ _ _ q4).2 r2
    · rw [r3]
      cases m with
      | zero =>
        rw [if_pos rfl, if_neg (by decide)]
        rfl
      | succ m =>
        rw [if_neg (Nat.succ_ne_zero m), if_neg (Nat.succ_ne_zero (m + 1))]
        show (p_o m A1 _ : Int) = (p_o (m + 1) A l : Int)
        rw [p_o_eq q4 m]
        rfl
/-- frames of a look ahead -/
def w_q (M M' : z_M) : Prop := (∀ o j : Nat, ¬ (27 ≤ o ∧ o < 30) → M' 0 o j = M 0 o j) ∧ ∀ o j : Nat, M' 1 o j = M 1 o j
theorem w_q_rfl (M : z_M) : w_q M M := ⟨fun _ _ _ => rfl, fun _ _ => rfl⟩
theorem w_q_trans {M M1 M2 : z_M} (h : w_q M M1) (k : w_q M1 M2) : w_q M M2 := ⟨fun o j d => (k.1 o j d).trans (h.1 o j d), fun o j => (k.2 o j).trans (h.2 o j)⟩
theorem w_q_t {M M' : z_M} (h : w_q M M') : w_t M M' := ⟨fun o j _ _ _ d => h.1 o j d, h.2⟩
theorem w_M_q {M M' : z_M} {l : List Nat} (hM : w_M M l) (hz : z_nz M') (h : w_q M M') : w_M M' l :=
  ⟨hz, f_H_21 hM.2.1 fun o i q => h.1 o i (by omega), by rw [h.1 0 6 (by omega)]; exact hM.2.2.1, w_h_of hM.2.2.2 (h.1 22 0 (by omega)) fun j => h.1 23 j (by omega)⟩
theorem k_ahead {M : z_M} {l : List Nat} (hM : w_M M l) {n : Nat} (hn : n ≤ l.length) (ht : M 0 0 3 ≤ 20000) :
    ∃ (M' : z_M) (b : Int), z_ev 64 [.inr (some (0, 21)), .inl (n : Int)] M = some (some (.inl b), M') ∧ w_M M' l ∧ w_q M M' ∧ f_e2 (p_c n (M 0) l).1 (M' 2) ∧ b = if n = 0 then -5 else (p_o (n - 1) (M 0) l : Int) := by
  obtain ⟨hz, hH, h6, hh⟩ := id hM
  have h60 := f_len_60 hH.1
  have hc := k_State_copy (s := 2) (s2 := 0) (by decide) (M := M) (A := M 2)
  rw [z_ur_self, a_copy_nz hz] at hc
  have e0 : z_ur M 2 (M 0) = z_ur (z_ut M (M 0)) 2 (M 0) := by rw [z_ut_self]
  rw [e0] at hc
  obtain ⟨T', A', b', r1, r2, r3⟩ := k_ahead_loop (M := M) (n := n) (by omega) n 0 (-5) (M 0) (M 0) l (by omega) hH.1 hH.2.1 (f_06 hH) hn (by omega)
  simp only [Int.natCast_zero] at r1
  have run : z_ev 64 [.inr (some (0, 21)), .inl (n : Int)] M = some (some (.inl b'), z_ur (z_ut M T') 2 A') := by
    rw [x64]
    repeat' (first | (exfalso; omega) | (simp (disch := first | omega | assumption | exact z_b_01) only [x64_0, x64_1, x64_4, x64_5, x64_8, x64_11, x64_13, x64_14, x64_15, x64_17, x64_18, x64_21, x64_22, x64_25, x64_26, x64_29, x64_30, x64_33, x64_36, x64_37, x64_40, x64_41, x64_44, x64_45, x64_48, x64_51, x64_52, x64_53, x64_56, x64_57, x64_60, x64_63, x64_66, x64_67, Option.bind_some, Option.toList_some, Option.toList_none, List.cons_append, List.nil_append, Int.toNat_natCast, Int.toNat_zero, z_w_id, z_b_0, z_b_1, z_b_n0, z_b_t, z_b_f, ↓reduceIte, Int.reduceEq, Int.reduceLT, Int.reduceLE, Int.reduceToNat, not_true_eq_false, not_false_eq_true, false_and, and_false, true_and, and_true, false_or, or_false, true_or, or_true, hc]) | split)
    all_goals exact r1
  have hq : w_q M (z_ur (z_ut M T') 2 A') := by
    refine ⟨fun o j d => ?_, fun o j => ?_⟩
    · rw [z_ur_ne (by decide)]
      unfold z_ut
      rw [if_neg (fun q => d q.2)]
    · rw [z_ur_ne (by decide)]
      unfold z_ut
      rw [if_neg (fun q => absurd q.1 (by decide))]
  refine ⟨_, b', run, w_M_q hM (z_nz_ev run hz) hq, hq, ?_, r3⟩
  refine f_e2_trans r2 (f_e2_21 fun o i q => z_ur_get q)
theorem k_served {M : z_M} {l : List Nat} (hM : w_M M l) (ht : M 0 0 3 ≤ 20000) {k : Nat} (hk : k < l.length) :
    ∃ M' : z_M, z_ev 80 [.inr (some (0, 21)), .inl (k : Int)] M = some (some (.inl (p_o k (M 0) l : Int)), M') ∧ w_M M' l ∧ w_q M M' := by
  obtain ⟨M', b, r1, r2, r3, -, r5⟩ := k_ahead hM (n := k + 1) (by omega) ht
  rw [if_neg (by omega)] at r5
  simp only [Nat.add_sub_cancel] at r5
  have w5 := hM.2.1.1.2.2.2.2.1.1
  have h60 := f_len_60 hM.2.1.1
  simp only [Int.natCast_add, Int.natCast_one] at r1
  refine ⟨M', ?_, r2, r3⟩
  rw [x80]
  repeat' (first | (exfalso; omega) | (simp (disch := first | omega | assumption | exact z_b_01) only [x80_0, x80_1, x80_4, x80_6, x80_7, x80_8, x80_9, x80_12, x80_15, x80_18, x80_21, x80_23, x80_24, x80_25, x80_26, x80_27, x80_28, x80_31, Option.bind_some, Option.toList_some, Option.toList_none, List.cons_append, List.nil_append, Int.toNat_natCast, Int.toNat_zero, z_w_id, z_b_0, z_b_1, z_b_n0, z_b_t, z_b_f, ↓reduceIte, Int.reduceEq, Int.reduceLT, Int.reduceLE, Int.reduceToNat, not_true_eq_false, not_false_eq_true, false_and, and_false, true_and, and_true, false_or, or_false, true_or, or_true, r1]) | split)
  all_goals (rw [r5])
theorem k_served_no {M : z_M} {l : List Nat} (hM : w_M M l) {k : Int} (hk : (l.length : Int) ≤ k) : z_ev 80 [.inr (some (0, 21)), .inl k] M = some (some (.inl (-5)), M) := by
  have w5 := hM.2.1.1.2.2.2.2.1.1
  rw [x80]
  repeat' (first | (exfalso; omega) | (simp (disch := first | omega | assumption | exact z_b_01) only [x80_0, x80_1, x80_4, x80_6, x80_7, x80_8, x80_9, x80_12, x80_15, x80_18, x80_21, x80_23, x80_24, x80_25, x80_26, x80_27, x80_28, x80_31, Option.bind_some, Option.toList_some, Option.toList_none, List.cons_append, List.nil_append, Int.toNat_natCast, Int.toNat_zero, z_w_id, z_b_0, z_b_1, z_b_n0, z_b_t, z_b_f, ↓reduceIte, Int.reduceEq, Int.reduceLT, Int.reduceLE, Int.reduceToNat, not_true_eq_false, not_false_eq_true, false_and, and_false, true_and, and_true, false_or, or_false, true_or, or_true]) | split)
theorem k_served_neg {M : z_M} {k : Int} (hk : k < 0) : z_ev 80 [.inr (some (0, 21)), .inl k] M = some (some (.inl (-2)), M) := by
  rw [x80]
  repeat' (first | (exfalso; omega) | (simp (disch := first | omega | assumption | exact z_b_01) only [x80_0, x80_1, x80_4, x80_6, x80_7, x80_8, x80_9, x80_12, x80_15, x80_18, x80_21, x80_23, x80_24, x80_25, x80_26, x80_27, x80_28, x80_31, Option.bind_some, Option.toList_some, Option.toList_none, List.cons_append, List.nil_append, Int.toNat_natCast, Int.toNat_zero, z_w_id, z_b_0, z_b_1, z_b_n0, z_b_t, z_b_f, ↓reduceIte, Int.reduceEq, Int.reduceLT, Int.reduceLE, Int.reduceToNat, not_true_eq_false, not_false_eq_true, false_and, and_false, true_and, and_true, false_or, or_false, true_or, or_true]) | split)
theorem k_wait {M : z_M} {l : List Nat} (hM : w_M M l) {j : Nat} (hj : j ∈ l) : (j : Int) < M 0 3 0 ∧ M 0 3 0 ≤ 200 ∧ M 0 19 j = -5 := by
  have hI := hM.2.1.1
  have el := hI.2.2.2.2.2.2.1
  refine ⟨hI.2.2.2.2.1.2.2.2.1 j hj, hI.2.2.2.2.1.2.2.2.2.1, ?_⟩
  rw [el] at hj
  exact (e_l_mem.mp hj).2
theorem k_beginsAt {M : z_M} {l : List Nat} (hM : w_M M l) (ht : M 0 0 3 ≤ 20000) {j : Nat} (hj : j ∈ l) :
    ∃ M' : z_M, z_ev 65 [.inr (some (0, 21)), .inl (j : Int)] M = some (some (.inl (p_F (M 0) l j)), M') ∧ w_M M' l ∧ w_q M M' := by
  obtain ⟨M', b, r1, r2, r3, r4, -⟩ := k_ahead hM (n := l.length) (Nat.le_refl _) ht
  have w5 := hM.2.1.1.2.2.2.2.1.1
  obtain ⟨h1, h2, h3⟩ := k_wait hM hj
  have e19 : M' 2 19 j = p_F (M 0) l j := r4.1 19 j (f_S16 (by decide)) (by omega)
  refine ⟨M', ?_, r2, r3⟩
  rw [x65]
  repeat' (first | (exfalso; omega) | (simp (disch := first | omega | assumption | exact z_b_01) only [x65_0, x65_1, x65_4, x65_7, x65_8, x65_11, x65_14, x65_15, x65_16, x65_17, x65_20, x65_23, x65_24, x65_27, x65_30, x65_32, x65_33, x65_34, x65_35, x65_38, x65_41, x65_44, x65_47, x65_48, x65_49, x65_52, x65_55, x65_58, x65_59, x65_60, Option.bind_some, Option.toList_some, Option.toList_none, List.cons_append, List.nil_append, Int.toNat_natCast, Int.toNat_zero, z_w_id, z_b_0, z_b_1, z_b_n0, z_b_t, z_b_f, ↓reduceIte, Int.reduceEq, Int.reduceLT, Int.reduceLE, Int.reduceToNat, not_true_eq_false, not_false_eq_true, false_and, and_false, true_and, and_true, false_or, or_false, true_or, or_true, k_Jobs_has, k_isWaiting, h3, w5, r1, e19]) | split)
  all_goals rfl
theorem k_bound {M : z_M} {l : List Nat} (hM : w_M M l) (ht : M 0 0 3 ≤ 20000) {j : Nat} (hj : j ∈ l) :
    z_ev 66 [.inr (some (0, 21)), .inl (j : Int)] M = some (some (.inl (if M 0 13 (M 0 16 j).toNat = 0 then -5 else (if M 0 18 j + M 0 13 (M 0 16 j).toNat < M 0 0 3 then M 0 0 3 else M 0 18 j + M 0 13 (M 0 16 j).toNat) + 98 + p_ah (M 0) l j)), M) := by
  have hI := hM.2.1.1
  obtain ⟨h1, h2, h3⟩ := k_wait hM hj
  have cW := hI.2.2.2.2.1
  have hz : ∀ i ∈ l, 0 ≤ M 0 17 i ∧ M 0 17 i ≤ 99 := fun i hi => by have := (hI.2.1 i (cW.2.2.2.1 i hi)).2.1; omega
  have ka := k_ageFor (s := 0) (M := M) hI.1 hI.2.1 h2 h1
  have ks := k_sizesAheadOf (s := 0) (M := M) cW hz (j : Int)
  have es : s_sum l (fun i => if (i : Int) < (j : Int) then M 0 17 i else 0) = p_ah (M 0) l j := s_sum_congr fun i _ => by
    by_cases q : i < j
    · rw [if_pos q, if_pos (by omega)]
    · rw [if_neg q, if_neg (by omega)]
  rw [es] at ks
  have pb : 0 ≤ p_ah (M 0) l j ∧ p_ah (M 0) l j ≤ 5940 := by
    have a := s_sum_bd (l := l) (f := fun i => if i < j then M 0 17 i else 0) (b := 99) (fun i hi => by have := hz i hi; split <;> omega)
    have b := f_len_60 hI
    unfold p_ah
    omega
  have aj := hI.2.1 j h1
  have ac := hI.2.2.1 (M 0 16 j).toNat (by omega)
  have g3 := hI.1.2.2
  rw [x66]
  by_cases q : M 0 13 (M 0 16 j).toNat = 0
  · rw [if_pos q]
    repeat' (first | (exfalso; omega) | (simp (disch := first | omega | assumption | exact z_b_01) only [x66_0, x66_1, x66_4, x66_7, x66_8, x66_11, x66_14, x66_15, x66_16, x66_17, x66_20, x66_23, x66_24, x66_27, x66_30, x66_32, x66_33, x66_34, x66_37, x66_38, x66_41, x66_42, x66_43, x66_46, x66_48, x66_49, x66_50, x66_53, x66_56, x66_59, x66_60, x66_61, x66_62, x66_63, x66_64, x66_67, x66_70, x66_73, x66_74, x66_75, x66_77, x66_78, x66_79, x66_82, x66_85, x66_86, x66_89, x66_90, Option.bind_some, Option.toList_some, Option.toList_none, List.cons_append, List.nil_append, Int.toNat_natCast, Int.toNat_zero, z_w_id, z_b_0, z_b_1, z_b_n0, z_b_t, z_b_f, ↓reduceIte, Int.reduceEq, Int.reduceLT, Int.reduceLE, Int.reduceToNat, not_true_eq_false, not_false_eq_true, false_and, and_false, true_and, and_true, false_or, or_false, true_or, or_true, k_Jobs_has, k_isWaiting, h3, ka, q]) | split)
  · rw [if_neg q]
    by_cases y : M 0 18 j + M 0 13 (M 0 16 j).toNat < M 0 0 3
    · rw [if_pos y]
      repeat' (first | (exfalso; omega) | (simp (disch := first | omega | assumption | exact z_b_01) only [x66_0, x66_1, x66_4, x66_7, x66_8, x66_11, x66_14, x66_15, x66_16, x66_17, x66_20, x66_23, x66_24, x66_27, x66_30, x66_32, x66_33, x66_34, x66_37, x66_38, x66_41, x66_42, x66_43, x66_46, x66_48, x66_49, x66_50, x66_53, x66_56, x66_59, x66_60, x66_61, x66_62, x66_63, x66_64, x66_67, x66_70, x66_73, x66_74, x66_75, x66_77, x66_78, x66_79, x66_82, x66_85, x66_86, x66_89, x66_90, Option.bind_some, Option.toList_some, Option.toList_none, List.cons_append, List.nil_append, Int.toNat_natCast, Int.toNat_zero, z_w_id, z_b_0, z_b_1, z_b_n0, z_b_t, z_b_f, ↓reduceIte, Int.reduceEq, Int.reduceLT, Int.reduceLE, Int.reduceToNat, not_true_eq_false, not_false_eq_true, false_and, and_false, true_and, and_true, false_or, or_false, true_or, or_true, k_Jobs_has, k_isWaiting, h3, ka, ks]) | split)
      all_goals (refine z_ri ?_ rfl; omega)
    · rw [if_neg y]
      repeat' (first | (exfalso; omega) | (simp (disch := first | omega | assumption | exact z_b_01) only [x66_0, x66_1, x66_4, x66_7, x66_8, x66_11, x66_14, x66_15, x66_16, x66_17, x66_20, x66_23, x66_24, x66_27, x66_30, x66_32, x66_33, x66_34, x66_37, x66_38, x66_41, x66_42, x66_43, x66_46, x66_48, x66_49, x66_50, x66_53, x66_56, x66_59, x66_60, x66_61, x66_62, x66_63, x66_64, x66_67, x66_70, x66_73, x66_74, x66_75, x66_77, x66_78, x66_79, x66_82, x66_85, x66_86, x66_89, x66_90, Option.bind_some, Option.toList_some, Option.toList_none, List.cons_append, List.nil_append, Int.toNat_natCast, Int.toNat_zero, z_w_id, z_b_0, z_b_1, z_b_n0, z_b_t, z_b_f, ↓reduceIte, Int.reduceEq, Int.reduceLT, Int.reduceLE, Int.reduceToNat, not_true_eq_false, not_false_eq_true, false_and, and_false, true_and, and_true, false_or, or_false, true_or, or_true, k_Jobs_has, k_isWaiting, h3, ka, ks]) | split)
      all_goals (refine z_ri ?_ rfl; omega)
