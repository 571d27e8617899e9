/-! the acts of the class -/
theorem w_done {M M1 : z_M} {A' : Nat → Nat → Int} {l' : List Nat} {k : Nat} {as : List z_V} {r : Option z_V} (hz : z_nz M) (run : z_ev k as M = some (r, z_ur M1 0 A')) (pf : w_pf M M1) (hH : f_H A' l') (h6 : A' 0 6 ≤ 98) : w_M (z_ur M1 0 A') l' ∧ w_t M (z_ur M1 0 A') := by
  have e21 : ∀ o i, o < 21 → z_ur M1 0 A' 0 o i = A' o i := fun o i h => z_ur_get h
  refine ⟨⟨z_nz_ev run hz, f_H_21 hH e21, by rw [e21 0 6 (by decide)]; exact h6, w_h_of pf.2.2.2.1 (z_ur_top (by decide)) fun j => z_ur_top (by decide)⟩, fun o j a b c _ => ?_, fun o j => ?_⟩
  · rw [z_ur_top a]; exact pf.1 o j b c
  · rw [z_ur_ne (by decide)]; exact pf.2.1 o j
theorem k_addGroup {M : z_M} {l : List Nat} (hM : w_M M l) {q : Int} (hq : 1 ≤ q ∧ q ≤ 200) (h3 : M 0 1 0 < 3) : ∃ M' : z_M, z_ev 63 [.inr (some (0, 21)), .inl q] M = some (some (.inl (M 0 1 0)), M') ∧ w_M M' l ∧ w_t M M' ∧ ∀ o i, o < 21 → M' 0 o i = a_addGroup (M 0) q o i := by
  obtain ⟨hz, hH, h6, hh⟩ := hM
  have g1 := hH.1.1.1
  obtain ⟨g, hg⟩ : ∃ g : Nat, M 0 1 0 = (g : Int) := ⟨(M 0 1 0).toNat, by omega⟩
  obtain ⟨M1, p1, pf⟩ := k_push2 hh
  have a1 := k_Groups_append (s := 0) (M := M1) (A := M 0) g1.1 h3 q
  have run : z_ev 63 [.inr (some (0, 21)), .inl q] M = some (some (.inl (M 0 1 0)), z_ur M1 0 (a_addGroup (M 0) q)) := by
    rw [x63]
    repeat' (first | (exfalso; omega) | (simp (disch := first | omega | assumption | exact z_b_01) only [x63_0, x63_1, x63_4, x63_7, x63_9, x63_10, x63_11, x63_14, x63_17, x63_20, x63_21, x63_24, x63_26, x63_27, x63_28, x63_31, x63_32, x63_35, x63_38, x63_39, x63_42, x63_45, x63_46, x63_49, Option.bind_some, Option.toList_some, Option.toList_none, List.cons_append, List.nil_append, Int.toNat_natCast, Int.toNat_zero, z_w_id, z_b_0, z_b_1, z_b_n0, z_b_t, z_b_f, ↓reduceIte, Int.reduceEq, Int.reduceLT, Int.reduceLE, Int.reduceToNat, not_true_eq_false, not_false_eq_true, false_and, and_false, true_and, and_true, false_or, or_false, true_or, or_true, k_isQuantum, p1, a1]) | split)
    all_goals rfl
  obtain ⟨d1, d2⟩ := w_done hz run pf (f_H_addGroup hH hg (by omega) hq) (by
    unfold a_addGroup
    rw [a_u_o (by decide), a_u_o (by decide), a_u_o (by decide), a_u_o (by decide)]; exact h6)
  exact ⟨_, run, d1, d2, fun o i h => z_ur_get h⟩
theorem k_addClass {M : z_M} {l : List Nat} (hM : w_M M l) {g q z f : Int} (hg : 0 ≤ g ∧ g < M 0 1 0) (hq : 1 ≤ q ∧ q ≤ 200) (hz' : 10 ≤ z ∧ z ≤ 500) (hf : 0 ≤ f ∧ f ≤ 20) (h8 : M 0 2 0 < 8) : ∃ M' : z_M, z_ev 62 [.inr (some (0, 21)), .inl g, .inl q, .inl z, .inl f] M = some (some (.inl (M 0 2 0)), M') ∧ w_M M' l ∧ w_t M M' ∧ ∀ o i, o < 21 → M' 0 o i = a_addClass (M 0) g q z f o i := by
  obtain ⟨hz, hH, h6, hh⟩ := hM
  have g1 := hH.1.1.1
  have g2 := hH.1.1.2.1
  obtain ⟨c, hc⟩ : ∃ c : Nat, M 0 2 0 = (c : Int) := ⟨(M 0 2 0).toNat, by omega⟩
  obtain ⟨M1, p1, pf⟩ := k_push2 hh
  have a1 := k_Classes_append (s := 0) (M := M1) (A := M 0) g2.1 h8 g q z f
  have run : z_ev 62 [.inr (some (0, 21)), .inl g, .inl q, .inl z, .inl f] M = some (some (.inl (M 0 2 0)), z_ur M1 0 (a_addClass (M 0) g q z f)) := by
    rw [x62]
    repeat' (first | (exfalso; omega) | (simp (disch := first | omega | assumption | exact z_b_01) only [x62_0, x62_1, x62_4, x62_7, x62_8, x62_11, x62_14, x62_15, x62_16, x62_17, x62_20, x62_23, x62_24, x62_26, x62_29, x62_32, x62_35, x62_37, x62_38, x62_40, x62_43, x62_46, x62_48, x62_49, x62_50, x62_53, x62_56, x62_59, x62_61, x62_64, x62_66, x62_67, x62_68, x62_71, x62_72, x62_75, x62_78, x62_79, x62_82, x62_85, x62_86, x62_87, x62_88, x62_90, x62_93, Option.bind_some, Option.toList_some, Option.toList_none, List.cons_append, List.nil_append, Int.toNat_natCast, Int.toNat_zero, z_w_id, z_b_0, z_b_1, z_b_n0, z_b_t, z_b_f, ↓reduceIte, Int.reduceEq, Int.reduceLT, Int.reduceLE, Int.reduceToNat, not_true_eq_false, not_false_eq_true, false_and, and_false, true_and, and_true, false_or, or_false, true_or, or_true, k_Groups_has, k_isQuantum, k_isWithin, p1, a1]) | split)
    all_goals rfl
  obtain ⟨d1, d2⟩ := w_done hz run pf (f_H_addClass hH hc (by omega) hg hq hz' hf) (by
    unfold a_addClass
    rw [a_u_o (by decide), a_u_o (by decide), a_u_o (by decide), a_u_o (by decide), a_u_o (by decide), a_u_o (by decide), a_u_o (by decide), a_u_o (by decide), a_u_o (by decide), a_u_o (by decide)]; exact h6)
  exact ⟨_, run, d1, d2, fun o i h => z_ur_get h⟩
theorem k_addNo {M : z_M} {l : List Nat} (hM : w_M M l) {c : Nat} (hc : (c : Int) < M 0 2 0) {z : Int} (hz : 1 ≤ z ∧ z ≤ 99) (h : M 0 12 c < z ∨ 200 ≤ M 0 3 0 ∨ 60 ≤ M 0 3 5) : z_ev 61 [.inr (some (0, 21)), .inl (c : Int), .inl z] M = some (some (.inl (if M 0 12 c < z then -4 else -3)), M) := by
  have k := k_whyNotAdmit (s := 0) (M := M) hM.2.1.1.1 (c : Int) z
  have e : a_why (M 0) (c : Int) z = if M 0 12 c < z then -4 else -3 := by
    unfold a_why
    rw [if_neg (by omega), if_neg (by omega), Int.toNat_natCast]
    by_cases q : M 0 12 c < z
    · rw [if_pos q, if_pos q]
    · rw [if_neg q, if_neg q, if_pos (by omega)]
  rw [e] at k
  have hb : (if M 0 12 c < z then (-4 : Int) else -3) < 0 := by split <;> omega
  generalize (if M 0 12 c < z then (-4 : Int) else -3) = v at k hb
  rw [x61]
  repeat' (first | (exfalso; omega) | (simp (disch := first | omega | assumption | exact z_b_01) only [x61_0, x61_1, x61_4, x61_5, x61_6, x61_9, x61_10, x61_11, x61_14, x61_15, x61_16, x61_17, x61_20, x61_21, x61_24, x61_27, x61_28, x61_31, x61_32, x61_33, x61_36, Option.bind_some, Option.toList_some, Option.toList_none, List.cons_append, List.nil_append, Int.toNat_natCast, Int.toNat_zero, z_w_id, z_b_0, z_b_1, z_b_n0, z_b_t, z_b_f, ↓reduceIte, Int.reduceEq, Int.reduceLT, Int.reduceLE, Int.reduceToNat, not_true_eq_false, not_false_eq_true, false_and, and_false, true_and, and_true, false_or, or_false, true_or, or_true, k]) | split)
theorem k_addYes {M : z_M} {l : List Nat} (hM : w_M M l) {c : Nat} (hc : (c : Int) < M 0 2 0) {z : Int} (hz' : 1 ≤ z ∧ z ≤ 99) (h : z ≤ M 0 12 c) (h2 : M 0 3 0 < 200) (h3 : M 0 3 5 < 60) : ∃ (M' : z_M) (l' : List Nat), z_ev 61 [.inr (some (0, 21)), .inl (c : Int), .inl z] M = some (some (.inl (M 0 3 0)), M') ∧ w_M M' l' ∧ w_t M M' ∧ ∀ o i, o < 21 → M' 0 o i = a_admit (M 0) c z o i := by
  obtain ⟨hz, hH, h6, hh⟩ := id hM
  have hI := hH.1
  have cW := hI.2.2.2.2.1
  have c3 := cW.2.2.2.2
  have g2 := hI.1.2.1
  have ac := hI.2.2.1 c hc
  obtain ⟨j, hj⟩ : ∃ j : Nat, M 0 3 0 = (j : Int) := ⟨(M 0 3 0).toNat, by omega⟩
  obtain ⟨M1, p1, pf⟩ := k_push2 hh
  have k := k_whyNotAdmit (s := 0) (M := M) hI.1 (c : Int) z
  have e : a_why (M 0) (c : Int) z = 0 := by
    unfold a_why
    rw [if_neg (by omega), if_neg (by omega), Int.toNat_natCast, if_neg (by omega), if_neg (by omega)]
  rw [e] at k
  have w5 := cW.1
  have a1 := k_admit (s := 0) (M := M1) (A := M 0) hc g2.2 (by omega) (z := z) (by omega) c3.2 h2 (by omega) h3
  have run : z_ev 61 [.inr (some (0, 21)), .inl (c : Int), .inl z] M = some (some (.inl (M 0 3 0)), z_ur M1 0 (a_admit (M 0) c z)) := by
    rw [x61]
    repeat' (first | (exfalso; omega) | (simp (disch := first | omega | assumption | exact z_b_01) only [x61_0, x61_1, x61_4, x61_5, x61_6, x61_9, x61_10, x61_11, x61_14, x61_15, x61_16, x61_17, x61_20, x61_21, x61_24, x61_27, x61_28, x61_31, x61_32, x61_33, x61_36, Option.bind_some, Option.toList_some, Option.toList_none, List.cons_append, List.nil_append, Int.toNat_natCast, Int.toNat_zero, z_w_id, z_b_0, z_b_1, z_b_n0, z_b_t, z_b_f, ↓reduceIte, Int.reduceEq, Int.reduceLT, Int.reduceLE, Int.reduceToNat, not_true_eq_false, not_false_eq_true, false_and, and_false, true_and, and_true, false_or, or_false, true_or, or_true, k, p1, a1]) | split)
    all_goals rfl
  obtain ⟨d1, d2⟩ := w_done hz run pf (f_H_come hH hj (by omega) (by omega) hc hz' h) (by
    unfold a_admit a_append
    rw [a_u_o (by decide), a_u_o (by decide), a_u_o (by decide), a_u_o (by decide), a_u_o (by decide), a_u_o (by decide), a_u_o (by decide), a_u_o (by decide)]; exact h6)
  exact ⟨_, _, run, d1, d2, fun o i h => z_ur_get h⟩
theorem k_setAge {M : z_M} {l : List Nat} (hM : w_M M l) {c : Nat} (hc : (c : Int) < M 0 2 0) {v : Int} (hv : 0 ≤ v ∧ v ≤ 2000) : ∃ M' : z_M, z_ev 81 [.inr (some (0, 21)), .inl (c : Int), .inl v] M = some (some (.inl (if M 0 13 c = v then -5 else M 0 13 c)), M') ∧ w_M M' l ∧ w_t M M' ∧ ∀ o i, o < 21 → M' 0 o i = a_u (M 0) 13 c v o i := by
  obtain ⟨hz, hH, h6, hh⟩ := id hM
  have g2 := hH.1.1.2.1
  by_cases he : M 0 13 c = v
  · refine ⟨M, ?_, hM, w_t_rfl M, fun o i _ => by rw [← he, a_u_self]⟩
    rw [if_pos he, x81]
    repeat' (first | (exfalso; omega) | (simp (disch := first | omega | assumption | exact z_b_01) only [x81_0, x81_1, x81_4, x81_7, x81_8, x81_11, x81_14, x81_15, x81_16, x81_17, x81_18, x81_21, x81_24, x81_27, x81_29, x81_30, x81_31, x81_34, x81_37, x81_40, x81_41, x81_42, x81_43, x81_44, x81_45, x81_48, x81_50, x81_51, x81_52, x81_55, x81_56, x81_59, x81_62, x81_63, x81_66, x81_69, x81_72, x81_73, x81_74, x81_75, x81_76, Option.bind_some, Option.toList_some, Option.toList_none, List.cons_append, List.nil_append, Int.toNat_natCast, Int.toNat_zero, z_w_id, z_b_0, z_b_1, z_b_n0, z_b_t, z_b_f, ↓reduceIte, Int.reduceEq, Int.reduceLT, Int.reduceLE, Int.reduceToNat, not_true_eq_false, not_false_eq_true, false_and, and_false, true_and, and_true, false_or, or_false, true_or, or_true, k_Classes_has, k_isWithin, he]) | split)
  · obtain ⟨M1, p1, pf⟩ := k_push2 hh
    have run : z_ev 81 [.inr (some (0, 21)), .inl (c : Int), .inl v] M = some (some (.inl (M 0 13 c)), z_ur M1 0 (a_u (M 0) 13 c v)) := by
      rw [x81]
      repeat' (first | (exfalso; omega) | (simp (disch := first | omega | assumption | exact z_b_01) only [x81_0, x81_1, x81_4, x81_7, x81_8, x81_11, x81_14, x81_15, x81_16, x81_17, x81_18, x81_21, x81_24, x81_27, x81_29, x81_30, x81_31, x81_34, x81_37, x81_40, x81_41, x81_42, x81_43, x81_44, x81_45, x81_48, x81_50, x81_51, x81_52, x81_55, x81_56, x81_59, x81_62, x81_63, x81_66, x81_69, x81_72, x81_73, x81_74, x81_75, x81_76, Option.bind_some, Option.toList_some, Option.toList_none, List.cons_append, List.nil_append, Int.toNat_natCast, Int.toNat_zero, z_w_id, z_b_0, z_b_1, z_b_n0, z_b_t, z_b_f, ↓reduceIte, Int.reduceEq, Int.reduceLT, Int.reduceLE, Int.reduceToNat, not_true_eq_false, not_false_eq_true, false_and, and_false, true_and, and_true, false_or, or_false, true_or, or_true, k_Classes_has, k_isWithin, p1, z_ur_get, z_up_ur]) | split)
      all_goals rfl
    obtain ⟨d1, d2⟩ := w_done hz run pf (f_H_set hH (o := 13) (Or.inr (Or.inr rfl)) (Or.inr ⟨rfl, hv⟩)) (by rw [a_u_o (by decide)]; exact h6)
    rw [if_neg he]
    exact ⟨_, run, d1, d2, fun o i h => z_ur_get h⟩
theorem k_setQuantum {M : z_M} {l : List Nat} (hM : w_M M l) {c : Nat} (hc : (c : Int) < M 0 2 0) {v : Int} (hv : 1 ≤ v ∧ v ≤ 200) : ∃ M' : z_M, z_ev 83 [.inr (some (0, 21)), .inl (c : Int), .inl v] M = some (some (.inl (if M 0 8 c = v then -5 else M 0 8 c)), M') ∧ w_M M' l ∧ w_t M M' ∧ ∀ o i, o < 21 → M' 0 o i = a_u (M 0) 8 c v o i := by
  obtain ⟨hz, hH, h6, hh⟩ := id hM
  have g2 := hH.1.1.2.1
  by_cases he : M 0 8 c = v
  · refine ⟨M, ?_, hM, w_t_rfl M, fun o i _ => by rw [← he, a_u_self]⟩
    rw [if_pos he, x83]
    repeat' (first | (exfalso; omega) | (simp (disch := first | omega | assumption | exact z_b_01) only [x83_0, x83_1, x83_4, x83_7, x83_8, x83_11, x83_14, x83_15, x83_16, x83_17, x83_20, x83_23, x83_25, x83_26, x83_27, x83_30, x83_33, x83_36, x83_37, x83_38, x83_39, x83_40, x83_41, x83_44, x83_46, x83_47, x83_48, x83_51, x83_52, x83_55, x83_58, x83_59, x83_62, x83_65, x83_68, x83_69, x83_70, x83_71, x83_72, Option.bind_some, Option.toList_some, Option.toList_none, List.cons_append, List.nil_append, Int.toNat_natCast, Int.toNat_zero, z_w_id, z_b_0, z_b_1, z_b_n0, z_b_t, z_b_f, ↓reduceIte, Int.reduceEq, Int.reduceLT, Int.reduceLE, Int.reduceToNat, not_true_eq_false, not_false_eq_true, false_and, and_false, true_and, and_true, false_or, or_false, true_or, or_true, k_Classes_has, k_isQuantum, he]) | split)
  · obtain ⟨M1, p1, pf⟩ := k_push2 hh
    have run : z_ev 83 [.inr (some (0, 21)), .inl (c : Int), .inl v] M = some (some (.inl (M 0 8 c)), z_ur M1 0 (a_u (M 0) 8 c v)) := by
      rw [x83]
      repeat' (first | (exfalso; omega) | (simp (disch := first | omega | assumption | exact z_b_01) only [x83_0, x83_1, x83_4, x83_7, x83_8, x83_11, x83_14, x83_15, x83_16, x83_17, x83_20, x83_23, x83_25, x83_26, x83_27, x83_30, x83_33, x83_36, x83_37, x83_38, x83_39, x83_40, x83_41, x83_44, x83_46, x83_47, x83_48, x83_51, x83_52, x83_55, x83_58, x83_59, x83_62, x83_65, x83_68, x83_69, x83_70, x83_71, x83_72, Option.bind_some, Option.toList_some, Option.toList_none, List.cons_append, List.nil_append, Int.toNat_natCast, Int.toNat_zero, z_w_id, z_b_0, z_b_1, z_b_n0, z_b_t, z_b_f, ↓reduceIte, Int.reduceEq, Int.reduceLT, Int.reduceLE, Int.reduceToNat, not_true_eq_false, not_false_eq_true, false_and, and_false, true_and, and_true, false_or, or_false, true_or, or_true, k_Classes_has, k_isQuantum, p1, z_ur_get, z_up_ur]) | split)
      all_goals rfl
    obtain ⟨d1, d2⟩ := w_done hz run pf (f_H_set hH (o := 8) (Or.inr (Or.inl rfl)) (Or.inl hv)) (by rw [a_u_o (by decide)]; exact h6)
    rw [if_neg he]
    exact ⟨_, run, d1, d2, fun o i h => z_ur_get h⟩
theorem k_mark {M : z_M} {l : List Nat} (hM : w_M M l) : ∃ M' : z_M, z_ev 75 [.inr (some (0, 21))] M = some (some (.inl (s_sum (s_rg (M 0 2 0).toNat) fun c => M 0 15 c)), M') ∧ w_M M' l ∧ w_t M M' ∧ ∀ o i, o < 21 → M' 0 o i = a_zero (M 0) (M 0 2 0).toNat o i := by
  obtain ⟨hz, hH, h6, hh⟩ := id hM
  have g2 := hH.1.1.2.1
  obtain ⟨M1, p1, pf⟩ := k_push2 hh
  have a1 := k_take (s := 0) (M := M1) (A := M 0) hH.1.2.2.1 g2.1 g2.2
  have run : z_ev 75 [.inr (some (0, 21))] M = some (some (.inl (s_sum (s_rg (M 0 2 0).toNat) fun c => M 0 15 c)), z_ur M1 0 (a_zero (M 0) (M 0 2 0).toNat)) := by
    rw [x75]
    repeat' (first | (exfalso; omega) | (simp (disch := first | omega | assumption | exact z_b_01) only [x75_0, x75_1, x75_4, x75_5, x75_8, x75_11, x75_12, x75_15, x75_18, x75_21, Option.bind_some, Option.toList_some, Option.toList_none, List.cons_append, List.nil_append, Int.toNat_natCast, Int.toNat_zero, z_w_id, z_b_0, z_b_1, z_b_n0, z_b_t, z_b_f, ↓reduceIte, Int.reduceEq, Int.reduceLT, Int.reduceLE, Int.reduceToNat, not_true_eq_false, not_false_eq_true, false_and, and_false, true_and, and_true, false_or, or_false, true_or, or_true, p1, a1]) | split)
    all_goals rfl
  obtain ⟨d1, d2⟩ := w_done hz run pf (f_H_zero hH) (by rw [a_zero_o (by decide)]; exact h6)
  exact ⟨_, run, d1, d2, fun o i h => z_ur_get h⟩
/-! the law's small numbers -/
theorem z_and_0 (x : Int) : 0 ≤ z_and x 2147483647 := by
  unfold z_and
  refine Int.not_lt.mp fun h => ?_
  have e : (Int32.ofInt x &&& Int32.ofInt 2147483647).toBitVec.msb = true := by
    rw [BitVec.msb_eq_toInt]
    exact decide_eq_true h
  rw [Int32.toBitVec_and, BitVec.msb_and] at e
  have e2 : (Int32.ofInt 2147483647).toBitVec.msb = false := by decide
  rw [e2, Bool.and_false] at e
  cases e
def z_low (v n : Int) : Int := (z_and v 2147483647).tmod n
theorem z_low_in (v : Int) {n : Int} (hn : 1 ≤ n) : 0 ≤ z_low v n ∧ z_low v n < n := by
  unfold z_low
  exact ⟨Int.tmod_nonneg _ (z_and_0 v), Int.tmod_lt_of_pos _ (by omega)⟩
theorem k_low {M : z_M} (v : Int) {n : Int} (hn : 1 ≤ n ∧ n ≤ 1000000) : z_ev 90 [.inl v, .inl n] M = some (some (.inl (z_low v n)), M) := by
  have h := z_low_in v hn.1
  have e : (z_and v 2147483647).tmod n = z_low v n := rfl
  rw [x90]
  repeat' (first | (exfalso; omega) | (simp (disch := first | omega | assumption | exact z_b_01) only [x90_0, x90_1, x90_3, x90_4, x90_5, x90_6, Option.bind_some, Option.toList_some, Option.toList_none, List.cons_append, List.nil_append, Int.toNat_natCast, Int.toNat_zero, z_w_id, z_b_0, z_b_1, z_b_n0, z_b_t, z_b_f, ↓reduceIte, Int.reduceEq, Int.reduceLT, Int.reduceLE, Int.reduceToNat, not_true_eq_false, not_false_eq_true, false_and, and_false, true_and, and_true, false_or, or_false, true_or, or_true, e]) | split)
