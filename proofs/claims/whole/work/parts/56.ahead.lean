/-! what comes next if nobody is let in any more, both sides -/
theorem a_u_self (A : Nat → Nat → Int) (o j : Nat) : a_u A o j (A o j) = A := by
  funext o' j'
  unfold a_u
  split
  · rename_i h; rw [h.1, h.2]
  · rfl
def e_Z (A : Nat → Nat → Int) (ρ : Nat → Int) (l : List Nat) : Prop :=
  ρ 5 = A 0 5 ∧ ((A 0 5 = -5 ∧ A 0 6 = 0) ∨ ∃ j : Nat, A 0 5 = (j : Int) ∧ (j : Int) < A 3 0 ∧ A 19 j ≠ -5 ∧ ρ (100 + 7 * j + 6) = A 0 6 ∧ 1 ≤ A 0 6 ∧ A 0 6 ≤ 99) ∧ ∀ i ∈ l, ρ (100 + 7 * i + 6) = A 17 i
theorem k_out {M : z_M} {A : Nat → Nat → Int} {ρ : Nat → Int} {l : List Nat} (hI : e_I A l) (hW : e_W A ρ) (hZ : e_Z A ρ l) (ht : A 0 3 + 99 ≤ 30000) :
    ∃ ρs, z_ev 130 [.inr (some (0, 30))] (z_mr M ρ) = some (none, z_mr M ρs) ∧ e_W (a_u A 0 3 (A 0 3 + A 0 6)) ρs ∧ (∀ i, i ≠ 0 → i ≠ 5 → ¬ (100 ≤ i ∧ (i - 100) % 7 = 3) → ρs i = ρ i) ∧ 0 ≤ A 0 6 ∧ A 0 6 ≤ 99 := by
  obtain ⟨G1, G2, G3, G4⟩ := hI.1
  have c3 := hI.2.2.2.2.1.2.2.2.2
  obtain ⟨z5, zs, zl⟩ := hZ
  rcases zs with ⟨s5, s6⟩ | ⟨j, s5, sj, s19, sl, s1, s2⟩
  · refine ⟨ρ, ?_, ?_, fun _ _ _ _ => rfl, by omega, by omega⟩
    · rw [x130]
      rw [s5] at z5
      repeat' (first | (exfalso; omega) | (simp (disch := first | omega | assumption | exact z_b_01) only [x130_0, x130_1, x130_4, x130_5, x130_6, x130_7, x130_8, x130_11, x130_12, x130_15, x130_16, x130_17, x130_18, x130_19, x130_22, x130_23, x130_26, x130_28, x130_29, x130_30, x130_31, x130_32, x130_33, x130_36, x130_37, x130_40, x130_41, x130_42, x130_43, x130_44, x130_45, x130_48, x130_49, x130_51, x130_52, Option.bind_some, Option.toList_some, Option.toList_none, List.cons_append, List.nil_append, Int.toNat_natCast, Int.toNat_zero, z_w_id, z_b_0, z_b_1, z_b_n0, z_b_t, z_b_f, ↓reduceIte, Int.reduceEq, Int.reduceLT, Int.reduceLE, Int.reduceToNat, not_true_eq_false, not_false_eq_true, false_and, and_false, true_and, and_true, false_or, or_false, true_or, or_true, z_mr_row, z5]) | split)
    · rw [s6, Int.add_zero, a_u_self]; exact hW
  · have k1 := fun M => k_its (j := j) (by omega) M
    have w0 := hW.1.1
    refine ⟨r_u (r_u (r_u ρ 0 (A 0 3 + A 0 6)) (100 + 7 * j + 3) 2) 5 (-5), ?_, ?_, fun i a b d => ?_, by omega, by omega⟩
    · rw [x130]
      rw [s5] at z5
      repeat' (first | (exfalso; omega) | (simp (disch := first | omega | assumption | exact z_b_01) only [x130_0, x130_1, x130_4, x130_5, x130_6, x130_7, x130_8, x130_11, x130_12, x130_15, x130_16, x130_17, x130_18, x130_19, x130_22, x130_23, x130_26, x130_28, x130_29, x130_30, x130_31, x130_32, x130_33, x130_36, x130_37, x130_40, x130_41, x130_42, x130_43, x130_44, x130_45, x130_48, x130_49, x130_51, x130_52, Option.bind_some, Option.toList_some, Option.toList_none, List.cons_append, List.nil_append, Int.toNat_natCast, Int.toNat_zero, z_w_id, z_b_0, z_b_1, z_b_n0, z_b_t, z_b_f, ↓reduceIte, Int.reduceEq, Int.reduceLT, Int.reduceLE, Int.reduceToNat, not_true_eq_false, not_false_eq_true, false_and, and_false, true_and, and_true, false_or, or_false, true_or, or_true, z_mr_row, z_up_mr, z5, k1, ix_6, ix_3, sl, w0]) | split)
      all_goals rfl
    · have h1 := e_W_u G1.2 G2.2 hW (o := 0) (i := 3) (v := A 0 3 + A 0 6) (Or.inl ⟨rfl, Or.inl rfl⟩) (by omega)
      have h2 := e_W_st (j := j) (v := 2) (by rw [a_u_o (by decide)]; exact G1.2) (by rw [a_u_o (by decide)]; exact G2.2) h1 (by rw [a_u_o (by decide)]; exact sj) (by rw [a_u_o (by decide)]; exact s19) (by decide)
      exact e_W_congrR (by rw [a_u_o (by decide)]; exact G1.2) (by rw [a_u_o (by decide)]; exact G2.2) h2 fun i a _ _ => r_u_ne a
    · rw [r_u_ne b, r_u_ne (by omega), r_u_ne a]
theorem k_ahead {M Mm : z_M} {n : Int} (hn : 0 ≤ n ∧ n ≤ 1000) : ∀ (m i : Nat) (b : Int) (T A : Nat → Nat → Int) (ρ : Nat → Int) (l : List Nat), (i : Int) + m = n → e_I A l → e_W A ρ → e_Z A ρ l → m ≤ l.length → A 0 3 + 99 * m ≤ 30000 →
    ∃ (T' A' : Nat → Nat → Int) (ρ' : Nat → Int) (b' : Int), z_ex 64 16 [some (.inr (some (0, 21))), some (.inl n), some (.inl b), some (.inl (i : Int))] [] (z_ur (z_ut M T) 2 A) = some (some (.inl b'), z_ur (z_ut M T') 2 A') ∧
      z_ex 131 32 [some (.inr (some (0, 30))), some (.inl (n - 1)), some (.inl b), some (.inl (i : Int))] [] (z_mr Mm ρ) = z_ex 131 52 [some (.inr (some (0, 30))), some (.inl (n - 1)), some (.inl b'), some (.inl n)] [] (z_mr Mm ρ') ∧
      (∀ k, k ∉ l → A' 19 k = A 19 k) ∧
      ∀ j ∈ l, m = l.length → ∃ ρ'', z_ex 92 25 [some (.inr (some (0, 30))), some (.inl (j : Int)), none] [] (z_mr Mm ρ) = z_ex 92 45 [some (.inr (some (0, 30))), some (.inl (j : Int)), none] [] (z_mr Mm ρ'') ∧ ρ'' (100 + 7 * j + 4) = A' 19 j := by
  intro m
  induction m with
  | zero =>
    intro i b T A ρ l e hI hW hZ hm ht
    refine ⟨T, A, ρ, b, ?_, ?_, fun _ _ => rfl, fun j hj hl => ?_⟩
    · rw [x64_16]
      repeat' (first | (exfalso; omega) | (simp (disch := first | omega | assumption | exact z_b_01) only [x64_0, x64_1, x64_4, x64_5, x64_8, x64_11, x64_13, x64_14, x64_15, x64_17, x64_18, x64_21, x64_22, x64_25, x64_26, x64_29, x64_30, x64_33, x64_36, x64_37, x64_40, x64_41, x64_44, x64_45, x64_48, x64_51, x64_52, x64_53, x64_56, x64_57, x64_60, x64_63, x64_66, x64_67, Option.bind_some, Option.toList_some, Option.toList_none, List.cons_append, List.nil_append, Int.toNat_natCast, Int.toNat_zero, z_w_id, z_b_0, z_b_1, z_b_n0, z_b_t, z_b_f, ↓reduceIte, Int.reduceEq, Int.reduceLT, Int.reduceLE, Int.reduceToNat, not_true_eq_false, not_false_eq_true, false_and, and_false, true_and, and_true, false_or, or_false, true_or, or_true]) | split)
      all_goals rfl
    · have e' : (i : Int) = n := by omega
      rw [e', x131_32]
      repeat' (first | (exfalso; omega) | (simp (disch := first | omega | assumption | exact z_b_01) only [x131_0, x131_1, x131_4, x131_6, x131_7, x131_8, x131_9, x131_11, x131_13, x131_14, x131_17, x131_20, x131_22, x131_23, x131_24, x131_27, x131_29, x131_30, x131_31, x131_33, x131_34, x131_37, x131_38, x131_41, x131_42, x131_45, x131_46, x131_49, x131_53, x131_56, x131_57, Option.bind_some, Option.toList_some, Option.toList_none, List.cons_append, List.nil_append, Int.toNat_natCast, Int.toNat_zero, z_w_id, z_b_0, z_b_1, z_b_n0, z_b_t, z_b_f, ↓reduceIte, Int.reduceEq, Int.reduceLT, Int.reduceLE, Int.reduceToNat, not_true_eq_false, not_false_eq_true, false_and, and_false, true_and, and_true, false_or, or_false, true_or, or_true]) | split)
      all_goals rfl
    · have := List.length_pos_iff.mpr (List.ne_nil_of_mem hj)
      omega
  | succ m ih =>
    intro i b T A ρ l e hI hW hZ hm ht
    simp only [Int.natCast_add, Int.natCast_one] at e ht
    have hG := hI.1
    obtain ⟨ρs, o1, o2, o3, o4, o5⟩ := k_out (M := Mm) hI hW hZ (by omega)
    have hI1 := e_I_time hI (t := A 0 3 + A 0 6) (by omega) (by omega)
    have hl : l ≠ [] := by intro q; rw [q] at hm; simp at hm
    obtain ⟨T1, B, j, A1, ρ1, hj, n1, b1, m1, hI2, hW2, f1, f2, f3, f4, f5, f6, f7⟩ := k_step (s := 2) (M := M) (Mm := Mm) (T := T) hI1 o2 hl
    have hjn := hI.2.2.2.2.1.2.2.2.1 j hj
    have aj := hI.2.1 j hjn
    have c3 := hI.2.2.2.2.1.2.2.2.2
    have e16 : ∀ k, A1 17 k = A 17 k := fun k => by rw [f1 17 k (by omega), a_u_o (by decide)]
    have e30 : A1 3 0 = A 3 0 := by rw [f1 3 0 (by omega), a_u_o (by decide)]
    have e03 : A1 0 3 = A 0 3 + A 0 6 := by rw [f1 0 3 (by omega), a_u_same]
    have e6 : ∀ k ∈ l, ρ1 (100 + 7 * k + 6) = A 17 k := fun k hk => by rw [f7 _ (by omega), o3 _ (by omega) (by omega) (by omega)]; exact hZ.2.2 k hk
    have f2' : ∀ k, A1 19 k = if k = j then A 0 3 + A 0 6 else A 19 k := fun k => by rw [f2 k, a_u_same, a_u_o (by decide)]
    rw [a_u_o (by decide)] at f4
    have hZ2 : e_Z A1 ρ1 (l.filter (q_ne j)) := by
      refine ⟨by rw [f5, f3], Or.inr ⟨j, f3, by rw [e30]; exact hjn, ?_, ?_, by omega, by omega⟩, fun k hk => ?_⟩
      · rw [f2', if_pos rfl]; omega
      · rw [e6 j hj, f4]
      · rw [e6 k (List.mem_filter.mp hk).1, e16]
    have hlen : l.length = (l.filter (q_ne j)).length + 1 := by
      have h1 := hI2.2.2.2.2.1.1
      have hnd : l.Nodup := by rw [hI.2.2.2.2.2.2.1]; unfold e_l s_rg; exact List.Pairwise.filter _ List.nodup_range'
      have e2 : l.filter (q_ne j) = l.erase j := by
        rw [List.Nodup.erase_eq_filter hnd]
        refine List.filter_congr fun k _ => ?_
        unfold q_ne
        by_cases q : k = j
        · simp [q]
        · have : ¬ ((k : Int) = (j : Int)) := by omega
          simp [q, this]
      rw [e2, List.length_erase_of_mem hj]
      have := List.length_pos_iff.mpr (List.ne_nil_of_mem hj)
      omega
    obtain ⟨T', A', ρ', b', r1, r2, r3, r4⟩ := ih (i + 1) (j : Int) T1 A1 ρ1 (l.filter (q_ne j)) (by omega) hI2 hW2 hZ2 (by omega) (by omega)
    simp only [Int.natCast_add, Int.natCast_one] at r1 r2
    refine ⟨T', A', ρ', b', ?_, ?_, fun k hk => ?_, fun k hk hmk => ?_⟩
    · rw [x64_16]
      repeat' (first | (exfalso; omega) | (simp (disch := first | omega | assumption | exact z_b_01) only [x64_0, x64_1, x64_4, x64_5, x64_8, x64_11, x64_13, x64_14, x64_15, x64_17, x64_18, x64_21, x64_22, x64_25, x64_26, x64_29, x64_30, x64_33, x64_36, x64_37, x64_40, x64_41, x64_44, x64_45, x64_48, x64_51, x64_52, x64_53, x64_56, x64_57, x64_60, x64_63, x64_66, x64_67, Option.bind_some, Option.toList_some, Option.toList_none, List.cons_append, List.nil_append, Int.toNat_natCast, Int.toNat_zero, z_w_id, z_b_0, z_b_1, z_b_n0, z_b_t, z_b_f, ↓reduceIte, Int.reduceEq, Int.reduceLT, Int.reduceLE, Int.reduceToNat, not_true_eq_false, not_false_eq_true, false_and, and_false, true_and, and_true, false_or, or_false, true_or, or_true, z_ur_get, z_up_ur, n1, b1, r1]) | split)
      all_goals rfl
    · rw [x131_32]
      repeat' (first | (exfalso; omega) | (simp (disch := first | omega | assumption | exact z_b_01) only [x131_0, x131_1, x131_4, x131_6, x131_7, x131_8, x131_9, x131_11, x131_13, x131_14, x131_17, x131_20, x131_22, x131_23, x131_24, x131_27, x131_29, x131_30, x131_31, x131_33, x131_34, x131_37, x131_38, x131_41, x131_42, x131_45, x131_46, x131_49, x131_53, x131_56, x131_57, Option.bind_some, Option.toList_some, Option.toList_none, List.cons_append, List.nil_append, Int.toNat_natCast, Int.toNat_zero, z_w_id, z_b_0, z_b_1, z_b_n0, z_b_t, z_b_f, ↓reduceIte, Int.reduceEq, Int.reduceLT, Int.reduceLE, Int.reduceToNat, not_true_eq_false, not_false_eq_true, false_and, and_false, true_and, and_true, false_or, or_false, true_or, or_true, o1, m1, r2]) | split)
      all_goals rfl
    · have hkj : k ≠ j := fun q => hk (by rw [q]; exact hj)
      rw [r3 k (fun q => hk (List.mem_filter.mp q).1), f2', if_neg hkj]
    · have hkn := hI.2.2.2.2.1.2.2.2.1 k hk
      have k19 : A 19 k = -5 := by
        have el := hI.2.2.2.2.2.2.1
        rw [el] at hk
        exact (e_l_mem.mp hk).2
      have hw := (hW.2.2.2 k hkn).2.2.2.1.mpr k19
      have w1 := k_mwaits (j := k) (by omega) (z_mr Mm ρ)
      rw [z_mr_row, hw] at w1
      have st : z_ex 92 25 [some (.inr (some (0, 30))), some (.inl (k : Int)), none] [] (z_mr Mm ρ) = z_ex 92 25 [some (.inr (some (0, 30))), some (.inl (k : Int)), none] [] (z_mr Mm ρ1) := by
        rw [z_b_t rfl] at w1
        rw [x92_25]
        repeat' (first | (exfalso; omega) | (simp (disch := first | omega | assumption | exact z_b_01) only [x92_0, x92_1, x92_2, x92_5, x92_8, x92_9, x92_10, x92_11, x92_12, x92_15, x92_18, x92_20, x92_21, x92_22, x92_26, x92_27, x92_30, x92_33, x92_34, x92_37, x92_38, x92_41, x92_42, x92_46, x92_49, x92_50, x92_53, x92_54, x92_55, x92_56, x92_57, x92_58, x92_61, x92_62, Option.bind_some, Option.toList_some, Option.toList_none, List.cons_append, List.nil_append, Int.toNat_natCast, Int.toNat_zero, z_w_id, z_b_0, z_b_1, z_b_n0, z_b_t, z_b_f, ↓reduceIte, Int.reduceEq, Int.reduceLT, Int.reduceLE, Int.reduceToNat, not_true_eq_false, not_false_eq_true, false_and, and_false, true_and, and_true, false_or, or_false, true_or, or_true, w1, o1, m1]) | split)
        all_goals rfl
      rw [st]
      by_cases q : k = j
      · subst q
        have w2 := k_mwaits (j := k) (by omega) (z_mr Mm ρ1)
        rw [z_mr_row, f6, z_b_f (by decide)] at w2
        refine ⟨ρ1, ?_, ?_⟩
        · rw [x92_25]
          repeat' (first | (exfalso; omega) | (simp (disch := first | omega | assumption | exact z_b_01) only [x92_0, x92_1, x92_2, x92_5, x92_8, x92_9, x92_10, x92_11, x92_12, x92_15, x92_18, x92_20, x92_21, x92_22, x92_26, x92_27, x92_30, x92_33, x92_34, x92_37, x92_38, x92_41, x92_42, x92_46, x92_49, x92_50, x92_53, x92_54, x92_55, x92_56, x92_57, x92_58, x92_61, x92_62, Option.bind_some, Option.toList_some, Option.toList_none, List.cons_append, List.nil_append, Int.toNat_natCast, Int.toNat_zero, z_w_id, z_b_0, z_b_1, z_b_n0, z_b_t, z_b_f, ↓reduceIte, Int.reduceEq, Int.reduceLT, Int.reduceLE, Int.reduceToNat, not_true_eq_false, not_false_eq_true, false_and, and_false, true_and, and_true, false_or, or_false, true_or, or_true, w2]) | split)
          all_goals rfl
        · have hnot : k ∉ l.filter (q_ne k) := fun y => by
            have := (List.mem_filter.mp y).2
            unfold q_ne at this
            simp at this
          rw [r3 k hnot]
          exact (hW2.2.2.2 k (by rw [e30]; exact hkn)).2.2.2.2
      · exact r4 k (List.mem_filter.mpr ⟨hk, by unfold q_ne; rw [decide_eq_true_iff]; omega⟩) (by omega)
