/-! rounds that let nobody in; the next one of a group -/
def v_rb (nd d q : Int) : Int := if 0 < q ∧ d < nd then (nd - 1 - d) / q else 0
theorem v_rb_in {nd d q : Int} (h : nd ≤ 99) (hd : -500000000 ≤ d) : 0 ≤ v_rb nd d q ∧ v_rb nd d q ≤ 500000098 := by
  unfold v_rb
  split
  · rename_i h2
    have h3 : 0 ≤ nd - 1 - d := by omega
    have h4 := Int.ediv_nonneg h3 (Int.le_of_lt h2.1)
    have h5 := Int.ediv_le_self q h3
    omega
  · omega
theorem k_rb {nd d q : Int} (h : nd ≤ 99) (h0 : 0 ≤ nd) (hd : -500000000 ≤ d) (M : z_M) : z_ev 56 [.inl nd, .inl d, .inl q] M = some (some (.inl (v_rb nd d q)), M) := by
  rw [x56]
  by_cases h1 : 0 < q ∧ d < nd
  · have h3 : 0 ≤ nd - 1 - d := by omega
    have h4 := Int.ediv_nonneg h3 (Int.le_of_lt h1.1)
    have h5 := Int.ediv_le_self q h3
    have h6 := Int.tdiv_eq_ediv_of_nonneg (b := q) h3
    have h7 : v_rb nd d q = (nd - 1 - d) / q := by unfold v_rb; rw [if_pos h1]
    rw [h7]
    repeat' (first | (exfalso; omega) | (simp (disch := first | omega | assumption | exact z_b_01) only [x56_0, x56_1, x56_4, x56_5, x56_6, x56_9, x56_10, x56_11, x56_12, x56_13, x56_14, x56_15, x56_16, x56_19, x56_20, Option.bind_some, Option.toList_some, Option.toList_none, List.cons_append, List.nil_append, Int.toNat_natCast, Int.toNat_zero, z_w_id, z_b_0, z_b_1, z_b_n0, z_b_t, z_b_f, ↓reduceIte, Int.reduceEq, Int.reduceLT, Int.reduceLE, Int.reduceToNat, not_true_eq_false, not_false_eq_true, false_and, and_false, true_and, and_true, false_or, or_false, true_or, or_true, h6]) | split)
  · have h7 : v_rb nd d q = 0 := by unfold v_rb; rw [if_neg h1]
    rw [h7]
    repeat' (first | (exfalso; omega) | (simp (disch := first | omega | assumption | exact z_b_01) only [x56_0, x56_1, x56_4, x56_5, x56_6, x56_9, x56_10, x56_11, x56_12, x56_13, x56_14, x56_15, x56_16, x56_19, x56_20, Option.bind_some, Option.toList_some, Option.toList_none, List.cons_append, List.nil_append, Int.toNat_natCast, Int.toNat_zero, z_w_id, z_b_0, z_b_1, z_b_n0, z_b_t, z_b_f, ↓reduceIte, Int.reduceEq, Int.reduceLT, Int.reduceLE, Int.reduceToNat, not_true_eq_false, not_false_eq_true, false_and, and_false, true_and, and_true, false_or, or_false, true_or, or_true]) | split)
def v_sr (nd : Nat → Int) (g : Nat) (A : Nat → Nat → Int) : List Nat → Int → Int
  | [], r => r
  | c :: L, r => v_sr nd g A L (if A 7 c = (g : Int) ∧ 0 < nd c then (if v_rb (nd c) (A 9 c) (A 8 c) < r then v_rb (nd c) (A 9 c) (A 8 c) else r) else r)
theorem v_sr_cons (nd : Nat → Int) (g : Nat) (A : Nat → Nat → Int) (c : Nat) (L : List Nat) (r : Int) : v_sr nd g A (c :: L) r = v_sr nd g A L (if A 7 c = (g : Int) ∧ 0 < nd c then (if v_rb (nd c) (A 9 c) (A 8 c) < r then v_rb (nd c) (A 9 c) (A 8 c) else r) else r) := rfl
def v_sk (A : Nat → Nat → Int) (nd : Nat → Int) (g : Nat) (r : Int) (k : Nat) : Nat → Nat → Int := fun o j => if o = 9 ∧ j < k ∧ A 7 j = (g : Int) ∧ 0 < nd j then A 9 j + r * A 8 j else A o j
theorem v_sk_o {A : Nat → Nat → Int} {nd : Nat → Int} {g : Nat} {r : Int} {k o j : Nat} (h : o ≠ 9) : v_sk A nd g r k o j = A o j := by unfold v_sk; rw [if_neg (fun q => h q.1)]
theorem v_sk_ge {A : Nat → Nat → Int} {nd : Nat → Int} {g : Nat} {r : Int} {k o j : Nat} (h : k ≤ j) : v_sk A nd g r k o j = A o j := by unfold v_sk; rw [if_neg (fun q => by omega)]
theorem v_sk_yes {A : Nat → Nat → Int} {nd : Nat → Int} {g : Nat} {r : Int} {k : Nat} (h : A 7 k = (g : Int) ∧ 0 < nd k) : a_u (v_sk A nd g r k) 9 k (A 9 k + r * A 8 k) = v_sk A nd g r (k + 1) := by
  funext o j
  unfold a_u v_sk
  by_cases h1 : o = 9 ∧ j = k
  · rw [if_pos h1, if_pos (show o = 9 ∧ j < k + 1 ∧ A 7 j = (g : Int) ∧ 0 < nd j from ⟨h1.1, by omega, by rw [h1.2]; exact h.1, by rw [h1.2]; exact h.2⟩), h1.2]
  · rw [if_neg h1]
    by_cases h2 : o = 9 ∧ j < k ∧ A 7 j = (g : Int) ∧ 0 < nd j
    · rw [if_pos h2, if_pos (show o = 9 ∧ j < k + 1 ∧ A 7 j = (g : Int) ∧ 0 < nd j from ⟨h2.1, by omega, h2.2.2⟩)]
    · rw [if_neg h2, if_neg (show ¬ (o = 9 ∧ j < k + 1 ∧ A 7 j = (g : Int) ∧ 0 < nd j) from fun q => h2 ⟨q.1, by omega, q.2.2⟩)]
theorem v_sk_no {A : Nat → Nat → Int} {nd : Nat → Int} {g : Nat} {r : Int} {k : Nat} (h : ¬ (A 7 k = (g : Int) ∧ 0 < nd k)) : v_sk A nd g r k = v_sk A nd g r (k + 1) := by
  funext o j
  unfold v_sk
  by_cases h2 : o = 9 ∧ j < k ∧ A 7 j = (g : Int) ∧ 0 < nd j
  · rw [if_pos h2, if_pos (show o = 9 ∧ j < k + 1 ∧ A 7 j = (g : Int) ∧ 0 < nd j from ⟨h2.1, by omega, h2.2.2⟩)]
  · rw [if_neg h2, if_neg (show ¬ (o = 9 ∧ j < k + 1 ∧ A 7 j = (g : Int) ∧ 0 < nd j) from fun q => by
      by_cases e : j = k
      · subst e; exact h q.2.2
      · exact h2 ⟨q.1, by omega, q.2.2⟩)]
theorem v_sr_cut (nd : Nat → Int) (g : Nat) (A : Nat → Nat → Int) : ∀ (m n i : Nat) (r : Int), m ≤ n → (∀ c : Nat, i + m ≤ c → c < i + n → nd c = 0) → v_sr nd g A (List.range' i n) r = v_sr nd g A (List.range' i m) r := by
  intro m
  induction m with
  | zero =>
    intro n
    induction n with
    | zero => intro i r h1 h2; rfl
    | succ n ih =>
      intro i r h1 h2
      have h3 := h2 i (by omega) (by omega)
      rw [List.range'_succ, v_sr_cons, if_neg (fun q => by omega), ih (i + 1) r (Nat.zero_le _) (fun c a b => h2 c (by omega) (by omega))]
      rfl
  | succ m ih =>
    intro n i r h1 h2
    obtain ⟨n, rfl⟩ : ∃ k, n = k + 1 := ⟨n - 1, by omega⟩
    rw [List.range'_succ, List.range'_succ, v_sr_cons, v_sr_cons]
    exact ih n (i + 1) _ (by omega) (fun c a b => h2 c (by omega) (by omega))
theorem v_sk_cut {A : Nat → Nat → Int} {nd : Nat → Int} {g : Nat} {r : Int} {C : Nat} (h : C ≤ 8) (hz : ∀ c : Nat, c < 8 → C ≤ c → nd c = 0) : v_sk A nd g r 8 = v_sk A nd g r C := by
  funext o j
  unfold v_sk
  by_cases q : o = 9 ∧ j < C ∧ A 7 j = (g : Int) ∧ 0 < nd j
  · rw [if_pos q, if_pos (show o = 9 ∧ j < 8 ∧ A 7 j = (g : Int) ∧ 0 < nd j from ⟨q.1, by omega, q.2.2⟩)]
  · rw [if_neg q, if_neg (show ¬ (o = 9 ∧ j < 8 ∧ A 7 j = (g : Int) ∧ 0 < nd j) from fun x => q ⟨x.1, Nat.lt_of_not_le fun y => by
      have h1 := hz j x.2.1 y
      have h2 := x.2.2.2
      omega, x.2.2⟩)]
theorem k_sk_loop1 {s : Fin 7} {M : z_M} {T A : Nat → Nat → Int} {nd : Nat → Int} {g : Nat} (hT : ∀ c : Nat, c < 8 → T 27 c = nd c) (hn : ∀ c : Nat, c < 8 → 0 ≤ nd c ∧ nd c ≤ 99) (hb : ∀ c : Nat, c < 8 → 0 < nd c → (-500000000 ≤ A 9 c ∧ A 9 c ≤ 500000000)) : ∀ (n i : Nat) (r : Int), i + n = 8 → 0 ≤ r → r ≤ 1000000 →
    z_ex 57 12 [some (.inr (some (0, 26))), some (.inr (some (s, 0))), some (.inl (g : Int)), some (.inr (some (s, 2))), some (.inl r), some (.inl (i : Int))] [] (z_ur (z_ut M T) s A)
      = z_ex 57 77 [some (.inr (some (0, 26))), some (.inr (some (s, 0))), some (.inl (g : Int)), some (.inr (some (s, 2))), some (.inl (v_sr nd g A (List.range' i n) r)), some (.inl (8 : Int))] [] (z_ur (z_ut M T) s A) ∧ 0 ≤ v_sr nd g A (List.range' i n) r ∧ v_sr nd g A (List.range' i n) r ≤ 1000000 := by
  intro n
  induction n with
  | zero =>
    intro i r e h0 h1
    refine ⟨?_, h0, h1⟩
    have e' : (i : Int) = 8 := by omega
    rw [x57_12]
    repeat' (first | (exfalso; omega) | (simp (disch := first | omega | assumption | exact z_b_01) only [x57_0, x57_1, x57_4, x57_5, x57_7, x57_9, x57_10, x57_14, x57_16, x57_19, x57_20, x57_23, x57_25, x57_26, x57_29, x57_30, x57_33, x57_35, x57_36, x57_37, x57_40, x57_42, x57_43, x57_46, x57_48, x57_49, x57_50, x57_53, x57_55, x57_56, x57_57, x57_60, x57_62, x57_63, x57_66, x57_69, x57_71, x57_74, x57_78, x57_80, x57_82, x57_84, x57_87, x57_88, x57_91, x57_93, x57_94, x57_97, x57_98, x57_101, x57_103, x57_104, x57_105, x57_108, x57_109, x57_112, x57_114, x57_115, x57_116, x57_118, x57_119, x57_122, x57_124, x57_125, x57_126, x57_127, x57_128, x57_131, x57_134, Option.bind_some, Option.toList_some, Option.toList_none, List.cons_append, List.nil_append, Int.toNat_natCast, Int.toNat_zero, z_w_id, z_b_0, z_b_1, z_b_n0, z_b_t, z_b_f, ↓reduceIte, Int.reduceEq, Int.reduceLT, Int.reduceLE, Int.reduceToNat, not_true_eq_false, not_false_eq_true, false_and, and_false, true_and, and_true, false_or, or_false, true_or, or_true, z_ur_get, e']) | split)
    all_goals rfl
  | succ n ih =>
    intro i r e h0 h1
    have hn' := hn i (by omega)
    have hT' := hT i (by omega)
    rw [List.range'_succ, v_sr_cons]
    by_cases hc : A 7 i = (g : Int) ∧ 0 < nd i
    · rw [if_pos hc]
      obtain ⟨h7, hnp⟩ := hc
      have hb' := hb i (by omega) hnp
      have hr := v_rb_in (q := A 8 i) hn'.2 hb'.1
      have kr := k_rb (q := A 8 i) hn'.2 hn'.1 hb'.1 (z_ur (z_ut M T) s A)
      have ih' := ih (i + 1) (if v_rb (nd i) (A 9 i) (A 8 i) < r then v_rb (nd i) (A 9 i) (A 8 i) else r) (by omega) (by split <;> omega) (by split <;> omega)
      refine ⟨?_, ih'.2⟩
      rw [← ih'.1, x57_12]
      simp only [Int.natCast_add, Int.natCast_one]
      repeat' (first | (exfalso; omega) | (simp (disch := first | omega | assumption | exact z_b_01) only [x57_0, x57_1, x57_4, x57_5, x57_7, x57_9, x57_10, x57_14, x57_16, x57_19, x57_20, x57_23, x57_25, x57_26, x57_29, x57_30, x57_33, x57_35, x57_36, x57_37, x57_40, x57_42, x57_43, x57_46, x57_48, x57_49, x57_50, x57_53, x57_55, x57_56, x57_57, x57_60, x57_62, x57_63, x57_66, x57_69, x57_71, x57_74, x57_78, x57_80, x57_82, x57_84, x57_87, x57_88, x57_91, x57_93, x57_94, x57_97, x57_98, x57_101, x57_103, x57_104, x57_105, x57_108, x57_109, x57_112, x57_114, x57_115, x57_116, x57_118, x57_119, x57_122, x57_124, x57_125, x57_126, x57_127, x57_128, x57_131, x57_134, Option.bind_some, Option.toList_some, Option.toList_none, List.cons_append, List.nil_append, Int.toNat_natCast, Int.toNat_zero, z_w_id, z_b_0, z_b_1, z_b_n0, z_b_t, z_b_f, ↓reduceIte, Int.reduceEq, Int.reduceLT, Int.reduceLE, Int.reduceToNat, not_true_eq_false, not_false_eq_true, false_and, and_false, true_and, and_true, false_or, or_false, true_or, or_true, z_ur_get, z_ut_get, hT', kr, h7]) | split)
      all_goals rfl
    · rw [if_neg hc]
      have ih' := ih (i + 1) r (by omega) h0 h1
      refine ⟨?_, ih'.2⟩
      rw [← ih'.1, x57_12]
      simp only [Int.natCast_add, Int.natCast_one]
      repeat' (first | (exfalso; omega) | (simp (disch := first | omega | assumption | exact z_b_01) only [x57_0, x57_1, x57_4, x57_5, x57_7, x57_9, x57_10, x57_14, x57_16, x57_19, x57_20, x57_23, x57_25, x57_26, x57_29, x57_30, x57_33, x57_35, x57_36, x57_37, x57_40, x57_42, x57_43, x57_46, x57_48, x57_49, x57_50, x57_53, x57_55, x57_56, x57_57, x57_60, x57_62, x57_63, x57_66, x57_69, x57_71, x57_74, x57_78, x57_80, x57_82, x57_84, x57_87, x57_88, x57_91, x57_93, x57_94, x57_97, x57_98, x57_101, x57_103, x57_104, x57_105, x57_108, x57_109, x57_112, x57_114, x57_115, x57_116, x57_118, x57_119, x57_122, x57_124, x57_125, x57_126, x57_127, x57_128, x57_131, x57_134, Option.bind_some, Option.toList_some, Option.toList_none, List.cons_append, List.nil_append, Int.toNat_natCast, Int.toNat_zero, z_w_id, z_b_0, z_b_1, z_b_n0, z_b_t, z_b_f, ↓reduceIte, Int.reduceEq, Int.reduceLT, Int.reduceLE, Int.reduceToNat, not_true_eq_false, not_false_eq_true, false_and, and_false, true_and, and_true, false_or, or_false, true_or, or_true, z_ur_get, z_ut_get, hT']) | split)
      all_goals rfl
theorem k_sk_loop2 {s : Fin 7} {M : z_M} {T A : Nat → Nat → Int} {nd : Nat → Int} {g : Nat} (hT : ∀ c : Nat, c < 8 → T 27 c = nd c) (hb : ∀ c : Nat, c < 8 → 0 < nd c → (-100000000 ≤ A 9 c ∧ A 9 c ≤ 100000000) ∧ (1 ≤ A 8 c ∧ A 8 c ≤ 200)) {r : Int} (h0 : 0 ≤ r) (h1 : r ≤ 1000000) : ∀ (n i : Nat), i + n = 8 →
    z_ex 57 80 [some (.inr (some (0, 26))), some (.inr (some (s, 0))), some (.inl (g : Int)), some (.inr (some (s, 2))), some (.inl r), some (.inl (i : Int))] [] (z_ur (z_ut M T) s (v_sk A nd g r i)) = some (none, z_ur (z_ut M T) s (v_sk A nd g r (i + n))) := by
  intro n
  induction n with
  | zero =>
    intro i e
    rw [x57_80]
    repeat' (first | (exfalso; omega) | (simp (disch := first | omega | assumption | exact z_b_01) only [x57_0, x57_1, x57_4, x57_5, x57_7, x57_9, x57_10, x57_12, x57_14, x57_16, x57_19, x57_20, x57_23, x57_25, x57_26, x57_29, x57_30, x57_33, x57_35, x57_36, x57_37, x57_40, x57_42, x57_43, x57_46, x57_48, x57_49, x57_50, x57_53, x57_55, x57_56, x57_57, x57_60, x57_62, x57_63, x57_66, x57_69, x57_71, x57_74, x57_77, x57_78, x57_82, x57_84, x57_87, x57_88, x57_91, x57_93, x57_94, x57_97, x57_98, x57_101, x57_103, x57_104, x57_105, x57_108, x57_109, x57_112, x57_114, x57_115, x57_116, x57_118, x57_119, x57_122, x57_124, x57_125, x57_126, x57_127, x57_128, x57_131, x57_134, Option.bind_some, Option.toList_some, Option.toList_none, List.cons_append, List.nil_append, Int.toNat_natCast, Int.toNat_zero, z_w_id, z_b_0, z_b_1, z_b_n0, z_b_t, z_b_f, ↓reduceIte, Int.reduceEq, Int.reduceLT, Int.reduceLE, Int.reduceToNat, not_true_eq_false, not_false_eq_true, false_and, and_false, true_and, and_true, false_or, or_false, true_or, or_true, z_ur_get]) | split)
    all_goals rfl
  | succ n ih =>
    intro i e
    have hT' := hT i (by omega)
    have ih' := ih (i + 1) (by omega)
    simp only [Int.natCast_add, Int.natCast_one] at ih'
    rw [show i + (n + 1) = i + 1 + n by omega, ← ih', x57_80]
    by_cases hc : A 7 i = (g : Int) ∧ 0 < nd i
    · rw [← v_sk_yes hc]
      obtain ⟨h7, hnp⟩ := hc
      have hb' := hb i (by omega) hnp
      have hm : 0 ≤ r * A 8 i ∧ r * A 8 i ≤ 200000000 := by
        refine ⟨Int.mul_nonneg h0 (by omega), ?_⟩
        have := Int.mul_le_mul (a := r) (b := A 8 i) (c := 1000000) (d := 200) h1 hb'.2.2 (by omega) (by omega)
        omega
      repeat' (first | (exfalso; omega) | (simp (disch := first | omega | assumption | exact z_b_01) only [x57_0, x57_1, x57_4, x57_5, x57_7, x57_9, x57_10, x57_12, x57_14, x57_16, x57_19, x57_20, x57_23, x57_25, x57_26, x57_29, x57_30, x57_33, x57_35, x57_36, x57_37, x57_40, x57_42, x57_43, x57_46, x57_48, x57_49, x57_50, x57_53, x57_55, x57_56, x57_57, x57_60, x57_62, x57_63, x57_66, x57_69, x57_71, x57_74, x57_77, x57_78, x57_82, x57_84, x57_87, x57_88, x57_91, x57_93, x57_94, x57_97, x57_98, x57_101, x57_103, x57_104, x57_105, x57_108, x57_109, x57_112, x57_114, x57_115, x57_116, x57_118, x57_119, x57_122, x57_124, x57_125, x57_126, x57_127, x57_128, x57_131, x57_134, Option.bind_some, Option.toList_some, Option.toList_none, List.cons_append, List.nil_append, Int.toNat_natCast, Int.toNat_zero, z_w_id, z_b_0, z_b_1, z_b_n0, z_b_t, z_b_f, ↓reduceIte, Int.reduceEq, Int.reduceLT, Int.reduceLE, Int.reduceToNat, not_true_eq_false, not_false_eq_true, false_and, and_false, true_and, and_true, false_or, or_false, true_or, or_true, z_ur_get, z_ut_get, z_up_ur, hT', v_sk_o, v_sk_ge, h7]) | split)
      all_goals rfl
    · rw [← v_sk_no hc]
      repeat' (first | (exfalso; omega) | (simp (disch := first | omega | assumption | exact z_b_01) only [x57_0, x57_1, x57_4, x57_5, x57_7, x57_9, x57_10, x57_12, x57_14, x57_16, x57_19, x57_20, x57_23, x57_25, x57_26, x57_29, x57_30, x57_33, x57_35, x57_36, x57_37, x57_40, x57_42, x57_43, x57_46, x57_48, x57_49, x57_50, x57_53, x57_55, x57_56, x57_57, x57_60, x57_62, x57_63, x57_66, x57_69, x57_71, x57_74, x57_77, x57_78, x57_82, x57_84, x57_87, x57_88, x57_91, x57_93, x57_94, x57_97, x57_98, x57_101, x57_103, x57_104, x57_105, x57_108, x57_109, x57_112, x57_114, x57_115, x57_116, x57_118, x57_119, x57_122, x57_124, x57_125, x57_126, x57_127, x57_128, x57_131, x57_134, Option.bind_some, Option.toList_some, Option.toList_none, List.cons_append, List.nil_append, Int.toNat_natCast, Int.toNat_zero, z_w_id, z_b_0, z_b_1, z_b_n0, z_b_t, z_b_f, ↓reduceIte, Int.reduceEq, Int.reduceLT, Int.reduceLE, Int.reduceToNat, not_true_eq_false, not_false_eq_true, false_and, and_false, true_and, and_true, false_or, or_false, true_or, or_true, z_ur_get, z_ut_get, z_up_ur, hT', v_sk_o, v_sk_ge]) | split)
      all_goals rfl
theorem k_sk {s : Fin 7} {M : z_M} {T A : Nat → Nat → Int} {nd : Nat → Int} (hC0 : 0 ≤ A 2 0) (h8 : A 2 0 ≤ 8) {g : Nat} (hT : ∀ c : Nat, c < 8 → T 27 c = nd c) (hz : ∀ c : Nat, c < 8 → A 2 0 ≤ (c : Int) → nd c = 0) (hn : ∀ c : Nat, (c : Int) < A 2 0 → 0 ≤ nd c ∧ nd c ≤ 99) (hb : ∀ c : Nat, (c : Int) < A 2 0 → (-100000000 ≤ A 9 c ∧ A 9 c ≤ 100000000) ∧ (1 ≤ A 8 c ∧ A 8 c ≤ 200)) :
    z_ev 57 [.inr (some (0, 26)), .inr (some (s, 0)), .inl (g : Int)] (z_ur (z_ut M T) s A) = some (none, z_ur (z_ut M T) s (v_sk A nd g (v_sr nd g A (s_rg (A 2 0).toNat) 1000000) (A 2 0).toNat)) ∧ 0 ≤ v_sr nd g A (s_rg (A 2 0).toNat) 1000000 ∧ v_sr nd g A (s_rg (A 2 0).toNat) 1000000 ≤ 1000000 := by
  have hn8 : ∀ c : Nat, c < 8 → 0 ≤ nd c ∧ nd c ≤ 99 := fun c hc => by
    by_cases q : (c : Int) < A 2 0
    · exact hn c q
    · have := hz c hc (by omega)
      omega
  have hb8 : ∀ c : Nat, c < 8 → 0 < nd c → (-100000000 ≤ A 9 c ∧ A 9 c ≤ 100000000) ∧ (1 ≤ A 8 c ∧ A 8 c ≤ 200) := fun c hc hp => hb c (by
    by_cases q : (c : Int) < A 2 0
    · exact q
    · have := hz c hc (by omega)
      omega)
  have h := k_sk_loop1 (s := s) (M := M) (A := A) (g := g) hT hn8 (fun c hc hp => by have := hb8 c hc hp; omega) 8 0 1000000 (by omega) (by omega) (by omega)
  have hzC : ∀ c : Nat, c < 8 → (A 2 0).toNat ≤ c → nd c = 0 := fun c hc a => hz c hc (by omega)
  have ec : v_sr nd g A (List.range' 0 8) 1000000 = v_sr nd g A (List.range' 0 (A 2 0).toNat) 1000000 := v_sr_cut nd g A (A 2 0).toNat 8 0 1000000 (by omega) (fun c a b => hzC c (by omega) (by omega))
  rw [ec] at h
  refine ⟨?_, h.2⟩
  have h2 := k_sk_loop2 (s := s) (M := M) (A := A) (g := g) hT hb8 h.2.1 h.2.2 8 0 (by omega)
  have e0 : ∀ r, v_sk A nd g r 0 = A := fun r => by funext o j; exact v_sk_ge (Nat.zero_le _)
  rw [e0, Nat.zero_add, v_sk_cut (C := (A 2 0).toNat) (by omega) hzC] at h2
  unfold s_rg
  rw [x57]
  simp (disch := first | omega | assumption) only [x57_0, x57_1, x57_4, x57_5, x57_7, x57_9, x57_10, x57_14, x57_16, x57_19, x57_20, x57_23, x57_25, x57_26, x57_29, x57_30, x57_33, x57_35, x57_36, x57_37, x57_40, x57_42, x57_43, x57_46, x57_48, x57_49, x57_50, x57_53, x57_55, x57_56, x57_57, x57_60, x57_62, x57_63, x57_66, x57_69, x57_71, x57_74, x57_78, x57_80, x57_82, x57_84, x57_87, x57_88, x57_91, x57_93, x57_94, x57_97, x57_98, x57_101, x57_103, x57_104, x57_105, x57_108, x57_109, x57_112, x57_114, x57_115, x57_116, x57_118, x57_119, x57_122, x57_124, x57_125, x57_126, x57_127, x57_128, x57_131, x57_134, Option.bind_some, Option.toList_some, Option.toList_none, List.cons_append, List.nil_append, Int.toNat_natCast, Int.toNat_zero, z_w_id, z_b_0, z_b_1, z_b_n0, z_b_t, z_b_f, ↓reduceIte, Int.reduceEq, Int.reduceLT, Int.reduceLE, Int.reduceToNat, not_true_eq_false, not_false_eq_true, false_and, and_false, true_and, and_true, false_or, or_false, true_or, or_true, z_ur_get]
  refine h.1.trans ?_
  rw [x57_77]
  simp (disch := first | omega | assumption) only [x57_0, x57_1, x57_4, x57_5, x57_7, x57_9, x57_10, x57_14, x57_16, x57_19, x57_20, x57_23, x57_25, x57_26, x57_29, x57_30, x57_33, x57_35, x57_36, x57_37, x57_40, x57_42, x57_43, x57_46, x57_48, x57_49, x57_50, x57_53, x57_55, x57_56, x57_57, x57_60, x57_62, x57_63, x57_66, x57_69, x57_71, x57_74, x57_78, x57_82, x57_84, x57_87, x57_88, x57_91, x57_93, x57_94, x57_97, x57_98, x57_101, x57_103, x57_104, x57_105, x57_108, x57_109, x57_112, x57_114, x57_115, x57_116, x57_118, x57_119, x57_122, x57_124, x57_125, x57_126, x57_127, x57_128, x57_131, x57_134, Option.bind_some, Option.toList_some, Option.toList_none, List.cons_append, List.nil_append, Int.toNat_natCast, Int.toNat_zero, z_w_id, z_b_0, z_b_1, z_b_n0, z_b_t, z_b_f, ↓reduceIte, Int.reduceEq, Int.reduceLT, Int.reduceLE, Int.reduceToNat, not_true_eq_false, not_false_eq_true, false_and, and_false, true_and, and_true, false_or, or_false, true_or, or_true, z_ur_get]
  exact h2
