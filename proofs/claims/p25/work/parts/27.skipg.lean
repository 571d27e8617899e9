/-! rounds of groups taken at once; the present group; the next job -/
def v_srg (gn : Nat → Int) (A : Nat → Nat → Int) : List Nat → Int → Int
  | [], r => r
  | c :: L, r => v_srg gn A L (if 0 < gn c then (if v_rb (gn c) (A 5 c) (A 4 c) < r then v_rb (gn c) (A 5 c) (A 4 c) else r) else r)
theorem v_srg_cons (gn : Nat → Int) (A : Nat → Nat → Int) (c : Nat) (L : List Nat) (r : Int) : v_srg gn A (c :: L) r = v_srg gn A L (if 0 < gn c then (if v_rb (gn c) (A 5 c) (A 4 c) < r then v_rb (gn c) (A 5 c) (A 4 c) else r) else r) := rfl
def v_skg (A : Nat → Nat → Int) (gn : Nat → Int) (r : Int) (k : Nat) : Nat → Nat → Int := fun o j => if o = 5 ∧ j < k ∧ 0 < gn j then A 5 j + r * A 4 j else A o j
theorem v_skg_o {A : Nat → Nat → Int} {gn : Nat → Int} {r : Int} {k o j : Nat} (h : o ≠ 5) : v_skg A gn r k o j = A o j := by unfold v_skg; rw [if_neg (fun q => h q.1)]
theorem v_skg_ge {A : Nat → Nat → Int} {gn : Nat → Int} {r : Int} {k o j : Nat} (h : k ≤ j) : v_skg A gn r k o j = A o j := by unfold v_skg; rw [if_neg (fun q => by omega)]
theorem v_skg_yes {A : Nat → Nat → Int} {gn : Nat → Int} {r : Int} {k : Nat} (h : 0 < gn k) : a_u (v_skg A gn r k) 5 k (A 5 k + r * A 4 k) = v_skg A gn r (k + 1) := by
  funext o j
  unfold a_u v_skg
  by_cases h1 : o = 5 ∧ j = k
  · rw [if_pos h1, if_pos (show o = 5 ∧ j < k + 1 ∧ 0 < gn j from ⟨h1.1, by omega, by rw [h1.2]; exact h⟩), h1.2]
  · rw [if_neg h1]
    by_cases h2 : o = 5 ∧ j < k ∧ 0 < gn j
    · rw [if_pos h2, if_pos (show o = 5 ∧ j < k + 1 ∧ 0 < gn j from ⟨h2.1, by omega, h2.2.2⟩)]
    · rw [if_neg h2, if_neg (show ¬ (o = 5 ∧ j < k + 1 ∧ 0 < gn j) from fun q => h2 ⟨q.1, by omega, q.2.2⟩)]
theorem v_skg_no {A : Nat → Nat → Int} {gn : Nat → Int} {r : Int} {k : Nat} (h : ¬ (0 < gn k)) : v_skg A gn r k = v_skg A gn r (k + 1) := by
  funext o j
  unfold v_skg
  by_cases h2 : o = 5 ∧ j < k ∧ 0 < gn j
  · rw [if_pos h2, if_pos (show o = 5 ∧ j < k + 1 ∧ 0 < gn j from ⟨h2.1, by omega, h2.2.2⟩)]
  · rw [if_neg h2, if_neg (show ¬ (o = 5 ∧ j < k + 1 ∧ 0 < gn j) from fun q => by
      by_cases e : j = k
      · subst e; exact h q.2.2
      · exact h2 ⟨q.1, by omega, q.2.2⟩)]
theorem v_srg_cut (gn : Nat → Int) (A : Nat → Nat → Int) : ∀ (m n i : Nat) (r : Int), m ≤ n → (∀ c : Nat, i + m ≤ c → c < i + n → gn c = 0) → v_srg gn A (List.range' i n) r = v_srg gn A (List.range' i m) r := by
  intro m
  induction m with
  | zero =>
    intro n
    induction n with
    | zero => intro i r h1 h2; rfl
    | succ n ih =>
      intro i r h1 h2
      have h3 := h2 i (by omega) (by omega)
      rw [List.range'_succ, v_srg_cons, if_neg (fun q => by omega), ih (i + 1) r (Nat.zero_le _) (fun c a b => h2 c (by omega) (by omega))]
      rfl
  | succ m ih =>
    intro n i r h1 h2
    obtain ⟨n, rfl⟩ : ∃ k, n = k + 1 := ⟨n - 1, by omega⟩
    rw [List.range'_succ, List.range'_succ, v_srg_cons, v_srg_cons]
    exact ih n (i + 1) _ (by omega) (fun c a b => h2 c (by omega) (by omega))
theorem v_skg_cut {A : Nat → Nat → Int} {gn : Nat → Int} {r : Int} {C : Nat} (h : C ≤ 3) (hz : ∀ c : Nat, c < 3 → C ≤ c → gn c = 0) : v_skg A gn r 3 = v_skg A gn r C := by
  funext o j
  unfold v_skg
  by_cases q : o = 5 ∧ j < C ∧ 0 < gn j
  · rw [if_pos q, if_pos (show o = 5 ∧ j < 3 ∧ 0 < gn j from ⟨q.1, by omega, q.2.2⟩)]
  · rw [if_neg q, if_neg (show ¬ (o = 5 ∧ j < 3 ∧ 0 < gn j) from fun x => q ⟨x.1, Nat.lt_of_not_le fun y => by
      have h1 := hz j x.2.1 y
      have h2 := x.2.2
      omega, x.2.2⟩)]
theorem k_skg_loop1 {s : Fin 7} {M : z_M} {T A : Nat → Nat → Int} {gn : Nat → Int} (hT : ∀ c : Nat, c < 3 → T 28 c = gn c) (hn : ∀ c : Nat, c < 3 → 0 ≤ gn c ∧ gn c ≤ 99) (hb : ∀ c : Nat, c < 3 → 0 < gn c → (-500000000 ≤ A 5 c ∧ A 5 c ≤ 500000000)) : ∀ (n i : Nat) (r : Int), i + n = 3 → 0 ≤ r → r ≤ 1000000 →
    z_ex 58 11 [some (.inr (some (0, 26))), some (.inr (some (s, 0))), some (.inr (some (s, 1))), some (.inl r), some (.inl (i : Int))] [] (z_ur (z_ut M T) s A)
      = z_ex 58 62 [some (.inr (some (0, 26))), some (.inr (some (s, 0))), some (.inr (some (s, 1))), some (.inl (v_srg gn A (List.range' i n) r)), some (.inl (3 : Int))] [] (z_ur (z_ut M T) s A) ∧ 0 ≤ v_srg gn A (List.range' i n) r ∧ v_srg gn A (List.range' i n) r ≤ 1000000 := by
  intro n
  induction n with
  | zero =>
    intro i r e h0 h1
    refine ⟨?_, h0, h1⟩
    have e' : (i : Int) = 3 := by omega
    rw [x58_11]
    repeat' (first | (exfalso; omega) | (simp (disch := first | omega | assumption | exact z_b_01) only [x58_0, x58_1, x58_4, x58_5, x58_7, x58_8, x58_9, x58_13, x58_14, x58_17, x58_18, x58_21, x58_23, x58_24, x58_27, x58_28, x58_29, x58_32, x58_34, x58_35, x58_36, x58_39, x58_41, x58_42, x58_43, x58_46, x58_48, x58_49, x58_52, x58_55, x58_56, x58_59, x58_63, x58_65, x58_67, x58_68, x58_71, x58_72, x58_75, x58_77, x58_78, x58_81, x58_82, x58_85, x58_87, x58_88, x58_89, x58_90, x58_91, x58_94, x58_96, x58_97, x58_98, x58_99, x58_100, x58_103, x58_106, Option.bind_some, Option.toList_some, Option.toList_none, List.cons_append, List.nil_append, Int.toNat_natCast, Int.toNat_zero, z_w_id, z_b_0, z_b_1, z_b_n0, z_b_t, z_b_f, ↓reduceIte, Int.reduceEq, Int.reduceLT, Int.reduceLE, Int.reduceToNat, not_true_eq_false, not_false_eq_true, false_and, and_false, true_and, and_true, false_or, or_false, true_or, or_true, z_ur_get, e']) | split)
    all_goals rfl
  | succ n ih =>
    intro i r e h0 h1
    have hn' := hn i (by omega)
    have hT' := hT i (by omega)
    rw [List.range'_succ, v_srg_cons]
    by_cases hc : 0 < gn i
    · rw [if_pos hc]
      have hb' := hb i (by omega) hc
      have hr := v_rb_in (q := A 4 i) hn'.2 hb'.1
      have kr := k_rb (q := A 4 i) hn'.2 hn'.1 hb'.1 (z_ur (z_ut M T) s A)
      have ih' := ih (i + 1) (if v_rb (gn i) (A 5 i) (A 4 i) < r then v_rb (gn i) (A 5 i) (A 4 i) else r) (by omega) (by split <;> omega) (by split <;> omega)
      refine ⟨?_, ih'.2⟩
      rw [← ih'.1, x58_11]
      simp only [Int.natCast_add, Int.natCast_one]
      repeat' (first | (exfalso; omega) | (simp (disch := first | omega | assumption | exact z_b_01) only [x58_0, x58_1, x58_4, x58_5, x58_7, x58_8, x58_9, x58_13, x58_14, x58_17, x58_18, x58_21, x58_23, x58_24, x58_27, x58_28, x58_29, x58_32, x58_34, x58_35, x58_36, x58_39, x58_41, x58_42, x58_43, x58_46, x58_48, x58_49, x58_52, x58_55, x58_56, x58_59, x58_63, x58_65, x58_67, x58_68, x58_71, x58_72, x58_75, x58_77, x58_78, x58_81, x58_82, x58_85, x58_87, x58_88, x58_89, x58_90, x58_91, x58_94, x58_96, x58_97, x58_98, x58_99, x58_100, x58_103, x58_106, Option.bind_some, Option.toList_some, Option.toList_none, List.cons_append, List.nil_append, Int.toNat_natCast, Int.toNat_zero, z_w_id, z_b_0, z_b_1, z_b_n0, z_b_t, z_b_f, ↓reduceIte, Int.reduceEq, Int.reduceLT, Int.reduceLE, Int.reduceToNat, not_true_eq_false, not_false_eq_true, false_and, and_false, true_and, and_true, false_or, or_false, true_or, or_true, z_ur_get, z_ut_get, hT', kr]) | split)
      all_goals rfl
    · rw [if_neg hc]
      have ih' := ih (i + 1) r (by omega) h0 h1
      refine ⟨?_, ih'.2⟩
      rw [← ih'.1, x58_11]
      simp only [Int.natCast_add, Int.natCast_one]
      repeat' (first | (exfalso; omega) | (simp (disch := first | omega | assumption | exact z_b_01) only [x58_0, x58_1, x58_4, x58_5, x58_7, x58_8, x58_9, x58_13, x58_14, x58_17, x58_18, x58_21, x58_23, x58_24, x58_27, x58_28, x58_29, x58_32, x58_34, x58_35, x58_36, x58_39, x58_41, x58_42, x58_43, x58_46, x58_48, x58_49, x58_52, x58_55, x58_56, x58_59, x58_63, x58_65, x58_67, x58_68, x58_71, x58_72, x58_75, x58_77, x58_78, x58_81, x58_82, x58_85, x58_87, x58_88, x58_89, x58_90, x58_91, x58_94, x58_96, x58_97, x58_98, x58_99, x58_100, x58_103, x58_106, Option.bind_some, Option.toList_some, Option.toList_none, List.cons_append, List.nil_append, Int.toNat_natCast, Int.toNat_zero, z_w_id, z_b_0, z_b_1, z_b_n0, z_b_t, z_b_f, ↓reduceIte, Int.reduceEq, Int.reduceLT, Int.reduceLE, Int.reduceToNat, not_true_eq_false, not_false_eq_true, false_and, and_false, true_and, and_true, false_or, or_false, true_or, or_true, z_ur_get, z_ut_get, hT']) | split)
      all_goals rfl
theorem k_skg_loop2 {s : Fin 7} {M : z_M} {T A : Nat → Nat → Int} {gn : Nat → Int} (hT : ∀ c : Nat, c < 3 → T 28 c = gn c) (hb : ∀ c : Nat, c < 3 → 0 < gn c → (-100000000 ≤ A 5 c ∧ A 5 c ≤ 100000000) ∧ (1 ≤ A 4 c ∧ A 4 c ≤ 200)) {r : Int} (h0 : 0 ≤ r) (h1 : r ≤ 1000000) : ∀ (n i : Nat), i + n = 3 →
    z_ex 58 65 [some (.inr (some (0, 26))), some (.inr (some (s, 0))), some (.inr (some (s, 1))), some (.inl r), some (.inl (i : Int))] [] (z_ur (z_ut M T) s (v_skg A gn r i)) = some (none, z_ur (z_ut M T) s (v_skg A gn r (i + n))) := by
  intro n
  induction n with
  | zero =>
    intro i e
    rw [x58_65]
    repeat' (first | (exfalso; omega) | (simp (disch := first | omega | assumption | exact z_b_01) only [x58_0, x58_1, x58_4, x58_5, x58_7, x58_8, x58_9, x58_11, x58_13, x58_14, x58_17, x58_18, x58_21, x58_23, x58_24, x58_27, x58_28, x58_29, x58_32, x58_34, x58_35, x58_36, x58_39, x58_41, x58_42, x58_43, x58_46, x58_48, x58_49, x58_52, x58_55, x58_56, x58_59, x58_62, x58_63, x58_67, x58_68, x58_71, x58_72, x58_75, x58_77, x58_78, x58_81, x58_82, x58_85, x58_87, x58_88, x58_89, x58_90, x58_91, x58_94, x58_96, x58_97, x58_98, x58_99, x58_100, x58_103, x58_106, Option.bind_some, Option.toList_some, Option.toList_none, List.cons_append, List.nil_append, Int.toNat_natCast, Int.toNat_zero, z_w_id, z_b_0, z_b_1, z_b_n0, z_b_t, z_b_f, ↓reduceIte, Int.reduceEq, Int.reduceLT, Int.reduceLE, Int.reduceToNat, not_true_eq_false, not_false_eq_true, false_and, and_false, true_and, and_true, false_or, or_false, true_or, or_true, z_ur_get]) | split)
    all_goals rfl
  | succ n ih =>
    intro i e
    have hT' := hT i (by omega)
    have ih' := ih (i + 1) (by omega)
    simp only [Int.natCast_add, Int.natCast_one] at ih'
    rw [show i + (n + 1) = i + 1 + n by omega, ← ih', x58_65]
    by_cases hc : 0 < gn i
    · rw [← v_skg_yes hc]
      have hb' := hb i (by omega) hc
      have hm : 0 ≤ r * A 4 i ∧ r * A 4 i ≤ 200000000 := by
        refine ⟨Int.mul_nonneg h0 (by omega), ?_⟩
        have := Int.mul_le_mul (a := r) (b := A 4 i) (c := 1000000) (d := 200) h1 hb'.2.2 (by omega) (by omega)
        omega
      repeat' (first | (exfalso; omega) | (simp (disch := first | omega | assumption | exact z_b_01) only [x58_0, x58_1, x58_4, x58_5, x58_7, x58_8, x58_9, x58_11, x58_13, x58_14, x58_17, x58_18, x58_21, x58_23, x58_24, x58_27, x58_28, x58_29, x58_32, x58_34, x58_35, x58_36, x58_39, x58_41, x58_42, x58_43, x58_46, x58_48, x58_49, x58_52, x58_55, x58_56, x58_59, x58_62, x58_63, x58_67, x58_68, x58_71, x58_72, x58_75, x58_77, x58_78, x58_81, x58_82, x58_85, x58_87, x58_88, x58_89, x58_90, x58_91, x58_94, x58_96, x58_97, x58_98, x58_99, x58_100, x58_103, x58_106, Option.bind_some, Option.toList_some, Option.toList_none, List.cons_append, List.nil_append, Int.toNat_natCast, Int.toNat_zero, z_w_id, z_b_0, z_b_1, z_b_n0, z_b_t, z_b_f, ↓reduceIte, Int.reduceEq, Int.reduceLT, Int.reduceLE, Int.reduceToNat, not_true_eq_false, not_false_eq_true, false_and, and_false, true_and, and_true, false_or, or_false, true_or, or_true, z_ur_get, z_ut_get, z_up_ur, hT', v_skg_o, v_skg_ge]) | split)
      all_goals rfl
    · rw [← v_skg_no hc]
      repeat' (first | (exfalso; omega) | (simp (disch := first | omega | assumption | exact z_b_01) only [x58_0, x58_1, x58_4, x58_5, x58_7, x58_8, x58_9, x58_11, x58_13, x58_14, x58_17, x58_18, x58_21, x58_23, x58_24, x58_27, x58_28, x58_29, x58_32, x58_34, x58_35, x58_36, x58_39, x58_41, x58_42, x58_43, x58_46, x58_48, x58_49, x58_52, x58_55, x58_56, x58_59, x58_62, x58_63, x58_67, x58_68, x58_71, x58_72, x58_75, x58_77, x58_78, x58_81, x58_82, x58_85, x58_87, x58_88, x58_89, x58_90, x58_91, x58_94, x58_96, x58_97, x58_98, x58_99, x58_100, x58_103, x58_106, Option.bind_some, Option.toList_some, Option.toList_none, List.cons_append, List.nil_append, Int.toNat_natCast, Int.toNat_zero, z_w_id, z_b_0, z_b_1, z_b_n0, z_b_t, z_b_f, ↓reduceIte, Int.reduceEq, Int.reduceLT, Int.reduceLE, Int.reduceToNat, not_true_eq_false, not_false_eq_true, false_and, and_false, true_and, and_true, false_or, or_false, true_or, or_true, z_ur_get, z_ut_get, z_up_ur, hT', v_skg_o, v_skg_ge]) | split)
      all_goals rfl
theorem k_skg {s : Fin 7} {M : z_M} {T A : Nat → Nat → Int} {gn : Nat → Int} (hG0 : 0 ≤ A 1 0) (h3 : A 1 0 ≤ 3) (hT : ∀ c : Nat, c < 3 → T 28 c = gn c) (hz : ∀ c : Nat, c < 3 → A 1 0 ≤ (c : Int) → gn c = 0) (hn : ∀ c : Nat, (c : Int) < A 1 0 → 0 ≤ gn c ∧ gn c ≤ 99) (hb : ∀ c : Nat, (c : Int) < A 1 0 → (-100000000 ≤ A 5 c ∧ A 5 c ≤ 100000000) ∧ (1 ≤ A 4 c ∧ A 4 c ≤ 200)) :
    z_ev 58 [.inr (some (0, 26)), .inr (some (s, 0))] (z_ur (z_ut M T) s A) = some (none, z_ur (z_ut M T) s (v_skg A gn (v_srg gn A (s_rg (A 1 0).toNat) 1000000) (A 1 0).toNat)) ∧ 0 ≤ v_srg gn A (s_rg (A 1 0).toNat) 1000000 ∧ v_srg gn A (s_rg (A 1 0).toNat) 1000000 ≤ 1000000 := by
  have hn8 : ∀ c : Nat, c < 3 → 0 ≤ gn c ∧ gn c ≤ 99 := fun c hc => by
    by_cases q : (c : Int) < A 1 0
    · exact hn c q
    · have := hz c hc (by omega)
      omega
  have hb8 : ∀ c : Nat, c < 3 → 0 < gn c → (-100000000 ≤ A 5 c ∧ A 5 c ≤ 100000000) ∧ (1 ≤ A 4 c ∧ A 4 c ≤ 200) := fun c hc hp => hb c (by
    by_cases q : (c : Int) < A 1 0
    · exact q
    · have := hz c hc (by omega)
      omega)
  have h := k_skg_loop1 (s := s) (M := M) (A := A) hT hn8 (fun c hc hp => by have := hb8 c hc hp; omega) 3 0 1000000 (by omega) (by omega) (by omega)
  have hzC : ∀ c : Nat, c < 3 → (A 1 0).toNat ≤ c → gn c = 0 := fun c hc a => hz c hc (by omega)
  have ec : v_srg gn A (List.range' 0 3) 1000000 = v_srg gn A (List.range' 0 (A 1 0).toNat) 1000000 := v_srg_cut gn A (A 1 0).toNat 3 0 1000000 (by omega) (fun c a b => hzC c (by omega) (by omega))
  rw [ec] at h
  refine ⟨?_, h.2⟩
  have h2 := k_skg_loop2 (s := s) (M := M) (A := A) hT hb8 h.2.1 h.2.2 3 0 (by omega)
  have e0 : ∀ r, v_skg A gn r 0 = A := fun r => by funext o j; exact v_skg_ge (Nat.zero_le _)
  rw [e0, Nat.zero_add, v_skg_cut (C := (A 1 0).toNat) (by omega) hzC] at h2
  unfold s_rg
  rw [x58]
  simp (disch := first | omega | assumption) only [x58_0, x58_1, x58_4, x58_5, x58_7, x58_8, x58_9, x58_13, x58_14, x58_17, x58_18, x58_21, x58_23, x58_24, x58_27, x58_28, x58_29, x58_32, x58_34, x58_35, x58_36, x58_39, x58_41, x58_42, x58_43, x58_46, x58_48, x58_49, x58_52, x58_55, x58_56, x58_59, x58_63, x58_65, x58_67, x58_68, x58_71, x58_72, x58_75, x58_77, x58_78, x58_81, x58_82, x58_85, x58_87, x58_88, x58_89, x58_90, x58_91, x58_94, x58_96, x58_97, x58_98, x58_99, x58_100, x58_103, x58_106, Option.bind_some, Option.toList_some, Option.toList_none, List.cons_append, List.nil_append, Int.toNat_natCast, Int.toNat_zero, z_w_id, z_b_0, z_b_1, z_b_n0, z_b_t, z_b_f, ↓reduceIte, Int.reduceEq, Int.reduceLT, Int.reduceLE, Int.reduceToNat, not_true_eq_false, not_false_eq_true, false_and, and_false, true_and, and_true, false_or, or_false, true_or, or_true, z_ur_get]
  refine h.1.trans ?_
  rw [x58_62]
  simp (disch := first | omega | assumption) only [x58_0, x58_1, x58_4, x58_5, x58_7, x58_8, x58_9, x58_13, x58_14, x58_17, x58_18, x58_21, x58_23, x58_24, x58_27, x58_28, x58_29, x58_32, x58_34, x58_35, x58_36, x58_39, x58_41, x58_42, x58_43, x58_46, x58_48, x58_49, x58_52, x58_55, x58_56, x58_59, x58_63, x58_67, x58_68, x58_71, x58_72, x58_75, x58_77, x58_78, x58_81, x58_82, x58_85, x58_87, x58_88, x58_89, x58_90, x58_91, x58_94, x58_96, x58_97, x58_98, x58_99, x58_100, x58_103, x58_106, Option.bind_some, Option.toList_some, Option.toList_none, List.cons_append, List.nil_append, Int.toNat_natCast, Int.toNat_zero, z_w_id, z_b_0, z_b_1, z_b_n0, z_b_t, z_b_f, ↓reduceIte, Int.reduceEq, Int.reduceLT, Int.reduceLE, Int.reduceToNat, not_true_eq_false, not_false_eq_true, false_and, and_false, true_and, and_true, false_or, or_false, true_or, or_true, z_ur_get]
  exact h2
/-- whether the present group is the next one -/
def v_pg (nd gb : Nat → Int) (A : Nat → Nat → Int) : Int × (Nat → Nat → Int) := if 0 ≤ A 0 4 ∧ A 0 4 < A 1 0 then
    (z_b (0 < v_ln (A 2 0) nd (gb (A 0 4).toNat) (A 0 4).toNat A ∧ v_ln (A 2 0) nd (gb (A 0 4).toNat) (A 0 4).toNat A ≤ A 5 (A 0 4).toNat), v_la (A 2 0) nd (gb (A 0 4).toNat) (A 0 4).toNat A) else (0, A)
theorem k_pg {s : Fin 7} {M : z_M} {nd gb : Nat → Int} {T A : Nat → Nat → Int} (hJ : g_J nd gb A) (hT7 : ∀ c : Nat, c < 8 → T 27 c = nd c) (hT9 : ∀ g : Nat, g < 3 → T 29 g = gb g) :
    z_ev 55 [.inr (some (0, 26)), .inr (some (s, 0))] (z_ur (z_ut M T) s A) = some (some (.inl (v_pg nd gb A).1), z_ur (z_ut M T) s (v_pg nd gb A).2) := by
  have h3 := hJ.2.1
  unfold v_pg
  by_cases hp : 0 ≤ A 0 4 ∧ A 0 4 < A 1 0
  · rw [if_pos hp]
    obtain ⟨g, hg⟩ : ∃ g : Nat, A 0 4 = (g : Int) := ⟨(A 0 4).toNat, by omega⟩
    rw [hg] at hp ⊢
    simp only [Int.toNat_natCast]
    have hla := v_la_props hJ (g := g) (by omega)
    have kl := k_look (s := s) (M := M) (T := T) (A := A) (nd := nd) (gb := gb g) hJ.1.1 hJ.1.2.1 (g := g) (by omega) hT7 hJ.1.2.2 (hT9 g (by omega)) hJ.2.2.1 (fun hz => hJ.2.2.2.1 g (by omega) hz)
    have r5 : v_la (A 2 0) nd (gb g) g A 5 g = A 5 g := hla.1.1 5 g (by decide) (by omega)
    generalize v_la (A 2 0) nd (gb g) g A = A2 at kl r5 ⊢
    rw [x55]
    repeat' (first | (exfalso; omega) | (simp (disch := first | omega | assumption | exact z_b_01) only [x55_0, x55_1, x55_4, x55_5, x55_6, x55_9, x55_10, x55_13, x55_16, x55_17, x55_18, x55_19, x55_20, x55_21, x55_24, x55_25, x55_26, x55_29, x55_30, x55_33, x55_36, x55_37, x55_38, x55_39, x55_42, x55_43, x55_46, x55_47, Option.bind_some, Option.toList_some, Option.toList_none, List.cons_append, List.nil_append, Int.toNat_natCast, Int.toNat_zero, z_w_id, z_b_0, z_b_1, z_b_n0, z_b_t, z_b_f, ↓reduceIte, Int.reduceEq, Int.reduceLT, Int.reduceLE, Int.reduceToNat, not_true_eq_false, not_false_eq_true, false_and, and_false, true_and, and_true, false_or, or_false, true_or, or_true, z_ur_get, k_Groups_has, hg, kl, r5]) | split)
    all_goals (refine z_ri ?_ rfl; unfold z_b; (repeat' split) <;> omega)
  · rw [if_neg hp, x55]
    repeat' (first | (exfalso; omega) | (simp (disch := first | omega | assumption | exact z_b_01) only [x55_0, x55_1, x55_4, x55_5, x55_6, x55_9, x55_10, x55_13, x55_16, x55_17, x55_18, x55_19, x55_20, x55_21, x55_24, x55_25, x55_26, x55_29, x55_30, x55_33, x55_36, x55_37, x55_38, x55_39, x55_42, x55_43, x55_46, x55_47, Option.bind_some, Option.toList_some, Option.toList_none, List.cons_append, List.nil_append, Int.toNat_natCast, Int.toNat_zero, z_w_id, z_b_0, z_b_1, z_b_n0, z_b_t, z_b_f, ↓reduceIte, Int.reduceEq, Int.reduceLT, Int.reduceLE, Int.reduceToNat, not_true_eq_false, not_false_eq_true, false_and, and_false, true_and, and_true, false_or, or_false, true_or, or_true, z_ur_get, k_Groups_has]) | split)
    all_goals rfl

/-- the turns: the state in which the next class of the next group is the present one -/
def v_nt (nd gb : Nat → Int) (T A : Nat → Nat → Int) : Nat → Nat → Int :=
  if (v_pg nd gb A).1 ≠ 0 then (v_pg nd gb A).2 else
  if (v_wg nd gb (A 1 0).toNat T (v_pg nd gb A).2).1 ≠ 0 then (v_wg nd gb (A 1 0).toNat T (v_pg nd gb A).2).2.2 else
  (v_wg nd gb (A 1 0).toNat (v_wg nd gb (A 1 0).toNat T (v_pg nd gb A).2).2.1 (v_skg (v_wg nd gb (A 1 0).toNat T (v_pg nd gb A).2).2.2 ((v_wg nd gb (A 1 0).toNat T (v_pg nd gb A).2).2.1 28) (v_srg ((v_wg nd gb (A 1 0).toNat T (v_pg nd gb A).2).2.1 28) (v_wg nd gb (A 1 0).toNat T (v_pg nd gb A).2).2.2 (s_rg (A 1 0).toNat) 1000000) (A 1 0).toNat)).2.2
