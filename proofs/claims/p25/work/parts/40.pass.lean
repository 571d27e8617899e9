/-! ticks, and a pass -/
theorem f_x_21 {A A' : Nat → Nat → Int} {l : List Nat} (hI : e_I A l) (hx : f_x A l) (h : ∀ o i, o < 21 → A' o i = A o i) : f_x A' l := by
  refine ⟨fun g hg hn => ?_, fun j hj hb => ?_⟩
  · rw [h 1 0 (by decide)] at hg
    rw [h 5 g (by decide)]
    exact hx.1 g hg fun j hj => by rw [← a_gr_c (A := A) (A' := A') (fun i => h 16 i (by decide)) (fun i => h 7 i (by decide))]; exact hn j hj
  · rw [h 3 0 (by decide)] at hj
    rw [h 19 j (by decide)] at hb ⊢
    rw [h 18 j (by decide)]
    exact hx.2 j hj hb
theorem f_Sv_21 {A A' : Nat → Nat → Int} (hS : e_Sv A) (h : ∀ o i, o < 21 → A' o i = A o i) : e_Sv A' := by
  unfold e_Sv at hS ⊢
  simp (disch := decide) only [h]
  exact hS
theorem f_H_21 {A A' : Nat → Nat → Int} {l : List Nat} (hH : f_H A l) (h : ∀ o i, o < 21 → A' o i = A o i) : f_H A' l :=
  ⟨e_cell hH.1 fun o j c => h o j (a_cell_lt c), f_x_21 hH.1 hH.2.1 h, f_Sv_21 hH.2.2 h⟩
theorem f_e2_21 {A A' : Nat → Nat → Int} (h : ∀ o i, o < 21 → A' o i = A o i) : f_e2 A A' :=
  ⟨fun o j q _ => h o j (Nat.lt_of_not_le fun e => f_S_n (o := o) (j := j) (by omega) q), by rw [h 0 3 (by decide), h 0 6 (by decide)]⟩
/-- what m ticks leave, d jobs done -/
def f_ps (A A2 : Nat → Nat → Int) (l l2 : List Nat) (m : Nat) (d : Int) : Prop :=
  f_H A2 l2 ∧ (A 0 6 ≤ 98 → A2 0 6 ≤ 98) ∧ A2 0 3 = A 0 3 + m ∧ (A 0 7 ≤ A2 0 7 ∧ A2 0 7 ≤ A 0 7 + m) ∧ A2 3 0 = A 3 0 ∧ (∀ i, A2 17 i = A 17 i) ∧ p_D A2 = p_D A + d ∧ (0 ≤ d ∧ d ≤ m) ∧ p_F A2 l2 = p_F A l ∧ (l2 ≠ [] → p_W A2 l2 + m = p_W A l) ∧ (∀ o i, o = 1 ∨ o = 2 → i = 0 → A2 o i = A o i) ∧ (l = [] → l2 = [])
theorem f_ps_zero {A : Nat → Nat → Int} {l : List Nat} (hH : f_H A l) : f_ps A A l l 0 0 :=
  ⟨hH, fun h => h, by simp, by simp, rfl, fun _ => rfl, by simp, by simp, rfl, fun _ => by simp, fun _ _ _ _ => rfl, fun h => h⟩
theorem f_ps_tk {A A1 A2 : Nat → Nat → Int} {l l1 l2 : List Nat} {m : Nat} {r d : Int} (h : f_tk A A1 l l1 r) (k : f_ps A1 A2 l1 l2 m d) : f_ps A A2 l l2 (m + 1) (r + d) := by
  obtain ⟨h1, h2, h3, h4, h5, h6, h7, h8, h9, h10, h11, h12⟩ := h
  obtain ⟨k1, k2, k3, k4, k5, k6, k7, k8, k9, k10, k11, k12⟩ := k
  simp only [f_ps, Int.natCast_add, Int.natCast_one]
  refine ⟨k1, fun _ => k2 h2, by omega, by omega, by omega, fun i => (k6 i).trans (h6 i), by omega, by omega, k9.trans h9, fun q => ?_, fun o i a b => (k11 o i a b).trans (h11 o i a b), fun q => k12 (h12 q)⟩
  have h1 : l1 ≠ [] := fun e => q (k12 e)
  have a := k10 q
  have b := h10 h1
  omega
theorem f_ps_app {A A1 A2 : Nat → Nat → Int} {l l1 l2 : List Nat} {m m' : Nat} {r d : Int} (h : f_ps A A1 l l1 m r) (k : f_ps A1 A2 l1 l2 m' d) : f_ps A A2 l l2 (m + m') (r + d) := by
  obtain ⟨h1, h2, h3, h4, h5, h6, h7, h8, h9, h10, h11, h12⟩ := h
  obtain ⟨k1, k2, k3, k4, k5, k6, k7, k8, k9, k10, k11, k12⟩ := k
  simp only [f_ps, Int.natCast_add]
  refine ⟨k1, fun q => k2 (h2 q), by omega, by omega, by omega, fun i => (k6 i).trans (h6 i), by omega, by omega, k9.trans h9, fun q => ?_, fun o i a b => (k11 o i a b).trans (h11 o i a b), fun q => k12 (h12 q)⟩
  have h1 : l1 ≠ [] := fun e => q (k12 e)
  have a := k10 q
  have b := h10 h1
  omega
theorem f_ticks {M : z_M} {n : Int} (hn : 0 ≤ n ∧ n ≤ 500) : ∀ (m i : Nat) (sum : Int) (T A : Nat → Nat → Int) (l : List Nat), (i : Int) + m = n → f_H A l → A 0 3 + m ≤ 29000 → 0 ≤ sum → sum + m ≤ 500 →
    ∃ (T' A2 : Nat → Nat → Int) (l2 : List Nat) (d : Int), z_ex 76 47 [some (.inr (some (0, 21))), some (.inl n), some (.inl sum), some (.inl (i : Int))] [] (z_ur (z_ut M T) 0 A) = z_ex 76 65 [some (.inr (some (0, 21))), some (.inl n), some (.inl (sum + d)), some (.inl n)] [] (z_ur (z_ut M T') 0 A2) ∧ f_ps A A2 l l2 m d := by
  intro m
  induction m with
  | zero =>
    intro i sum T A l e hH ht h0 h1
    have e' : (i : Int) = n := by omega
    refine ⟨T, A, l, 0, ?_, f_ps_zero hH⟩
    rw [e', x76_47, Int.add_zero]
    repeat' (first | (exfalso; omega) | (simp (disch := first | omega | assumption | exact z_b_01) only [x76_0, x76_1, x76_2, x76_5, x76_8, x76_11, x76_13, x76_14, x76_15, x76_18, x76_21, x76_22, x76_23, x76_26, x76_29, x76_31, x76_32, x76_33, x76_36, x76_37, x76_40, x76_43, x76_44, x76_45, x76_46, x76_48, x76_49, x76_52, x76_53, x76_54, x76_57, x76_58, x76_59, x76_62, x76_66, x76_69, x76_72, x76_73, x76_76, x76_77, Option.bind_some, Option.toList_some, Option.toList_none, List.cons_append, List.nil_append, Int.toNat_natCast, Int.toNat_zero, z_w_id, z_b_0, z_b_1, z_b_n0, z_b_t, z_b_f, ↓reduceIte, Int.reduceEq, Int.reduceLT, Int.reduceLE, Int.reduceToNat, not_true_eq_false, not_false_eq_true, false_and, and_false, true_and, and_true, false_or, or_false, true_or, or_true]) | split)
    all_goals rfl
  | succ m ih =>
    intro i sum T A l e hH ht h0 h1
    simp only [Int.natCast_add, Int.natCast_one] at e ht h1
    obtain ⟨T1, A1, l1, r, c1, F1⟩ := f_tick (M := M) (T := T) hH (by omega)
    have hr := F1.2.2.2.2.2.2.2.1
    have h3 := F1.2.2.1
    obtain ⟨T2, A2, l2, d, c2, F2⟩ := ih (i + 1) (sum + r) T1 A1 l1 (by omega) F1.1 (by omega) (by omega) (by omega)
    simp only [Int.natCast_add, Int.natCast_one] at c2
    refine ⟨T2, A2, l2, r + d, ?_, f_ps_tk F1 F2⟩
    rw [x76_47, ← Int.add_assoc]
    repeat' (first | (exfalso; omega) | (simp (disch := first | omega | assumption | exact z_b_01) only [x76_0, x76_1, x76_2, x76_5, x76_8, x76_11, x76_13, x76_14, x76_15, x76_18, x76_21, x76_22, x76_23, x76_26, x76_29, x76_31, x76_32, x76_33, x76_36, x76_37, x76_40, x76_43, x76_44, x76_45, x76_46, x76_48, x76_49, x76_52, x76_53, x76_54, x76_57, x76_58, x76_59, x76_62, x76_66, x76_69, x76_72, x76_73, x76_76, x76_77, Option.bind_some, Option.toList_some, Option.toList_none, List.cons_append, List.nil_append, Int.toNat_natCast, Int.toNat_zero, z_w_id, z_b_0, z_b_1, z_b_n0, z_b_t, z_b_f, ↓reduceIte, Int.reduceEq, Int.reduceLT, Int.reduceLE, Int.reduceToNat, not_true_eq_false, not_false_eq_true, false_and, and_false, true_and, and_true, false_or, or_false, true_or, or_true, c1, c2]) | split)
    all_goals rfl
theorem f_fill {A : Nat → Nat → Int} {l : List Nat} {n : Int} (hn : 0 ≤ n) (hH : f_H A l) : f_H (a_fill A n (A 2 0).toNat) l := by
  obtain ⟨hI, hx, hS⟩ := hH
  have hC := hI.2.2.1
  have eo : ∀ o, o ≠ 12 → ∀ k, a_fill A n (A 2 0).toNat o k = A o k := fun o q k => a_fill_o q
  have hb : ∀ c : Nat, (c : Int) < A 2 0 → 0 ≤ a_fill A n (A 2 0).toNat 12 c ∧ a_fill A n (A 2 0).toNat 12 c ≤ A 10 c := fun c hc => by
    have a := hC c hc
    refine e_tok_b a.2.2.2.2.2.1 a.2.2.2.2.1.1 hn ?_
    unfold a_fill
    rw [if_pos ⟨rfl, by omega⟩]
  refine ⟨e_I_o hI (fun o k _ q _ => eo o q k) (fun c hc => by rw [eo 15 (by decide)]; exact (hC c hc).2.2.2.2.2.2.2.2) hb, f_x_o hx fun o i _ _ c => eo o c i, ?_⟩
  unfold e_Sv at hS ⊢
  simp (disch := decide) only [eo]
  exact hS
theorem f_ps_fill {A A2 : Nat → Nat → Int} {l l2 : List Nat} {m : Nat} {d n : Int} (hn : 0 ≤ n) (h : f_ps A A2 l l2 m d) : f_ps A (a_fill A2 n (A2 2 0).toNat) l l2 m d := by
  obtain ⟨h1, h2, h3, h4, h5, h6, h7, h8, h9, h10, h11, h12⟩ := h
  have eo : ∀ o, o ≠ 12 → ∀ k, a_fill A2 n (A2 2 0).toNat o k = A2 o k := fun o q k => a_fill_o q
  have e2 : f_e2 A2 (a_fill A2 n (A2 2 0).toNat) := ⟨fun o j q _ => eo o (fun e => f_S_n (o := o) (j := j) (by omega) q) j, by rw [eo 0 (by decide), eo 0 (by decide)]⟩
  refine ⟨f_fill hn h1, ?_, ?_, ?_, ?_, fun i => ?_, ?_, h8, ?_, ?_, fun o i a b => ?_, h12⟩
  · rw [eo 0 (by decide)]; exact h2
  · rw [eo 0 (by decide)]; exact h3
  · rw [eo 0 (by decide)]; exact h4
  · rw [eo 3 (by decide)]; exact h5
  · rw [eo 17 (by decide)]; exact h6 i
  · rw [← h7]; unfold p_D; rw [eo 3 (by decide), eo 3 (by decide), eo 0 (by decide)]
  · rw [p_F_eq e2]; exact h9
  · intro q
    rw [← h10 q]
    unfold p_W
    have : s_sum l2 (fun i => a_fill A2 n (A2 2 0).toNat 17 i) = s_sum l2 (fun i => A2 17 i) := s_sum_congr fun i _ => eo 17 (by decide) i
    rw [this, eo 0 (by decide)]
  · rw [eo o (by omega)]; exact h11 o i a b
/-- what holds of a memory between calls -/
def w_M (M : z_M) (l : List Nat) : Prop := z_nz M ∧ f_H (M 0) l ∧ M 0 0 6 ≤ 98 ∧ w_h M
/-- what a call leaves beside the state and the history -/
def w_t (M M' : z_M) : Prop := (∀ o j : Nat, 21 ≤ o → o ≠ 22 → o ≠ 23 → ¬ (27 ≤ o ∧ o < 30) → M' 0 o j = M 0 o j) ∧ ∀ o j : Nat, M' 1 o j = M 1 o j
theorem w_t_rfl (M : z_M) : w_t M M := ⟨fun _ _ _ _ _ _ => rfl, fun _ _ => rfl⟩
theorem w_t_trans {M M1 M2 : z_M} (h : w_t M M1) (k : w_t M1 M2) : w_t M M2 := ⟨fun o j a b c d => (k.1 o j a b c d).trans (h.1 o j a b c d), fun o j => (k.2 o j).trans (h.2 o j)⟩
theorem w_t_ur {M M' : z_M} (hf : w_pf M M') (T A : Nat → Nat → Int) : w_t M (z_ur (z_ut M' T) 0 A) := by
  refine ⟨fun o j a b c d => ?_, fun o j => ?_⟩
  · rw [z_ur_top a]
    unfold z_ut
    rw [if_neg (fun q => d q.2)]
    exact hf.1 o j b c
  · rw [z_ur_ne (by decide)]
    unfold z_ut
    rw [if_neg (fun q => absurd q.1 (by decide))]
    exact hf.2.1 o j
theorem w_h_ur {M' : z_M} (h : w_h M') (T A : Nat → Nat → Int) : w_h (z_ur (z_ut M' T) 0 A) := by
  refine w_h_of h ?_ fun j => ?_
  · rw [z_ur_top (by decide), z_ut_lo (by decide)]
  · rw [z_ur_top (by decide), z_ut_lo (by decide)]
/-- a pass, whole -/
theorem k_pass {M : z_M} {l : List Nat} (hM : w_M M l) {n : Nat} (hn : 1 ≤ n ∧ n ≤ 500) (ht : M 0 0 3 + n ≤ 20000) :
    ∃ (M' : z_M) (l2 : List Nat) (r : Int), z_ev 76 [.inr (some (0, 21)), .inl (n : Int)] M = some (some (.inl r), M') ∧ w_M M' l2 ∧ w_t M M' ∧ f_ps (M 0) (M' 0) l l2 n r := by
  obtain ⟨hz, hH, h6, hh⟩ := hM
  obtain ⟨M1, p1, pf⟩ := k_push2 hh
  have e0 : z_ur M1 0 (M 0) = z_ur (z_ut M1 (M1 0)) 0 (M 0) := by rw [z_ut_self]
  obtain ⟨T2, A2, l2, d, c2, F2⟩ := f_ticks (M := M1) (n := n) (by omega) n 0 0 (M1 0) (M 0) l (by omega) hH (by omega) (by omega) (by omega)
  rw [Int.zero_add] at c2
  simp only [Int.natCast_zero] at c2
  have hC2 := F2.1.1.2.2.1
  have hG2 := F2.1.1.1.2.1
  have kf := k_fill (s := 0) (M := z_ut M1 T2) (A := A2) hC2 hG2.1 hG2.2 (t := (n : Int)) (by omega)
  have F3 := f_ps_fill (n := (n : Int)) (by omega) F2
  have hg := hH.1.1.2.2
  have run : z_ev 76 [.inr (some (0, 21)), .inl (n : Int)] M = some (some (.inl d), z_ur (z_ut M1 T2) 0 (a_fill A2 n (A2 2 0).toNat)) := by
    rw [e0] at p1
    rw [x76]
    repeat' (first | (exfalso; omega) | (simp (disch := first | omega | assumption | exact z_b_01) only [x76_0, x76_1, x76_2, x76_5, x76_8, x76_11, x76_13, x76_14, x76_15, x76_18, x76_21, x76_22, x76_23, x76_26, x76_29, x76_31, x76_32, x76_33, x76_36, x76_37, x76_40, x76_43, x76_44, x76_45, x76_46, x76_48, x76_49, x76_52, x76_53, x76_54, x76_57, x76_58, x76_59, x76_62, x76_66, x76_69, x76_72, x76_73, x76_76, x76_77, Option.bind_some, Option.toList_some, Option.toList_none, List.cons_append, List.nil_append, Int.toNat_natCast, Int.toNat_zero, z_w_id, z_b_0, z_b_1, z_b_n0, z_b_t, z_b_f, ↓reduceIte, Int.reduceEq, Int.reduceLT, Int.reduceLE, Int.reduceToNat, not_true_eq_false, not_false_eq_true, false_and, and_false, true_and, and_true, false_or, or_false, true_or, or_true, k_isWithin, p1, c2]) | split)
    all_goals (rw [x76_65]; repeat' (first | (exfalso; omega) | (simp (disch := first | omega | assumption | exact z_b_01) only [x76_0, x76_1, x76_2, x76_5, x76_8, x76_11, x76_13, x76_14, x76_15, x76_18, x76_21, x76_22, x76_23, x76_26, x76_29, x76_31, x76_32, x76_33, x76_36, x76_37, x76_40, x76_43, x76_44, x76_45, x76_46, x76_48, x76_49, x76_52, x76_53, x76_54, x76_57, x76_58, x76_59, x76_62, x76_66, x76_69, x76_72, x76_73, x76_76, x76_77, Option.bind_some, Option.toList_some, Option.toList_none, List.cons_append, List.nil_append, Int.toNat_natCast, Int.toNat_zero, z_w_id, z_b_0, z_b_1, z_b_n0, z_b_t, z_b_f, ↓reduceIte, Int.reduceEq, Int.reduceLT, Int.reduceLE, Int.reduceToNat, not_true_eq_false, not_false_eq_true, false_and, and_false, true_and, and_true, false_or, or_false, true_or, or_true, kf]) | split))
    all_goals rfl
  have e21 : ∀ o i, o < 21 → z_ur (z_ut M1 T2) 0 (a_fill A2 n (A2 2 0).toNat) 0 o i = a_fill A2 n (A2 2 0).toNat o i := fun o i h => z_ur_get h
  refine ⟨_, l2, d, run, ⟨z_nz_ev run hz, f_H_21 F3.1 e21, ?_, w_h_ur pf.2.2.2.1 _ _⟩, w_t_ur pf _ _, ?_⟩
  · rw [e21 0 6 (by decide)]; exact F3.2.1 h6
  · obtain ⟨h1, h2, h3, h4, h5, h6', h7, h8, h9, h10, h11, h12⟩ := F3
    refine ⟨f_H_21 h1 e21, ?_, ?_, ?_, ?_, fun i => ?_, ?_, h8, ?_, fun q => ?_, fun o i a b => ?_, h12⟩
    · rw [e21 0 6 (by decide)]; exact h2
    · rw [e21 0 3 (by decide)]; exact h3
    · rw [e21 0 7 (by decide)]; exact h4
    · rw [e21 3 0 (by decide)]; exact h5
    · rw [e21 17 i (by decide)]; exact h6' i
    · rw [← h7]; unfold p_D; rw [e21 3 0 (by decide), e21 3 5 (by decide), e21 0 5 (by decide)]
    · rw [p_F_eq (f_e2_21 e21)]; exact h9
    · rw [← h10 q]
      unfold p_W
      have : s_sum l2 (fun i => z_ur (z_ut M1 T2) 0 (a_fill A2 n (A2 2 0).toNat) 0 17 i) = s_sum l2 (fun i => a_fill A2 n (A2 2 0).toNat 17 i) := s_sum_congr fun i _ => e21 17 i (by decide)
      rw [this, e21 0 6 (by decide)]
    · rw [e21 o i (by omega)]; exact h11 o i a b
