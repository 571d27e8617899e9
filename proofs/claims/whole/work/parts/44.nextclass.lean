/-! the model's walk over the classes, whole -/
theorem w_rel_vis {nd gb : Nat → Int} {A : Nat → Nat → Int} {ρ : Nat → Int} (h3 : A 1 0 ≤ 3) (h : w_rel nd gb A ρ) {g w : Nat} (hg : g < 3) (hw : w < 8) :
    w_rel nd gb (v_vis nd g (w : Int) A) (r_u (r_u ρ (8 + 4 * g + 2) (w : Int)) (20 + 10 * w + 2) (if nd w = 0 then 0 else A 9 w + A 8 w)) := by
  obtain ⟨r1, r2, r3, r4, r5⟩ := h
  have f : w_fr ρ (r_u (r_u ρ (8 + 4 * g + 2) (w : Int)) (20 + 10 * w + 2) (if nd w = 0 then 0 else A 9 w + A 8 w)) :=
    w_fr_u (w_fr_u (fun _ _ => rfl) (Or.inr (Or.inl ⟨g, hg, Or.inr rfl⟩))) (Or.inr (Or.inr ⟨w, hw, rfl⟩))
  obtain ⟨f1, f2, f3, f4⟩ := w_fr_facts f
  have e : ∀ i, i ≠ 8 + 4 * g + 2 → i ≠ 20 + 10 * w + 2 → r_u (r_u ρ (8 + 4 * g + 2) (w : Int)) (20 + 10 * w + 2) (if nd w = 0 then 0 else A 9 w + A 8 w) i = ρ i := fun i a b => by rw [r_u_ne b, r_u_ne a]
  have em := fun c => m_fo_congr f1 f2 c
  have eb := fun c => m_gb_congr f1 f2 f3 f4 c
  have eA : ∀ o j, o ≠ 9 → o ≠ 6 → v_vis nd g (w : Int) A o j = A o j := fun o j a b => by unfold v_vis; rw [a_u_o a, a_u_o b]
  refine ⟨?_, fun g' hg' => ?_, fun c hc => ?_, fun c hc => ?_, fun g' hg' => ?_⟩
  · rw [e 1 (by omega) (by omega), e 2 (by omega) (by omega), e 3 (by omega) (by omega), e 4 (by omega) (by omega), eA 1 0 (by decide) (by decide), eA 2 0 (by decide) (by decide), eA 0 4 (by decide) (by decide)]
    exact r1
  · rw [eA 1 0 (by decide) (by decide)] at hg'
    have b := r2 g' hg'
    rw [e (8 + 4 * g') (by omega) (by omega), e (8 + 4 * g' + 1) (by omega) (by omega), eA 4 _ (by decide) (by decide), eA 5 _ (by decide) (by decide)]
    refine ⟨b.1, b.2.1, ?_⟩
    rw [r_u_ne (by omega)]
    unfold v_vis
    rw [a_u_o (by decide), a_u_at]
    by_cases q : g' = g
    · rw [q, r_u_same, if_pos rfl]
    · rw [r_u_ne (by omega), if_neg q]; exact b.2.2
  · rw [eA 2 0 (by decide) (by decide)] at hc
    have b := r3 c hc
    rw [e (20 + 10 * c) (by omega) (by omega), e (20 + 10 * c + 1) (by omega) (by omega), eA 7 _ (by decide) (by decide), eA 8 _ (by decide) (by decide)]
    refine ⟨b.1, b.2.1, ?_⟩
    unfold v_vis
    rw [a_u_at, Int.toNat_natCast]
    by_cases q : c = w
    · rw [q, r_u_same, if_pos rfl]
    · rw [r_u_ne (by omega), r_u_ne (by omega), if_neg q, a_u_o (by decide)]; exact b.2.2
  · rw [eA 2 0 (by decide) (by decide)] at hc
    rw [em]
    have b := r4 c hc
    refine ⟨b.1, fun hz => ⟨(b.2 hz).1, ?_⟩⟩
    rw [e _ (by omega) (by omega)]
    exact (b.2 hz).2
  · rw [eA 1 0 (by decide) (by decide)] at hg'
    rw [eb]
    exact r5 g' hg'
/-- what the walk needs of a state -/
def w_b (nd : Nat → Int) (A : Nat → Nat → Int) : Prop := (0 < A 2 0 ∧ A 2 0 ≤ 8) ∧ (A 1 0 ≤ 3) ∧ ∀ c : Nat, (c : Int) < A 2 0 → (-20000 ≤ A 9 c ∧ A 9 c ≤ 500) ∧ (1 ≤ A 8 c ∧ A 8 c ≤ 200) ∧ 0 ≤ nd c ∧ nd c ≤ 99
theorem w_b_vis {nd : Nat → Int} {A : Nat → Nat → Int} (h : w_b nd A) {g w : Nat} (hw : (w : Int) < A 2 0) (hn : ¬ (nd w ≠ 0 ∧ nd w ≤ A 9 w + A 8 w)) : w_b nd (v_vis nd g (w : Int) A) := by
  obtain ⟨h1, h2, h3⟩ := h
  have eA : ∀ o j, o ≠ 9 → o ≠ 6 → v_vis nd g (w : Int) A o j = A o j := fun o j a b => by unfold v_vis; rw [a_u_o a, a_u_o b]
  unfold w_b
  rw [eA 1 0 (by decide) (by decide), eA 2 0 (by decide) (by decide)]
  refine ⟨h1, h2, fun c hc => ?_⟩
  rw [eA 8 c (by decide) (by decide)]
  have b := h3 c hc
  have b' := h3 w hw
  refine ⟨?_, b.2⟩
  unfold v_vis
  rw [a_u_at, Int.toNat_natCast]
  split
  · split <;> omega
  · rw [a_u_o (by decide)]; exact b.1
theorem k_nextClass_step {M : z_M} {nd gb : Nat → Int} {A : Nat → Nat → Int} {ρ : Nat → Int} {g w : Nat} {p : Int} (hg : g < 3) (hG : (g : Int) < A 1 0) (hR : w_rel nd gb A ρ) (hb : w_b nd A) (hw : (w : Int) < A 2 0)
    (hc : z_ev 94 [.inr (some (0, 30)), .inl p] (z_mr M ρ) = some (some (.inl 0), z_mr M ρ))
    (hk : z_ev 97 [.inr (some (0, 30)), .inl (g : Int), .inl p] (z_mr M ρ) = some (some (.inl (w : Int)), z_mr M ρ)) :
    z_ex 117 12 [some (.inr (some (0, 30))), some (.inl (g : Int)), some (.inl p)] [] (z_mr M ρ) = z_ex 117 12 [some (.inr (some (0, 30))), some (.inl (g : Int)), some (.inl (w : Int))] [] (z_mr M (r_u (r_u ρ (8 + 4 * g + 2) (w : Int)) (20 + 10 * w + 2) (if nd w = 0 then 0 else A 9 w + A 8 w))) := by
  have hw8 : w < 8 := by have := hb.1; omega
  have b := hR.2.2.1 w hw
  have bw := hb.2.2 w hw
  have b3 := hR.1.2.2.2
  have n3 : r_u ρ (8 + 4 * g + 2) (w : Int) 3 = ρ 3 := r_u_ne (by omega)
  have em : m_fo (r_u ρ (8 + 4 * g + 2) (w : Int)) w = m_fo ρ w := m_fo_congr n3 (fun i hi => r_u_ne (by omega)) _
  have k1 := fun M => k_party (j := g) (by omega) M
  have k2 := fun M => k_kind (j := w) (by omega) M
  have k3 := k_isBusy (M := z_mr M (r_u ρ (8 + 4 * g + 2) (w : Int))) (by rw [z_mr_row, n3]; exact b3) (w : Int)
  rw [z_mr_row, em] at k3
  have r4 := (hR.2.2.2.1 w hw).1
  have n1 : r_u ρ (8 + 4 * g + 2) (w : Int) (20 + 10 * w + 1) = A 8 w := by rw [r_u_ne (by omega)]; exact b.2.1
  have n2 : r_u ρ (8 + 4 * g + 2) (w : Int) (20 + 10 * w + 2) = A 9 w := by rw [r_u_ne (by omega)]; exact b.2.2
  rw [x117_12]
  by_cases hz : nd w = 0
  · rw [if_pos hz]
    rw [z_b_f (fun q => r4.mpr q hz)] at k3
    repeat' (first | (exfalso; omega) | (simp (disch := first | omega | assumption | exact z_b_01) only [x117_0, x117_1, x117_4, x117_5, x117_8, x117_9, x117_10, x117_11, x117_13, x117_14, x117_17, x117_20, x117_21, x117_22, x117_23, x117_26, x117_27, x117_28, x117_31, x117_32, x117_35, x117_36, x117_37, x117_38, x117_39, x117_40, x117_43, x117_44, x117_47, x117_48, x117_49, x117_50, x117_51, x117_54, x117_57, x117_58, x117_61, x117_62, x117_65, x117_66, x117_67, x117_68, x117_69, x117_72, x117_73, x117_76, x117_77, x117_78, x117_79, x117_80, x117_83, x117_84, x117_85, x117_88, x117_89, Option.bind_some, Option.toList_some, Option.toList_none, List.cons_append, List.nil_append, Int.toNat_natCast, Int.toNat_zero, z_w_id, z_b_0, z_b_1, z_b_n0, z_b_t, z_b_f, ↓reduceIte, Int.reduceEq, Int.reduceLT, Int.reduceLE, Int.reduceToNat, not_true_eq_false, not_false_eq_true, false_and, and_false, true_and, and_true, false_or, or_false, true_or, or_true, hc, hk, k1, k2, k3, z_mr_row, z_up_mr, ix_2, ix_1, n1, n2]) | split)
    all_goals rfl
  · rw [if_neg hz]
    rw [z_b_t (r4.mp hz)] at k3
    repeat' (first | (exfalso; omega) | (simp (disch := first | omega | assumption | exact z_b_01) only [x117_0, x117_1, x117_4, x117_5, x117_8, x117_9, x117_10, x117_11, x117_13, x117_14, x117_17, x117_20, x117_21, x117_22, x117_23, x117_26, x117_27, x117_28, x117_31, x117_32, x117_35, x117_36, x117_37, x117_38, x117_39, x117_40, x117_43, x117_44, x117_47, x117_48, x117_49, x117_50, x117_51, x117_54, x117_57, x117_58, x117_61, x117_62, x117_65, x117_66, x117_67, x117_68, x117_69, x117_72, x117_73, x117_76, x117_77, x117_78, x117_79, x117_80, x117_83, x117_84, x117_85, x117_88, x117_89, Option.bind_some, Option.toList_some, Option.toList_none, List.cons_append, List.nil_append, Int.toNat_natCast, Int.toNat_zero, z_w_id, z_b_0, z_b_1, z_b_n0, z_b_t, z_b_f, ↓reduceIte, Int.reduceEq, Int.reduceLT, Int.reduceLE, Int.reduceToNat, not_true_eq_false, not_false_eq_true, false_and, and_false, true_and, and_true, false_or, or_false, true_or, or_true, hc, hk, k1, k2, k3, z_mr_row, z_up_mr, ix_2, ix_1, n1, n2]) | split)
    all_goals rfl
theorem k_nextClass_loop {M : z_M} {nd gb : Nat → Int} {B : Nat → Nat → Int} {ρ0 : Nat → Int} {g : Nat} (hg : g < 3) : ∀ (n : Nat) (p : Int) (A : Nat → Nat → Int) (ρ : Nat → Int), (g : Int) < A 1 0 → w_rel nd gb A ρ → w_fr ρ0 ρ → w_b nd A → r_mc (A 2 0) nd g n p A B → (p = -5 ∨ (0 ≤ p ∧ p < A 2 0)) → ¬ (0 ≤ p ∧ nd p.toNat ≠ 0 ∧ nd p.toNat ≤ A 9 p.toNat) →
    ∃ ρ', z_ex 117 12 [some (.inr (some (0, 30))), some (.inl (g : Int)), some (.inl p)] [] (z_mr M ρ) = some (some (.inl (B 6 g)), z_mr M ρ') ∧ w_rel nd gb B ρ' ∧ w_fr ρ0 ρ' := by
  intro n
  induction n using Nat.strongRecOn with
  | _ n ih =>
  intro p A ρ hG hR hf hb hm hp hno
  obtain ⟨w, n', w1, w2, w3, w4, w5, w6⟩ := k_classBehind (M := M) hb.1 hR (g := g) p n p hm hp
  have hk : z_ev 97 [.inr (some (0, 30)), .inl (g : Int), .inl p] (z_mr M ρ) = some (some (.inl (w : Int)), z_mr M ρ) := by
    rw [x97]
    simp (disch := first | omega | assumption) only [x97_0, x97_1, x97_3, x97_6, x97_7, x97_10, x97_11, x97_12, x97_13, x97_14, x97_17, x97_18, x97_19, x97_20, x97_21, x97_22, x97_25, x97_26, x97_29, x97_30, x97_31, x97_32, x97_33, x97_36, x97_37, Option.bind_some, Option.toList_some, Option.toList_none, List.cons_append, List.nil_append, Int.toNat_natCast, Int.toNat_zero, z_w_id, z_b_0, z_b_1, z_b_n0, z_b_t, z_b_f, ↓reduceIte, Int.reduceEq, Int.reduceLT, Int.reduceLE, Int.reduceToNat, not_true_eq_false, not_false_eq_true, false_and, and_false, true_and, and_true, false_or, or_false, true_or, or_true]
    exact w4
  have hc : z_ev 94 [.inr (some (0, 30)), .inl p] (z_mr M ρ) = some (some (.inl 0), z_mr M ρ) := by
    rcases hp with rfl | ⟨p0, p1⟩
    · exact k_canServeN _
    · obtain ⟨c, rfl⟩ : ∃ c : Nat, p = (c : Int) := ⟨p.toNat, by omega⟩
      rw [Int.toNat_natCast] at hno
      rw [k_canServe hb.1.2 hR p1, z_b_f (fun q => hno ⟨p0, q⟩)]
  have st := k_nextClass_step hg hG hR hb w1 hc hk
  have hw8 : w < 8 := by have := hb.1; omega
  have hR' := w_rel_vis hb.2.1 hR hg hw8
  have hf' : w_fr ρ0 (r_u (r_u ρ (8 + 4 * g + 2) (w : Int)) (20 + 10 * w + 2) (if nd w = 0 then 0 else A 9 w + A 8 w)) := w_fr_u (w_fr_u hf (Or.inr (Or.inl ⟨g, hg, Or.inr rfl⟩))) (Or.inr (Or.inr ⟨w, hw8, rfl⟩))
  have e1 : v_vis nd g (w : Int) A 1 0 = A 1 0 := by unfold v_vis; rw [a_u_o (by decide), a_u_o (by decide)]
  have e2 : v_vis nd g (w : Int) A 2 0 = A 2 0 := by unfold v_vis; rw [a_u_o (by decide), a_u_o (by decide)]
  have e9 : v_vis nd g (w : Int) A 9 w = if nd w = 0 then 0 else A 9 w + A 8 w := by unfold v_vis; rw [Int.toNat_natCast, a_u_same]
  have e6 : v_vis nd g (w : Int) A 6 g = (w : Int) := by unfold v_vis; rw [a_u_o (by decide), a_u_same]
  generalize r_u (r_u ρ (8 + 4 * g + 2) (w : Int)) (20 + 10 * w + 2) (if nd w = 0 then 0 else A 9 w + A 8 w) = ρ2 at st hR' hf'
  rw [st]
  by_cases hq : nd w ≠ 0 ∧ nd w ≤ A 9 w + A 8 w
  · have hB := w5 hq
    have kc := k_canServe (M := M) (by rw [e2]; exact hb.1.2) hR' (c := w) (by rw [e2]; exact w1)
    rw [e9, if_neg hq.1, z_b_t hq] at kc
    refine ⟨ρ2, ?_, by rw [hB]; exact hR', hf'⟩
    rw [x117_12, hB, e6]
    repeat' (first | (exfalso; omega) | (simp (disch := first | omega | assumption | exact z_b_01) only [x117_0, x117_1, x117_4, x117_5, x117_8, x117_9, x117_10, x117_11, x117_13, x117_14, x117_17, x117_20, x117_21, x117_22, x117_23, x117_26, x117_27, x117_28, x117_31, x117_32, x117_35, x117_36, x117_37, x117_38, x117_39, x117_40, x117_43, x117_44, x117_47, x117_48, x117_49, x117_50, x117_51, x117_54, x117_57, x117_58, x117_61, x117_62, x117_65, x117_66, x117_67, x117_68, x117_69, x117_72, x117_73, x117_76, x117_77, x117_78, x117_79, x117_80, x117_83, x117_84, x117_85, x117_88, x117_89, Option.bind_some, Option.toList_some, Option.toList_none, List.cons_append, List.nil_append, Int.toNat_natCast, Int.toNat_zero, z_w_id, z_b_0, z_b_1, z_b_n0, z_b_t, z_b_f, ↓reduceIte, Int.reduceEq, Int.reduceLT, Int.reduceLE, Int.reduceToNat, not_true_eq_false, not_false_eq_true, false_and, and_false, true_and, and_true, false_or, or_false, true_or, or_true, kc]) | split)
    all_goals rfl
  · refine ih n' w3 (w : Int) _ ρ2 (by rw [e1]; exact hG) hR' hf' (w_b_vis hb w1 hq) (by rw [e2]; exact w6 hq) (Or.inr ⟨by omega, by rw [e2]; exact w1⟩) ?_
    rw [Int.toNat_natCast, e9]
    rintro ⟨-, q1, q2⟩
    rw [if_neg q1] at q2
    exact hq ⟨q1, q2⟩
/-- the next class of a busy group, on the model's side -/
theorem k_nextClass {M : z_M} {nd gb : Nat → Int} {A : Nat → Nat → Int} {ρ : Nat → Int} (hJ : g_J nd gb A) (hR : w_rel nd gb A ρ) {g : Nat} (hG : (g : Int) < A 1 0) (hz : gb g ≠ 0) (hb : w_b nd A) :
    ∃ ρ', z_ev 117 [.inr (some (0, 30)), .inl (g : Int)] (z_mr M ρ) = some (some (.inl (v_la (A 2 0) nd (gb g) g A 6 g)), z_mr M ρ') ∧ w_rel nd gb (v_la (A 2 0) nd (gb g) g A) ρ' ∧ w_fr ρ ρ' := by
  have hg : g < 3 := by have := hb.2.1; omega
  obtain ⟨hH, hbu⟩ := hJ.2.2.2.1 g hG hz
  have k1 := k_party (j := g) (by omega) (z_mr M ρ)
  have b := (hR.2.1 g hG).2.2
  have en : z_ev 117 [.inr (some (0, 30)), .inl (g : Int)] (z_mr M ρ) = z_ex 117 12 [some (.inr (some (0, 30))), some (.inl (g : Int)), some (.inl (A 6 g))] [] (z_mr M ρ) := by
    rw [x117]
    repeat' (first | (exfalso; omega) | (simp (disch := first | omega | assumption | exact z_b_01) only [x117_0, x117_1, x117_4, x117_5, x117_8, x117_9, x117_10, x117_11, x117_13, x117_14, x117_17, x117_20, x117_21, x117_22, x117_23, x117_26, x117_27, x117_28, x117_31, x117_32, x117_35, x117_36, x117_37, x117_38, x117_39, x117_40, x117_43, x117_44, x117_47, x117_48, x117_49, x117_50, x117_51, x117_54, x117_57, x117_58, x117_61, x117_62, x117_65, x117_66, x117_67, x117_68, x117_69, x117_72, x117_73, x117_76, x117_77, x117_78, x117_79, x117_80, x117_83, x117_84, x117_85, x117_88, x117_89, Option.bind_some, Option.toList_some, Option.toList_none, List.cons_append, List.nil_append, Int.toNat_natCast, Int.toNat_zero, z_w_id, z_b_0, z_b_1, z_b_n0, z_b_t, z_b_f, ↓reduceIte, Int.reduceEq, Int.reduceLT, Int.reduceLE, Int.reduceToNat, not_true_eq_false, not_false_eq_true, false_and, and_false, true_and, and_true, false_or, or_false, true_or, or_true, k1, ix_2, z_mr_row, b]) | split)
    all_goals rfl
  rw [en]
  by_cases hok : v_ok (A 2 0) nd g A
  · have e : v_la (A 2 0) nd (gb g) g A = A := by unfold v_la; rw [if_neg hz, if_pos hok]
    rw [e]
    obtain ⟨c, hc⟩ : ∃ c : Nat, A 6 g = (c : Int) := ⟨(A 6 g).toNat, by have := hok.1; omega⟩
    have hok' := hok
    unfold v_ok at hok'
    rw [hc, Int.toNat_natCast] at hok'
    have kc := k_canServe (M := M) hb.1.2 hR (c := c) hok'.1.2
    rw [z_b_t ⟨by omega, hok'.2.2⟩] at kc
    refine ⟨ρ, ?_, hR, fun _ _ => rfl⟩
    rw [x117_12, hc]
    repeat' (first | (exfalso; omega) | (simp (disch := first | omega | assumption | exact z_b_01) only [x117_0, x117_1, x117_4, x117_5, x117_8, x117_9, x117_10, x117_11, x117_13, x117_14, x117_17, x117_20, x117_21, x117_22, x117_23, x117_26, x117_27, x117_28, x117_31, x117_32, x117_35, x117_36, x117_37, x117_38, x117_39, x117_40, x117_43, x117_44, x117_47, x117_48, x117_49, x117_50, x117_51, x117_54, x117_57, x117_58, x117_61, x117_62, x117_65, x117_66, x117_67, x117_68, x117_69, x117_72, x117_73, x117_76, x117_77, x117_78, x117_79, x117_80, x117_83, x117_84, x117_85, x117_88, x117_89, Option.bind_some, Option.toList_some, Option.toList_none, List.cons_append, List.nil_append, Int.toNat_natCast, Int.toNat_zero, z_w_id, z_b_0, z_b_1, z_b_n0, z_b_t, z_b_f, ↓reduceIte, Int.reduceEq, Int.reduceLT, Int.reduceLE, Int.reduceToNat, not_true_eq_false, not_false_eq_true, false_and, and_false, true_and, and_true, false_or, or_false, true_or, or_true, kc]) | split)
    all_goals rfl
  · have e : v_la (A 2 0) nd (gb g) g A = v_la1 (A 2 0) nd g A := by unfold v_la; rw [if_neg hz, if_neg hok]
    rw [e]
    obtain ⟨⟨n, hn⟩, -⟩ := v_look hb.1.1 hH hok hbu
    have hp : A 6 g = -5 ∨ (0 ≤ A 6 g ∧ A 6 g < A 2 0) := by rcases hH.2.1 with h | h; exact Or.inl h; exact Or.inr ⟨h.1, h.2.1⟩
    refine k_nextClass_loop hg n (A 6 g) A ρ hG hR (fun _ _ => rfl) hb hn hp ?_
    rintro ⟨q0, q1, q2⟩
    have := (hb.2.2 (A 6 g).toNat (by omega)).2.2
    exact hok ⟨⟨q0, by omega⟩, by omega, q2⟩
