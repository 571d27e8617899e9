/-! the model's walk over the groups -/
theorem a_u_comm {A : Nat → Nat → Int} {o j o' j' : Nat} {v v' : Int} (h : o ≠ o') : a_u (a_u A o j v) o' j' v' = a_u (a_u A o' j' v') o j v := by
  funext p i
  unfold a_u
  by_cases h1 : p = o' ∧ i = j'
  · rw [if_pos h1, if_neg (fun q => h (by rw [← q.1]; exact h1.1)), if_pos h1]
  · rw [if_neg h1, if_neg h1]
theorem v_vis_5 (nd : Nat → Int) (g : Nat) (w : Int) (A : Nat → Nat → Int) (j : Nat) (v : Int) : v_vis nd g w (a_u A 5 j v) = a_u (v_vis nd g w A) 5 j v := by
  unfold v_vis
  rw [a_u_o (show 9 ≠ 5 by decide), a_u_o (show 8 ≠ 5 by decide), a_u_comm (show 5 ≠ 6 by decide), a_u_comm (show 5 ≠ 9 by decide)]
theorem v_wc_5 (C : Int) (nd : Nat → Int) (g j : Nat) (v : Int) : ∀ (n : Nat) (which : Int) (A : Nat → Nat → Int), v_wc C nd g n which (a_u A 5 j v) = ((v_wc C nd g n which A).1, a_u (v_wc C nd g n which A).2 5 j v) := by
  intro n
  induction n with
  | zero => intro which A; rfl
  | succ n ih =>
    intro which A
    rw [v_wc_succ, v_wc_succ, a_u_o (show 7 ≠ 5 by decide), a_u_o (show 9 ≠ 5 by decide), a_u_o (show 8 ≠ 5 by decide), v_vis_5, ih, ih]
    (repeat' split) <;> rfl
theorem v_sr_5 (nd : Nat → Int) (g : Nat) (A : Nat → Nat → Int) (j : Nat) (v : Int) : ∀ (L : List Nat) (r : Int), v_sr nd g (a_u A 5 j v) L r = v_sr nd g A L r := by
  intro L
  induction L with
  | nil => intro r; rfl
  | cons c L ih => intro r; rw [v_sr_cons, v_sr_cons, ih, a_u_o (show 7 ≠ 5 by decide), a_u_o (show 9 ≠ 5 by decide), a_u_o (show 8 ≠ 5 by decide)]
theorem v_sk_5 (A : Nat → Nat → Int) (nd : Nat → Int) (g : Nat) (r : Int) (k j : Nat) (v : Int) : v_sk (a_u A 5 j v) nd g r k = a_u (v_sk A nd g r k) 5 j v := by
  funext o i
  by_cases h : o = 9
  · subst h
    unfold v_sk
    rw [a_u_o (show 9 ≠ 5 by decide), a_u_o (show 7 ≠ 5 by decide), a_u_o (show 8 ≠ 5 by decide), a_u_o (show 9 ≠ 5 by decide)]
  · rw [v_sk_o h]
    unfold a_u
    rw [v_sk_o h]
theorem v_la_5 (C : Int) (nd : Nat → Int) (gb : Int) (g : Nat) (A : Nat → Nat → Int) (j : Nat) (v : Int) : v_la C nd gb g (a_u A 5 j v) = a_u (v_la C nd gb g A) 5 j v := by
  unfold v_la v_ok v_la1
  rw [a_u_o (show 6 ≠ 5 by decide), a_u_o (show 9 ≠ 5 by decide), v_wc_5]
  dsimp only
  rw [v_sr_5, v_sk_5, a_u_o (show 6 ≠ 5 by decide), v_wc_5]
  (repeat' split) <;> rfl
theorem w_b_of {nd gb : Nat → Int} {A : Nat → Nat → Int} (hJ : g_J nd gb A) {g : Nat} (hG : (g : Int) < A 1 0) (hz : gb g ≠ 0) : w_b nd A := by
  obtain ⟨h1, h2, h3, h4, h5⟩ := hJ
  obtain ⟨hH, -⟩ := h4 g hG hz
  refine ⟨⟨h1.1, h1.2.1⟩, h2.2, fun c hc => ⟨?_, (hH.1 c hc).1, (hH.1 c hc).2⟩⟩
  have := h3 c hc
  omega
theorem w_m {nd gb : Nat → Int} {A : Nat → Nat → Int} {ρ : Nat → Int} (hR : w_rel nd gb A ρ) {c : Nat} (hc : (c : Int) < A 2 0) (hz : nd c ≠ 0) : ∃ k : Nat, m_fo ρ c = (k : Int) ∧ k < 200 ∧ ρ (100 + 7 * k + 1) = nd c := by
  obtain ⟨a1, a2⟩ := hR.2.2.2.1 c hc
  have h0 := a1.mp hz
  have h1 := a2 h0
  exact ⟨(m_fo ρ c).toNat, by omega, by omega, h1.2⟩
theorem k_canServeGroup {M : z_M} {nd gb : Nat → Int} {A : Nat → Nat → Int} {ρ : Nat → Int} (hJ : g_J nd gb A) (hR : w_rel nd gb A ρ) {g : Nat} (hG : (g : Int) < A 1 0) :
    ∃ ρ', z_ev 95 [.inr (some (0, 30)), .inl (g : Int)] (z_mr M ρ) = some (some (.inl (z_b (0 < v_ln (A 2 0) nd (gb g) g A ∧ v_ln (A 2 0) nd (gb g) g A ≤ A 5 g))), z_mr M ρ') ∧ w_rel nd gb (v_la (A 2 0) nd (gb g) g A) ρ' ∧ w_fr ρ ρ' := by
  have hg : g < 3 := by have := hJ.2.1; omega
  have h2 := hR.1.2.1
  have h8 := hJ.1
  have kb := k_isGroupBusy (M := z_mr M ρ) (by rw [z_mr_row]; exact hR.1.2.2.2) (by rw [z_mr_row, h2]; omega) (g : Int)
  rw [z_mr_row] at kb
  by_cases hz : gb g = 0
  · have e : v_la (A 2 0) nd (gb g) g A = A := by unfold v_la; rw [if_pos hz]
    have e2 : v_ln (A 2 0) nd (gb g) g A = 0 := by unfold v_ln; rw [if_pos hz]
    rw [e, e2, z_b_f (by omega)]
    refine ⟨ρ, ?_, hR, fun _ _ => rfl⟩
    have e0 : m_gb ρ g = 0 := Classical.byContradiction fun q => (hR.2.2.2.2 g hG).mpr q hz
    rw [e0] at kb
    rw [x95]
    repeat' (first | (exfalso; omega) | (simp (disch := first | omega | assumption | exact z_b_01) only [x95_0, x95_1, x95_4, x95_5, x95_6, x95_9, x95_12, x95_13, x95_14, x95_15, x95_16, x95_17, x95_20, x95_23, x95_24, x95_25, x95_28, x95_29, x95_32, x95_33, x95_34, x95_35, x95_36, x95_39, x95_40, x95_43, x95_44, x95_45, x95_46, x95_49, x95_50, x95_53, x95_54, Option.bind_some, Option.toList_some, Option.toList_none, List.cons_append, List.nil_append, Int.toNat_natCast, Int.toNat_zero, z_w_id, z_b_0, z_b_1, z_b_n0, z_b_t, z_b_f, ↓reduceIte, Int.reduceEq, Int.reduceLT, Int.reduceLE, Int.reduceToNat, not_true_eq_false, not_false_eq_true, false_and, and_false, true_and, and_true, false_or, or_false, true_or, or_true, kb]) | split)
    all_goals rfl
  · have e1 : m_gb ρ g = 1 := by
      rcases m_gb_01 ρ g with q | q
      · exact absurd q ((hR.2.2.2.2 g hG).mp hz)
      · exact q
    rw [e1] at kb
    obtain ⟨ρ', k1, k2, k3⟩ := k_nextClass (M := M) hJ hR hG hz (w_b_of hJ hG hz)
    refine ⟨ρ', ?_, k2, k3⟩
    obtain ⟨p1, p2, p3⟩ := v_la_props hJ hG
    have hok := p3 hz
    have eln : v_ln (A 2 0) nd (gb g) g A = nd (v_la (A 2 0) nd (gb g) g A 6 g).toNat := by unfold v_ln; rw [if_neg hz]
    rw [eln]
    have r5 : v_la (A 2 0) nd (gb g) g A 5 g = A 5 g := p1.1 5 g (by decide) (by omega)
    have r2 : v_la (A 2 0) nd (gb g) g A 2 0 = A 2 0 := p1.1 2 0 (by decide) (by omega)
    have r1 : v_la (A 2 0) nd (gb g) g A 1 0 = A 1 0 := p1.1 1 0 (by decide) (by omega)
    generalize v_la (A 2 0) nd (gb g) g A = B at *
    obtain ⟨c, hc⟩ : ∃ c : Nat, B 6 g = (c : Int) := ⟨(B 6 g).toNat, by have := hok.1; omega⟩
    unfold v_ok at hok
    rw [hc, Int.toNat_natCast] at hok
    rw [hc] at k1
    rw [hc, Int.toNat_natCast]
    have kf := k_mfirstOf (M := z_mr M ρ') (by rw [z_mr_row]; exact k2.1.2.2.2) (c : Int)
    rw [z_mr_row] at kf
    obtain ⟨k, q1, q2, q3⟩ := w_m k2 (c := c) (by rw [r2]; exact hok.1.2) (by have := hok.2.1; omega)
    rw [q1] at kf
    have b5 := (k2.2.1 g (by rw [r1]; exact hG)).2.1
    have ki := k_its (j := k) (by omega) (z_mr M ρ')
    have kp := k_party (j := g) (by omega) (z_mr M ρ')
    rw [x95]
    repeat' (first | (exfalso; omega) | (simp (disch := first | omega | assumption | exact z_b_01) only [x95_0, x95_1, x95_4, x95_5, x95_6, x95_9, x95_12, x95_13, x95_14, x95_15, x95_16, x95_17, x95_20, x95_23, x95_24, x95_25, x95_28, x95_29, x95_32, x95_33, x95_34, x95_35, x95_36, x95_39, x95_40, x95_43, x95_44, x95_45, x95_46, x95_49, x95_50, x95_53, x95_54, Option.bind_some, Option.toList_some, Option.toList_none, List.cons_append, List.nil_append, Int.toNat_natCast, Int.toNat_zero, z_w_id, z_b_0, z_b_1, z_b_n0, z_b_t, z_b_f, ↓reduceIte, Int.reduceEq, Int.reduceLT, Int.reduceLE, Int.reduceToNat, not_true_eq_false, not_false_eq_true, false_and, and_false, true_and, and_true, false_or, or_false, true_or, or_true, kb, k1, kf, ki, kp, z_mr_row, ix_1, q3, b5, r5]) | split)
    all_goals (refine z_ri ?_ rfl; unfold z_b; split <;> omega)
theorem k_canServeGroupN (M : z_M) : z_ev 95 [.inr (some (0, 30)), .inl (-5)] M = some (some (.inl 0), M) := by
  rw [x95]
  repeat' (first | (exfalso; omega) | (simp (disch := first | omega | assumption | exact z_b_01) only [x95_0, x95_1, x95_4, x95_5, x95_6, x95_9, x95_12, x95_13, x95_14, x95_15, x95_16, x95_17, x95_20, x95_23, x95_24, x95_25, x95_28, x95_29, x95_32, x95_33, x95_34, x95_35, x95_36, x95_39, x95_40, x95_43, x95_44, x95_45, x95_46, x95_49, x95_50, x95_53, x95_54, Option.bind_some, Option.toList_some, Option.toList_none, List.cons_append, List.nil_append, Int.toNat_natCast, Int.toNat_zero, z_w_id, z_b_0, z_b_1, z_b_n0, z_b_t, z_b_f, ↓reduceIte, Int.reduceEq, Int.reduceLT, Int.reduceLE, Int.reduceToNat, not_true_eq_false, not_false_eq_true, false_and, and_false, true_and, and_true, false_or, or_false, true_or, or_true]) | split)
/-- whether the present group is the next one, on the model's side -/
theorem k_mpg {M : z_M} {nd gb : Nat → Int} {A : Nat → Nat → Int} {ρ : Nat → Int} (hJ : g_J nd gb A) (hR : w_rel nd gb A ρ) (hp : A 0 4 = -5 ∨ (0 ≤ A 0 4 ∧ A 0 4 < A 1 0)) :
    ∃ ρ', z_ev 95 [.inr (some (0, 30)), .inl (A 0 4)] (z_mr M ρ) = some (some (.inl (v_pg nd gb A).1), z_mr M ρ') ∧ w_rel nd gb (v_pg nd gb A).2 ρ' ∧ w_fr ρ ρ' := by
  rcases hp with h | ⟨h0, h1⟩
  · have e : v_pg nd gb A = (0, A) := by unfold v_pg; rw [if_neg (by omega)]
    rw [e, h]
    exact ⟨ρ, k_canServeGroupN _, hR, fun _ _ => rfl⟩
  · unfold v_pg
    rw [if_pos ⟨h0, h1⟩]
    obtain ⟨g, hg⟩ : ∃ g : Nat, A 0 4 = (g : Int) := ⟨(A 0 4).toNat, by omega⟩
    rw [hg] at h1
    rw [hg, Int.toNat_natCast]
    exact k_canServeGroup hJ hR h1
/-- the state that the model stands at after it went on to the next group -/
def w_hop (gb : Nat → Int) (w : Nat) (A : Nat → Nat → Int) : Nat → Nat → Int := a_u (a_u A 0 4 (w : Int)) 5 w (if gb w = 0 then 0 else A 5 w + A 4 w)
theorem w_hop_gv {nd gb : Nat → Int} {A : Nat → Nat → Int} (hJ : g_J nd gb A) {w : Nat} (hw : (w : Int) < A 1 0) :
    v_la (A 2 0) nd (gb w) w (w_hop gb w A) = v_gv nd gb (w : Int) A ∧ v_ln (A 2 0) nd (gb w) w (w_hop gb w A) = v_gn nd gb (w : Int) A ∧ (gb w ≠ 0 → v_gn nd gb (w : Int) A ≠ 0) ∧ (gb w = 0 → v_gn nd gb (w : Int) A = 0) := by
  obtain ⟨a1, a2, -⟩ := v_gv_now hJ hw
  have hgz : (if v_gn nd gb (w : Int) A = 0 then 0 else A 5 w + A 4 w) = if gb w = 0 then 0 else A 5 w + A 4 w := by
    by_cases q : gb w = 0
    · rw [if_pos (a1 q).1, if_pos q]
    · rw [if_neg (a2 q).2.2.1, if_neg q]
  refine ⟨?_, ?_, fun q => (a2 q).2.2.1, fun q => (a1 q).1⟩
  · unfold w_hop v_gv
    rw [Int.toNat_natCast, v_la_5, hgz]
  · unfold v_gn v_ln w_hop
    rw [v_la_5, Int.toNat_natCast, a_u_o (show 6 ≠ 5 by decide)]
theorem w_rel_hop {nd gb : Nat → Int} {A : Nat → Nat → Int} {ρ : Nat → Int} (h3 : A 1 0 ≤ 3) (h : w_rel nd gb A ρ) {w : Nat} (hw : w < 3) (v : Int) :
    w_rel nd gb (a_u (a_u A 0 4 (w : Int)) 5 w v) (r_u (r_u ρ 4 (w : Int)) (8 + 4 * w + 1) v) := by
  obtain ⟨r1, r2, r3, r4, r5⟩ := h
  have f : w_fr ρ (r_u (r_u ρ 4 (w : Int)) (8 + 4 * w + 1) v) := w_fr_u (w_fr_u (fun _ _ => rfl) (Or.inl rfl)) (Or.inr (Or.inl ⟨w, hw, Or.inl rfl⟩))
  obtain ⟨f1, f2, f3, f4⟩ := w_fr_facts f
  have e : ∀ i, i ≠ 4 → i ≠ 8 + 4 * w + 1 → r_u (r_u ρ 4 (w : Int)) (8 + 4 * w + 1) v i = ρ i := fun i a b => by rw [r_u_ne b, r_u_ne a]
  have em := fun c => m_fo_congr f1 f2 c
  have eb := fun c => m_gb_congr f1 f2 f3 f4 c
  have eA : ∀ o j, o ≠ 0 → o ≠ 5 → a_u (a_u A 0 4 (w : Int)) 5 w v o j = A o j := fun o j a b => by rw [a_u_o b, a_u_o a]
  refine ⟨?_, fun g' hg' => ?_, fun c hc => ?_, fun c hc => ?_, fun g' hg' => ?_⟩
  · rw [e 1 (by omega) (by omega), e 2 (by omega) (by omega), e 3 (by omega) (by omega), r_u_ne (by omega), r_u_same, eA 1 0 (by decide) (by decide), eA 2 0 (by decide) (by decide), a_u_o (by decide), a_u_same]
    exact ⟨r1.1, r1.2.1, rfl, r1.2.2.2⟩
  · rw [eA 1 0 (by decide) (by decide)] at hg'
    have b := r2 g' hg'
    rw [e (8 + 4 * g') (by omega) (by omega), e (8 + 4 * g' + 2) (by omega) (by omega), eA 4 _ (by decide) (by decide), eA 6 _ (by decide) (by decide)]
    refine ⟨b.1, ?_, b.2.2⟩
    rw [a_u_at]
    by_cases q : g' = w
    · rw [q, r_u_same, if_pos rfl]
    · rw [r_u_ne (by omega), r_u_ne (by omega), if_neg q, a_u_o (by decide)]; exact b.2.1
  · rw [eA 2 0 (by decide) (by decide)] at hc
    have b := r3 c hc
    rw [e (20 + 10 * c) (by omega) (by omega), e (20 + 10 * c + 1) (by omega) (by omega), e (20 + 10 * c + 2) (by omega) (by omega), eA 7 _ (by decide) (by decide), eA 8 _ (by decide) (by decide), eA 9 _ (by decide) (by decide)]
    exact b
  · rw [eA 2 0 (by decide) (by decide)] at hc
    rw [em]
    have b := r4 c hc
    refine ⟨b.1, fun hz => ⟨(b.2 hz).1, ?_⟩⟩
    rw [e _ (by omega) (by omega)]
    exact (b.2 hz).2
  · rw [eA 1 0 (by decide) (by decide)] at hg'
    rw [eb]
    exact r5 g' hg'
theorem k_nextGroup_step {M : z_M} {nd gb : Nat → Int} {A : Nat → Nat → Int} {ρ : Nat → Int} {w : Nat} {p : Int} {M' : z_M} (hJ : g_J nd gb A) (hR : w_rel nd gb A ρ) (hp : p = -5 ∨ (0 ≤ p ∧ p < A 1 0)) (hw : v_nx (A 1 0) p = (w : Int)) (hb : -20000 ≤ A 5 w ∧ A 5 w ≤ 500)
    (hc : z_ev 95 [.inr (some (0, 30)), .inl p] M' = some (some (.inl 0), z_mr M ρ)) :
    z_ex 118 7 [some (.inr (some (0, 30))), some (.inl p)] [] M' = z_ex 118 7 [some (.inr (some (0, 30))), some (.inl (w : Int))] [] (z_mr M (r_u (r_u ρ 4 (w : Int)) (8 + 4 * w + 1) (if gb w = 0 then 0 else A 5 w + A 4 w))) := by
  have h3 := hJ.2.1
  have hin := v_nx_in (C := A 1 0) (which := p) h3.1
  have hw3 : w < 3 := by omega
  have b := hR.2.1 w (by omega)
  have b4 := hJ.2.2.2.2 w (by omega)
  have f : w_fr ρ (r_u ρ 4 (w : Int)) := w_fr_u (fun _ _ => rfl) (Or.inl rfl)
  obtain ⟨f1, f2, f3, f4⟩ := w_fr_facts f
  have k1 := fun M => k_party (j := w) (by omega) M
  have k3 := k_isGroupBusy (M := z_mr M (r_u ρ 4 (w : Int))) (by rw [z_mr_row, f1]; exact hR.1.2.2.2) (by rw [z_mr_row, f3, hR.1.2.1]; have := hJ.1; omega) (w : Int)
  rw [z_mr_row, m_gb_congr f1 f2 f3 f4] at k3
  have r5 := hR.2.2.2.2 w (by omega)
  have n0 : r_u ρ 4 (w : Int) (8 + 4 * w) = A 4 w := by rw [r_u_ne (by omega)]; exact b.1
  have n1 : r_u ρ 4 (w : Int) (8 + 4 * w + 1) = A 5 w := by rw [r_u_ne (by omega)]; exact b.2.1
  have hr1 := hR.1.1
  have main : ∀ v : Int, gb w = 0 ∧ v = 0 ∨ gb w ≠ 0 ∧ v = A 5 w + A 4 w → z_ex 118 7 [some (.inr (some (0, 30))), some (.inl p)] [] M' = z_ex 118 7 [some (.inr (some (0, 30))), some (.inl (w : Int))] [] (z_mr M (r_u (r_u ρ 4 (w : Int)) (8 + 4 * w + 1) v)) := by
    intro v hv
    have k4 : z_ev 108 [.inr (some (0, 30)), .inl (w : Int)] (z_mr M (r_u ρ 4 (w : Int))) = some (some (.inl (if v = 0 ∧ gb w = 0 then 0 else 1)), z_mr M (r_u ρ 4 (w : Int))) := by
      rw [k3]
      refine z_ri ?_ rfl
      rcases m_gb_01 ρ w with q | q <;> rw [q]
      · rw [if_pos]
        have : gb w = 0 := Classical.byContradiction fun q2 => r5.mp q2 q
        omega
      · rw [if_neg]
        have := r5.mpr (by rw [q]; decide)
        omega
    rw [x118_7]
    rcases hp with rfl | ⟨h0, h1⟩
    · have : (w : Int) = 0 := by rw [← hw]; unfold v_nx; rw [if_neg (by omega)]
      obtain rfl : w = 0 := by omega
      simp only [Int.natCast_zero] at k1 k4 n0 n1 ⊢
      rcases hv with ⟨v1, v2⟩ | ⟨v1, v2⟩
      · rw [if_pos ⟨v2, v1⟩] at k4
        subst v2
        repeat' (first | (exfalso; omega) | (simp (disch := first | omega | assumption | exact z_b_01) only [x118_0, x118_1, x118_4, x118_5, x118_6, x118_8, x118_9, x118_12, x118_15, x118_16, x118_19, x118_20, x118_23, x118_24, x118_25, x118_26, x118_27, x118_30, x118_31, x118_32, x118_33, x118_34, x118_35, x118_38, x118_39, x118_40, x118_41, x118_42, x118_45, x118_46, x118_49, x118_50, x118_51, x118_52, x118_53, x118_56, x118_59, x118_60, x118_63, x118_64, x118_67, x118_68, x118_69, x118_70, x118_71, x118_74, x118_75, x118_78, x118_79, x118_80, x118_81, x118_82, x118_85, x118_86, x118_87, x118_90, x118_91, Option.bind_some, Option.toList_some, Option.toList_none, List.cons_append, List.nil_append, Int.toNat_natCast, Int.toNat_zero, z_w_id, z_b_0, z_b_1, z_b_n0, z_b_t, z_b_f, ↓reduceIte, Int.reduceEq, Int.reduceLT, Int.reduceLE, Int.reduceToNat, not_true_eq_false, not_false_eq_true, false_and, and_false, true_and, and_true, false_or, or_false, true_or, or_true, hc, k1, k4, z_mr_row, z_up_mr, ix_1, n0, n1, Int.add_zero]) | split)
        all_goals rfl
      · rw [if_neg (fun q => v1 q.2)] at k4
        subst v2
        repeat' (first | (exfalso; omega) | (simp (disch := first | omega | assumption | exact z_b_01) only [x118_0, x118_1, x118_4, x118_5, x118_6, x118_8, x118_9, x118_12, x118_15, x118_16, x118_19, x118_20, x118_23, x118_24, x118_25, x118_26, x118_27, x118_30, x118_31, x118_32, x118_33, x118_34, x118_35, x118_38, x118_39, x118_40, x118_41, x118_42, x118_45, x118_46, x118_49, x118_50, x118_51, x118_52, x118_53, x118_56, x118_59, x118_60, x118_63, x118_64, x118_67, x118_68, x118_69, x118_70, x118_71, x118_74, x118_75, x118_78, x118_79, x118_80, x118_81, x118_82, x118_85, x118_86, x118_87, x118_90, x118_91, Option.bind_some, Option.toList_some, Option.toList_none, List.cons_append, List.nil_append, Int.toNat_natCast, Int.toNat_zero, z_w_id, z_b_0, z_b_1, z_b_n0, z_b_t, z_b_f, ↓reduceIte, Int.reduceEq, Int.reduceLT, Int.reduceLE, Int.reduceToNat, not_true_eq_false, not_false_eq_true, false_and, and_false, true_and, and_true, false_or, or_false, true_or, or_true, hc, k1, k4, z_mr_row, z_up_mr, ix_1, n0, n1, Int.add_zero]) | split)
        all_goals rfl
    · have em := v_nx_mod h0 h1
      rw [hw] at em
      rcases hv with ⟨v1, v2⟩ | ⟨v1, v2⟩
      · rw [if_pos ⟨v2, v1⟩] at k4
        subst v2
        repeat' (first | (exfalso; omega) | (simp (disch := first | omega | assumption | exact z_b_01) only [x118_0, x118_1, x118_4, x118_5, x118_6, x118_8, x118_9, x118_12, x118_15, x118_16, x118_19, x118_20, x118_23, x118_24, x118_25, x118_26, x118_27, x118_30, x118_31, x118_32, x118_33, x118_34, x118_35, x118_38, x118_39, x118_40, x118_41, x118_42, x118_45, x118_46, x118_49, x118_50, x118_51, x118_52, x118_53, x118_56, x118_59, x118_60, x118_63, x118_64, x118_67, x118_68, x118_69, x118_70, x118_71, x118_74, x118_75, x118_78, x118_79, x118_80, x118_81, x118_82, x118_85, x118_86, x118_87, x118_90, x118_91, Option.bind_some, Option.toList_some, Option.toList_none, List.cons_append, List.nil_append, Int.toNat_natCast, Int.toNat_zero, z_w_id, z_b_0, z_b_1, z_b_n0, z_b_t, z_b_f, ↓reduceIte, Int.reduceEq, Int.reduceLT, Int.reduceLE, Int.reduceToNat, not_true_eq_false, not_false_eq_true, false_and, and_false, true_and, and_true, false_or, or_false, true_or, or_true, hc, k1, k4, z_mr_row, z_up_mr, ix_1, n0, n1, Int.add_zero, hr1, em]) | split)
        all_goals rfl
      · rw [if_neg (fun q => v1 q.2)] at k4
        subst v2
        repeat' (first | (exfalso; omega) | (simp (disch := first | omega | assumption | exact z_b_01) only [x118_0, x118_1, x118_4, x118_5, x118_6, x118_8, x118_9, x118_12, x118_15, x118_16, x118_19, x118_20, x118_23, x118_24, x118_25, x118_26, x118_27, x118_30, x118_31, x118_32, x118_33, x118_34, x118_35, x118_38, x118_39, x118_40, x118_41, x118_42, x118_45, x118_46, x118_49, x118_50, x118_51, x118_52, x118_53, x118_56, x118_59, x118_60, x118_63, x118_64, x118_67, x118_68, x118_69, x118_70, x118_71, x118_74, x118_75, x118_78, x118_79, x118_80, x118_81, x118_82, x118_85, x118_86, x118_87, x118_90, x118_91, Option.bind_some, Option.toList_some, Option.toList_none, List.cons_append, List.nil_append, Int.toNat_natCast, Int.toNat_zero, z_w_id, z_b_0, z_b_1, z_b_n0, z_b_t, z_b_f, ↓reduceIte, Int.reduceEq, Int.reduceLT, Int.reduceLE, Int.reduceToNat, not_true_eq_false, not_false_eq_true, false_and, and_false, true_and, and_true, false_or, or_false, true_or, or_true, hc, k1, k4, z_mr_row, z_up_mr, ix_1, n0, n1, Int.add_zero, hr1, em]) | split)
        all_goals rfl
  refine main _ ?_
  by_cases q : gb w = 0
  · rw [if_pos q]; exact Or.inl ⟨q, rfl⟩
  · rw [if_neg q]; exact Or.inr ⟨q, rfl⟩
theorem k_nextGroup_loop {M : z_M} {nd gb : Nat → Int} {B : Nat → Nat → Int} {ρ0 : Nat → Int} (hnd : ∀ c, nd c ≤ 99) : ∀ (n : Nat) (A1 : Nat → Nat → Int) (ρ1 : Nat → Int) (p : Int) (M' : z_M), g_J nd gb A1 → w_rel nd gb A1 ρ1 → w_fr ρ0 ρ1 → (∀ g : Nat, (g : Int) < A1 1 0 → -20000 ≤ A1 5 g ∧ A1 5 g ≤ 500) → p = A1 0 4 → (p = -5 ∨ (0 ≤ p ∧ p < A1 1 0)) →
    r_mg nd gb n A1 B → z_ev 95 [.inr (some (0, 30)), .inl p] M' = some (some (.inl 0), z_mr M ρ1) →
    ∃ ρ', z_ex 118 7 [some (.inr (some (0, 30))), some (.inl p)] [] M' = some (some (.inl (B 0 4)), z_mr M ρ') ∧ w_rel nd gb B ρ' ∧ w_fr ρ0 ρ' := by
  intro n
  induction n with
  | zero => intro A1 ρ1 p M' _ _ _ _ _ _ h; exact absurd h id
  | succ n ih =>
    intro A1 ρ1 p M' hJ hR hf hb hpA hp hm hc
    have h3 := hJ.2.1
    have hin := v_nx_in (C := A1 1 0) (which := p) h3.1
    obtain ⟨w, hw⟩ : ∃ w : Nat, v_nx (A1 1 0) p = (w : Int) := ⟨(v_nx (A1 1 0) p).toNat, by omega⟩
    rw [hw] at hin
    have hw3 : w < 3 := by omega
    have hbw := hb w hin.2
    have hbq := hJ.2.2.2.2 w hin.2
    have st := k_nextGroup_step (M := M) hJ hR hp hw hbw hc
    rw [r_mg_succ, ← hpA, hw, Int.toNat_natCast] at hm
    obtain ⟨g1, g2, g3, g4⟩ := w_hop_gv hJ hin.2
    have hR2 : w_rel nd gb (w_hop gb w A1) (r_u (r_u ρ1 4 (w : Int)) (8 + 4 * w + 1) (if gb w = 0 then 0 else A1 5 w + A1 4 w)) := w_rel_hop h3.2 hR hw3 _
    have hf2 : w_fr ρ0 (r_u (r_u ρ1 4 (w : Int)) (8 + 4 * w + 1) (if gb w = 0 then 0 else A1 5 w + A1 4 w)) := w_fr_u (w_fr_u hf (Or.inl rfl)) (Or.inr (Or.inl ⟨w, hw3, Or.inl rfl⟩))
    have hJ2 : g_J nd gb (w_hop gb w A1) := g_J_u (g_J_u hJ 0 4 _ (Or.inl rfl)) 5 _ _ (Or.inr rfl)
    generalize r_u (r_u ρ1 4 (w : Int)) (8 + 4 * w + 1) (if gb w = 0 then 0 else A1 5 w + A1 4 w) = ρ2 at st hR2 hf2
    have e1 : w_hop gb w A1 1 0 = A1 1 0 := by unfold w_hop; rw [a_u_o (by decide), a_u_o (by decide)]
    have e2 : w_hop gb w A1 2 0 = A1 2 0 := by unfold w_hop; rw [a_u_o (by decide), a_u_o (by decide)]
    have e5 : w_hop gb w A1 5 w = if gb w = 0 then 0 else A1 5 w + A1 4 w := by unfold w_hop; rw [a_u_same]
    obtain ⟨ρ3, c1, c2, c3⟩ := k_canServeGroup (M := M) hJ2 hR2 (g := w) (by rw [e1]; exact hin.2)
    rw [e2, g2] at c1
    rw [e2, g1] at c2
    rw [e5] at c1
    have hf3 : w_fr ρ0 ρ3 := fun i hi => by rw [c3 i hi]; exact hf2 i hi
    rw [st]
    have gvf := v_gv_fr hJ (w := (w : Int)) (by omega) hin.2
    have hgn0 : gb w ≠ 0 → v_gn nd gb (w : Int) A1 = nd (v_gv nd gb (w : Int) A1 6 w).toNat ∧ 0 < v_gn nd gb (w : Int) A1 := fun q => by
      obtain ⟨-, a2, -⟩ := v_gv_now hJ hin.2
      obtain ⟨b1, b2, b3, -⟩ := a2 q
      refine ⟨b2, ?_⟩
      rw [b2]; exact b1.2.1
    by_cases hq : v_gn nd gb (w : Int) A1 ≠ 0 ∧ v_gn nd gb (w : Int) A1 ≤ A1 5 w + A1 4 w
    · rw [if_pos hq] at hm
      have hgb : gb w ≠ 0 := fun q => hq.1 (g4 q)
      rw [if_neg hgb, z_b_t ⟨(hgn0 hgb).2, hq.2⟩] at c1
      rw [hm]
      refine ⟨ρ3, ?_, c2, hf3⟩
      rw [gvf.2, x118_7]
      repeat' (first | (exfalso; omega) | (simp (disch := first | omega | assumption | exact z_b_01) only [x118_0, x118_1, x118_4, x118_5, x118_6, x118_8, x118_9, x118_12, x118_15, x118_16, x118_19, x118_20, x118_23, x118_24, x118_25, x118_26, x118_27, x118_30, x118_31, x118_32, x118_33, x118_34, x118_35, x118_38, x118_39, x118_40, x118_41, x118_42, x118_45, x118_46, x118_49, x118_50, x118_51, x118_52, x118_53, x118_56, x118_59, x118_60, x118_63, x118_64, x118_67, x118_68, x118_69, x118_70, x118_71, x118_74, x118_75, x118_78, x118_79, x118_80, x118_81, x118_82, x118_85, x118_86, x118_87, x118_90, x118_91, Option.bind_some, Option.toList_some, Option.toList_none, List.cons_append, List.nil_append, Int.toNat_natCast, Int.toNat_zero, z_w_id, z_b_0, z_b_1, z_b_n0, z_b_t, z_b_f, ↓reduceIte, Int.reduceEq, Int.reduceLT, Int.reduceLE, Int.reduceToNat, not_true_eq_false, not_false_eq_true, false_and, and_false, true_and, and_true, false_or, or_false, true_or, or_true, c1]) | split)
      all_goals rfl
    · rw [if_neg hq] at hm
      have hz : ¬ (0 < v_gn nd gb (w : Int) A1 ∧ v_gn nd gb (w : Int) A1 ≤ if gb w = 0 then 0 else A1 5 w + A1 4 w) := by
        rintro ⟨q1, q2⟩
        have hgb : gb w ≠ 0 := fun q => by rw [g4 q] at q1; omega
        rw [if_neg hgb] at q2
        exact hq ⟨by omega, q2⟩
      rw [z_b_f hz] at c1
      have f1 : v_gv nd gb (w : Int) A1 1 0 = A1 1 0 := gvf.1 1 0 (by decide) (by omega) (by omega) (by omega)
      refine ih (v_gv nd gb (w : Int) A1) ρ3 (w : Int) (z_mr M ρ2) (v_gv_J hJ (by omega) hin.2) c2 hf3 (fun g hg => ?_) gvf.2.symm (Or.inr ⟨by omega, by rw [f1]; exact hin.2⟩) hm c1
      rw [f1] at hg
      by_cases hgw : g = w
      · subst hgw
        obtain ⟨a1, a2, -⟩ := v_gv_now hJ hin.2
        by_cases hgb : gb g = 0
        · rw [(a1 hgb).2]; omega
        · rw [(a2 hgb).2.2.2]
          have := hgn0 hgb
          have := hnd (v_gv nd gb (g : Int) A1 6 g).toNat
          rw [if_neg hgb] at hz
          omega
      · rw [gvf.1 5 g (by decide) (by omega) (by omega) (by omega)]
        exact hb g hg
/-- the next group, on the model's side -/
theorem k_nextGroup {M : z_M} {nd gb : Nat → Int} {A B : Nat → Nat → Int} {ρ : Nat → Int} (hJ : g_J nd gb A) (hR : w_rel nd gb A ρ) (hp : A 0 4 = -5 ∨ (0 ≤ A 0 4 ∧ A 0 4 < A 1 0)) (hnd : ∀ c, nd c ≤ 99) (hb : ∀ g : Nat, (g : Int) < A 1 0 → -20000 ≤ A 5 g ∧ A 5 g ≤ 500)
    (hJ1 : g_J nd gb (v_pg nd gb A).2) (hfr : ∀ o j, o ≠ 9 → o ≠ 6 → (v_pg nd gb A).2 o j = A o j)
    (hm : ((v_pg nd gb A).1 ≠ 0 ∧ B = (v_pg nd gb A).2) ∨ ((v_pg nd gb A).1 = 0 ∧ ∃ n, r_mg nd gb n (v_pg nd gb A).2 B)) :
    ∃ ρ', z_ev 118 [.inr (some (0, 30))] (z_mr M ρ) = some (some (.inl (B 0 4)), z_mr M ρ') ∧ w_rel nd gb B ρ' ∧ w_fr ρ ρ' := by
  obtain ⟨ρ1, c1, c2, c3⟩ := k_mpg (M := M) hJ hR hp
  have en : z_ev 118 [.inr (some (0, 30))] (z_mr M ρ) = z_ex 118 7 [some (.inr (some (0, 30))), some (.inl (A 0 4))] [] (z_mr M ρ) := by
    have h4 := hR.1.2.2.1
    rw [x118]
    repeat' (first | (exfalso; omega) | (simp (disch := first | omega | assumption | exact z_b_01) only [x118_0, x118_1, x118_4, x118_5, x118_6, x118_8, x118_9, x118_12, x118_15, x118_16, x118_19, x118_20, x118_23, x118_24, x118_25, x118_26, x118_27, x118_30, x118_31, x118_32, x118_33, x118_34, x118_35, x118_38, x118_39, x118_40, x118_41, x118_42, x118_45, x118_46, x118_49, x118_50, x118_51, x118_52, x118_53, x118_56, x118_59, x118_60, x118_63, x118_64, x118_67, x118_68, x118_69, x118_70, x118_71, x118_74, x118_75, x118_78, x118_79, x118_80, x118_81, x118_82, x118_85, x118_86, x118_87, x118_90, x118_91, Option.bind_some, Option.toList_some, Option.toList_none, List.cons_append, List.nil_append, Int.toNat_natCast, Int.toNat_zero, z_w_id, z_b_0, z_b_1, z_b_n0, z_b_t, z_b_f, ↓reduceIte, Int.reduceEq, Int.reduceLT, Int.reduceLE, Int.reduceToNat, not_true_eq_false, not_false_eq_true, false_and, and_false, true_and, and_true, false_or, or_false, true_or, or_true, z_mr_row, h4]) | split)
    all_goals rfl
  rw [en]
  have h4 : (v_pg nd gb A).2 0 4 = A 0 4 := hfr 0 4 (by decide) (by decide)
  have h1 : (v_pg nd gb A).2 1 0 = A 1 0 := hfr 1 0 (by decide) (by decide)
  rcases hm with ⟨hne, hB⟩ | ⟨hz, n, hn⟩
  · rw [hB]
    have : (v_pg nd gb A).1 = 1 := by
      unfold v_pg at hne ⊢
      split
      · rename_i q
        rw [if_pos q] at hne
        dsimp only at hne ⊢
        unfold z_b at hne ⊢
        split
        · rfl
        · rename_i q2; rw [if_neg q2] at hne; exact absurd rfl hne
      · rename_i q
        rw [if_neg q] at hne
        exact absurd rfl hne
    rw [this] at c1
    refine ⟨ρ1, ?_, c2, c3⟩
    rw [h4, x118_7]
    repeat' (first | (exfalso; omega) | (simp (disch := first | omega | assumption | exact z_b_01) only [x118_0, x118_1, x118_4, x118_5, x118_6, x118_8, x118_9, x118_12, x118_15, x118_16, x118_19, x118_20, x118_23, x118_24, x118_25, x118_26, x118_27, x118_30, x118_31, x118_32, x118_33, x118_34, x118_35, x118_38, x118_39, x118_40, x118_41, x118_42, x118_45, x118_46, x118_49, x118_50, x118_51, x118_52, x118_53, x118_56, x118_59, x118_60, x118_63, x118_64, x118_67, x118_68, x118_69, x118_70, x118_71, x118_74, x118_75, x118_78, x118_79, x118_80, x118_81, x118_82, x118_85, x118_86, x118_87, x118_90, x118_91, Option.bind_some, Option.toList_some, Option.toList_none, List.cons_append, List.nil_append, Int.toNat_natCast, Int.toNat_zero, z_w_id, z_b_0, z_b_1, z_b_n0, z_b_t, z_b_f, ↓reduceIte, Int.reduceEq, Int.reduceLT, Int.reduceLE, Int.reduceToNat, not_true_eq_false, not_false_eq_true, false_and, and_false, true_and, and_true, false_or, or_false, true_or, or_true, c1]) | split)
    all_goals rfl
  · rw [hz] at c1
    exact k_nextGroup_loop hnd n _ ρ1 (A 0 4) (z_mr M ρ) hJ1 c2 c3 (fun g hg => by rw [hfr 5 g (by decide) (by decide)]; rw [h1] at hg; exact hb g hg) h4.symm (by rw [h1]; exact hp) hn c1
