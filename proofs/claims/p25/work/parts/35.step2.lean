/-! the next job comes and begins: what the class does, and what holds then -/
/-- what else holds of a state -/
def f_x (A : Nat → Nat → Int) (l : List Nat) : Prop :=
  (∀ g : Nat, (g : Int) < A 1 0 → (∀ j ∈ l, a_gr A j ≠ (g : Int)) → A 5 g = 0) ∧ ∀ j : Nat, (j : Int) < A 3 0 → A 19 j ≠ -5 → A 18 j ≤ A 19 j
theorem f_x_Z {A : Nat → Nat → Int} {l : List Nat} (h : f_x A l) : g_Z (A 1 0) (a_gb A l) A := fun g hg hz => h.1 g hg fun j hj e => (a_gb_ne g).mpr ⟨j, hj, e⟩ hz
/-- the state that a job begins in: it comes by its age or by its turn -/
theorem f_turn {s : Fin 7} {M : z_M} {T A : Nat → Nat → Int} {l : List Nat} (hI : e_I A l) (hx : f_x A l) (hl : l ≠ []) :
    ∃ T', p_j A l ∈ l ∧ z_ev 52 [.inr (some (0, 26)), .inr (some (s, 0))] (z_ur (z_ut M T) s A) = some (some (.inl (p_j A l : Int)), z_ur (z_ut M T') s (p_N A l)) ∧ e_I (p_N A l) l ∧ f_x (p_N A l) l ∧
      (∀ o j, o ≠ 9 → o ≠ 6 → o ≠ 5 → ¬ (o = 0 ∧ j = 4) → p_N A l o j = A o j) ∧ (s_fst l (fun j => a_old A j) ≠ -5 → s_fst l (fun j => a_old A j) = (p_j A l : Int)) := by
  obtain ⟨iG, iJ, iC, iK, cW, iD, el, c9, c5, c08, c08'⟩ := id hI
  by_cases ho : s_fst l (fun j => a_old A j) = -5
  · obtain ⟨T', B, n1, hT, hm, T1, eB, hT1⟩ := k_nextTurn (s := s) (M := M) (T := T) iG iJ iC iK cW iD hl ho
    have eN : p_N A l = B := by
      unfold p_N
      rw [if_pos ho, eB]
      exact p_nt_T iG.1.2 fun i hi => (hT1 i hi).symm
    have hz : ∀ j ∈ l, 1 ≤ A 17 j ∧ A 17 j ≤ 99 := fun j hj => (iJ j (cW.2.2.2.1 j hj)).2.1
    obtain ⟨gJ, gnd, gb⟩ := g_J_of iG iJ iC iK cW iD hl
    have gJ1 : g_J (a_nd A l) (a_gb A l) (v_pg (a_nd A l) (a_gb A l) A).2 := by
      unfold v_pg
      split
      · rename_i q
        exact (v_la_props gJ (g := (A 0 4).toNat) (by omega)).2.1
      · exact gJ
    have c3 := cW.2.2.2.2
    have hlen : (l.length : Int) ≤ A 3 0 := by omega
    have hm0 : -99 * (A 3 0 - l.length) ≤ 0 := by omega
    have hK0 : h_K (-99 * (A 3 0 - l.length)) (a_gb A l) A A := ⟨c9, c5, fun g _ => ⟨rfl, fun _ _ => rfl⟩, fun _ => rfl⟩
    have hK1 := h_K_pg hm0 gJ hK0
    have hZ1 := g_Z_pg gJ (f_x_Z hx)
    obtain ⟨hK, hZ⟩ : h_K (-99 * (A 3 0 - l.length)) (a_gb A l) A B ∧ g_Z (A 1 0) (a_gb A l) B := by
      rcases hm with ⟨-, e⟩ | ⟨-, n, hn⟩
      · rw [e]; exact ⟨hK1, hZ1⟩
      · exact ⟨h_K_mg hm0 n _ gJ1 hK1 hn, g_Z_mg n _ gJ1 hZ1 hn⟩
    have hIB := e_I_turn hI hl hT hK
    have tf := hT.2.1
    have e16 : ∀ j, B 16 j = A 16 j := fun j => tf 16 j (by decide) (by decide) (by decide) (by omega)
    have e7 : ∀ j, B 7 j = A 7 j := fun j => tf 7 j (by decide) (by decide) (by decide) (by omega)
    obtain ⟨j, hj, hpj, hv⟩ : ∃ j ∈ l, A 16 j = B 6 (B 0 4).toNat ∧ s_fst l (fun j => A 16 j = B 6 (B 0 4).toNat) = (j : Int) := by
      rcases s_fst_ge (l := l) (p := fun j => A 16 j = B 6 (B 0 4).toNat) with ⟨-, q⟩ | q
      · obtain ⟨-, -, t04, tgb, tok, -⟩ := hT
        obtain ⟨k, hk, ek⟩ := (a_nd_ne hz _).mp (show a_nd A l (B 6 (B 0 4).toNat).toNat ≠ 0 by have := tok.2.1; omega)
        exact absurd (by rw [ek]; have := tok.1; omega) (q k hk)
      · exact q
    have ej : p_j A l = j := by
      unfold p_j
      rw [if_pos ho, eN, hv]; rfl
    rw [eN, ej]
    rw [hv] at n1
    refine ⟨T', hj, n1, hIB, ⟨fun g hg hn => ?_, fun k hk hb => ?_⟩, tf, fun q => absurd ho q⟩
    · rw [tf 1 0 (by decide) (by decide) (by decide) (by omega)] at hg
      refine hZ g hg (Classical.byContradiction fun q => ?_)
      obtain ⟨k, hk, e⟩ := (a_gb_ne g).mp q
      exact hn k hk (by rw [a_gr_c e16 e7]; exact e)
    · rw [tf 3 0 (by decide) (by decide) (by decide) (by omega)] at hk
      rw [tf 19 k (by decide) (by decide) (by decide) (by omega)] at hb ⊢
      rw [tf 18 k (by decide) (by decide) (by decide) (by omega)]
      exact hx.2 k hk hb
  · have n1 := k_nextOld (s := s) (M := z_ut M T) iG iJ cW hl ho
    rcases s_fst_ge (l := l) (p := fun j => a_old A j) with ⟨q, -⟩ | ⟨j, hj, hold, q⟩
    · exact absurd q ho
    · have eN : p_N A l = A := by unfold p_N; rw [if_neg ho]
      have ej : p_j A l = j := by unfold p_j; rw [if_neg ho, q]; rfl
      rw [q] at n1
      rw [eN, ej]
      exact ⟨T, hj, n1, hI, hx, fun _ _ _ _ _ _ => rfl, fun _ => q⟩
theorem f_q_mem {l : List Nat} {j i : Nat} : i ∈ l.filter (q_ne (j : Int)) ↔ i ∈ l ∧ i ≠ j := by
  rw [List.mem_filter]
  unfold q_ne
  rw [decide_eq_true_iff]
  exact ⟨fun q => ⟨q.1, fun e => q.2 (by rw [e])⟩, fun q => ⟨q.1, fun e => q.2 (by omega)⟩⟩
theorem f_x_beg {A A' : Nat → Nat → Int} {l : List Nat} (hI : e_I A l) (hx : f_x A l) {j : Nat} (hj : j ∈ l) (hA : a_e20 A' (a_beg A (l.filter (q_ne j)) j)) : f_x A' (l.filter (q_ne j)) := by
  obtain ⟨iG, iJ, iC, iK, cW, iD, el, -⟩ := id hI
  obtain ⟨o1, o19, -, -⟩ := e_beg_all hA
  have hjn := cW.2.2.2.1 j hj
  have aj := iJ j hjn
  have e16 : ∀ i, A' 16 i = A 16 i := fun i => o1 16 i (by omega)
  have e7 : ∀ i, A' 7 i = A 7 i := fun i => o1 7 i (by omega)
  have eg := a_gr_c e16 e7
  have o5 : ∀ i, A' 5 i = if i = (a_gr A j).toNat then (if 0 < s_sum (l.filter (q_ne j)) (fun i => if a_gr A i = a_gr A j then 1 else 0) then A 5 (a_gr A j).toNat - A 17 j else 0) else A 5 i := fun i => by
    rw [e_beg_o hA 5 i (by omega) (by omega) (by omega)]
    unfold e_beg
    rw [a_u_at, a_u_o (by decide), a_u_o (by decide), a_u_o (by decide), a_beg0_o A j (by omega)]
  have gin : 0 ≤ a_gr A j := by
    unfold a_gr
    have := (iC (A 16 j).toNat (by omega)).1
    omega
  refine ⟨fun g hg hn => ?_, fun k hk hb => ?_⟩
  · rw [o1 1 0 (by omega)] at hg
    rw [o5]
    by_cases q : g = (a_gr A j).toNat
    · rw [if_pos q, if_neg]
      intro z
      obtain ⟨k, hk, e⟩ := s_sum_pos.mp z
      refine hn k hk ?_
      rw [eg, e, q]; omega
    · rw [if_neg q]
      refine hx.1 g hg fun k hk e => ?_
      by_cases y : k = j
      · rw [y] at e; omega
      · exact hn k (f_q_mem.mpr ⟨hk, y⟩) (by rw [eg]; exact e)
  · rw [o1 3 0 (by omega)] at hk
    rw [o19] at hb ⊢
    rw [o1 18 k (by omega)]
    by_cases q : k = j
    · rw [if_pos q, q]; exact aj.2.2.1.2
    · rw [if_neg q] at hb ⊢; exact hx.2 k hk hb
/-- the next job comes and begins -/
theorem f_step {s : Fin 7} {M : z_M} {T A : Nat → Nat → Int} {l : List Nat} (hI : e_I A l) (hx : f_x A l) (hl : l ≠ []) :
    ∃ (T' A' : Nat → Nat → Int), p_j A l ∈ l ∧ z_ev 52 [.inr (some (0, 26)), .inr (some (s, 0))] (z_ur (z_ut M T) s A) = some (some (.inl (p_j A l : Int)), z_ur (z_ut M T') s (p_N A l)) ∧
      z_ev 28 [.inr (some (s, 0)), .inl (p_j A l : Int)] (z_ur (z_ut M T') s (p_N A l)) = some (none, z_ur (z_ut M T') s A') ∧
      e_I A' (l.filter (q_ne (p_j A l))) ∧ f_x A' (l.filter (q_ne (p_j A l))) ∧ a_e20 A' (p_B A l) ∧
      (∀ o i, o = 4 ∨ o = 7 ∨ o = 8 ∨ (10 ≤ o ∧ o ≤ 13) ∨ (15 ≤ o ∧ o ≤ 18) ∨ (o = 0 ∧ (i = 3 ∨ i = 7)) ∨ ((o = 1 ∨ o = 2 ∨ o = 3) ∧ i = 0) → A' o i = A o i) ∧
      (∀ i, A' 19 i = if i = p_j A l then A 0 3 else A 19 i) ∧ A' 0 5 = (p_j A l : Int) ∧ A' 0 6 = A 17 (p_j A l) := by
  obtain ⟨T', hj, n1, hIN, hxN, tf, -⟩ := f_turn (s := s) (M := M) (T := T) hI hx hl
  have h19 : p_N A l 19 (p_j A l) = -5 := (e_l_mem.mp (by rw [← hIN.2.2.2.2.2.2.1]; exact hj)).2
  have c3 := hIN.2.2.2.2.1.2.2.2.2
  have c8 := hIN.2.2.2.2.2.2.2.2.2
  obtain ⟨A', b1, b2, b3⟩ := k_begin (s := s) (M := z_ut M T') hIN.1 hIN.2.1 hIN.2.2.1 hIN.2.2.2.1 hIN.2.2.2.2.1 hj h19 (by omega)
  obtain ⟨a1, a2, a3, a4⟩ := e_beg_all b3
  refine ⟨T', A', hj, n1, b1, e_I_beg hIN hj b3 b2, f_x_beg hIN hxN hj b3, b3, fun o i q => ?_, fun i => ?_, a3, ?_⟩
  · rw [a1 o i q, tf o i (by omega) (by omega) (by omega) (by omega)]
  · rw [a2, tf 0 3 (by omega) (by omega) (by omega) (by omega), tf 19 i (by omega) (by omega) (by omega) (by omega)]
  · rw [a4, tf 17 _ (by omega) (by omega) (by omega) (by omega)]
