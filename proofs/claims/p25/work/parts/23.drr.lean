/-! the walk as the document tells it, and the rounds taken at once -/
def r_mc (C : Int) (nd : Nat → Int) (g : Nat) : Nat → Int → (Nat → Nat → Int) → (Nat → Nat → Int) → Prop
  | 0, _, _, _ => False
  | n + 1, which, A, B => if A 7 (v_nx C which).toNat = (g : Int) then
      (if nd (v_nx C which).toNat ≠ 0 ∧ nd (v_nx C which).toNat ≤ A 9 (v_nx C which).toNat + A 8 (v_nx C which).toNat then B = v_vis nd g (v_nx C which) A
       else r_mc C nd g n (v_nx C which) (v_vis nd g (v_nx C which) A) B)
      else r_mc C nd g n (v_nx C which) A B
theorem r_mc_succ (C : Int) (nd : Nat → Int) (g n : Nat) (which : Int) (A B : Nat → Nat → Int) : r_mc C nd g (n + 1) which A B = if A 7 (v_nx C which).toNat = (g : Int) then
      (if nd (v_nx C which).toNat ≠ 0 ∧ nd (v_nx C which).toNat ≤ A 9 (v_nx C which).toNat + A 8 (v_nx C which).toNat then B = v_vis nd g (v_nx C which) A
       else r_mc C nd g n (v_nx C which) (v_vis nd g (v_nx C which) A) B)
      else r_mc C nd g n (v_nx C which) A B := rfl
def v_at (C e : Int) (k : Nat) : Int := if e + k < C then e + k else e + k - C
def v_new (nd : Nat → Int) (A : Nat → Nat → Int) (j : Nat) : Int := if nd j = 0 then 0 else A 9 j + A 8 j
def v_G (nd : Nat → Int) (g : Nat) (A : Nat → Nat → Int) (w : Int) : Prop := A 7 w.toNat = (g : Int) ∧ nd w.toNat ≠ 0 ∧ nd w.toNat ≤ A 9 w.toNat + A 8 w.toNat
def v_seen (C e : Int) (k : Nat) (j : Nat) : Prop := (e ≤ (j : Int) ∧ (j : Int) < e + k ∧ (j : Int) < C) ∨ (j : Int) + C < e + k
def v_P (C : Int) (nd : Nat → Int) (g : Nat) (A : Nat → Nat → Int) (e : Int) (k : Nat) (A' : Nat → Nat → Int) : Prop :=
  (∀ o j, o ≠ 9 → ¬ (o = 6 ∧ j = g) → A' o j = A o j) ∧ (∀ j : Nat, (A 7 j = (g : Int) ∧ v_seen C e k j → A' 9 j = v_new nd A j) ∧ (¬ (A 7 j = (g : Int) ∧ v_seen C e k j) → A' 9 j = A 9 j)) ∧
  ((A' 6 g = A 6 g ∧ ∀ i : Nat, i < k → A 7 (v_at C e i).toNat ≠ (g : Int)) ∨ ∃ i : Nat, i < k ∧ A' 6 g = v_at C e i ∧ A 7 (v_at C e i).toNat = (g : Int) ∧ ∀ i' : Nat, i < i' → i' < k → A 7 (v_at C e i').toNat ≠ (g : Int))
theorem v_at_in {C e : Int} {k : Nat} (h0 : 0 ≤ e) (h1 : e ≤ C) (hk : (k : Int) < C) : 0 ≤ v_at C e k ∧ v_at C e k < C := by
  unfold v_at
  split <;> omega
theorem v_at_nx {C e : Int} {k : Nat} (h0 : 0 ≤ e) (h1 : e ≤ C) (hk : (k : Int) + 1 < C) : v_nx C (v_at C e k) = v_at C e (k + 1) := by
  unfold v_nx v_at
  simp only [Int.natCast_add, Int.natCast_one]
  repeat' split
  all_goals omega
theorem v_at_new {C e : Int} {k : Nat} (h0 : 0 ≤ e) (h1 : e ≤ C) (hk : (k : Int) < C) : ¬ v_seen C e k (v_at C e k).toNat := by
  unfold v_seen v_at
  split <;> omega
theorem v_seen_succ {C e : Int} {k j : Nat} (h0 : 0 ≤ e) (h1 : e ≤ C) (hk : (k : Int) < C) : v_seen C e (k + 1) j ↔ v_seen C e k j ∨ (j : Int) = v_at C e k := by
  unfold v_seen v_at
  simp only [Int.natCast_add, Int.natCast_one]
  split <;> omega
theorem v_P_zero (C : Int) (nd : Nat → Int) (g : Nat) (A : Nat → Nat → Int) {e : Int} (h1 : e ≤ C) : v_P C nd g A e 0 A := by
  refine ⟨fun _ _ _ _ => rfl, fun j => ⟨fun h => ?_, fun _ => rfl⟩, Or.inl ⟨rfl, fun i hi => absurd hi (Nat.not_lt_zero _)⟩⟩
  have := h.2
  unfold v_seen at this
  omega
theorem v_P_yes {C : Int} {nd : Nat → Int} {g : Nat} {A A' : Nat → Nat → Int} {e : Int} {k : Nat} (h0 : 0 ≤ e) (h1 : e ≤ C) (hk : (k : Int) < C) (h : v_P C nd g A e k A') (hg : A 7 (v_at C e k).toNat = (g : Int)) : v_P C nd g A e (k + 1) (v_vis nd g (v_at C e k) A') := by
  obtain ⟨a1, a2, a3⟩ := h
  have hin := v_at_in h0 h1 hk
  have hnew := v_at_new h0 h1 hk
  generalize hw : v_at C e k = w at *
  have e9 : A' 9 w.toNat = A 9 w.toNat := (a2 w.toNat).2 (fun q => hnew q.2)
  have e8 : A' 8 w.toNat = A 8 w.toNat := a1 8 _ (by decide) (by omega)
  refine ⟨fun o j ho hj => ?_, fun j => ⟨fun hs => ?_, fun hs => ?_⟩, Or.inr ⟨k, by omega, ?_, ?_, fun i' q1 q2 => by omega⟩⟩
  · unfold v_vis; rw [a_u_o ho]; unfold a_u; rw [if_neg hj]; exact a1 o j ho hj
  · unfold v_vis
    rw [a_u_at, a_u_o (by decide), e9, e8]
    by_cases ej : j = w.toNat
    · rw [if_pos ej, ej]; rfl
    · rw [if_neg ej]
      refine (a2 j).1 ⟨hs.1, ?_⟩
      rcases (v_seen_succ h0 h1 hk).mp hs.2 with q | q
      · exact q
      · rw [hw] at q; omega
  · unfold v_vis
    rw [a_u_at, a_u_o (by decide)]
    have ej : j ≠ w.toNat := by
      intro ej
      refine hs ⟨by rw [ej]; exact hg, (v_seen_succ h0 h1 hk).mpr (Or.inr ?_)⟩
      rw [hw]; omega
    rw [if_neg ej]
    exact (a2 j).2 (fun q => hs ⟨q.1, (v_seen_succ h0 h1 hk).mpr (Or.inl q.2)⟩)
  · rw [hw]; unfold v_vis; rw [a_u_o (by decide), a_u_same]
  · rw [hw]; exact hg
theorem v_P_no {C : Int} {nd : Nat → Int} {g : Nat} {A A' : Nat → Nat → Int} {e : Int} {k : Nat} (h0 : 0 ≤ e) (h1 : e ≤ C) (hk : (k : Int) < C) (h : v_P C nd g A e k A') (hg : ¬ A 7 (v_at C e k).toNat = (g : Int)) : v_P C nd g A e (k + 1) A' := by
  obtain ⟨a1, a2, a3⟩ := h
  have hin := v_at_in h0 h1 hk
  refine ⟨a1, fun j => ⟨fun hs => ?_, fun hs => ?_⟩, ?_⟩
  · refine (a2 j).1 ⟨hs.1, ?_⟩
    rcases (v_seen_succ h0 h1 hk).mp hs.2 with q | q
    · exact q
    · exfalso; refine hg ?_; rw [← q, Int.toNat_natCast]; exact hs.1
  · exact (a2 j).2 (fun q => hs ⟨q.1, (v_seen_succ h0 h1 hk).mpr (Or.inl q.2)⟩)
  · rcases a3 with ⟨b1, b2⟩ | ⟨i, b1, b2, b3, b4⟩
    · refine Or.inl ⟨b1, fun i hi => ?_⟩
      rcases Nat.lt_succ_iff_lt_or_eq.mp hi with q | q
      · exact b2 i q
      · rw [q]; exact hg
    · refine Or.inr ⟨i, by omega, b2, b3, fun i' q1 q2 => ?_⟩
      rcases Nat.lt_succ_iff_lt_or_eq.mp q2 with q | q
      · exact b4 i' q1 q
      · rw [q]; exact hg
def v_wh (C e which : Int) (k : Nat) : Int := match k with
  | 0 => which
  | k + 1 => v_at C e k
theorem v_wh_nx {C e which : Int} (h0 : 0 ≤ e) (h1 : e ≤ C) (hs : v_nx C which = v_at C e 0) : ∀ k : Nat, (k : Int) < C → v_nx C (v_wh C e which k) = v_at C e k := by
  intro k hk
  cases k with
  | zero => exact hs
  | succ k => exact v_at_nx h0 h1 (by omega)
theorem v_unroll {C : Int} {nd : Nat → Int} {g : Nat} {A : Nat → Nat → Int} {e which : Int} (h0 : 0 ≤ e) (h1 : e ≤ C) (hs : v_nx C which = v_at C e 0) : ∀ k : Nat, (k : Int) ≤ C → (∀ i : Nat, i < k → ¬ v_G nd g A (v_at C e i)) →
    ∃ A', v_P C nd g A e k A' ∧ ∀ n, v_wc C nd g (n + k) which A = v_wc C nd g n (v_wh C e which k) A' ∧ ∀ B, r_mc C nd g (n + k) which A B = r_mc C nd g n (v_wh C e which k) A' B := by
  intro k
  induction k with
  | zero => intro _ _; exact ⟨A, v_P_zero C nd g A h1, fun n => ⟨rfl, fun B => rfl⟩⟩
  | succ k ih =>
    intro hk hG
    have hk' : (k : Int) < C := by omega
    obtain ⟨A', hP, hU⟩ := ih (by omega) (fun i hi => hG i (by omega))
    have hnx := v_wh_nx h0 h1 hs k hk'
    have hGk := hG k (by omega)
    have hin := v_at_in h0 h1 hk'
    have e9 : A' 9 (v_at C e k).toNat = A 9 (v_at C e k).toNat := (hP.2.1 _).2 (fun q => v_at_new h0 h1 hk' q.2)
    have e8 : A' 8 (v_at C e k).toNat = A 8 (v_at C e k).toNat := hP.1 8 _ (by decide) (by omega)
    have e7 : A' 7 (v_at C e k).toNat = A 7 (v_at C e k).toNat := hP.1 7 _ (by decide) (by omega)
    by_cases hg : A 7 (v_at C e k).toNat = (g : Int)
    · refine ⟨_, v_P_yes h0 h1 hk' hP hg, fun n => ?_⟩
      obtain ⟨u1, u2⟩ := hU (n + 1)
      rw [show n + (k + 1) = n + 1 + k by omega]
      refine ⟨?_, fun B => ?_⟩
      · rw [u1, v_wc_succ, hnx, e9, e8, e7, if_pos hg]
        by_cases hz : nd (v_at C e k).toNat = 0
        · rw [if_pos hz]; rfl
        · rw [if_neg hz, if_neg (fun q => hGk ⟨hg, hz, q⟩)]; rfl
      · rw [u2, r_mc_succ, hnx, e9, e8, e7, if_pos hg, if_neg (fun q => hGk ⟨hg, q.1, q.2⟩)]; rfl
    · refine ⟨_, v_P_no h0 h1 hk' hP hg, fun n => ?_⟩
      obtain ⟨u1, u2⟩ := hU (n + 1)
      rw [show n + (k + 1) = n + 1 + k by omega]
      refine ⟨?_, fun B => ?_⟩
      · rw [u1, v_wc_succ, hnx, e7, if_neg hg]; rfl
      · rw [u2, r_mc_succ, hnx, e7, if_neg hg]; rfl
theorem v_first (P : Nat → Prop) : ∀ n : Nat, (∀ i, i < n → ¬ P i) ∨ ∃ m, m < n ∧ P m ∧ ∀ i, i < m → ¬ P i := by
  intro n
  induction n with
  | zero => exact Or.inl (fun i hi => absurd hi (Nat.not_lt_zero _))
  | succ n ih =>
    rcases ih with h | ⟨m, h1, h2, h3⟩
    · by_cases hp : P n
      · exact Or.inr ⟨n, by omega, hp, h⟩
      · refine Or.inl (fun i hi => ?_)
        rcases Nat.lt_succ_iff_lt_or_eq.mp hi with q | q
        · exact h i q
        · rw [q]; exact hp
    · exact Or.inr ⟨m, by omega, h2, h3⟩
/-- a round in which somebody gets as far as he must -/
theorem v_found {C : Int} {nd : Nat → Int} {g : Nat} {A : Nat → Nat → Int} {e which : Int} (h0 : 0 ≤ e) (h1 : e ≤ C) (hC : 0 ≤ C) (hs : v_nx C which = v_at C e 0) {m : Nat} (hm : (m : Int) < C) (hG : v_G nd g A (v_at C e m)) (hn : ∀ i : Nat, i < m → ¬ v_G nd g A (v_at C e i)) :
    ∃ A', v_P C nd g A e (m + 1) A' ∧ v_wc C nd g C.toNat which A = (1, A') ∧ r_mc C nd g (m + 1) which A A' ∧ A' 6 g = v_at C e m ∧ A' 9 (v_at C e m).toNat = A 9 (v_at C e m).toNat + A 8 (v_at C e m).toNat := by
  obtain ⟨A', hP, hU⟩ := v_unroll (A := A) (nd := nd) (g := g) h0 h1 hs m (by omega) hn
  have hnx := v_wh_nx h0 h1 hs m hm
  have hin := v_at_in h0 h1 hm
  have e9 : A' 9 (v_at C e m).toNat = A 9 (v_at C e m).toNat := (hP.2.1 _).2 (fun q => v_at_new h0 h1 hm q.2)
  have e8 : A' 8 (v_at C e m).toNat = A 8 (v_at C e m).toNat := hP.1 8 _ (by decide) (by omega)
  have e7 : A' 7 (v_at C e m).toNat = A 7 (v_at C e m).toNat := hP.1 7 _ (by decide) (by omega)
  obtain ⟨g1, g2, g3⟩ := hG
  refine ⟨v_vis nd g (v_at C e m) A', v_P_yes h0 h1 hm hP g1, ?_, ?_, ?_, ?_⟩
  · have := (hU (C.toNat - m)).1
    rw [show C.toNat - m + m = C.toNat by omega] at this
    rw [this, show C.toNat - m = (C.toNat - m - 1) + 1 by omega, v_wc_succ, hnx, e9, e8, e7, if_pos g1, if_neg g2, if_pos g3]
  · have := (hU 1).2 (v_vis nd g (v_at C e m) A')
    rw [Nat.add_comm 1 m] at this
    rw [this, r_mc_succ, hnx, e9, e8, e7, if_pos g1, if_pos ⟨g2, g3⟩]
  · unfold v_vis; rw [a_u_o (by decide), a_u_same]
  · unfold v_vis; rw [a_u_same, if_neg g2, e9, e8]
theorem v_none {C : Int} {nd : Nat → Int} {g : Nat} {A : Nat → Nat → Int} {e which : Int} (h0 : 0 ≤ e) (h1 : e ≤ C) (hC : 0 ≤ C) (hs : v_nx C which = v_at C e 0) (hn : ∀ i : Nat, (i : Int) < C → ¬ v_G nd g A (v_at C e i)) :
    ∃ A', v_P C nd g A e C.toNat A' ∧ v_wc C nd g C.toNat which A = (0, A') ∧ ∀ n B, r_mc C nd g (n + C.toNat) which A B = r_mc C nd g n (v_wh C e which C.toNat) A' B := by
  obtain ⟨A', hP, hU⟩ := v_unroll (A := A) (nd := nd) (g := g) h0 h1 hs C.toNat (by omega) (fun i hi => hn i (by omega))
  refine ⟨A', hP, ?_, fun n B => (hU n).2 B⟩
  have := (hU 0).1
  rw [Nat.zero_add] at this
  rw [this]; rfl
