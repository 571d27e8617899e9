/-! the turns come to somebody, both ways -/
def g_T (nd gb : Nat → Int) (A B : Nat → Nat → Int) : Prop :=
  g_J nd gb B ∧ (∀ o j, o ≠ 9 → o ≠ 6 → o ≠ 5 → ¬ (o = 0 ∧ j = 4) → B o j = A o j) ∧ (0 ≤ B 0 4 ∧ B 0 4 < A 1 0) ∧ gb (B 0 4).toNat ≠ 0 ∧ v_ok (A 2 0) nd (B 0 4).toNat B ∧ nd (B 6 (B 0 4).toNat).toNat ≤ B 5 (B 0 4).toNat ∧
  ∀ i : Nat, (i : Int) < A 1 0 → -20000 ≤ B 5 i ∧ B 5 i ≤ 298 ∧ (B 0 4 ≠ (i : Int) → B 5 i ≤ 98)
theorem g_F_T {nd gb : Nat → Int} {A A1 B : Nat → Nat → Int} (h : g_F nd gb A1 B) (hf : ∀ o j, o ≠ 9 → o ≠ 6 → o ≠ 5 → ¬ (o = 0 ∧ j = 4) → A1 o j = A o j) : g_T nd gb A B := by
  obtain ⟨f1, f2, f3, f4, f5, f6, f7, -, -⟩ := h
  have e1 : A1 1 0 = A 1 0 := hf 1 0 (by decide) (by decide) (by decide) (by omega)
  have e2 : A1 2 0 = A 2 0 := hf 2 0 (by decide) (by decide) (by decide) (by omega)
  rw [e1] at f3 f7
  rw [e2] at f5
  exact ⟨f1, fun o j a b c d => by rw [f2 o j a b c d, hf o j a b c d], f3, f4, f5, f6, f7⟩
/-- what the contract of nextJob asks of the first walk, where it finds nobody -/
def g_W (nd gb : Nat → Int) (T T' A' : Nat → Nat → Int) : Prop :=
  g_J nd gb A' ∧ (∀ c, T' 27 c = T 27 c) ∧ (∀ c, T' 29 c = T 29 c) ∧ (0 ≤ A' 0 4 ∧ A' 0 4 < A' 1 0) ∧ (∀ i : Nat, (i : Int) < A' 1 0 → 0 ≤ T' 28 i ∧ T' 28 i ≤ 99) ∧ ∀ i : Nat, (i : Int) < A' 1 0 → -20000 ≤ A' 5 i ∧ A' 5 i ≤ 1000
set_option maxHeartbeats 4000000 in
theorem g_turn {nd gb : Nat → Int} {T A : Nat → Nat → Int} (hJ : g_J nd gb A) (hnd : ∀ c, nd c ≤ 99) (hp : A 0 4 = -5 ∨ (0 ≤ A 0 4 ∧ A 0 4 < A 1 0))
    (hd : ∀ i : Nat, (i : Int) < A 1 0 → (-20000 ≤ A 5 i ∧ A 5 i ≤ 298) ∧ (A 0 4 ≠ (i : Int) ∨ gb i = 0 → A 5 i ≤ 98)) (hb : ∃ i : Nat, (i : Int) < A 1 0 ∧ gb i ≠ 0) :
    g_T nd gb A (v_nt nd gb T A) ∧ (((v_pg nd gb A).1 ≠ 0 ∧ v_nt nd gb T A = (v_pg nd gb A).2) ∨ ((v_pg nd gb A).1 = 0 ∧ ∃ n, r_mg nd gb n (v_pg nd gb A).2 (v_nt nd gb T A))) ∧
    (g_J nd gb (v_pg nd gb A).2 ∧ ∀ o j, o ≠ 9 → o ≠ 6 → (v_pg nd gb A).2 o j = A o j) ∧
    ((v_pg nd gb A).1 = 0 → (v_wg nd gb (A 1 0).toNat T (v_pg nd gb A).2).1 = 0 → g_W nd gb T (v_wg nd gb (A 1 0).toNat T (v_pg nd gb A).2).2.1 (v_wg nd gb (A 1 0).toNat T (v_pg nd gb A).2).2.2 ∧ (v_wg nd gb (A 1 0).toNat T (v_pg nd gb A).2).2.2 1 0 = A 1 0) := by
  have hG := hJ.2.1
  -- the first look at the present group
  have hpg : g_J nd gb (v_pg nd gb A).2 ∧ (∀ o j, o ≠ 9 → o ≠ 6 → (v_pg nd gb A).2 o j = A o j) ∧
      (∀ i : Nat, A 0 4 = (i : Int) → (i : Int) < A 1 0 → gb i ≠ 0 → v_ok (A 2 0) nd i (v_pg nd gb A).2 ∧ (v_pg nd gb A).1 = z_b (0 < nd ((v_pg nd gb A).2 6 i).toNat ∧ nd ((v_pg nd gb A).2 6 i).toNat ≤ A 5 i)) ∧
      ((v_pg nd gb A).1 ≠ 0 → ∃ i : Nat, A 0 4 = (i : Int) ∧ (i : Int) < A 1 0 ∧ gb i ≠ 0) := by
    by_cases hv : 0 ≤ A 0 4 ∧ A 0 4 < A 1 0
    · obtain ⟨g, hg⟩ : ∃ g : Nat, A 0 4 = (g : Int) := ⟨(A 0 4).toNat, by omega⟩
      have e : v_pg nd gb A = (z_b (0 < v_ln (A 2 0) nd (gb g) g A ∧ v_ln (A 2 0) nd (gb g) g A ≤ A 5 g), v_la (A 2 0) nd (gb g) g A) := by
        unfold v_pg
        rw [if_pos hv, hg, Int.toNat_natCast]
      have hla := v_la_props hJ (g := g) (by omega)
      rw [e]
      refine ⟨hla.2.1, fun o j a b => hla.1.1 o j a (fun q => b q.1), fun i hi hiG hz => ?_, fun hne => ⟨g, hg, by omega, fun hz => ?_⟩⟩
      · have : i = g := by omega
        subst this
        refine ⟨hla.2.2 hz, ?_⟩
        have e2 : v_ln (A 2 0) nd (gb i) i A = nd (v_la (A 2 0) nd (gb i) i A 6 i).toNat := by unfold v_ln; rw [if_neg hz]
        dsimp only
        rw [e2]
      · refine hne (z_b_f (fun q => ?_))
        have e2 : v_ln (A 2 0) nd (gb g) g A = 0 := by unfold v_ln; rw [if_pos hz]
        rw [e2] at q
        omega
    · have e : v_pg nd gb A = (0, A) := by unfold v_pg; rw [if_neg hv]
      rw [e]
      exact ⟨hJ, fun _ _ _ _ => rfl, fun i hi hiG => absurd ⟨by omega, by omega⟩ hv, fun q => absurd rfl q⟩
  obtain ⟨g1, g2, g3, g4⟩ := hpg
  have hv1 : v_nt nd gb T A = if (v_pg nd gb A).1 ≠ 0 then (v_pg nd gb A).2 else _ := rfl
  by_cases hb1 : (v_pg nd gb A).1 ≠ 0
  · rw [if_pos hb1] at hv1
    rw [hv1]
    obtain ⟨i, hi, hiG, hz⟩ := g4 hb1
    obtain ⟨m1, m2⟩ := g3 i hi hiG hz
    refine ⟨⟨g1, fun o j a b c d => g2 o j a b, ?_, ?_, ?_, ?_, fun j hj => ?_⟩, Or.inl ⟨hb1, rfl⟩, ⟨g1, g2⟩, fun q => absurd q hb1⟩
    · rw [g2 0 4 (by decide) (by decide)]; omega
    · rw [g2 0 4 (by decide) (by decide), hi, Int.toNat_natCast]; exact hz
    · rw [g2 0 4 (by decide) (by decide), hi, Int.toNat_natCast]; exact m1
    · rw [g2 0 4 (by decide) (by decide), hi, Int.toNat_natCast, g2 5 i (by decide) (by decide)]
      rw [m2] at hb1
      exact Classical.byContradiction fun q => hb1 (z_b_f (fun x => q x.2))
    · rw [g2 0 4 (by decide) (by decide), g2 5 j (by decide) (by decide)]
      have := hd j hj
      exact ⟨this.1.1, this.1.2, fun q => this.2 (Or.inl q)⟩
  · rw [if_neg hb1] at hv1
    have hb0 : (v_pg nd gb A).1 = 0 := by omega
    generalize hA1 : (v_pg nd gb A).2 = A1 at *
    have a1 : A1 1 0 = A 1 0 := g2 1 0 (by decide) (by decide)
    have a2 : A1 2 0 = A 2 0 := g2 2 0 (by decide) (by decide)
    have a04 : A1 0 4 = A 0 4 := g2 0 4 (by decide) (by decide)
    have a5 : ∀ j, A1 5 j = A 5 j := fun j => g2 5 j (by decide) (by decide)
    have a4 : ∀ j, A1 4 j = A 4 j := fun j => g2 4 j (by decide) (by decide)
    have h98 : ∀ i : Nat, (i : Int) < A1 1 0 → -20000 ≤ A1 5 i ∧ A1 5 i ≤ 98 := fun i hi => by
      rw [a1] at hi
      rw [a5]
      have h := hd i hi
      by_cases q : A 0 4 = (i : Int)
      · by_cases hz : gb i = 0
        · exact ⟨h.1.1, h.2 (Or.inr hz)⟩
        · obtain ⟨m1, m2⟩ := g3 i q hi hz
          rw [hb0] at m2
          have m3 : ¬ (0 < nd (A1 6 i).toNat ∧ nd (A1 6 i).toNat ≤ A 5 i) := fun x => by rw [z_b_t x] at m2; exact absurd m2 (by decide)
          have m4 := m1.2.1
          have := hnd (A1 6 i).toNat
          omega
      · exact ⟨h.1.1, h.2 (Or.inl q)⟩
    obtain ⟨he0, he1, hes⟩ := v_e_in (C := A 1 0) (p := A 0 4) hp hG.1
    rcases g_unroll (T := T) (A := A1) (e := v_e (A 0 4)) g1 h98 hnd he0 (by rw [a1]; exact he1) (by rw [a1, a04]; exact hes) (A 1 0).toNat (by rw [a1]; omega) with ⟨B, m, -, w1, w2, hr, hF⟩ | ⟨T', A', hP, hT7, hT9, hU⟩
    · rw [a1] at w1 w2
      have e : v_nt nd gb T A = B := by rw [hv1, if_pos (by rw [w1]; decide)]; exact w2
      rw [e]
      refine ⟨g_F_T hF (fun o j a b c d => g2 o j a b), Or.inr ⟨hb0, m, hr⟩, ⟨g1, g2⟩, fun _ q => ?_⟩
      rw [w1] at q
      exact absurd q (by decide)
    · obtain ⟨p1, p2, p3, p4, p5, p6⟩ := hP
      rw [a1] at p3 p4 p6
      rw [a2] at p4
      have hw : v_wg nd gb (A 1 0).toNat T A1 = (0, T', A') := by
        have := (hU 0).1
        rw [Nat.zero_add] at this
        rw [this]; rfl
      have b1 : A' 1 0 = A 1 0 := by rw [p2 1 0 (by decide) (by decide) (by decide) (by omega), a1]
      have b2 : A' 2 0 = A 2 0 := by rw [p2 2 0 (by decide) (by decide) (by decide) (by omega), a2]
      have b4 : ∀ j, A' 4 j = A 4 j := fun j => by rw [p2 4 j (by decide) (by decide) (by decide) (by omega), a4]
      have hseen : ∀ i : Nat, (i : Int) < A 1 0 → (gb i = 0 → A' 5 i = 0 ∧ T' 28 i = 0) ∧ (gb i ≠ 0 → v_ok (A 2 0) nd i A' ∧ A' 5 i = A 5 i + A 4 i ∧ A' 5 i < nd (A' 6 i).toNat ∧ T' 28 i = nd (A' 6 i).toNat) := fun i hi => by
        have := (p4 i hi).1 ((v_seen_all he0 he1).mpr hi)
        rw [a5, a4] at this
        exact this
      have hp' : 0 ≤ A' 0 4 ∧ A' 0 4 < A 1 0 := by
        rw [p3]
        obtain ⟨k, hk⟩ : ∃ k : Nat, (A 1 0).toNat = k + 1 := ⟨(A 1 0).toNat - 1, by omega⟩
        rw [hk]
        exact v_at_in he0 he1 (by omega)
      have hS : ∀ i : Nat, (i : Int) < A' 1 0 → gb i ≠ 0 → v_ok (A' 2 0) nd i A' := fun i hi hz => by
        rw [b1] at hi; rw [b2]; exact ((hseen i hi).2 hz).1
      have hgn : ∀ i : Nat, (i : Int) < A' 1 0 → T' 28 i = if gb i = 0 then 0 else nd (A' 6 i).toNat := fun i hi => by
        rw [b1] at hi
        by_cases hz : gb i = 0
        · rw [if_pos hz]; exact ((hseen i hi).1 hz).2
        · rw [if_neg hz]; exact ((hseen i hi).2 hz).2.2.2
      have hz0 : ∀ i : Nat, (i : Int) < A' 1 0 → gb i = 0 → A' 5 i = 0 := fun i hi hz => by rw [b1] at hi; exact ((hseen i hi).1 hz).1
      have hlo : ∀ i : Nat, (i : Int) < A' 1 0 → -20000 ≤ A' 5 i ∧ A' 5 i ≤ 98 := fun i hi => by
        have hi' := hi
        rw [b1] at hi'
        by_cases hz : gb i = 0
        · rw [hz0 i hi hz]; omega
        · have h1 := (hseen i hi').2 hz
          have h2 := hnd (A' 6 i).toNat
          have h3 := hd i hi'
          have h4 := hJ.2.2.2.2 i hi'
          omega
      have hgpos : ∀ i : Nat, (i : Int) < A 1 0 → (0 < T' 28 i ↔ gb i ≠ 0) := fun i hi => by
        rw [hgn i (by rw [b1]; exact hi)]
        by_cases hz : gb i = 0
        · rw [if_pos hz]; exact ⟨fun q => by omega, fun q => absurd hz q⟩
        · rw [if_neg hz]; exact ⟨fun _ => hz, fun _ => ((hseen i hi).2 hz).1.2.1⟩
      -- the rounds
      obtain ⟨s1, s2, s3⟩ := v_srg_le (gn := T' 28) (A := A') (s_rg (A 1 0).toNat) 1000000
      have hmem : ∀ c : Nat, c ∈ s_rg (A 1 0).toNat ↔ (c : Int) < A 1 0 := fun c => by unfold s_rg; rw [List.mem_range'_1]; omega
      have hrb : ∀ c : Nat, (c : Int) < A 1 0 → gb c ≠ 0 → v_rb (T' 28 c) (A' 5 c) (A' 4 c) = (T' 28 c - 1 - A' 5 c) / A 4 c ∧ 0 ≤ T' 28 c - 1 - A' 5 c ∧ T' 28 c - 1 - A' 5 c ≤ 21000 := fun c hc hz => by
        have h1 := (hseen c hc).2 hz
        have h2 := hnd (A' 6 c).toNat
        have h3 := hlo c (by rw [b1]; exact hc)
        have h4 := hJ.2.2.2.2 c hc
        refine ⟨?_, by omega, by omega⟩
        unfold v_rb
        rw [b4, if_pos ⟨by omega, by omega⟩]
      generalize hrr : v_srg (T' 28) A' (s_rg (A 1 0).toNat) 1000000 = r at s1 s2 s3
      obtain ⟨jb, hjG, hjz⟩ := hb
      have hjr := s2 jb ((hmem jb).mpr hjG) ((hgpos jb hjG).mpr hjz)
      have hjrb := hrb jb hjG hjz
      have hjle := Int.ediv_le_self (A 4 jb) hjrb.2.1
      rw [hjrb.1] at hjr
      have hstar : ∃ c : Nat, (c : Int) < A 1 0 ∧ gb c ≠ 0 ∧ r = (T' 28 c - 1 - A' 5 c) / A 4 c := by
        rcases s3 with h | ⟨c, h1, h2, h3⟩
        · omega
        · have hc := (hmem c).mp h1
          have hz := (hgpos c hc).mp h2
          rw [(hrb c hc hz).1] at h3
          exact ⟨c, hc, hz, h3⟩
      obtain ⟨cs, hcs, hcsz, hcsr⟩ := hstar
      have hr0 : 0 ≤ r := by
        rw [hcsr]
        exact Int.ediv_nonneg (hrb cs hcs hcsz).2.1 (by have := hJ.2.2.2.2 cs hcs; omega)
      have hrle : ∀ c : Nat, (c : Int) < A 1 0 → gb c ≠ 0 → r * A 4 c ≤ T' 28 c - 1 - A' 5 c := fun c hc hz => by
        have h0 := hJ.2.2.2.2 c hc
        have h1 := s2 c ((hmem c).mpr hc) ((hgpos c hc).mpr hz)
        rw [(hrb c hc hz).1] at h1
        have h2 := Int.mul_le_mul_of_nonneg_right h1 (show 0 ≤ A 4 c by omega)
        have h3 := Int.ediv_mul_le (T' 28 c - 1 - A' 5 c) (show A 4 c ≠ 0 by omega)
        omega
      have k0 : ∀ (o j : Nat), o ≠ 5 → v_skg A' (T' 28) r (A 1 0).toNat o j = A' o j := fun o j q => v_skg_o q
      have k5 : ∀ i : Nat, (i : Int) < A 1 0 → gb i ≠ 0 → v_skg A' (T' 28) r (A 1 0).toNat 5 i = A' 5 i + r * A 4 i := fun i hi q => by
        unfold v_skg; rw [if_pos ⟨rfl, by omega, (hgpos i hi).mpr q⟩, b4]
      have k5z : ∀ i : Nat, (i : Int) < A 1 0 → gb i = 0 → v_skg A' (T' 28) r (A 1 0).toNat 5 i = A' 5 i := fun i hi q => by
        unfold v_skg; rw [if_neg (fun x => (hgpos i hi).mp x.2.2 q)]
      have hJ1 := g_J_skg (gn := T' 28) (r := r) (k := (A 1 0).toNat) p1
      have h98' : ∀ i : Nat, (i : Int) < (v_skg A' (T' 28) r (A 1 0).toNat) 1 0 → -20000 ≤ (v_skg A' (T' 28) r (A 1 0).toNat) 5 i ∧ (v_skg A' (T' 28) r (A 1 0).toNat) 5 i ≤ 98 := fun i hi => by
        rw [k0 1 0 (by decide), b1] at hi
        have h1 := hlo i (by rw [b1]; exact hi)
        by_cases q : gb i = 0
        · rw [k5z i hi q]; exact h1
        · rw [k5 i hi q]
          have h2 := hrle i hi q
          have h3 := (hseen i hi).2 q
          have h4 := hnd (A' 6 i).toNat
          have h5 := Int.mul_nonneg hr0 (show 0 ≤ A 4 i by have := hJ.2.2.2.2 i hi; omega)
          omega
      have hS1 : ∀ i : Nat, (i : Int) < (v_skg A' (T' 28) r (A 1 0).toNat) 1 0 → gb i ≠ 0 → v_ok ((v_skg A' (T' 28) r (A 1 0).toNat) 2 0) nd i (v_skg A' (T' 28) r (A 1 0).toNat) := fun i hi q => by
        unfold v_ok
        simp (disch := omega) only [k0] at hi ⊢
        exact hS i hi q
      obtain ⟨he0', he1', hes'⟩ := v_e_in (C := A 1 0) (p := A' 0 4) (Or.inr hp') hG.1
      have hgW : g_W nd gb T T' A' := ⟨p1, hT7, hT9, by rw [b1]; exact hp', fun i hi => by
        rw [hgn i hi]
        split
        · omega
        · rename_i q
          have := (hS i hi q).2.1
          have := hnd (A' 6 i).toNat
          omega, fun i hi => by have := hlo i hi; omega⟩
      rcases g_unroll (T := T') (A := v_skg A' (T' 28) r (A 1 0).toNat) (e := v_e (A' 0 4)) hJ1 h98' hnd he0' (by rw [k0 1 0 (by decide), b1]; exact he1') (by rw [k0 1 0 (by decide), b1, k0 0 4 (by decide)]; exact hes') (A 1 0).toNat (by rw [k0 1 0 (by decide), b1]; omega) with ⟨B, m, -, w1, w2, hr, hF⟩ | ⟨T'', A'', hP'', -, -, -⟩
      · rw [k0 1 0 (by decide), b1] at w1 w2
        have e : v_nt nd gb T A = B := by
          rw [hv1, if_neg (by rw [hw]; exact fun h => h rfl), hw]
          dsimp only
          rw [hrr]
          exact w2
        rw [e]
        have hrN : ((r.toNat : Nat) : Int) = r := Int.toNat_of_nonneg hr0
        obtain ⟨n', hn'⟩ := g_rounds (A := A') (B := B) (gn := T' 28) p1 hnd (by rw [b1]; exact hp') hS hgn hz0 (fun i hi => (hlo i hi).1) (r := r.toNat) (fun i hi hz => by
          rw [b1] at hi
          rw [hrN, b4]
          have := hrle i hi hz
          omega) r.toNat m (Nat.le_refl _) (by rw [hrN, b1]; exact hr)
        rw [Nat.sub_self, Int.natCast_zero, v_skg0] at hn'
        refine ⟨g_F_T hF (fun o j a b c d => by rw [k0 o j c, p2 o j a b c d, g2 o j a b]), Or.inr ⟨hb0, n' + (A 1 0).toNat, by rw [(hU n').2]; exact hn'⟩, ⟨g1, g2⟩, fun _ _ => ?_⟩
        rw [hw]
        exact ⟨hgW, b1⟩
      · exfalso
        obtain ⟨q1, q2, q3, q4, q5, q6⟩ := hP''
        have h1 := ((q4 cs (by rw [k0 1 0 (by decide), b1]; exact hcs)).1 (by rw [k0 1 0 (by decide), b1]; exact (v_seen_all he0' he1').mpr hcs)).2 hcsz
        have e6 := q5 hS1 6 cs (by decide) (by omega)
        rw [k0 6 _ (by decide)] at e6
        rw [e6, k5 cs hcs hcsz, k0 4 _ (by decide), b4] at h1
        have h2 := ((hseen cs hcs).2 hcsz).2.2.2
        have h3 := Int.lt_ediv_add_one_mul_self (T' 28 cs - 1 - A' 5 cs) (show 0 < A 4 cs by have := hJ.2.2.2.2 cs hcs; omega)
        rw [← hcsr, Int.add_mul, Int.one_mul] at h3
        omega
