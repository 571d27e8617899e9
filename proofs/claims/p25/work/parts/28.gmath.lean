/-! groups: the walk as the document tells it -/
def r_mg (nd gb : Nat → Int) : Nat → (Nat → Nat → Int) → (Nat → Nat → Int) → Prop
  | 0, _, _ => False
  | n + 1, A, B => if v_gn nd gb (v_nx (A 1 0) (A 0 4)) A ≠ 0 ∧ v_gn nd gb (v_nx (A 1 0) (A 0 4)) A ≤ A 5 (v_nx (A 1 0) (A 0 4)).toNat + A 4 (v_nx (A 1 0) (A 0 4)).toNat then B = v_gv nd gb (v_nx (A 1 0) (A 0 4)) A
      else r_mg nd gb n (v_gv nd gb (v_nx (A 1 0) (A 0 4)) A) B
theorem r_mg_succ (nd gb : Nat → Int) (n : Nat) (A B : Nat → Nat → Int) : r_mg nd gb (n + 1) A B = if v_gn nd gb (v_nx (A 1 0) (A 0 4)) A ≠ 0 ∧ v_gn nd gb (v_nx (A 1 0) (A 0 4)) A ≤ A 5 (v_nx (A 1 0) (A 0 4)).toNat + A 4 (v_nx (A 1 0) (A 0 4)).toNat then B = v_gv nd gb (v_nx (A 1 0) (A 0 4)) A
      else r_mg nd gb n (v_gv nd gb (v_nx (A 1 0) (A 0 4)) A) B := rfl
/-- what is seen of a group that was just visited -/
theorem v_gv_now {nd gb : Nat → Int} {A : Nat → Nat → Int} (h : g_J nd gb A) {g : Nat} (hw : (g : Int) < A 1 0) :
    (gb g = 0 → v_gn nd gb g A = 0 ∧ v_gv nd gb g A 5 g = 0) ∧ (gb g ≠ 0 → v_ok (A 2 0) nd g (v_gv nd gb g A) ∧ v_gn nd gb g A = nd (v_gv nd gb g A 6 g).toNat ∧ v_gn nd gb g A ≠ 0 ∧ v_gv nd gb g A 5 g = A 5 g + A 4 g) ∧
    (∀ j, A 7 j ≠ (g : Int) → v_gv nd gb g A 9 j = A 9 j) := by
  have h1 := g_J_u h 0 4 (g : Int) (Or.inl rfl)
  have h2 := v_la_props h1 (g := g) (by rw [a_u_o (by decide)]; omega)
  rw [a_u_o (show 2 ≠ 0 by decide)] at h2
  have e1 : v_gn nd gb g A = v_ln (A 2 0) nd (gb g) g (a_u A 0 4 (g : Int)) := by unfold v_gn; rw [Int.toNat_natCast]
  have e2 : v_gv nd gb g A = a_u (v_la (A 2 0) nd (gb g) g (a_u A 0 4 (g : Int))) 5 g (if v_gn nd gb g A = 0 then 0 else A 5 g + A 4 g) := by unfold v_gv; rw [Int.toNat_natCast]
  refine ⟨fun hz => ?_, fun hz => ?_, fun j hj => ?_⟩
  · have e3 : v_gn nd gb g A = 0 := by rw [e1]; unfold v_ln; rw [if_pos hz]
    exact ⟨e3, by rw [e2, a_u_same, if_pos e3]⟩
  · have hok := h2.2.2 hz
    have e3 : v_gn nd gb g A = nd (v_la (A 2 0) nd (gb g) g (a_u A 0 4 (g : Int)) 6 g).toNat := by rw [e1]; unfold v_ln; rw [if_neg hz]
    have e4 : v_gn nd gb g A ≠ 0 := by have := hok.2.1; omega
    refine ⟨?_, ?_, e4, ?_⟩
    · rw [e2]
      unfold v_ok
      rw [a_u_o (by decide), a_u_o (by decide)]
      exact hok
    · rw [e3, e2, a_u_o (by decide)]
    · rw [e2, a_u_same, if_neg e4]
  · rw [e2, a_u_o (by decide), h2.1.2 j (by rw [a_u_o (by decide)]; exact hj), a_u_o (by decide)]
def g_P (nd gb : Nat → Int) (A : Nat → Nat → Int) (e p : Int) (k : Nat) (T' A' : Nat → Nat → Int) : Prop :=
  g_J nd gb A' ∧ (∀ o j, o ≠ 9 → o ≠ 6 → o ≠ 5 → ¬ (o = 0 ∧ j = 4) → A' o j = A o j) ∧ A' 0 4 = v_wh (A 1 0) e p k ∧
  (∀ i : Nat, (i : Int) < A 1 0 → (v_seen (A 1 0) e k i → (gb i = 0 → A' 5 i = 0 ∧ T' 28 i = 0) ∧ (gb i ≠ 0 → v_ok (A 2 0) nd i A' ∧ A' 5 i = A 5 i + A 4 i ∧ A' 5 i < nd (A' 6 i).toNat ∧ T' 28 i = nd (A' 6 i).toNat)) ∧ (¬ v_seen (A 1 0) e k i → A' 5 i = A 5 i)) ∧
  ((∀ i : Nat, (i : Int) < A 1 0 → gb i ≠ 0 → v_ok (A 2 0) nd i A) → ∀ o j, o ≠ 5 → ¬ (o = 0 ∧ j = 4) → A' o j = A o j) ∧ ∀ j : Nat, A 1 0 ≤ (j : Int) → A' 5 j = A 5 j
/-- somebody is found, from a state in which the turns stand behind another -/
def g_F (nd gb : Nat → Int) (A B : Nat → Nat → Int) : Prop :=
  g_J nd gb B ∧ (∀ o j, o ≠ 9 → o ≠ 6 → o ≠ 5 → ¬ (o = 0 ∧ j = 4) → B o j = A o j) ∧ (0 ≤ B 0 4 ∧ B 0 4 < A 1 0) ∧ gb (B 0 4).toNat ≠ 0 ∧ v_ok (A 2 0) nd (B 0 4).toNat B ∧ nd (B 6 (B 0 4).toNat).toNat ≤ B 5 (B 0 4).toNat ∧
  (∀ i : Nat, (i : Int) < A 1 0 → -20000 ≤ B 5 i ∧ B 5 i ≤ 298 ∧ (B 0 4 ≠ (i : Int) → B 5 i ≤ 98)) ∧
  ((∀ i : Nat, (i : Int) < A 1 0 → gb i ≠ 0 → v_ok (A 2 0) nd i A) → ∀ o j, o ≠ 5 → ¬ (o = 0 ∧ j = 4) → B o j = A o j) ∧
  B 5 (B 0 4).toNat = A 5 (B 0 4).toNat + A 4 (B 0 4).toNat
theorem g_unroll {nd gb : Nat → Int} {T A : Nat → Nat → Int} {e : Int} (hJ : g_J nd gb A) (h98 : ∀ i : Nat, (i : Int) < A 1 0 → -20000 ≤ A 5 i ∧ A 5 i ≤ 98) (hnd : ∀ c, nd c ≤ 99) (h0 : 0 ≤ e) (h1 : e ≤ A 1 0) (hs : v_nx (A 1 0) (A 0 4) = v_at (A 1 0) e 0) : ∀ k : Nat, (k : Int) ≤ A 1 0 →
    (∃ B m, m ≤ k ∧ (v_wg nd gb (A 1 0).toNat T A).1 = 1 ∧ (v_wg nd gb (A 1 0).toNat T A).2.2 = B ∧ r_mg nd gb m A B ∧ g_F nd gb A B) ∨
    ∃ T' A', g_P nd gb A e (A 0 4) k T' A' ∧ (∀ c, T' 27 c = T 27 c) ∧ (∀ c, T' 29 c = T 29 c) ∧ ∀ n, v_wg nd gb (n + k) T A = v_wg nd gb n T' A' ∧ ∀ B, r_mg nd gb (n + k) A B = r_mg nd gb n A' B := by
  intro k
  induction k with
  | zero =>
    intro _
    refine Or.inr ⟨T, A, ⟨hJ, fun _ _ _ _ _ _ => rfl, rfl, fun i hi => ⟨fun h => ?_, fun _ => rfl⟩, fun _ _ _ _ _ => rfl, fun _ _ => rfl⟩, fun _ => rfl, fun _ => rfl, fun n => ⟨rfl, fun B => rfl⟩⟩
    unfold v_seen at h
    omega
  | succ k ih =>
    intro hk
    have hk' : (k : Int) < A 1 0 := by omega
    rcases ih (by omega) with ⟨B, m, h⟩ | ⟨T', A', hP, hT7, hT9, hU⟩
    · exact Or.inl ⟨B, m, by omega, h.2⟩
    · obtain ⟨p1, p2, p3, p4, p5, p6⟩ := hP
      have hnx := v_wh_nx h0 h1 hs k hk'
      have hin := v_at_in h0 h1 hk'
      have hnew := v_at_new h0 h1 hk'
      obtain ⟨g, hg⟩ : ∃ g : Nat, v_at (A 1 0) e k = (g : Int) := ⟨(v_at (A 1 0) e k).toNat, by omega⟩
      rw [hg] at hin hnx hnew
      simp only [Int.toNat_natCast] at hnew
      have a1 : A' 1 0 = A 1 0 := p2 1 0 (by decide) (by decide) (by decide) (by omega)
      have a2 : A' 2 0 = A 2 0 := p2 2 0 (by decide) (by decide) (by decide) (by omega)
      have a4 : ∀ j, A' 4 j = A 4 j := fun j => p2 4 j (by decide) (by decide) (by decide) (by omega)
      have hnx' : v_nx (A' 1 0) (A' 0 4) = (g : Int) := by rw [a1, p3]; exact hnx
      have hgG' : (g : Int) < A' 1 0 := by rw [a1]; exact hin.2
      obtain ⟨n1, n2, n3⟩ := v_gv_now p1 (g := g) hgG'
      obtain ⟨f1, f2⟩ := v_gv_fr p1 (w := (g : Int)) hin.1 hgG'
      have fJ := v_gv_J p1 (w := (g : Int)) hin.1 hgG'
      simp only [Int.toNat_natCast] at f1
      have hA5 : A' 5 g = A 5 g := (p4 g hin.2).2 hnew
      have h98g := h98 g hin.2
      have h4g := hJ.2.2.2.2 g hin.2
      have hU1 := hU 1
      have hset5 : (∀ i : Nat, (i : Int) < A 1 0 → gb i ≠ 0 → v_ok (A 2 0) nd i A) → ∀ o j, o ≠ 5 → ¬ (o = 0 ∧ j = 4) → v_gv nd gb (g : Int) A' o j = A o j := by
        intro hset o j q1 q2
        have p5' := p5 hset
        have hla : v_la (A' 2 0) nd (gb g) g (a_u A' 0 4 (g : Int)) = a_u A' 0 4 (g : Int) := by
          unfold v_la
          by_cases hz : gb g = 0
          · rw [if_pos hz]
          · rw [if_neg hz, if_pos]
            have hok := hset g hin.2 hz
            unfold v_ok at hok ⊢
            rw [a_u_o (show 6 ≠ 0 by decide), a_u_o (show 9 ≠ 0 by decide), p5' 6 g (by decide) (by omega), p5' 9 _ (by decide) (by omega), a2]
            exact hok
        have e2 : v_gv nd gb (g : Int) A' o j = a_u A' 0 4 (g : Int) o j := by
          unfold v_gv
          rw [Int.toNat_natCast, hla, a_u_o q1]
        rw [e2, a_u_ne q2]
        exact p5' o j q1 q2
      by_cases hf : v_gn nd gb (g : Int) A' ≠ 0 ∧ v_gn nd gb (g : Int) A' ≤ A' 5 g + A' 4 g
      · -- found
        have hgb : gb g ≠ 0 := fun q => hf.1 (n1 q).1
        obtain ⟨m1, m2, m3, m4⟩ := n2 hgb
        refine Or.inl ⟨v_gv nd gb (g : Int) A', k + 1, Nat.le_refl _, ?_, ?_, ?_, ?_⟩
        · have := (hU ((A 1 0).toNat - k)).1
          rw [show (A 1 0).toNat - k + k = (A 1 0).toNat by omega] at this
          rw [this, show (A 1 0).toNat - k = ((A 1 0).toNat - k - 1) + 1 by omega, v_wg_succ, hnx', if_neg hf.1, Int.toNat_natCast, if_pos hf.2]
        · have := (hU ((A 1 0).toNat - k)).1
          rw [show (A 1 0).toNat - k + k = (A 1 0).toNat by omega] at this
          rw [this, show (A 1 0).toNat - k = ((A 1 0).toNat - k - 1) + 1 by omega, v_wg_succ, hnx', if_neg hf.1, Int.toNat_natCast, if_pos hf.2]
        · rw [show k + 1 = 1 + k by omega, (hU 1).2, r_mg_succ, hnx', Int.toNat_natCast, if_pos hf]
        · refine ⟨fJ, fun o j q1 q2 q3 q4 => ?_, ?_, ?_, ?_, ?_, fun i hi => ?_, hset5, ?_⟩
          · rw [f1 o j q1 (fun q => q2 q.1) (fun q => q3 q.1) q4]; exact p2 o j q1 q2 q3 q4
          · rw [f2]; exact hin
          · rw [f2, Int.toNat_natCast]; exact hgb
          · rw [f2, Int.toNat_natCast, ← a2]; exact m1
          · rw [f2, Int.toNat_natCast, m4, ← m2]; exact hf.2
          · rw [f2]
            by_cases q : i = g
            · subst q
              rw [m4, hA5, a4]
              refine ⟨by omega, by omega, fun x => absurd rfl x⟩
            · rw [f1 5 i (by decide) (by omega) (by omega) (by omega)]
              have h98i := h98 i hi
              have h4i := hJ.2.2.2.2 i hi
              by_cases hsn : v_seen (A 1 0) e k i
              · have := (p4 i hi).1 hsn
                by_cases hz : gb i = 0
                · have := (this.1 hz).1; omega
                · have := this.2 hz
                  have := hnd (A' 6 i).toNat
                  omega
              · have := (p4 i hi).2 hsn; omega
          · rw [f2, Int.toNat_natCast, m4, hA5, a4]
      · refine Or.inr ⟨a_u T' 28 g (v_gn nd gb (g : Int) A'), v_gv nd gb (g : Int) A', ⟨fJ, fun o j q1 q2 q3 q4 => ?_, ?_, fun i hi => ⟨fun hsn => ?_, fun hsn => ?_⟩, fun hset o j q1 q2 => ?_, fun j hj => ?_⟩, fun c => by rw [a_u_o (by decide)]; exact hT7 c, fun c => by rw [a_u_o (by decide)]; exact hT9 c, fun n => ?_⟩
        · rw [f1 o j q1 (fun q => q2 q.1) (fun q => q3 q.1) q4]; exact p2 o j q1 q2 q3 q4
        · rw [f2]; exact hg.symm
        · by_cases q : i = g
          · subst q
            refine ⟨fun hz => ⟨(n1 hz).2, by rw [a_u_same]; exact (n1 hz).1⟩, fun hz => ?_⟩
            obtain ⟨m1, m2, m3, m4⟩ := n2 hz
            refine ⟨by rw [← a2]; exact m1, by rw [m4, hA5, a4], ?_, by rw [a_u_same]; exact m2⟩
            rw [m4, ← m2]
            omega
          · have hsn' : v_seen (A 1 0) e k i := by
              rcases (v_seen_succ h0 h1 hk').mp hsn with h | h
              · exact h
              · rw [hg] at h; omega
            have hpi := (p4 i hi).1 hsn'
            rw [f1 5 i (by decide) (by omega) (by omega) (by omega), a_u_j q]
            refine ⟨hpi.1, fun hz => ?_⟩
            have hpz := hpi.2 hz
            have e6 : v_gv nd gb (g : Int) A' 6 i = A' 6 i := f1 6 i (by decide) (by omega) (by omega) (by omega)
            have hHi := (p1.2.2.2.1 i (by omega) hz).1.2.1
            have hok := hpz.1
            unfold v_ok at hok
            have h7i : A' 7 (A' 6 i).toNat = (i : Int) := by rcases hHi with h | h; omega; exact h.2.2
            have e9 : v_gv nd gb (g : Int) A' 9 (A' 6 i).toNat = A' 9 (A' 6 i).toNat := n3 _ (by omega)
            refine ⟨?_, hpz.2.1, by rw [e6]; exact hpz.2.2.1, by rw [e6]; exact hpz.2.2.2⟩
            unfold v_ok
            rw [e6, e9]
            exact hok
        · have q : i ≠ g := by
            intro q
            refine hsn ((v_seen_succ h0 h1 hk').mpr (Or.inr ?_))
            rw [hg, q]
          rw [f1 5 i (by decide) (by omega) (by omega) (by omega)]
          exact (p4 i hi).2 (fun h => hsn ((v_seen_succ h0 h1 hk').mpr (Or.inl h)))
        · exact hset5 hset o j q1 q2
        · rw [f1 5 j (by decide) (by omega) (by omega) (by omega)]
          exact p6 j hj
        · obtain ⟨u1, u2⟩ := hU (n + 1)
          rw [show n + (k + 1) = n + 1 + k by omega]
          refine ⟨?_, fun B => ?_⟩
          · rw [u1, v_wg_succ, hnx', Int.toNat_natCast]
            by_cases hz : v_gn nd gb (g : Int) A' = 0
            · rw [if_pos hz]
            · rw [if_neg hz, if_neg (fun q => hf ⟨hz, q⟩)]
          · rw [u2, r_mg_succ, hnx', Int.toNat_natCast, if_neg hf]
