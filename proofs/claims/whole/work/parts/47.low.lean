/-! the turns: what is owed stays in bounds, and groups with nobody waiting keep theirs -/
theorem r_mc_lo {C m : Int} {nd : Nat → Int} {g : Nat} (hm : m ≤ 0) (hC : 0 < C) : ∀ (n : Nat) (which : Int) (A B : Nat → Nat → Int), (∀ c : Nat, (c : Int) < C → 0 ≤ A 8 c) → (∀ c : Nat, (c : Int) < C → m ≤ A 9 c) → r_mc C nd g n which A B → ∀ c : Nat, (c : Int) < C → m ≤ B 9 c := by
  intro n
  induction n with
  | zero => intro which A B _ _ h; exact absurd h id
  | succ n ih =>
    intro which A B h8 h9 h
    rw [r_mc_succ] at h
    have hin := v_nx_in (C := C) (which := which) hC
    have v8 : ∀ c : Nat, (c : Int) < C → 0 ≤ v_vis nd g (v_nx C which) A 8 c := fun c hc => by
      unfold v_vis; rw [a_u_o (by decide), a_u_o (by decide)]; exact h8 c hc
    have v9 : ∀ c : Nat, (c : Int) < C → m ≤ v_vis nd g (v_nx C which) A 9 c := fun c hc => by
      have a := h8 (v_nx C which).toNat (by omega)
      have b := h9 (v_nx C which).toNat (by omega)
      have d := h9 c hc
      unfold v_vis
      rw [a_u_at, a_u_o (show 9 ≠ 6 by decide)]
      split
      · split <;> omega
      · exact d
    by_cases h7 : A 7 (v_nx C which).toNat = (g : Int)
    · rw [if_pos h7] at h
      by_cases hq : nd (v_nx C which).toNat ≠ 0 ∧ nd (v_nx C which).toNat ≤ A 9 (v_nx C which).toNat + A 8 (v_nx C which).toNat
      · rw [if_pos hq] at h
        rw [h]; exact v9
      · rw [if_neg hq] at h
        exact ih _ _ B v8 v9 h
    · rw [if_neg h7] at h
      exact ih _ A B h8 h9 h
def h_K (m : Int) (gb : Nat → Int) (A0 A : Nat → Nat → Int) : Prop :=
  (∀ c : Nat, (c : Int) < A 2 0 → m ≤ A 9 c) ∧ (∀ g : Nat, (g : Int) < A 1 0 → m ≤ A 5 g) ∧ (∀ g : Nat, gb g = 0 → A 6 g = A0 6 g ∧ ∀ c : Nat, A0 7 c = (g : Int) → A 9 c = A0 9 c) ∧ ∀ j, A 7 j = A0 7 j
theorem h_K_la {m : Int} {nd gb : Nat → Int} {A0 A : Nat → Nat → Int} (hm : m ≤ 0) (hJ : g_J nd gb A) {w : Nat} (hw : (w : Int) < A 1 0) (h : h_K m gb A0 A) : h_K m gb A0 (v_la (A 2 0) nd (gb w) w A) := by
  by_cases hz : gb w = 0
  · have e : v_la (A 2 0) nd (gb w) w A = A := by unfold v_la; rw [if_pos hz]
    rw [e]; exact h
  · obtain ⟨hH, hbu⟩ := hJ.2.2.2.1 w hw hz
    by_cases hok : v_ok (A 2 0) nd w A
    · have e : v_la (A 2 0) nd (gb w) w A = A := by unfold v_la; rw [if_neg hz, if_pos hok]
      rw [e]; exact h
    · have e : v_la (A 2 0) nd (gb w) w A = v_la1 (A 2 0) nd w A := by unfold v_la; rw [if_neg hz, if_neg hok]
      obtain ⟨⟨n, hn⟩, -, hfr, -⟩ := v_look hJ.1.1 hH hok hbu
      rw [e]
      obtain ⟨a, b, c, d⟩ := h
      have lo := r_mc_lo hm hJ.1.1 n _ A _ (fun c hc => by have := (hH.1 c hc).1; omega) a hn
      have f2 : v_la1 (A 2 0) nd w A 2 0 = A 2 0 := hfr.1 2 0 (by decide) (by omega)
      have f1 : v_la1 (A 2 0) nd w A 1 0 = A 1 0 := hfr.1 1 0 (by decide) (by omega)
      refine ⟨fun c hc => lo c (by rw [f2] at hc; exact hc), fun g hg => ?_, fun g hg => ?_, fun j => ?_⟩
      · rw [hfr.1 5 g (by decide) (by omega)]
        rw [f1] at hg
        exact b g hg
      · have hne : g ≠ w := fun q => hz (by rw [← q]; exact hg)
        rw [hfr.1 6 g (by decide) (by omega)]
        refine ⟨(c g hg).1, fun k hk => ?_⟩
        rw [hfr.2 k (by rw [d]; omega)]
        exact (c g hg).2 k hk
      · rw [hfr.1 7 j (by decide) (by omega)]; exact d j
theorem h_K_04 {m : Int} {gb : Nat → Int} {A0 A : Nat → Nat → Int} (h : h_K m gb A0 A) (v : Int) : h_K m gb A0 (a_u A 0 4 v) := by
  have e : ∀ o i, o ≠ 0 → a_u A 0 4 v o i = A o i := fun o i a => a_u_o a
  unfold h_K at *
  simp (disch := omega) only [e]
  exact h
theorem h_K_gv {m : Int} {nd gb : Nat → Int} {A0 A : Nat → Nat → Int} (hm : m ≤ 0) (hJ : g_J nd gb A) {w : Nat} (hw : (w : Int) < A 1 0) (h : h_K m gb A0 A) : h_K m gb A0 (v_gv nd gb (w : Int) A) := by
  have h1 := g_J_u hJ 0 4 (w : Int) (Or.inl rfl)
  have h2 := h_K_la hm h1 (w := w) (by rw [a_u_o (by decide)]; exact hw) (h_K_04 h (w : Int))
  have h3 := (v_la_props h1 (g := w) (by rw [a_u_o (by decide)]; exact hw)).1
  rw [a_u_o (show 2 ≠ 0 by decide)] at h2 h3
  have f1 : v_la (A 2 0) nd (gb w) w (a_u A 0 4 (w : Int)) 1 0 = A 1 0 := by rw [h3.1 1 0 (by decide) (by omega), a_u_o (by decide)]
  have hA5 := h.2.1 w hw
  have hA4 := hJ.2.2.2.2 w hw
  unfold v_gv
  rw [Int.toNat_natCast]
  generalize v_la (A 2 0) nd (gb w) w (a_u A 0 4 (w : Int)) = B at *
  obtain ⟨a, b, c, d⟩ := h2
  have e : ∀ (v : Int) o i, o ≠ 5 → a_u B 5 w v o i = B o i := fun v o i q => a_u_o q
  refine ⟨fun c hc => ?_, fun g hg => ?_, fun g hg => ?_, fun j => ?_⟩
  · rw [e _ _ _ (by decide)] at hc
    rw [e _ _ _ (by decide)]; exact a c hc
  · rw [e _ _ _ (by decide)] at hg
    rw [a_u_at]
    split
    · split <;> omega
    · exact b g hg
  · rw [e _ _ _ (by decide)]
    refine ⟨(c g hg).1, fun k hk => ?_⟩
    rw [e _ _ _ (by decide)]
    exact (c g hg).2 k hk
  · rw [e _ _ _ (by decide)]; exact d j
theorem h_K_mg {m : Int} {nd gb : Nat → Int} {A0 B : Nat → Nat → Int} (hm : m ≤ 0) : ∀ (n : Nat) (A : Nat → Nat → Int), g_J nd gb A → h_K m gb A0 A → r_mg nd gb n A B → h_K m gb A0 B := by
  intro n
  induction n with
  | zero => intro A _ _ h; exact absurd h id
  | succ n ih =>
    intro A hJ h hr
    have hin := v_nx_in (C := A 1 0) (which := A 0 4) hJ.2.1.1
    rw [r_mg_succ] at hr
    obtain ⟨w, hw⟩ : ∃ w : Nat, v_nx (A 1 0) (A 0 4) = (w : Int) := ⟨(v_nx (A 1 0) (A 0 4)).toNat, by omega⟩
    rw [hw] at hr hin
    have h' := h_K_gv hm hJ hin.2 h
    split at hr
    · rw [hr]; exact h'
    · exact ih _ (v_gv_J hJ hin.1 hin.2) h' hr
theorem h_K_pg {m : Int} {nd gb : Nat → Int} {A0 A : Nat → Nat → Int} (hm : m ≤ 0) (hJ : g_J nd gb A) (h : h_K m gb A0 A) : h_K m gb A0 (v_pg nd gb A).2 := by
  unfold v_pg
  split
  · rename_i q
    exact h_K_la hm hJ (w := (A 0 4).toNat) (by omega) h
  · exact h
