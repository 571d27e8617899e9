/-! a state and a row of the model's -/
def e_W (A : Nat → Nat → Int) (ρ : Nat → Int) : Prop :=
  (ρ 0 = A 0 3 ∧ ρ 1 = A 1 0 ∧ ρ 2 = A 2 0 ∧ ρ 3 = A 3 0 ∧ ρ 4 = A 0 4 ∧ ρ 6 = A 0 7 ∧ ρ 7 = A 0 8) ∧
  (∀ g : Nat, (g : Int) < A 1 0 → ρ (8 + 4 * g) = A 4 g ∧ ρ (8 + 4 * g + 1) = A 5 g ∧ ρ (8 + 4 * g + 2) = A 6 g ∧ ρ (8 + 4 * g + 3) = s_sum (s_rg (A 2 0).toNat) (fun c => if A 7 c = (g : Int) then A 15 c else 0)) ∧
  (∀ c : Nat, (c : Int) < A 2 0 → (ρ (20 + 10 * c) = A 7 c ∧ ρ (20 + 10 * c + 1) = A 8 c ∧ ρ (20 + 10 * c + 2) = A 9 c ∧ ρ (20 + 10 * c + 3) = A 10 c ∧ ρ (20 + 10 * c + 4) = A 11 c) ∧ True ∧ ρ (20 + 10 * c + 6) = A 13 c ∧ ρ (20 + 10 * c + 8) = A 14 c ∧ ρ (20 + 10 * c + 9) = A 15 c) ∧
  ∀ j : Nat, (j : Int) < A 3 0 → ρ (100 + 7 * j) = A 16 j ∧ ρ (100 + 7 * j + 1) = A 17 j ∧ ρ (100 + 7 * j + 2) = A 18 j ∧ (ρ (100 + 7 * j + 3) = 0 ↔ A 19 j = -5) ∧ ρ (100 + 7 * j + 4) = A 19 j
def e_X (A : Nat → Nat → Int) (ρ : Nat → Int) : Prop :=
  ρ 5 = A 0 5 ∧ (∀ j : Nat, (j : Int) < A 3 0 → ρ (100 + 7 * j + 3) = a_stage A j ∧ ρ (100 + 7 * j + 5) = (if a_stage A j = 2 then A 19 j + A 17 j else -5) ∧ ρ (100 + 7 * j + 6) = (if a_stage A j = 0 then A 17 j else if a_stage A j = 1 then A 0 6 else 0)) ∧
  ∀ c : Nat, (c : Int) < A 2 0 → ρ (20 + 10 * c + 5) = A 12 c ∧ ρ (20 + 10 * c + 7) = s_sum (s_rg (A 3 0).toNat) (fun j => if A 16 j = (c : Int) ∧ a_stage A j = 2 then 1 else 0)
def e_l (A : Nat → Nat → Int) : List Nat := (s_rg (A 3 0).toNat).filter fun j => decide (A 19 j = -5)
/-- what holds of a state between calls, the service apart -/
def e_I (A : Nat → Nat → Int) (l : List Nat) : Prop :=
  i_G A ∧ i_J A ∧ i_C A ∧ i_K A ∧ c_WL A l ∧ i_D A l ∧ l = e_l A ∧ (∀ c : Nat, (c : Int) < A 2 0 → -99 * (A 3 0 - l.length) ≤ A 9 c) ∧ (∀ g : Nat, (g : Int) < A 1 0 → -99 * (A 3 0 - l.length) ≤ A 5 g) ∧ 0 ≤ A 0 8 ∧ A 0 8 + l.length ≤ A 3 0
theorem s_rg_mem {n j : Nat} : j ∈ s_rg n ↔ j < n := by
  unfold s_rg
  rw [List.mem_range'_1]
  omega
theorem e_l_mem {A : Nat → Nat → Int} {j : Nat} : j ∈ e_l A ↔ (j : Int) < A 3 0 ∧ A 19 j = -5 := by
  unfold e_l
  rw [List.mem_filter, s_rg_mem, decide_eq_true_iff]
  omega
theorem s_fst_filter (q : Nat → Bool) : ∀ (L : List Nat) (p : Nat → Prop) [DecidablePred p], s_fst (L.filter q) p = s_fst L (fun j => q j = true ∧ p j) := by
  intro L
  induction L with
  | nil => intro p _; rfl
  | cons j L ih =>
    intro p _
    rw [List.filter_cons, s_fst_cons, ← ih]
    by_cases hq : q j = true
    · rw [if_pos hq, s_fst_cons]
      by_cases hp : p j
      · rw [if_pos hp, if_pos ⟨hq, hp⟩]
      · rw [if_neg hp, if_neg (fun h => hp h.2)]
    · rw [if_neg hq, if_neg (fun h => hq h.1)]
theorem e_mI {A : Nat → Nat → Int} {ρ : Nat → Int} {l : List Nat} (hW : e_W A ρ) (hI : e_I A l) : m_I ρ := by
  obtain ⟨⟨w0, w1, w2, w3, w4, w6, w7⟩, wg, wc, wj⟩ := hW
  obtain ⟨iG, iJ, iC, iK, cW, -⟩ := hI
  obtain ⟨g1, g2, g3, g4⟩ := iG
  have c3 := cW.2.2.2.2
  refine ⟨by omega, by omega, by omega, by omega, fun j hj => ?_, fun c hc => ?_⟩
  · rw [w3] at hj
    have a := iJ j hj
    have b := wj j hj
    omega
  · rw [w2] at hc
    have a := iC c hc
    have b := wc c hc
    omega
theorem e_fo {A : Nat → Nat → Int} {ρ : Nat → Int} {l : List Nat} (hW : e_W A ρ) (hI : e_I A l) (c : Int) : m_fo ρ c = s_fst l (fun j => A 16 j = c) := by
  obtain ⟨⟨w0, w1, w2, w3, w4, w6, w7⟩, wg, wc, wj⟩ := hW
  obtain ⟨iG, iJ, iC, iK, cW, iD, el, -⟩ := hI
  rw [el]
  unfold m_fo e_l s_rg
  rw [s_fst_filter, w3]
  refine s_fst_congr _ _ _ fun j hj => ?_
  have hj' := s_rg_mem.mp hj
  have c3 := cW.2.2.2.2
  have b := wj j (by omega)
  rw [b.1, b.2.2.2.1, decide_eq_true_iff]
theorem e_old {A : Nat → Nat → Int} {ρ : Nat → Int} {l : List Nat} (hW : e_W A ρ) (hI : e_I A l) {j : Nat} (hj : (j : Int) < A 3 0) : m_old ρ j ↔ a_old A j := by
  obtain ⟨⟨w0, w1, w2, w3, w4, w6, w7⟩, wg, wc, wj⟩ := hW
  obtain ⟨iG, iJ, iC, -⟩ := hI
  have a := iJ j hj
  have b := wj j hj
  obtain ⟨k, hk⟩ : ∃ k : Nat, A 16 j = (k : Int) := ⟨(A 16 j).toNat, by omega⟩
  have ac := iC k (by omega)
  have bc := wc k (by omega)
  unfold m_old a_old
  rw [b.1, hk, Int.toNat_natCast, b.2.2.2.1, bc.2.2.1, w0, b.2.2.1]
  constructor
  · rintro ⟨q1, q2, q3⟩
    exact ⟨by omega, q1, q3⟩
  · rintro ⟨q1, q2, q3⟩
    exact ⟨q2, by omega, q3⟩
theorem e_firstOld {A : Nat → Nat → Int} {ρ : Nat → Int} {l : List Nat} (hW : e_W A ρ) (hI : e_I A l) : s_fst (List.range' 0 (ρ 3).toNat) (fun j => m_old ρ j) = s_fst l (fun j => a_old A j) := by
  have w3 := hW.1.2.2.2.1
  have el := hI.2.2.2.2.2.2.1
  have c3 := hI.2.2.2.2.1.2.2.2.2
  rw [el]
  unfold e_l s_rg
  rw [s_fst_filter, w3]
  refine s_fst_congr _ _ _ fun j hj => ?_
  have hj' := s_rg_mem.mp hj
  have hj2 : (j : Int) < A 3 0 := by omega
  rw [decide_eq_true_iff, ← e_old hW hI hj2]
  exact ⟨fun q => ⟨((hW.2.2.2 j hj2).2.2.2.1).mp q.1, q⟩, fun q => q.2⟩
theorem e_nd {A : Nat → Nat → Int} {l : List Nat} (c : Nat) : (s_fst l (fun j => A 16 j = (c : Int)) = -5 ∧ a_nd A l c = 0) ∨ ∃ j ∈ l, s_fst l (fun j => A 16 j = (c : Int)) = (j : Int) ∧ A 16 j = (c : Int) ∧ a_nd A l c = A 17 j := by
  induction l with
  | nil => exact Or.inl ⟨rfl, rfl⟩
  | cons j l ih =>
    rw [s_fst_cons, a_nd_cons]
    by_cases h : A 16 j = (c : Int)
    · rw [if_pos h, if_pos h]
      exact Or.inr ⟨j, List.mem_cons_self, rfl, h, rfl⟩
    · rw [if_neg h, if_neg h]
      rcases ih with q | ⟨k, q1, q2⟩
      · exact Or.inl q
      · exact Or.inr ⟨k, List.mem_cons_of_mem _ q1, q2⟩
theorem m_gs_ne (ρ : Nat → Int) (g : Int) : ∀ (L : List Nat) (is : Int), is = 0 ∨ is = 1 → (m_gs ρ g L is ≠ 0 ↔ is ≠ 0 ∨ ∃ c ∈ L, ρ (20 + 10 * c) = g ∧ 0 ≤ m_fo ρ c) := by
  intro L
  induction L with
  | nil => intro is h; show is ≠ 0 ↔ _; simp
  | cons c L ih =>
    intro is h
    rw [m_gs_cons, ih _ (by (repeat' split) <;> simp)]
    by_cases h0 : is = 0
    · rw [if_pos h0]
      by_cases hc : ρ (20 + 10 * c) = g ∧ 0 ≤ m_fo ρ c
      · rw [if_pos hc]
        exact ⟨fun _ => Or.inr ⟨c, List.mem_cons_self, hc⟩, fun _ => Or.inl (by decide)⟩
      · rw [if_neg hc]
        constructor
        · rintro (q | ⟨k, q1, q2⟩)
          · exact absurd rfl q
          · exact Or.inr ⟨k, List.mem_cons_of_mem _ q1, q2⟩
        · rintro (q | ⟨k, q1, q2⟩)
          · exact absurd h0 q
          · rcases List.mem_cons.mp q1 with rfl | q1
            · exact absurd q2 hc
            · exact Or.inr ⟨k, q1, q2⟩
    · rw [if_neg h0]
      exact ⟨fun _ => Or.inl h0, fun _ => Or.inl (by decide)⟩
theorem e_w {A : Nat → Nat → Int} {ρ : Nat → Int} {l : List Nat} (hW : e_W A ρ) (hI : e_I A l) : w_rel (a_nd A l) (a_gb A l) A ρ := by
  have hfo := e_fo hW hI
  obtain ⟨⟨w0, w1, w2, w3, w4, w6, w7⟩, wg, wc, wj⟩ := hW
  obtain ⟨iG, iJ, iC, iK, cW, iD, el, -⟩ := hI
  have c3 := cW.2.2.2.2
  have hz : ∀ j ∈ l, 1 ≤ A 17 j ∧ A 17 j ≤ 99 := fun j hj => (iJ j (cW.2.2.2.1 j hj)).2.1
  refine ⟨⟨w1, w2, w4, by omega, by omega⟩, fun g hg => ⟨(wg g hg).1, (wg g hg).2.1, (wg g hg).2.2.1⟩, fun c hc => ⟨(wc c hc).1.1, (wc c hc).1.2.1, (wc c hc).1.2.2.1⟩, fun c hc => ?_, fun g hg => ?_⟩
  · rw [hfo]
    rcases e_nd (A := A) (l := l) c with ⟨q1, q2⟩ | ⟨j, q0, q1, q2, q3⟩
    · rw [q1, q2]
      exact ⟨⟨fun h => absurd rfl h, fun h => absurd h (by decide)⟩, fun h => absurd h (by decide)⟩
    · have hj := cW.2.2.2.1 j q0
      have z := hz j q0
      rw [q1, q3, Int.toNat_natCast]
      exact ⟨⟨fun _ => by omega, fun _ => by omega⟩, fun _ => ⟨by omega, (wj j hj).2.1⟩⟩
  · rw [a_gb_ne]
    unfold m_gb
    rw [m_gs_ne _ _ _ _ (Or.inl rfl)]
    constructor
    · rintro ⟨j, hj, e⟩
      have a := iJ j (cW.2.2.2.1 j hj)
      obtain ⟨k, hk⟩ : ∃ k : Nat, A 16 j = (k : Int) := ⟨(A 16 j).toNat, by omega⟩
      refine Or.inr ⟨k, s_rg_mem.mpr (by omega), ?_, ?_⟩
      · rw [(wc k (by omega)).1.1, ← e]
        unfold a_gr
        rw [hk, Int.toNat_natCast]
      · rw [hfo]
        rcases s_fst_ge (l := l) (p := fun j => A 16 j = (k : Int)) with ⟨-, q⟩ | ⟨i, -, -, q⟩
        · exact absurd hk (q j hj)
        · rw [q]; omega
    · rintro (q | ⟨c, q1, q2, q3⟩)
      · exact absurd rfl q
      · have hc := s_rg_mem.mp q1
        rw [hfo] at q3
        rcases s_fst_ge (l := l) (p := fun j => A 16 j = (c : Int)) with ⟨q, -⟩ | ⟨i, h1, h2, -⟩
        · rw [q] at q3; exact absurd q3 (by decide)
        · refine ⟨i, h1, ?_⟩
          unfold a_gr
          rw [h2, Int.toNat_natCast, ← (wc c (by omega)).1.1]
          exact q2
theorem s_sum_filter (q : Nat → Bool) (f : Nat → Int) : ∀ L : List Nat, s_sum (L.filter q) f = s_sum L (fun j => if q j = true then f j else 0) := by
  intro L
  induction L with
  | nil => rfl
  | cons j L ih =>
    rw [List.filter_cons, s_sum_cons, ← ih]
    by_cases hq : q j = true
    · rw [if_pos hq, if_pos hq, s_sum_cons]
    · rw [if_neg hq, if_neg hq, Int.zero_add]
/-- jobs that wait, counted or their sizes -/
theorem e_cnt {A : Nat → Nat → Int} {ρ : Nat → Int} {l : List Nat} (hW : e_W A ρ) (hI : e_I A l) (c g z : Int) : s_sum (List.range' 0 (ρ 3).toNat) (m_cnt ρ c g z) = s_sum l (fun j => if (c < 0 ∨ A 16 j = c) ∧ (g < 0 ∨ a_gr A j = g) then (if z = 0 then 1 else A 17 j) else 0) := by
  obtain ⟨⟨w0, w1, w2, w3, w4, w6, w7⟩, wg, wc, wj⟩ := hW
  obtain ⟨iG, iJ, iC, iK, cW, iD, el, -⟩ := hI
  have c3 := cW.2.2.2.2
  rw [el]
  unfold e_l s_rg
  rw [s_sum_filter, w3]
  refine s_sum_congr fun j hj => ?_
  have hj' := s_rg_mem.mp hj
  have b := wj j (by omega)
  have a := iJ j (by omega)
  obtain ⟨k, hk⟩ : ∃ k : Nat, A 16 j = (k : Int) := ⟨(A 16 j).toNat, by omega⟩
  have bc := wc k (by omega)
  unfold m_cnt a_gr
  rw [b.1, hk, Int.toNat_natCast, bc.1.1, b.2.1]
  by_cases h : A 19 j = -5
  · rw [if_pos (decide_eq_true h)]
    by_cases h2 : (c < 0 ∨ (k : Int) = c) ∧ (g < 0 ∨ A 7 k = g)
    · rw [if_pos h2, if_pos ⟨b.2.2.2.1.mpr h, h2⟩]
    · rw [if_neg h2, if_neg (fun q => h2 q.2)]
  · rw [if_neg (fun q => h (of_decide_eq_true q)), if_neg (fun q => h (b.2.2.2.1.mp q.1))]
