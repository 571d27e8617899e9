/-! a job begins, both sides -/
theorem e_fo2 {A : Nat → Nat → Int} {ρ : Nat → Int} (hW : e_W A ρ) (h0 : 0 ≤ A 3 0) (c : Int) : m_fo ρ c = s_fst (e_l A) (fun j => A 16 j = c) := by
  obtain ⟨⟨w0, w1, w2, w3, w4, w6, w7⟩, wg, wc, wj⟩ := hW
  unfold m_fo e_l s_rg
  rw [s_fst_filter, w3]
  refine s_fst_congr _ _ _ fun j hj => ?_
  have hj' := s_rg_mem.mp hj
  have b := wj j (by omega)
  rw [b.1, b.2.2.2.1, decide_eq_true_iff]
theorem e_gb2 {A : Nat → Nat → Int} {ρ : Nat → Int} (hW : e_W A ρ) (h0 : 0 ≤ A 3 0) (hJ : ∀ j ∈ e_l A, 0 ≤ A 16 j ∧ A 16 j < A 2 0) (g : Nat) : m_gb ρ g ≠ 0 ↔ ∃ j ∈ e_l A, a_gr A j = (g : Int) := by
  have hfo := e_fo2 hW h0
  obtain ⟨⟨w0, w1, w2, w3, w4, w6, w7⟩, wg, wc, wj⟩ := hW
  unfold m_gb
  rw [m_gs_ne _ _ _ _ (Or.inl rfl)]
  constructor
  · rintro (q | ⟨c, q1, q2, q3⟩)
    · exact absurd rfl q
    · have hc := s_rg_mem.mp q1
      rw [hfo] at q3
      rcases s_fst_ge (l := e_l A) (p := fun j => A 16 j = (c : Int)) with ⟨q, -⟩ | ⟨i, h1, h2, -⟩
      · rw [q] at q3; exact absurd q3 (by decide)
      · refine ⟨i, h1, ?_⟩
        unfold a_gr
        rw [h2, Int.toNat_natCast, ← (wc c (by omega)).1.1]
        exact q2
  · rintro ⟨j, hj, e⟩
    have a := hJ j hj
    obtain ⟨k, hk⟩ : ∃ k : Nat, A 16 j = (k : Int) := ⟨(A 16 j).toNat, by omega⟩
    refine Or.inr ⟨k, s_rg_mem.mpr (by omega), ?_, ?_⟩
    · rw [(wc k (by omega)).1.1, ← e]
      unfold a_gr
      rw [hk, Int.toNat_natCast]
    · rw [hfo]
      rcases s_fst_ge (l := e_l A) (p := fun j => A 16 j = (k : Int)) with ⟨-, q⟩ | ⟨i, -, -, q⟩
      · exact absurd hk (q j hj)
      · rw [q]; omega
theorem s_sum_pos {l : List Nat} {p : Nat → Prop} [DecidablePred p] : 0 < s_sum l (fun j => if p j then 1 else 0) ↔ ∃ j ∈ l, p j := by
  induction l with
  | nil =>
    rw [s_sum_nil]
    exact ⟨fun h => absurd h (by decide), fun ⟨j, hj, _⟩ => absurd hj List.not_mem_nil⟩
  | cons j l ih =>
    have hb := (s_sum_bd (l := l) (f := fun j => if p j then 1 else 0) (b := 1) (fun j _ => by split <;> omega)).1
    rw [s_sum_cons]
    by_cases h : p j
    · rw [if_pos h]
      exact ⟨fun _ => ⟨j, List.mem_cons_self, h⟩, fun _ => by omega⟩
    · rw [if_neg h, Int.zero_add, ih]
      constructor
      · rintro ⟨k, hk, e⟩; exact ⟨k, List.mem_cons_of_mem _ hk, e⟩
      · rintro ⟨k, hk, e⟩
        rcases List.mem_cons.mp hk with rfl | hk
        · exact absurd e h
        · exact ⟨k, hk, e⟩
theorem s_fst_pos {l : List Nat} {p : Nat → Prop} [DecidablePred p] : 0 ≤ s_fst l p ↔ ∃ j ∈ l, p j := by
  rcases s_fst_ge (l := l) (p := p) with ⟨q, h⟩ | ⟨i, h1, h2, q⟩
  · rw [q]
    exact ⟨fun h => absurd h (by decide), fun ⟨j, hj, e⟩ => absurd e (h j hj)⟩
  · rw [q]
    exact ⟨fun _ => ⟨i, h1, h2⟩, fun _ => by omega⟩
/-- the cells that a beginning changes, in the model's order -/
def e_beg (A : Nat → Nat → Int) (l' : List Nat) (j : Nat) : Nat → Nat → Int :=
  a_u (a_u (a_u (a_u (a_beg0 A j) 19 j (A 0 3)) 14 (A 16 j).toNat (if A 14 (A 16 j).toNat < A 0 3 - A 18 j then A 0 3 - A 18 j else A 14 (A 16 j).toNat)) 9 (A 16 j).toNat (if 0 < s_sum l' (fun i => if A 16 i = A 16 j then 1 else 0) then A 9 (A 16 j).toNat - A 17 j else 0)) 5 (a_gr A j).toNat (if 0 < s_sum l' (fun i => if a_gr A i = a_gr A j then 1 else 0) then A 5 (a_gr A j).toNat - A 17 j else 0)
theorem a_u_ext {X Y : Nat → Nat → Int} {o i o' i' : Nat} {v : Int} (h : X o' i' = Y o' i') : a_u X o i v o' i' = a_u Y o i v o' i' := by
  unfold a_u
  rw [h]
theorem e_beg_o {A A' : Nat → Nat → Int} {l' : List Nat} {j : Nat} (h : a_e20 A' (a_beg A l' j)) (o i : Nat) (h1 : o ≠ 20) (h2 : ¬ (o = 0 ∧ (i = 5 ∨ i = 6))) (h3 : ¬ (o = 3 ∧ i = 5)) : A' o i = e_beg A l' j o i := by
  rw [h o i h1]
  unfold a_beg a_beg1 e_beg
  refine a_u_ext (a_u_ext (a_u_ext ?_))
  rw [a_u_ne (by omega), a_u_ne (by omega)]
  refine a_u_ext ?_
  rw [a_u_ne h3]
theorem k_beg {M : z_M} {A A' : Nat → Nat → Int} {ρ : Nat → Int} {l : List Nat} (hI : e_I A l) (hW : e_W A ρ) {j : Nat} (hj : j ∈ l) (hA : a_e20 A' (a_beg A (l.filter (q_ne j)) j)) :
    ∃ ρ', z_ex 96 60 [some (.inr (some (0, 30))), some (.inl (j : Int)), none, none, none, none] [] (z_mr M (if a_old A j then r_u ρ 7 (A 0 8 + 1) else ρ)) = some (some (.inl (j : Int)), z_mr M ρ') ∧ e_W A' ρ' ∧ ρ' 5 = (j : Int) ∧ ρ' (100 + 7 * j + 3) = 1 ∧
      ∀ i, ¬ (i = 5 ∨ i = 7 ∨ i = 100 + 7 * j + 3 ∨ i = 100 + 7 * j + 4 ∨ (20 ≤ i ∧ i < 100 ∧ (i % 10 = 2 ∨ i % 10 = 8)) ∨ (8 ≤ i ∧ i < 20 ∧ i % 4 = 1)) → ρ' i = ρ i := by
  obtain ⟨iG, iJ, iC, iK, cW, iD, el, c9, c5, c08, c08'⟩ := id hI
  have c3 := cW.2.2.2.2
  have hjn := cW.2.2.2.1 j hj
  have aj := iJ j hjn
  have h19 : A 19 j = -5 := by rw [el] at hj; exact (e_l_mem.mp hj).2
  obtain ⟨c, hc⟩ : ∃ c : Nat, A 16 j = (c : Int) := ⟨(A 16 j).toNat, by omega⟩
  have hc2 : (c : Int) < A 2 0 := by omega
  have ac := iC c hc2
  obtain ⟨g, hg⟩ : ∃ g : Nat, A 7 c = (g : Int) := ⟨(A 7 c).toNat, by omega⟩
  have hg1 : (g : Int) < A 1 0 := by omega
  have ag := iK g hg1
  have hgr : a_gr A j = (g : Int) := by unfold a_gr; rw [hc, Int.toNat_natCast, hg]
  obtain ⟨G1, G2, G3, G4⟩ := iG
  have hj200 : j < 200 := by omega
  have hc8 : c < 8 := by omega
  have hg3 : g < 3 := by omega
  -- the state in which the old ones are counted
  have hW0 : e_W (a_beg0 A j) (if a_old A j then r_u ρ 7 (A 0 8 + 1) else ρ) := by
    unfold a_beg0
    by_cases q : a_old A j
    · rw [if_pos q, if_pos q]
      exact e_W_u G1.2 G2.2 hW (o := 0) (i := 8) (Or.inl ⟨rfl, by omega⟩) (by omega)
    · rw [if_neg q, if_neg q]; exact hW
  have f0 : ∀ i, i ≠ 7 → (if a_old A j then r_u ρ 7 (A 0 8 + 1) else ρ) i = ρ i := fun i hi => by
    split
    · exact r_u_ne hi
    · rfl
  generalize (if a_old A j then r_u ρ 7 (A 0 8 + 1) else ρ) = σ at hW0 f0
  have b0 : ∀ o i, ¬ (o = 0 ∧ i = 8) → a_beg0 A j o i = A o i := fun o i h => a_beg0_o A j h
  have b10 : a_beg0 A j 1 0 = A 1 0 := b0 1 0 (by omega)
  have b20 : a_beg0 A j 2 0 = A 2 0 := b0 2 0 (by omega)
  have b30 : a_beg0 A j 3 0 = A 3 0 := b0 3 0 (by omega)
  have s16 := (hW0.2.2.2 j (by rw [b30]; exact hjn)).1
  have s7 := (hW0.2.2.1 c (by rw [b20]; exact hc2)).1.1
  rw [b0 16 j (by omega), hc] at s16
  rw [b0 7 c (by omega), hg] at s7
  have m1 := k_mb1 (M := M) hj200 hc8 s16 s7
  have t0 : σ 0 = A 0 3 := by rw [hW0.1.1]; exact b0 0 3 (by omega)
  rw [t0] at m1
  -- it waits no more
  have hW1 : e_W (a_u (a_beg0 A j) 19 j (A 0 3)) (r_u (r_u σ (100 + 7 * j + 3) 1) (100 + 7 * j + 4) (A 0 3)) := e_W_19 (by omega) (by omega) hW0 (by rw [b30]; exact hjn) (by omega)
  have f1 : ∀ i, i ≠ 7 → i ≠ 100 + 7 * j + 3 → i ≠ 100 + 7 * j + 4 → r_u (r_u σ (100 + 7 * j + 3) 1) (100 + 7 * j + 4) (A 0 3) i = ρ i := fun i a b d => by rw [r_u_ne d, r_u_ne b, f0 i a]
  have f13 : r_u (r_u σ (100 + 7 * j + 3) 1) (100 + 7 * j + 4) (A 0 3) (100 + 7 * j + 3) = 1 := by rw [r_u_ne (by omega), r_u_same]
  generalize r_u (r_u σ (100 + 7 * j + 3) 1) (100 + 7 * j + 4) (A 0 3) = r1 at m1 hW1 f1 f13
  have b1 : ∀ o i, ¬ (o = 0 ∧ i = 8) → o ≠ 19 → a_u (a_beg0 A j) 19 j (A 0 3) o i = A o i := fun o i a b => by rw [a_u_o b, b0 o i a]
  have b1l : e_l (a_u (a_beg0 A j) 19 j (A 0 3)) = l.filter (q_ne j) := by
    rw [el]
    unfold e_l
    rw [b1 3 0 (by omega) (by omega), List.filter_filter]
    refine List.filter_congr fun i _ => ?_
    rw [a_u_at]
    unfold q_ne
    by_cases q : i = j
    · rw [if_pos q, q]
      have : ¬ A 0 3 = -5 := by omega
      simp [this]
    · rw [if_neg q, b0 19 i (by omega)]
      have : ¬ ((i : Int) = (j : Int)) := by omega
      simp [this]
  generalize hA1 : a_u (a_beg0 A j) 19 j (A 0 3) = A1 at hW1 b1 b1l
  have q10 := b1 1 0 (by omega) (by omega)
  have q20 := b1 2 0 (by omega) (by omega)
  have q30 := b1 3 0 (by omega) (by omega)
  have w1j := hW1.2.2.2 j (by rw [q30]; exact hjn)
  have w1c := hW1.2.2.1 c (by rw [q20]; exact hc2)
  have w10 := hW1.1.1
  rw [b1 0 3 (by omega) (by omega)] at w10
  have e2 : r1 (100 + 7 * j + 2) = A 18 j := by rw [w1j.2.2.1, b1 18 j (by omega) (by omega)]
  have e8 : r1 (20 + 10 * c + 8) = A 14 c := by rw [w1c.2.2.2.1, b1 14 c (by omega) (by omega)]
  obtain ⟨l5, m2⟩ := k_mb2 (M := M) (r := r1) (j := j) (c := c) (g := g) hj200 hc8 (by omega) (by omega) (by omega)
  rw [e2, e8, w10] at m2
  -- the wait
  have hW2 : e_W A1 (r_u r1 5 (j : Int)) := e_W_congrR (by omega) (by omega) hW1 fun i a _ _ => r_u_ne a
  have hW3 : e_W (a_u A1 14 c (if A 14 c < A 0 3 - A 18 j then A 0 3 - A 18 j else A 14 c)) (r_u (r_u r1 5 (j : Int)) (20 + 10 * c + 8) (if A 14 c < A 0 3 - A 18 j then A 0 3 - A 18 j else A 14 c)) :=
    e_W_u (by omega) (by omega) hW2 (o := 14) (i := c) (Or.inr (Or.inr (Or.inr (Or.inl ⟨by omega, by omega⟩)))) (by omega)
  have f3 : ∀ i, i ≠ 7 → i ≠ 5 → i ≠ 100 + 7 * j + 3 → i ≠ 100 + 7 * j + 4 → i ≠ 20 + 10 * c + 8 → r_u (r_u r1 5 (j : Int)) (20 + 10 * c + 8) (if A 14 c < A 0 3 - A 18 j then A 0 3 - A 18 j else A 14 c) i = ρ i := fun i a b d e f => by rw [r_u_ne f, r_u_ne b, f1 i a d e]
  have f33 : r_u (r_u r1 5 (j : Int)) (20 + 10 * c + 8) (if A 14 c < A 0 3 - A 18 j then A 0 3 - A 18 j else A 14 c) (100 + 7 * j + 3) = 1 := by rw [r_u_ne (by omega), r_u_ne (by omega), f13]
  have f35 : r_u (r_u r1 5 (j : Int)) (20 + 10 * c + 8) (if A 14 c < A 0 3 - A 18 j then A 0 3 - A 18 j else A 14 c) 5 = (j : Int) := by rw [r_u_ne (by omega), r_u_same]
  generalize hv14 : (if A 14 c < A 0 3 - A 18 j then A 0 3 - A 18 j else A 14 c) = v14 at m2 hW3 f3 f33 f35
  generalize r_u (r_u r1 5 (j : Int)) (20 + 10 * c + 8) v14 = r3 at m2 hW3 f3 f33 f35
  have b3 : ∀ o i, ¬ (o = 0 ∧ i = 8) → o ≠ 19 → o ≠ 14 → a_u A1 14 c v14 o i = A o i := fun o i a b d => by rw [a_u_o d, b1 o i a b]
  have b3l : e_l (a_u A1 14 c v14) = l.filter (q_ne j) := by
    rw [← b1l]
    unfold e_l
    rw [a_u_o (by decide)]
    refine List.filter_congr fun i _ => ?_
    rw [a_u_o (by decide)]
  generalize hA3 : a_u A1 14 c v14 = A3 at hW3 b3 b3l
  have p10 := b3 1 0 (by omega) (by omega) (by omega)
  have p20 := b3 2 0 (by omega) (by omega) (by omega)
  have p30 := b3 3 0 (by omega) (by omega) (by omega)
  have w3j := hW3.2.2.2 j (by rw [p30]; exact hjn)
  have w3c := hW3.2.2.1 c (by rw [p20]; exact hc2)
  have w33 := hW3.1.2.2.2.1
  have e1 : r3 (100 + 7 * j + 1) = A 17 j := by rw [w3j.2.1, b3 17 j (by omega) (by omega) (by omega)]
  have e9 : r3 (20 + 10 * c + 2) = A 9 c := by rw [w3c.1.2.2.1, b3 9 c (by omega) (by omega) (by omega)]
  have m3 := k_mb3 (M := M) (r := r3) (j := j) (c := c) (g := g) (l5 := l5) hj200 hc8 (by omega) (by omega) (by omega)
  have hfo : m_fo r3 c = s_fst (l.filter (q_ne j)) (fun i => A 16 i = (c : Int)) := by
    rw [e_fo2 hW3 (by omega), b3l]
    exact s_fst_congr _ _ _ fun i _ => by rw [b3 16 i (by omega) (by omega) (by omega)]
  rw [e1, e9, hfo] at m3
  have hv9 : (if 0 ≤ s_fst (l.filter (q_ne j)) (fun i => A 16 i = (c : Int)) then A 9 c - A 17 j else 0) = if 0 < s_sum (l.filter (q_ne j)) (fun i => if A 16 i = A 16 j then 1 else 0) then A 9 c - A 17 j else 0 := by
    rw [hc]
    by_cases q : ∃ i ∈ l.filter (q_ne j), A 16 i = (c : Int)
    · rw [if_pos (s_fst_pos.mpr q), if_pos (s_sum_pos.mpr q)]
    · rw [if_neg (fun z => q (s_fst_pos.mp z)), if_neg (fun z => q (s_sum_pos.mp z))]
  rw [hv9] at m3
  generalize hv9' : (if 0 < s_sum (l.filter (q_ne j)) (fun i => if A 16 i = A 16 j then 1 else 0) then A 9 c - A 17 j else 0) = v9 at m3
  have hW4 : e_W (a_u A3 9 c v9) (r_u r3 (20 + 10 * c + 2) v9) := e_W_u (by omega) (by omega) hW3 (o := 9) (i := c) (Or.inr (Or.inr (Or.inr (Or.inl ⟨by omega, by omega⟩)))) (by omega)
  have f4 : ∀ i, i ≠ 7 → i ≠ 5 → i ≠ 100 + 7 * j + 3 → i ≠ 100 + 7 * j + 4 → i ≠ 20 + 10 * c + 8 → i ≠ 20 + 10 * c + 2 → r_u r3 (20 + 10 * c + 2) v9 i = ρ i := fun i a b d e f h => by rw [r_u_ne h, f3 i a b d e f]
  have f43 : r_u r3 (20 + 10 * c + 2) v9 (100 + 7 * j + 3) = 1 := by rw [r_u_ne (by omega), f33]
  have f45 : r_u r3 (20 + 10 * c + 2) v9 5 = (j : Int) := by rw [r_u_ne (by omega), f35]
  generalize r_u r3 (20 + 10 * c + 2) v9 = r4 at m3 hW4 f4 f43 f45
  have b4 : ∀ o i, ¬ (o = 0 ∧ i = 8) → o ≠ 19 → o ≠ 14 → o ≠ 9 → a_u A3 9 c v9 o i = A o i := fun o i a b d e => by rw [a_u_o e, b3 o i a b d]
  have b4l : e_l (a_u A3 9 c v9) = l.filter (q_ne j) := by
    rw [← b3l]
    unfold e_l
    rw [a_u_o (by decide)]
    refine List.filter_congr fun i _ => ?_
    rw [a_u_o (by decide)]
  generalize hA4 : a_u A3 9 c v9 = A4 at hW4 b4 b4l
  have s10 := b4 1 0 (by omega) (by omega) (by omega) (by omega)
  have s20 := b4 2 0 (by omega) (by omega) (by omega) (by omega)
  have s30 := b4 3 0 (by omega) (by omega) (by omega) (by omega)
  have w4j := hW4.2.2.2 j (by rw [s30]; exact hjn)
  have w4g := hW4.2.1 g (by rw [s10]; exact hg1)
  have w43 := hW4.1.2.2.2.1
  have w42 := hW4.1.2.2.1
  have e1' : r4 (100 + 7 * j + 1) = A 17 j := by rw [w4j.2.1, b4 17 j (by omega) (by omega) (by omega) (by omega)]
  have e5 : r4 (8 + 4 * g + 1) = A 5 g := by rw [w4g.2.1, b4 5 g (by omega) (by omega) (by omega) (by omega)]
  have m4 := k_mb4 (M := M) (r := r4) (j := j) (c := c) (g := g) (l5 := l5) hj200 hg3 (by omega) (by omega) (by omega) (by omega)
  have hgb : m_gb r4 g ≠ 0 ↔ ∃ i ∈ l.filter (q_ne j), a_gr A i = (g : Int) := by
    rw [e_gb2 hW4 (by omega) (fun i hi => by
      rw [b4l] at hi
      rw [b4 16 i (by omega) (by omega) (by omega) (by omega), s20]
      exact (iJ i (cW.2.2.2.1 i (List.mem_filter.mp hi).1)).1), b4l]
    have e : ∀ i, a_gr A4 i = a_gr A i := fun i => by
      unfold a_gr
      rw [b4 16 i (by omega) (by omega) (by omega) (by omega), b4 7 _ (by omega) (by omega) (by omega) (by omega)]
    simp only [e]
  have hv5 : (if m_gb r4 g ≠ 0 then A 5 g - A 17 j else 0) = if 0 < s_sum (l.filter (q_ne j)) (fun i => if a_gr A i = a_gr A j then 1 else 0) then A 5 g - A 17 j else 0 := by
    rw [hgr]
    by_cases q : ∃ i ∈ l.filter (q_ne j), a_gr A i = (g : Int)
    · rw [if_pos (hgb.mpr q), if_pos (s_sum_pos.mpr q)]
    · rw [if_neg (fun z => q (hgb.mp z)), if_neg (fun z => q (s_sum_pos.mp z))]
  rw [e1', e5, hv5] at m4
  generalize hv5' : (if 0 < s_sum (l.filter (q_ne j)) (fun i => if a_gr A i = a_gr A j then 1 else 0) then A 5 g - A 17 j else 0) = v5 at m4
  have hW5 : e_W (a_u A4 5 g v5) (r_u r4 (8 + 4 * g + 1) v5) := e_W_u (by omega) (by omega) hW4 (o := 5) (i := g) (Or.inr (Or.inr (Or.inl ⟨by omega, by omega⟩))) (by omega)
  have hA5 : a_u A4 5 g v5 = e_beg A (l.filter (q_ne j)) j := by
    unfold e_beg
    rw [← hA4, ← hA3, ← hA1, hc, hgr, Int.toNat_natCast, Int.toNat_natCast, hv14, ← hv9', ← hv5', hc, hgr]
  rw [hA5] at hW5
  refine ⟨r_u r4 (8 + 4 * g + 1) v5, by rw [m1, m2, m3, m4], e_W_congrA hW5 (fun o i a b d => e_beg_o hA o i a.1 b d), ?_, ?_, fun i hi => ?_⟩
  · rw [r_u_ne (by omega), f45]
  · rw [r_u_ne (by omega), f43]
  · rw [r_u_ne (by omega), f4 i (by omega) (by omega) (by omega) (by omega) (by omega) (by omega)]
