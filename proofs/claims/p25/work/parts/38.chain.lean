/-! the jobs that begin one after the other, if none come: a function of some cells alone -/
def p_t (A : Nat → Nat → Int) : Nat → Nat → Int := a_u A 0 3 (A 0 3 + A 0 6)
def p_c : Nat → (Nat → Nat → Int) → List Nat → (Nat → Nat → Int) × List Nat
  | 0, A, l => (A, l)
  | n + 1, A, l => p_c n (p_B (p_t A) l) (l.filter (q_ne (p_j (p_t A) l : Int)))
theorem p_c_0 (A : Nat → Nat → Int) (l : List Nat) : p_c 0 A l = (A, l) := rfl
theorem p_c_succ (n : Nat) (A : Nat → Nat → Int) (l : List Nat) : p_c (n + 1) A l = p_c n (p_B (p_t A) l) (l.filter (q_ne (p_j (p_t A) l : Int))) := rfl
/-- when each job begins -/
def p_F (A : Nat → Nat → Int) (l : List Nat) : Nat → Int := (p_c l.length A l).1 19
/-- who is the k-th to begin, and when -/
def p_o (k : Nat) (A : Nat → Nat → Int) (l : List Nat) : Nat := p_j (p_t (p_c k A l).1) (p_c k A l).2
def p_b (k : Nat) (A : Nat → Nat → Int) (l : List Nat) : Int := (p_c k A l).1 0 3 + (p_c k A l).1 0 6
def f_e2 (A A' : Nat → Nat → Int) : Prop := (∀ o j, f_S o j → ¬ (o = 0 ∧ j = 3) → A' o j = A o j) ∧ A' 0 3 + A' 0 6 = A 0 3 + A 0 6
theorem f_e2_rfl (A : Nat → Nat → Int) : f_e2 A A := ⟨fun _ _ _ _ => rfl, rfl⟩
theorem f_e2_t {A A' : Nat → Nat → Int} (h : f_e2 A A') : f_eq (p_t A) (p_t A') := by
  intro o j q
  unfold p_t
  rw [h.2]
  by_cases e : o = 0 ∧ j = 3
  · rw [e.1, e.2, a_u_same, a_u_same]
  · rw [a_u_ne e, a_u_ne e]; exact h.1 o j q e
theorem f_e2_of {A A' : Nat → Nat → Int} (h : f_eq A A') (h6 : A' 0 6 = A 0 6) : f_e2 A A' := ⟨fun o j q _ => h o j q, by rw [h 0 3 f_S03, h6]⟩
theorem f_e2_20 {A A' : Nat → Nat → Int} (h : a_e20 A' A) : f_e2 A A' := f_e2_of (fun o j q => h o j (fun e => f_S_n (o := o) (j := j) (by omega) q)) (h 0 6 (by decide))
theorem f_e2_trans {A B C : Nat → Nat → Int} (h : f_e2 A B) (k : f_e2 B C) : f_e2 A C := ⟨fun o j q e => (k.1 o j q e).trans (h.1 o j q e), k.2.trans h.2⟩
theorem f_e2_B {A A' : Nat → Nat → Int} (h : f_e2 A A') (l : List Nat) : p_j (p_t A') l = p_j (p_t A) l ∧ f_e2 (p_B (p_t A) l) (p_B (p_t A') l) := by
  have k := p_B_eq (f_e2_t h) l
  exact ⟨p_j_eq (f_e2_t h) l, f_e2_of k.1 k.2⟩
theorem p_c_eq : ∀ (n : Nat) (A A' : Nat → Nat → Int) (l : List Nat), f_e2 A A' → (p_c n A' l).2 = (p_c n A l).2 ∧ f_e2 (p_c n A l).1 (p_c n A' l).1 := by
  intro n
  induction n with
  | zero => intro A A' l h; exact ⟨rfl, h⟩
  | succ n ih =>
    intro A A' l h
    obtain ⟨a, b⟩ := f_e2_B h l
    rw [p_c_succ, p_c_succ, a]
    exact ih _ _ _ b
theorem p_o_eq {A A' : Nat → Nat → Int} (h : f_e2 A A') (k : Nat) (l : List Nat) : p_o k A' l = p_o k A l := by
  obtain ⟨a, b⟩ := p_c_eq k A A' l h
  unfold p_o
  rw [a]
  exact (f_e2_B b _).1
theorem p_b_eq {A A' : Nat → Nat → Int} (h : f_e2 A A') (k : Nat) (l : List Nat) : p_b k A' l = p_b k A l := (p_c_eq k A A' l h).2.2
theorem p_F_eq {A A' : Nat → Nat → Int} (h : f_e2 A A') (l : List Nat) : p_F A' l = p_F A l := by
  funext j
  exact (p_c_eq l.length A A' l h).2.1 19 j (f_S16 (by decide)) (by omega)
theorem p_t_idle {A : Nat → Nat → Int} (h : A 0 6 = 0) : p_t A = A := by
  unfold p_t
  rw [h, Int.add_zero, a_u_self]
/-- the line is in order -/
theorem e_l_pw (A : Nat → Nat → Int) : (e_l A).Pairwise (· < ·) := by
  unfold e_l s_rg
  exact List.Pairwise.filter _ List.pairwise_lt_range'
theorem f_len {A : Nat → Nat → Int} {l : List Nat} (hI : e_I A l) {j : Nat} (hj : j ∈ l) : l.length = (l.filter (q_ne (j : Int))).length + 1 := by
  have hnd : l.Nodup := by rw [hI.2.2.2.2.2.2.1]; exact (e_l_pw A).imp (fun h => Nat.ne_of_lt h)
  have e2 : l.filter (q_ne (j : Int)) = l.erase j := by
    rw [List.Nodup.erase_eq_filter hnd]
    refine List.filter_congr fun k _ => ?_
    unfold q_ne
    by_cases q : k = j
    · simp [q]
    · have : ¬ ((k : Int) = (j : Int)) := by omega
      simp [q, this]
  rw [e2, List.length_erase_of_mem hj]
  have := List.length_pos_iff.mpr (List.ne_nil_of_mem hj)
  omega
theorem s_fst_le {l : List Nat} {p : Nat → Prop} [DecidablePred p] (h : l.Pairwise (· < ·)) {k : Nat} (hk : k ∈ l) (hp : p k) : s_fst l p ≤ (k : Int) := by
  induction l with
  | nil => exact absurd hk List.not_mem_nil
  | cons j l ih =>
    rw [s_fst_cons]
    rcases List.mem_cons.mp hk with rfl | hk'
    · rw [if_pos hp]; exact Int.le_refl _
    · have hlt := (List.pairwise_cons.mp h).1 k hk'
      split
      · omega
      · exact ih (List.pairwise_cons.mp h).2 hk'
/-- a step of the chain, on a state of the class -/
theorem f_nextz {s : Fin 7} {M : z_M} {T A : Nat → Nat → Int} {l : List Nat} (hI : e_I A l) (hx : f_x A l) (hl : l ≠ []) (h6 : 0 ≤ A 0 6 ∧ A 0 6 ≤ 99) (ht : A 0 3 + 99 ≤ 30000) :
    ∃ T' A1 : Nat → Nat → Int, (z_ev 52 [.inr (some (0, 26)), .inr (some (s, 0))] (z_ur (z_ut M T) s (p_t A)) = some (some (.inl (p_j (p_t A) l : Int)), z_ur (z_ut M T') s (p_N (p_t A) l)) ∧
      z_ev 28 [.inr (some (s, 0)), .inl (p_j (p_t A) l : Int)] (z_ur (z_ut M T') s (p_N (p_t A) l)) = some (none, z_ur (z_ut M T') s A1)) ∧ p_j (p_t A) l ∈ l ∧ e_I A1 (l.filter (q_ne (p_j (p_t A) l : Int))) ∧ f_x A1 (l.filter (q_ne (p_j (p_t A) l : Int))) ∧ f_e2 (p_B (p_t A) l) A1 ∧
      (∀ i, A1 16 i = A 16 i) ∧ (∀ i, A1 17 i = A 17 i) ∧ (∀ i, A1 18 i = A 18 i) ∧ (∀ i, A1 13 i = A 13 i) ∧ A1 3 0 = A 3 0 ∧ A1 0 3 = A 0 3 + A 0 6 ∧ A1 0 6 = A 17 (p_j (p_t A) l) ∧ (∀ i, A1 19 i = if i = p_j (p_t A) l then A 0 3 + A 0 6 else A 19 i) ∧
      (s_fst l (fun j => a_old (p_t A) j) ≠ -5 → s_fst l (fun j => a_old (p_t A) j) = (p_j (p_t A) l : Int)) := by
  have hG := hI.1
  have hI1 : e_I (p_t A) l := e_I_time hI (by omega) (by omega)
  have eo : ∀ o i, o ≠ 0 → p_t A o i = A o i := fun o i q => a_u_o q
  have e3 : p_t A 0 3 = A 0 3 + A 0 6 := a_u_same _ _ _ _
  have hx1 : f_x (p_t A) l := by
    refine ⟨fun g hg hn => ?_, fun j hj hb => ?_⟩
    · rw [eo 1 0 (by decide)] at hg
      rw [eo 5 g (by decide)]
      exact hx.1 g hg fun j hj => by rw [← a_gr_c (A := A) (A' := p_t A) (fun i => eo 16 i (by decide)) (fun i => eo 7 i (by decide))]; exact hn j hj
    · rw [eo 3 0 (by decide)] at hj
      rw [eo 19 j (by decide)] at hb ⊢
      rw [eo 18 j (by decide)]
      exact hx.2 j hj hb
  obtain ⟨T', A1, hj, z1, z2, hI2, hx2, h20, o1, o19, o05, o06⟩ := f_step (s := s) (M := M) (T := T) hI1 hx1 hl
  obtain ⟨-, -, -, -, -, -, hold⟩ := f_turn (s := 2) (M := fun _ _ _ => 0) (T := fun _ _ => 0) hI1 hx1 hl
  refine ⟨T', A1, ⟨z1, z2⟩, hj, hI2, hx2, f_e2_20 h20, fun i => ?_, fun i => ?_, fun i => ?_, fun i => ?_, ?_, ?_, ?_, fun i => ?_, hold⟩
  · rw [o1 16 i (by omega), eo 16 i (by decide)]
  · rw [o1 17 i (by omega), eo 17 i (by decide)]
  · rw [o1 18 i (by omega), eo 18 i (by decide)]
  · rw [o1 13 i (by omega), eo 13 i (by decide)]
  · rw [o1 3 0 (by omega), eo 3 0 (by decide)]
  · rw [o1 0 3 (by omega), e3]
  · rw [o06, eo 17 _ (by decide)]
  · rw [o19, e3, eo 19 i (by decide)]
theorem f_next {A : Nat → Nat → Int} {l : List Nat} (hI : e_I A l) (hx : f_x A l) (hl : l ≠ []) (h6 : 0 ≤ A 0 6 ∧ A 0 6 ≤ 99) (ht : A 0 3 + 99 ≤ 30000) :
    ∃ A1 : Nat → Nat → Int, p_j (p_t A) l ∈ l ∧ e_I A1 (l.filter (q_ne (p_j (p_t A) l : Int))) ∧ f_x A1 (l.filter (q_ne (p_j (p_t A) l : Int))) ∧ f_e2 (p_B (p_t A) l) A1 ∧
      (∀ i, A1 16 i = A 16 i) ∧ (∀ i, A1 17 i = A 17 i) ∧ (∀ i, A1 18 i = A 18 i) ∧ (∀ i, A1 13 i = A 13 i) ∧ A1 3 0 = A 3 0 ∧ A1 0 3 = A 0 3 + A 0 6 ∧ A1 0 6 = A 17 (p_j (p_t A) l) ∧ (∀ i, A1 19 i = if i = p_j (p_t A) l then A 0 3 + A 0 6 else A 19 i) ∧
      (s_fst l (fun j => a_old (p_t A) j) ≠ -5 → s_fst l (fun j => a_old (p_t A) j) = (p_j (p_t A) l : Int)) := by
  obtain ⟨T', A1, -, h⟩ := f_nextz (s := 2) (M := fun _ _ _ => 0) (T := fun _ _ => 0) hI hx hl h6 ht
  exact ⟨A1, h⟩
theorem f_ln {l : List Nat} (h : 0 < l.length) : l ≠ [] := List.length_pos_iff.mp h
/-- jobs that don't wait keep their times -/
theorem p_c_out : ∀ (n : Nat) (A : Nat → Nat → Int) (l : List Nat), e_I A l → f_x A l → (0 ≤ A 0 6 ∧ A 0 6 ≤ 99) → n ≤ l.length → A 0 3 + 99 * (n + 1) ≤ 30000 → ∀ j, j ∉ l → (p_c n A l).1 19 j = A 19 j := by
  intro n
  induction n with
  | zero => intro A l _ _ _ _ _ j _; rfl
  | succ n ih =>
    intro A l hI hx h6 hn ht j hj
    simp only [Int.natCast_add, Int.natCast_one] at ht
    obtain ⟨A1, q1, q2, q3, q4, q16, q17, -, -, -, q03, q06, q19, -⟩ := f_next hI hx (f_ln (by omega)) h6 (by omega)
    have hjn := hI.2.2.2.2.1.2.2.2.1 _ q1
    have a := hI.2.1 _ hjn
    have len := f_len hI q1
    have k := ih A1 _ q2 q3 (by omega) (by omega) (by omega) j (fun z => hj (f_q_mem.mp z).1)
    rw [p_c_succ, ← (p_c_eq n _ _ _ q4).2.1 19 j (f_S16 (by decide)) (by omega), k, q19, if_neg (fun e => hj (by rw [e]; exact q1))]
/-- the k-th to begin waits, begins at its time, and the next one when it is done -/
theorem p_c_kth : ∀ (k : Nat) (A : Nat → Nat → Int) (l : List Nat), e_I A l → f_x A l → (0 ≤ A 0 6 ∧ A 0 6 ≤ 99) → k < l.length → A 0 3 + 99 * (l.length + 1) ≤ 30000 →
    p_o k A l ∈ l ∧ p_F A l (p_o k A l) = p_b k A l ∧ p_b (k + 1) A l = p_b k A l + A 17 (p_o k A l) := by
  intro k
  induction k with
  | zero =>
    intro A l hI hx h6 hk ht
    obtain ⟨A1, q1, q2, q3, q4, q16, q17, -, -, -, q03, q06, q19, -⟩ := f_next hI hx (f_ln hk) h6 (by omega)
    have hjn := hI.2.2.2.2.1.2.2.2.1 _ q1
    have a := hI.2.1 _ hjn
    have len := f_len hI q1
    have eo : p_o 0 A l = p_j (p_t A) l := rfl
    have eb : p_b 0 A l = A 0 3 + A 0 6 := rfl
    have eb1 : p_b 1 A l = p_b 0 A1 (l.filter (q_ne (p_j (p_t A) l : Int))) := (p_b_eq q4 0 _).symm
    rw [eo, eb]
    refine ⟨q1, ?_, ?_⟩
    · unfold p_F
      rw [len, p_c_succ, ← (p_c_eq _ _ _ _ q4).2.1 19 _ (f_S16 (by decide)) (by omega), p_c_out _ A1 _ q2 q3 (by omega) (Nat.le_refl _) (by omega) _ (fun z => (f_q_mem.mp z).2 rfl), q19, if_pos rfl]
    · rw [eb1]
      show A1 0 3 + A1 0 6 = _
      rw [q03, q06]
  | succ k ih =>
    intro A l hI hx h6 hk ht
    obtain ⟨A1, q1, q2, q3, q4, q16, q17, -, -, -, q03, q06, q19, -⟩ := f_next hI hx (f_ln (by omega)) h6 (by omega)
    have hjn := hI.2.2.2.2.1.2.2.2.1 _ q1
    have a := hI.2.1 _ hjn
    have len := f_len hI q1
    obtain ⟨i1, i2, i3⟩ := ih A1 _ q2 q3 (by omega) (by omega) (by omega)
    have eo : p_o (k + 1) A l = p_o k A1 (l.filter (q_ne (p_j (p_t A) l : Int))) := (p_o_eq q4 k _).symm
    have eb : p_b (k + 1) A l = p_b k A1 (l.filter (q_ne (p_j (p_t A) l : Int))) := (p_b_eq q4 k _).symm
    have eb1 : p_b (k + 1 + 1) A l = p_b (k + 1) A1 (l.filter (q_ne (p_j (p_t A) l : Int))) := (p_b_eq q4 (k + 1) _).symm
    have eF : p_F A l = p_F A1 (l.filter (q_ne (p_j (p_t A) l : Int))) := by
      rw [p_F_eq q4]
      unfold p_F
      rw [len, p_c_succ]
    rw [eo, eb, eb1, eF]
    exact ⟨(f_q_mem.mp i1).1, i2, by rw [i3, q17]⟩
/-- sizes of the jobs that wait ahead of a job -/
def p_ah (A : Nat → Nat → Int) (l : List Nat) (J : Nat) : Int := s_sum l (fun i => if i < J then A 17 i else 0)
theorem s_sum_erase {f : Nat → Int} {l : List Nat} {j : Nat} (hnd : l.Pairwise (· < ·)) (hj : j ∈ l) : s_sum l f = f j + s_sum (l.filter (q_ne (j : Int))) f := by
  induction l with
  | nil => exact absurd hj List.not_mem_nil
  | cons k l ih =>
    have hp := List.pairwise_cons.mp hnd
    rw [s_sum_cons, List.filter_cons]
    rcases List.mem_cons.mp hj with rfl | hj'
    · have e : q_ne (j : Int) j = false := by unfold q_ne; simp
      have e2 : l.filter (q_ne (j : Int)) = l := List.filter_eq_self.mpr fun i hi => by
        have := hp.1 i hi
        unfold q_ne
        rw [decide_eq_true_iff]; omega
      rw [e, if_neg (by decide), e2]
    · have e : q_ne (j : Int) k = true := by
        have := hp.1 j hj'
        unfold q_ne
        rw [decide_eq_true_iff]; omega
      rw [e, if_pos rfl, s_sum_cons, ih hp.2 hj']
      omega
/-- sure bounds -/
theorem p_bound : ∀ (n : Nat) (A : Nat → Nat → Int) (l : List Nat) (J : Nat) (K D : Int), e_I A l → f_x A l → (0 ≤ A 0 6 ∧ A 0 6 ≤ 99) → l.length = n → A 0 3 + 99 * (n + 1) ≤ 30000 → J ∈ l → A 13 (A 16 J).toNat ≠ 0 →
    A 18 J + A 13 (A 16 J).toNat ≤ D → A 0 3 + A 0 6 + p_ah A l J ≤ K → p_ah A l J + D + 98 ≤ K → p_F A l J ≤ K := by
  intro n
  induction n with
  | zero =>
    intro A l J K D _ _ _ hn _ hJ
    exact absurd (List.length_pos_iff.mpr (List.ne_nil_of_mem hJ)) (by omega)
  | succ n ih =>
    intro A l J K D hI hx h6 hn ht hJ hage hD hb hK
    simp only [Int.natCast_add, Int.natCast_one] at ht
    obtain ⟨A1, q1, q2, q3, q4, q16, q17, q18, q13, q30, q03, q06, q19, qold⟩ := f_next hI hx (f_ln (by omega)) h6 (by omega)
    have cW := hI.2.2.2.2.1
    have el := hI.2.2.2.2.2.2.1
    have pw : l.Pairwise (· < ·) := by rw [el]; exact e_l_pw A
    have hjn := cW.2.2.2.1 _ q1
    have a := hI.2.1 _ hjn
    have len := f_len hI q1
    have hz : ∀ i ∈ l, 1 ≤ A 17 i ∧ A 17 i ≤ 99 := fun i hi => (hI.2.1 i (cW.2.2.2.1 i hi)).2.1
    have eF : p_F A l = p_F A1 (l.filter (q_ne (p_j (p_t A) l : Int))) := by
      rw [p_F_eq q4]
      unfold p_F
      rw [len, p_c_succ]
    have eah : p_ah A1 (l.filter (q_ne (p_j (p_t A) l : Int))) J = s_sum (l.filter (q_ne (p_j (p_t A) l : Int))) (fun i => if i < J then A 17 i else 0) := s_sum_congr fun i _ => by rw [q17]
    have esum : p_ah A l J = (if p_j (p_t A) l < J then A 17 (p_j (p_t A) l) else 0) + p_ah A1 (l.filter (q_ne (p_j (p_t A) l : Int))) J := by
      rw [eah]
      exact s_sum_erase (f := fun i => if i < J then A 17 i else 0) pw q1
    have pos : 0 ≤ p_ah A1 (l.filter (q_ne (p_j (p_t A) l : Int))) J := by
      rw [eah]
      exact (s_sum_bd (b := 99) (fun i hi => by have := hz i (f_q_mem.mp hi).1; split <;> omega)).1
    by_cases e : J = p_j (p_t A) l
    · rw [eF]
      unfold p_F
      rw [p_c_out _ A1 _ q2 q3 (by omega) (Nat.le_refl _) (by omega) J (fun z => (f_q_mem.mp z).2 e), q19, if_pos e]
      split at esum <;> omega
    · rw [eF]
      have hJ1 : J ∈ l.filter (q_ne (p_j (p_t A) l : Int)) := f_q_mem.mpr ⟨hJ, e⟩
      have h19 : A 19 J = -5 := by
        rw [el] at hJ
        exact (e_l_mem.mp hJ).2
      refine ih A1 _ J K D q2 q3 (by omega) (by omega) (by omega) hJ1 (by rw [q13, q16]; exact hage) (by rw [q18, q13, q16]; exact hD) ?_ ?_
      · rw [q03, q06]
        by_cases ho : a_old (p_t A) J
        · have h1 := s_fst_le pw hJ ho
          have h2 : s_fst l (fun j => a_old (p_t A) j) ≠ -5 := by
            rcases s_fst_ge (l := l) (p := fun j => a_old (p_t A) j) with ⟨-, q⟩ | ⟨i, -, -, q⟩
            · exact absurd ho (q J hJ)
            · rw [q]; omega
          rw [qold h2] at h1
          rw [if_pos (by omega)] at esum
          omega
        · have hlt : A 0 3 + A 0 6 < A 18 J + A 13 (A 16 J).toNat := by
            unfold a_old at ho
            have e1 : ∀ o i, o ≠ 0 → p_t A o i = A o i := fun o i q => a_u_o q
            have e2 : p_t A 0 3 = A 0 3 + A 0 6 := a_u_same _ _ _ _
            rw [e1 16 J (by decide), e1 13 _ (by decide), e1 19 J (by decide), e1 18 J (by decide), e2] at ho
            refine Int.not_le.mp fun z => ho ⟨hage, h19, by omega⟩
          split at esum <;> omega
      · split at esum <;> omega
