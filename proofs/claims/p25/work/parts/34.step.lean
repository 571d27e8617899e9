/-! the next job comes and begins: a function of some cells alone -/
def f_S (o j : Nat) : Prop := p_S o j ∨ (o = 0 ∧ j = 3) ∨ (o = 3 ∧ j = 0) ∨ o = 13 ∨ (16 ≤ o ∧ o ≤ 19)
def f_eq (A A' : Nat → Nat → Int) : Prop := ∀ o j, f_S o j → A' o j = A o j
theorem f_eq_rfl (A : Nat → Nat → Int) : f_eq A A := fun _ _ _ => rfl
theorem f_eq_u {A A' : Nat → Nat → Int} (h : f_eq A A') (o j : Nat) (v : Int) : f_eq (a_u A o j v) (a_u A' o j v) := by
  intro o' j' q
  unfold a_u
  split
  · rfl
  · exact h o' j' q
theorem f_eq_o {A A' : Nat → Nat → Int} (h : f_eq A A') {o j : Nat} (n : ¬ f_S o j) (v v' : Int) : f_eq (a_u A o j v) (a_u A' o j v') := by
  intro o' j' q
  have e : ¬ (o' = o ∧ j' = j) := fun e => n (by rw [← e.1, ← e.2]; exact q)
  rw [a_u_ne e, a_u_ne e]
  exact h o' j' q
theorem f_S16 {o j : Nat} (h : 16 ≤ o ∧ o ≤ 19) : f_S o j := Or.inr (Or.inr (Or.inr (Or.inr h)))
theorem f_S13 {j : Nat} : f_S 13 j := Or.inr (Or.inr (Or.inr (Or.inl rfl)))
theorem f_S4 {o j : Nat} (h : 4 ≤ o ∧ o ≤ 9) : f_S o j := Or.inl (Or.inr (Or.inr (Or.inr h)))
theorem f_S03 : f_S 0 3 := Or.inr (Or.inl ⟨rfl, rfl⟩)
theorem f_S04 : f_S 0 4 := Or.inl (Or.inl ⟨rfl, rfl⟩)
theorem f_S1 {j : Nat} : f_S 1 j := Or.inl (Or.inr (Or.inl rfl))
theorem f_S2 {j : Nat} : f_S 2 j := Or.inl (Or.inr (Or.inr (Or.inl rfl)))
theorem f_S30 : f_S 3 0 := Or.inr (Or.inr (Or.inl ⟨rfl, rfl⟩))
theorem f_S_n {o j : Nat} (h : (o = 0 ∧ j ≠ 3 ∧ j ≠ 4) ∨ (o = 3 ∧ j ≠ 0) ∨ (10 ≤ o ∧ o ≤ 12) ∨ o = 14 ∨ o = 15 ∨ 20 ≤ o) : ¬ f_S o j := by
  unfold f_S p_S
  omega
theorem a_nd_c {A A' : Nat → Nat → Int} {l : List Nat} (h16 : ∀ j, A' 16 j = A 16 j) (h17 : ∀ j, A' 17 j = A 17 j) : a_nd A' l = a_nd A l := by
  funext c
  induction l with
  | nil => rfl
  | cons j l ih => rw [a_nd_cons, a_nd_cons, h16, h17, ih]
theorem a_gr_c {A A' : Nat → Nat → Int} (h16 : ∀ j, A' 16 j = A 16 j) (h7 : ∀ j, A' 7 j = A 7 j) (j : Nat) : a_gr A' j = a_gr A j := by unfold a_gr; rw [h16, h7]
theorem a_gb_c {A A' : Nat → Nat → Int} {l : List Nat} (h : ∀ j, a_gr A' j = a_gr A j) : a_gb A' l = a_gb A l := by
  funext c
  induction l with
  | nil => rfl
  | cons j l ih => rw [a_gb_cons, a_gb_cons, h, ih]
theorem a_old_c {A A' : Nat → Nat → Int} (h : f_eq A A') (j : Nat) : a_old A' j ↔ a_old A j := by
  unfold a_old
  rw [h 13 _ f_S13, h 19 _ (f_S16 (by decide)), h 0 3 f_S03, h 18 _ (f_S16 (by decide)), h 16 _ (f_S16 (by decide))]
theorem f_old_fst {A A' : Nat → Nat → Int} (h : f_eq A A') (l : List Nat) : s_fst l (fun j => a_old A' j) = s_fst l (fun j => a_old A j) := s_fst_congr _ _ _ fun j _ => a_old_c h j
def p_N (A : Nat → Nat → Int) (l : List Nat) : Nat → Nat → Int := if s_fst l (fun j => a_old A j) = -5 then v_nt (a_nd A l) (a_gb A l) (fun _ _ => 0) A else A
def p_j (A : Nat → Nat → Int) (l : List Nat) : Nat := (if s_fst l (fun j => a_old A j) = -5 then s_fst l (fun j => A 16 j = p_N A l 6 (p_N A l 0 4).toNat) else s_fst l (fun j => a_old A j)).toNat
def p_B (A : Nat → Nat → Int) (l : List Nat) : Nat → Nat → Int := a_beg (p_N A l) (l.filter (q_ne (p_j A l : Int))) (p_j A l)
theorem p_N_eq {A A' : Nat → Nat → Int} (h : f_eq A A') (l : List Nat) : f_eq (p_N A l) (p_N A' l) := by
  have e16 := fun j => h 16 j (f_S16 (by decide))
  have e17 := fun j => h 17 j (f_S16 (by decide))
  have e7 := fun j => h 7 j (f_S4 (by decide))
  unfold p_N
  rw [f_old_fst h, a_nd_c e16 e17, a_gb_c (a_gr_c e16 e7)]
  split
  · intro o j q
    have k := p_nt_eq (nd := a_nd A l) (gb := a_gb A l) (T := fun _ _ => 0) (A := A) (A' := A') (fun o j s => h o j (Or.inl s))
    have k2 := p_nt_eq (nd := a_nd A l) (gb := a_gb A l) (T := fun _ _ => 0) (A := A) (A' := A) (fun o j s => rfl)
    by_cases s : p_S o j
    · exact k.1 o j s
    · rw [k.2 o j s, k2.2 o j s]
      exact h o j q
  · exact h
theorem p_j_eq {A A' : Nat → Nat → Int} (h : f_eq A A') (l : List Nat) : p_j A' l = p_j A l := by
  have k := p_N_eq h l
  unfold p_j
  rw [f_old_fst h, k 0 4 f_S04, k 6 _ (f_S4 (by decide))]
  have e : s_fst l (fun j => A' 16 j = p_N A l 6 (p_N A l 0 4).toNat) = s_fst l (fun j => A 16 j = p_N A l 6 (p_N A l 0 4).toNat) := s_fst_congr _ _ _ fun j _ => by rw [h 16 j (f_S16 (by decide))]
  rw [e]
theorem a_beg0_eq {A A' : Nat → Nat → Int} (h : f_eq A A') (j : Nat) : f_eq (a_beg0 A j) (a_beg0 A' j) := by
  unfold a_beg0
  by_cases q : a_old A j
  · rw [if_pos q, if_pos ((a_old_c h j).mpr q)]
    exact f_eq_o h (f_S_n (by omega)) _ _
  · rw [if_neg q, if_neg (fun z => q ((a_old_c h j).mp z))]
    exact h
theorem a_beg_eq {A A' : Nat → Nat → Int} (h : f_eq A A') (l' : List Nat) (j : Nat) : f_eq (a_beg A l' j) (a_beg A' l' j) ∧ a_beg A' l' j 0 6 = a_beg A l' j 0 6 := by
  have e16 := fun j => h 16 j (f_S16 (by decide))
  have e17 := fun j => h 17 j (f_S16 (by decide))
  have e7 := fun j => h 7 j (f_S4 (by decide))
  have e9 := fun j => h 9 j (f_S4 (by decide))
  have e5 := fun j => h 5 j (f_S4 (by decide))
  have eg := a_gr_c e16 e7
  constructor
  · unfold a_beg
    simp only [e16, e17, e9, e5, eg]
    refine f_eq_u (f_eq_u ?_ _ _ _) _ _ _
    unfold a_beg1
    rw [e16, e17, h 0 3 f_S03]
    exact f_eq_o (f_eq_u (f_eq_u (f_eq_u (f_eq_u (a_beg0_eq h j) _ _ _) _ _ _) _ _ _) _ _ _) (f_S_n (by omega)) _ _
  · unfold a_beg a_beg1
    rw [a_u_o (by decide), a_u_o (by decide), a_u_o (by decide), a_u_same, a_u_o (by decide), a_u_o (by decide), a_u_o (by decide), a_u_same]
    exact e17 j
theorem p_B_eq {A A' : Nat → Nat → Int} (h : f_eq A A') (l : List Nat) : f_eq (p_B A l) (p_B A' l) ∧ p_B A' l 0 6 = p_B A l 0 6 := by
  unfold p_B
  rw [p_j_eq h]
  exact a_beg_eq (p_N_eq h l) _ _
