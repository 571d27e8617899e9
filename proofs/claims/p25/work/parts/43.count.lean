/-! sums, counted in two ways -/
theorem s_sum_add (l : List Nat) (f g : Nat → Int) : s_sum l (fun j => f j + g j) = s_sum l f + s_sum l g := by
  induction l with
  | nil => rfl
  | cons j l ih => rw [s_sum_cons, s_sum_cons, s_sum_cons, ih]; omega
theorem s_sum_0 (l : List Nat) : s_sum l (fun _ => 0) = 0 := by
  induction l with
  | nil => rfl
  | cons j l ih => rw [s_sum_cons, ih]; rfl
theorem s_sum_one (l : List Nat) : s_sum l (fun _ => 1) = (l.length : Int) := by
  induction l with
  | nil => rfl
  | cons j l ih => rw [s_sum_cons, ih, List.length_cons]; omega
theorem s_pick {x h : Int} : ∀ (n k : Nat), s_sum (List.range' k n) (fun g => if x = (g : Int) then h else 0) = if (k : Int) ≤ x ∧ x < (k : Int) + n then h else 0 := by
  intro n
  induction n with
  | zero => intro k; rw [List.range'_zero, s_sum_nil, if_neg (by omega)]
  | succ n ih =>
    intro k
    rw [List.range'_succ, s_sum_cons, ih]
    simp only [Int.natCast_add, Int.natCast_one]
    by_cases e : x = (k : Int)
    · rw [if_pos e, if_neg (by omega), if_pos (by omega)]; omega
    · rw [if_neg e]
      by_cases q : (k : Int) + 1 ≤ x ∧ x < (k : Int) + 1 + n
      · rw [if_pos q, if_pos (by omega)]; omega
      · rw [if_neg q, if_neg (by omega)]; rfl
theorem s_pick0 {x h : Int} {n : Nat} (h0 : 0 ≤ x) (h1 : x < (n : Int)) : s_sum (s_rg n) (fun g => if x = (g : Int) then h else 0) = h := by
  unfold s_rg
  rw [s_pick, if_pos (by omega)]
/-- by the one and by the other -/
theorem s_two {G : Nat} {f : Nat → Int} {h : Nat → Int} : ∀ (L : List Nat), (∀ c ∈ L, 0 ≤ f c ∧ f c < (G : Int)) → s_sum (s_rg G) (fun g => s_sum L (fun c => if f c = (g : Int) then h c else 0)) = s_sum L h := by
  intro L
  induction L with
  | nil => intro _; exact s_sum_0 _
  | cons c L ih =>
    intro hf
    have e : (fun g : Nat => s_sum (c :: L) (fun c => if f c = (g : Int) then h c else 0)) = fun g : Nat => (if f c = (g : Int) then h c else 0) + s_sum L (fun c => if f c = (g : Int) then h c else 0) := funext fun g => s_sum_cons _ _ _
    rw [e, s_sum_add, ih fun k hk => hf k (List.mem_cons_of_mem _ hk), s_sum_cons, s_pick0 (hf c List.mem_cons_self).1 (hf c List.mem_cons_self).2]
theorem s_e_l (A : Nat → Nat → Int) (f : Nat → Int) : s_sum (e_l A) f = s_sum (s_rg (A 3 0).toNat) (fun j => if A 19 j = -5 then f j else 0) := by
  unfold e_l
  rw [s_sum_filter]
  refine s_sum_congr fun j _ => ?_
  by_cases h : A 19 j = -5
  · rw [if_pos (decide_eq_true h), if_pos h]
  · rw [if_neg (fun q => h (of_decide_eq_true q)), if_neg h]
section SU
variable {A : Nat → Nat → Int} {l : List Nat}
theorem a_stage_0 (j : Nat) : a_stage A j = 0 ↔ A 19 j = -5 := by
  unfold a_stage
  split
  · rename_i h; exact ⟨fun _ => h, fun _ => rfl⟩
  · rename_i h
    refine ⟨fun q => ?_, fun q => absurd q h⟩
    split at q <;> exact absurd q (by decide)
theorem a_stage_012 (j : Nat) : a_stage A j = 0 ∨ a_stage A j = 1 ∨ a_stage A j = 2 := by
  unfold a_stage
  split
  · exact Or.inl rfl
  · split
    · exact Or.inr (Or.inl rfl)
    · exact Or.inr (Or.inr rfl)
/-- the jobs that wait -/
theorem u_wait (hH : f_H A l) : s_sum (s_rg (A 3 0).toNat) (fun j => if a_stage A j = 0 then 1 else 0) = A 3 5 := by
  have el := hH.1.2.2.2.2.2.2.1
  have w := hH.1.2.2.2.2.1.1
  rw [w, ← s_sum_one l]
  conv => rhs; rw [el]
  rw [s_e_l]
  refine s_sum_congr fun j _ => ?_
  by_cases h : A 19 j = -5
  · rw [if_pos h, if_pos ((a_stage_0 j).mpr h)]
  · rw [if_neg h, if_neg (fun q => h ((a_stage_0 j).mp q))]
theorem u_sizes (hH : f_H A l) : s_sum (s_rg (A 3 0).toNat) (fun j => if a_stage A j = 0 then A 17 j else 0) = s_sum l (fun j => A 17 j) := by
  have el := hH.1.2.2.2.2.2.2.1
  conv => rhs; rw [el]
  rw [s_e_l]
  refine s_sum_congr fun j _ => ?_
  by_cases h : A 19 j = -5
  · rw [if_pos h, if_pos ((a_stage_0 j).mpr h)]
  · rw [if_neg h, if_neg (fun q => h ((a_stage_0 j).mp q))]
theorem u_old (hH : f_H A l) : s_sum (s_rg (A 3 0).toNat) (fun j => z_b (a_old A j)) = s_sum l (fun j => z_b (a_old A j)) := by
  have el := hH.1.2.2.2.2.2.2.1
  conv => rhs; rw [el]
  rw [s_e_l]
  refine s_sum_congr fun j _ => ?_
  by_cases h : A 19 j = -5
  · rw [if_pos h]
  · rw [if_neg h, z_b_f (fun q => h q.2.1)]
theorem u_done (hH : f_H A l) : s_sum (s_rg (A 3 0).toNat) (fun j => if a_stage A j = 2 then 1 else 0) = p_D A := by
  have c3 := hH.1.2.2.2.2.1.2.2.2.2
  have e0 := u_wait hH
  have e1 : s_sum (s_rg (A 3 0).toNat) (fun j => if A 0 5 = (j : Int) then 1 else 0) = if A 0 5 = -5 then 0 else 1 := by
    unfold s_rg
    rw [s_pick]
    rcases hH.2.2.1 with q | ⟨j, q1, q2, -⟩
    · rw [if_neg (by omega), if_pos q.1]
    · rw [if_pos (by omega), if_neg (by omega)]
  have e2 : s_sum (s_rg (A 3 0).toNat) (fun j => (if a_stage A j = 0 then 1 else 0) + ((if A 0 5 = (j : Int) then 1 else 0) + if a_stage A j = 2 then 1 else 0)) = s_sum (s_rg (A 3 0).toNat) (fun _ => 1) := by
    refine s_sum_congr fun j hj => ?_
    unfold a_stage
    by_cases h : A 19 j = -5
    · have hne : ¬ A 0 5 = (j : Int) := fun q => by
        rcases hH.2.2.1 with y | ⟨k, q1, q2, q3, -⟩
        · omega
        · have : k = j := by omega
          rw [this] at q3
          exact q3 h
      rw [if_pos h, if_pos rfl, if_neg hne, if_neg (by decide)]; rfl
    · rw [if_neg h]
      by_cases q : (j : Int) = A 0 5
      · rw [if_pos q, if_neg (by decide), if_pos q.symm, if_neg (by decide)]; rfl
      · rw [if_neg q, if_neg (by decide), if_neg (fun y => q y.symm), if_pos rfl]; rfl
  rw [s_sum_add, s_sum_add, s_sum_one, e0, e1] at e2
  have e3 : (s_rg (A 3 0).toNat).length = (A 3 0).toNat := by unfold s_rg; rw [List.length_range']
  unfold p_D
  omega
theorem a_gr_in (hI : e_I A l) {j : Nat} (hj : (j : Int) < A 3 0) : 0 ≤ a_gr A j ∧ a_gr A j < A 1 0 := by
  have a := hI.2.1 j hj
  have := (hI.2.2.1 (A 16 j).toNat (by omega)).1
  exact this
theorem u_gwait (hH : f_H A l) : s_sum (s_rg (A 1 0).toNat) (fun g => s_sum l fun j => if a_gr A j = (g : Int) then 1 else 0) = A 3 5 := by
  have g1 := hH.1.1.1
  rw [s_two (h := fun _ => 1) l (fun j hj => by have := a_gr_in hH.1 (hH.1.2.2.2.2.1.2.2.2.1 j hj); omega), s_sum_one]
  exact hH.1.2.2.2.2.1.1.symm
theorem u_held (hH : f_H A l) : s_sum (s_rg (A 1 0).toNat) (fun g => s_sum (s_rg (A 2 0).toNat) fun c => if A 7 c = (g : Int) then 1 else 0) = A 2 0 := by
  have g1 := hH.1.1.1
  have g2 := hH.1.1.2.1
  rw [s_two (h := fun _ => 1) (s_rg (A 2 0).toNat) (fun c hc => by have := (hH.1.2.2.1 c (by have := s_rg_mem.mp hc; omega)).1; omega), s_sum_one]
  unfold s_rg
  rw [List.length_range']; omega
theorem u_units (hH : f_H A l) : s_sum (s_rg (A 1 0).toNat) (fun g => s_sum (s_rg (A 2 0).toNat) fun c => if A 7 c = (g : Int) then A 15 c else 0) = s_sum (s_rg (A 2 0).toNat) (fun c => A 15 c) := by
  have g1 := hH.1.1.1
  have g2 := hH.1.1.2.1
  exact s_two (h := fun c => A 15 c) (s_rg (A 2 0).toNat) (fun c hc => by have := (hH.1.2.2.1 c (by have := s_rg_mem.mp hc; omega)).1; omega)
theorem u_cdone (hH : f_H A l) : s_sum (s_rg (A 2 0).toNat) (fun c => s_sum (s_rg (A 3 0).toNat) fun j => if A 16 j = (c : Int) ∧ a_stage A j = 2 then 1 else 0) = p_D A := by
  have g2 := hH.1.1.2.1
  rw [← u_done hH, ← s_two (f := fun j => A 16 j) (G := (A 2 0).toNat) (h := fun j => if a_stage A j = 2 then 1 else 0) (s_rg (A 3 0).toNat) (fun j hj => by
    have c3 := hH.1.2.2.2.2.1.2.2.2.2
    have := (hH.1.2.1 j (by have := s_rg_mem.mp hj; omega)).1
    omega)]
  refine s_sum_congr fun c _ => s_sum_congr fun j _ => ?_
  by_cases h : A 16 j = (c : Int)
  · by_cases q : a_stage A j = 2
    · rw [if_pos ⟨h, q⟩, if_pos h, if_pos q]
    · rw [if_neg (fun y => q y.2), if_pos h, if_neg q]
  · rw [if_neg (fun y => h y.1), if_neg h]
end SU
