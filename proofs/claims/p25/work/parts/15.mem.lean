/-! a memory with one state's cells set; updates of them -/
def a_u (A : Nat → Nat → Int) (o j : Nat) (v : Int) : Nat → Nat → Int := fun o' j' => if o' = o ∧ j' = j then v else A o' j'
def a_cp (A : Nat → Nat → Int) (f : Nat → Int) (o b d n : Nat) : Nat → Nat → Int := fun o' j' => if o' = o ∧ d ≤ j' ∧ j' < d + n then f (b + (j' - d)) else A o' j'
def z_ur (M : z_M) (s : Fin 7) (A : Nat → Nat → Int) : z_M := fun s' o j => if s' = s ∧ o < 21 then A o j else M s' o j
theorem a_u_same (A : Nat → Nat → Int) (o j : Nat) (v : Int) : a_u A o j v o j = v := by unfold a_u; rw [if_pos ⟨rfl, rfl⟩]
theorem a_u_o {A : Nat → Nat → Int} {o j o' j' : Nat} {v : Int} (h : o' ≠ o) : a_u A o j v o' j' = A o' j' := by unfold a_u; rw [if_neg (fun q => h q.1)]
theorem a_u_j {A : Nat → Nat → Int} {o j o' j' : Nat} {v : Int} (h : j' ≠ j) : a_u A o j v o' j' = A o' j' := by unfold a_u; rw [if_neg (fun q => h q.2)]
theorem a_u_ne {A : Nat → Nat → Int} {o j o' j' : Nat} {v : Int} (h : ¬ (o' = o ∧ j' = j)) : a_u A o j v o' j' = A o' j' := by unfold a_u; rw [if_neg h]
theorem a_u_at (A : Nat → Nat → Int) (o j j' : Nat) (v : Int) : a_u A o j v o j' = if j' = j then v else A o j' := by
  unfold a_u
  by_cases h : j' = j
  · rw [if_pos ⟨rfl, h⟩, if_pos h]
  · rw [if_neg (fun q => h q.2), if_neg h]
theorem a_cp_o {A : Nat → Nat → Int} {f : Nat → Int} {o b d n o' j' : Nat} (h : o' ≠ o) : a_cp A f o b d n o' j' = A o' j' := by unfold a_cp; rw [if_neg (fun q => h q.1)]
theorem a_cp_in {A : Nat → Nat → Int} {f : Nat → Int} {o n j' : Nat} (h : j' < n) : a_cp A f o 0 0 n o j' = f j' := by
  unfold a_cp; rw [if_pos ⟨rfl, Nat.zero_le _, by omega⟩]; congr 1; omega
theorem z_ur_get {M : z_M} {s : Fin 7} {A : Nat → Nat → Int} {o j : Nat} (h : o < 21) : z_ur M s A s o j = A o j := by unfold z_ur; rw [if_pos ⟨rfl, h⟩]
theorem z_ur_top {M : z_M} {s s' : Fin 7} {A : Nat → Nat → Int} {o j : Nat} (h : 21 ≤ o) : z_ur M s A s' o j = M s' o j := by unfold z_ur; rw [if_neg (fun q => by omega)]
theorem z_ur_ne {M : z_M} {s s' : Fin 7} {A : Nat → Nat → Int} {o j : Nat} (h : s' ≠ s) : z_ur M s A s' o j = M s' o j := by unfold z_ur; rw [if_neg (fun q => h q.1)]
theorem z_ur_self (M : z_M) (s : Fin 7) : z_ur M s (M s) = M := by
  funext s' o j
  unfold z_ur
  split
  · rename_i h; rw [h.1]
  · rfl
theorem z_ur_ur (M : z_M) (s : Fin 7) (A B : Nat → Nat → Int) : z_ur (z_ur M s A) s B = z_ur M s B := by
  funext s' o j
  unfold z_ur
  split
  · rfl
  · rfl
theorem z_ur_congr {M : z_M} {s : Fin 7} {A B : Nat → Nat → Int} (h : ∀ o j, o < 21 → A o j = B o j) : z_ur M s A = z_ur M s B := by
  funext s' o j
  unfold z_ur
  split
  · rename_i q; exact h o j q.2
  · rfl
theorem z_up_ur {M : z_M} {s : Fin 7} {A : Nat → Nat → Int} {o j : Nat} {v : Int} (h : o < 21) : z_up (z_ur M s A) s o j v = z_ur M s (a_u A o j v) := by
  funext s' o' j'
  unfold z_up z_ur a_u
  by_cases e : s' = s
  · subst e
    by_cases e2 : o' = o ∧ j' = j
    · rw [if_pos ⟨rfl, e2⟩, if_pos ⟨rfl, by omega⟩, if_pos e2]
    · rw [if_neg (fun q => e2 q.2), if_neg e2]
  · rw [if_neg (fun q => e q.1), if_neg (fun q => e q.1), if_neg (fun q => e q.1)]
theorem z_cp_ur {M : z_M} {s s0 : Fin 7} {A : Nat → Nat → Int} {o0 o b d n : Nat} (h0 : s0 ≠ s) (h : o < 21) : z_cp (z_ur M s A) s0 o0 s o b d n = z_ur M s (a_cp A (M s0 o0) o b d n) := by
  funext s' o' j'
  unfold z_cp
  by_cases e : s' = s
  · subst e
    by_cases e2 : o' = o ∧ d ≤ j' ∧ j' < d + n
    · rw [if_pos ⟨rfl, e2⟩, z_ur_ne h0, z_ur_get (by omega)]
      unfold a_cp
      rw [if_pos e2]
    · rw [if_neg (fun q => e2 q.2)]
      unfold z_ur a_cp
      rw [if_neg e2]
  · rw [if_neg (fun q => e q.1), z_ur_ne e, z_ur_ne e]
theorem c_WL_ur {M : z_M} {s : Fin 7} {A : Nat → Nat → Int} {l : List Nat} (h : c_WL A l) : c_WL (z_ur M s A s) l := by
  unfold c_WL at *
  simp (disch := omega) only [z_ur_get]
  exact h
theorem i_G_ur {M : z_M} {s : Fin 7} {A : Nat → Nat → Int} (h : i_G A) : i_G (z_ur M s A s) := by
  unfold i_G at *
  simp (disch := omega) only [z_ur_get]
  exact h
theorem i_J_ur {M : z_M} {s : Fin 7} {A : Nat → Nat → Int} (h : i_J A) : i_J (z_ur M s A s) := by
  unfold i_J at *
  simp (disch := omega) only [z_ur_get]
  exact h
/-- agreement on a state's cells but the line -/
def a_eq (A B : Nat → Nat → Int) : Prop := ∀ o j, o < 21 → o ≠ 20 → A o j = B o j
