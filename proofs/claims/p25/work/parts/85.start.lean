/-! the world that the constructors leave, as a memory over positions -/
def m0 : z_M := fun _ o j => if o = 0 then (if j = 4 ∨ j = 5 then -5 else 0) else if o = 23 then (if j = 0 then 3 else if j = 1 then 4 else if j = 2 then 5 else if j = 3 then 6 else 0) else 0
theorem m0_ok : z_okM m0 := by
  intro s o j
  refine z_w_id ?_ ?_ <;> (unfold m0; (repeat' split) <;> omega)
theorem m0_nz : z_nz m0 := by
  intro s o j h
  unfold m0
  by_cases h0 : o = 0
  · subst h0
    rw [if_pos rfl]
    by_cases hj : j = 4 ∨ j = 5
    · rcases hj with rfl | rfl <;> exact absurd h (by decide)
    · rw [if_neg hj]
  · rw [if_neg h0]
    by_cases h23 : o = 23
    · subst h23
      rw [if_pos rfl]
      have e : z_val 23 j = decide (j < 4) := rfl
      rw [e] at h
      have hj := of_decide_eq_false h
      rw [if_neg (by omega), if_neg (by omega), if_neg (by omega), if_neg (by omega)]
    · rw [if_neg h23]
theorem m0_M : w_M m0 [] := by
  have h1 : m0 0 1 0 = 0 := rfl
  have h2 : m0 0 2 0 = 0 := rfl
  have h3 : m0 0 3 0 = 0 := rfl
  have n1 : ∀ g : Nat, ¬ (g : Int) < m0 0 1 0 := fun g h => by omega
  have n2 : ∀ g : Nat, ¬ (g : Int) < m0 0 2 0 := fun g h => by omega
  have n3 : ∀ g : Nat, ¬ (g : Int) < m0 0 3 0 := fun g h => by omega
  refine ⟨m0_nz, ⟨⟨?_, fun j hj => absurd hj (n3 j), fun j hj => absurd hj (n2 j), fun j hj => absurd hj (n1 j), ⟨rfl, by decide, fun p j h => by simp at h, fun j h => by simp at h, by omega, by omega⟩, ⟨Or.inl rfl, fun j hj => absurd hj (n1 j), fun j hj => absurd hj (n2 j)⟩, rfl, fun j hj => absurd hj (n2 j), fun j hj => absurd hj (n1 j), by decide, by decide⟩, ⟨fun j hj => absurd hj (n1 j), fun j hj => absurd hj (n3 j)⟩, Or.inl ⟨rfl, rfl⟩, fun j hj => absurd hj (n2 j), by decide, by decide, fun j hj => absurd hj (n3 j)⟩, by decide, 0, by decide, rfl, fun i hi => ?_, fun i j hi hj e => ?_⟩
  · unfold i_G
    decide
  · rcases (show i = 0 ∨ i = 1 ∨ i = 2 ∨ i = 3 by omega) with rfl | rfl | rfl | rfl <;> decide
  · rcases (show i = 0 ∨ i = 1 ∨ i = 2 ∨ i = 3 by omega) with rfl | rfl | rfl | rfl <;> rcases (show j = 0 ∨ j = 1 ∨ j = 2 ∨ j = 3 by omega) with rfl | rfl | rfl | rfl <;> first | rfl | exact absurd e (by decide)
theorem va_P_cell {D : va_G} {cl : List vw_C} {ws : va_W} {H : Heap} (hP : va_P D cl ws H) {k x n : Nat} {c : ClassId} {y y' : (Nat → Int32) ⊕ (Nat → Int64) ⊕ (Nat → UInt32) ⊕ (Nat → UInt64) ⊕ (Nat → Option Nat)} (hk : ws[k]? = some (x, .inl (c, n, y))) (e : vp_cell c (n, y') = vp_cell c (n, y)) : va_P D cl (ws.set k (x, .inl (c, n, y'))) H := by
  intro i q hi
  rw [List.getElem?_set] at hi
  split at hi
  · split at hi
    · cases hi
      have h := hP k _ hk
      show H[x]? = some (vp_cell c (n, y'))
      rw [e]; exact h
    · cases hi
  · exact hP i q hi
/-- where the cells lie -/
def i_ad (a : Nat → Nat → Nat) : Nat → Nat := fun n => if n < 147 then a (n / 21) (n % 21) else a 7 (n - 147)
def i_cA (k c b d : ClassId) : Nat → ClassId := fun t => if t = 0 then k else if t = 1 then c else if t = 2 then b else d
def i_pos : List Nat := [1, 2, 6, 16, 3, 4, 5, 7, 8, 9, 10, 11, 12, 13, 14, 15, 17, 18, 19, 20, 21, 22, 23, 27, 37, 24, 25, 26, 28, 29, 30, 31, 32, 33, 34, 35, 36, 38, 39, 40, 41, 42, 43, 44, 48, 58, 45, 46, 47, 49, 50, 51, 52, 53, 54, 55, 56, 57, 59, 60, 61, 62, 63, 66, 67, 71, 81, 68, 69, 70, 72, 73, 74, 75, 76, 77, 78, 79, 80, 82, 83, 84, 85, 86, 87, 88, 92, 102, 89, 90, 91, 93, 94, 95, 96, 97, 98, 99, 100, 101, 103, 104, 105, 106, 107, 108, 109, 113, 123, 110, 111, 112, 114, 115, 116, 117, 118, 119, 120, 121, 122, 124, 125, 126, 127, 128, 129, 130, 134, 144, 131, 132, 133, 135, 136, 137, 138, 139, 140, 141, 142, 143, 145, 146, 147, 148, 149, 0, 64, 65, 150, 151, 152, 153, 154, 155]
def i_g (a : Nat → Nat → Nat) : Nat → Option Nat := fun j => some (i_ad a (z_ix (z_rg (m0 0 23 j)) 0))
theorem i_gf {a : Nat → Nat → Nat} {f : Nat → Option Nat} {d : ClassId} (hf : ∀ j, j < 4 → f j = some (a (3 + j) 0)) : vp_cell d (4, .inr (.inr (.inr (.inr (i_g a))))) = vp_cell d (4, .inr (.inr (.inr (.inr f)))) := by
  rw [vp_cell_q, vp_cell_q]
  unfold arrV
  congr 2
  funext j
  have h : i_g a j.val = f j.val := by
    rw [hf _ j.isLt]
    have := j.isLt
    rcases (show j.val = 0 ∨ j.val = 1 ∨ j.val = 2 ∨ j.val = 3 by omega) with q | q | q | q <;> rw [q] <;> rfl
  show va_rf (i_g a j.val) = va_rf (f j.val)
  rw [h]
set_option maxRecDepth 100000 in
set_option maxHeartbeats 4000000 in
theorem i_ws (a : Nat → Nat → Nat) (k d c b : ClassId) : i_pos.map (fun i => (w_ma a (i_g a) k d c b)[i]?) = (z_ws 156 (i_ad a) (i_cA k c b d) m0).map some := rfl
