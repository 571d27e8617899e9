/-! the world that the constructors leave, as a memory over positions -/
def m0 : z_M := fun _ o j => if o = 0 then (if j = 4 ∨ j = 5 then -5 else 0) else if o = 23 then (if j = 0 then 3 else if j = 1 then 4 else if j = 2 then 5 else 6) else if o = 31 then m0_row j else 0
theorem m0_ok : z_okM m0 := by
  intro s o j
  refine z_w_id ?_ ?_ <;> (unfold m0 m0_row; (repeat' split) <;> omega)
theorem m0_F : e_F 0 (m0 0) (m0 0 31) [] := by
  have h1 : m0 0 1 0 = 0 := rfl
  have h2 : m0 0 2 0 = 0 := rfl
  have h3 : m0 0 3 0 = 0 := rfl
  have n1 : ∀ g : Nat, ¬ (g : Int) < m0 0 1 0 := fun g h => by omega
  have n2 : ∀ g : Nat, ¬ (g : Int) < m0 0 2 0 := fun g h => by omega
  have n3 : ∀ g : Nat, ¬ (g : Int) < m0 0 3 0 := fun g h => by omega
  refine ⟨⟨?_, fun j hj => absurd hj (n3 j), fun j hj => absurd hj (n2 j), fun j hj => absurd hj (n1 j), ⟨rfl, by decide, fun p j h => by simp at h, fun j h => by simp at h, by omega, by omega⟩, ⟨Or.inl rfl, fun j hj => absurd hj (n1 j), fun j hj => absurd hj (n2 j)⟩, rfl, fun j hj => absurd hj (n2 j), fun j hj => absurd hj (n1 j), by decide, by decide⟩, ⟨⟨rfl, rfl, rfl, rfl, rfl, rfl, rfl⟩, fun j hj => absurd hj (n1 j), fun j hj => absurd hj (n2 j), fun j hj => absurd hj (n3 j)⟩, ⟨rfl, fun j hj => absurd hj (n3 j), fun j hj => absurd hj (n2 j)⟩, Or.inl ⟨rfl, rfl⟩, fun j hj => absurd hj (n2 j), by decide, by decide, fun j hj => absurd hj (n3 j)⟩
  unfold i_G
  decide
theorem m0_R : w_R m0 := by
  refine ⟨⟨⟨[], m0_F⟩, by decide⟩, ⟨0, by decide, rfl, rfl, ⟨fun i hi => ?_, fun i j hi hj e => ?_⟩, fun p hp => absurd hp (Nat.not_lt_zero p)⟩, ⟨Or.inl rfl, rfl, fun h => absurd h (by decide)⟩, ⟨0, by decide, rfl, rfl, fun i hi => absurd hi (Nat.not_lt_zero i)⟩⟩
  · rcases (show i = 0 ∨ i = 1 ∨ i = 2 ∨ i = 3 by omega) with rfl | rfl | rfl | rfl <;> decide
  · rcases (show i = 0 ∨ i = 1 ∨ i = 2 ∨ i = 3 by omega) with rfl | rfl | rfl | rfl <;> rcases (show j = 0 ∨ j = 1 ∨ j = 2 ∨ j = 3 by omega) with rfl | rfl | rfl | rfl <;> first | rfl | exact absurd e (by decide)
theorem va_P_cell {D : va_G} {cl : List vw_C} {ws : va_W} {H : Heap} (hP : va_P D cl ws H) {k x n : Nat} {c : ClassId} {y y' : (Nat → Int32) ⊕ (Nat → Int64) ⊕ (Nat → UInt32) ⊕ (Nat → UInt64) ⊕ (Nat → Option Nat)} (hk : ws[k]? = some (x, .inl (c, n, y))) (e : vp_cell c (n, y') = vp_cell c (n, y)) : va_P D cl (ws.set k (x, .inl (c, n, y'))) H := by
  intro i q hi
  rw [List.getElem?_set] at hi
  split at hi
  · split at hi
    · cases hi
      have h := hP k _ hk
      show H[x]? = some (vp_cell c (n, y'))
      rw [e]; exact h
    · cases hi
  · exact hP i q hi
/-- where the cells lie -/
def i_ad (a : Nat → Nat → Nat) (am : Nat → Nat) : Nat → Nat := fun n => if n < 147 then a (n / 21) (n % 21) else if n < 156 then a 7 (n - 147) else am (n - 126)
def i_cA (k c b d : ClassId) : Nat → ClassId := fun t => if t = 0 then k else if t = 1 then c else if t = 2 then b else d
def i_pos : List Nat := [1, 2, 6, 16, 3, 4, 5, 7, 8, 9, 10, 11, 12, 13, 14, 15, 17, 18, 19, 20, 21, 22, 23, 27, 37, 24, 25, 26, 28, 29, 30, 31, 32, 33, 34, 35, 36, 38, 39, 40, 41, 42, 43, 44, 48, 58, 45, 46, 47, 49, 50, 51, 52, 53, 54, 55, 56, 57, 59, 60, 61, 62, 63, 66, 67, 71, 81, 68, 69, 70, 72, 73, 74, 75, 76, 77, 78, 79, 80, 82, 83, 84, 85, 86, 87, 88, 92, 102, 89, 90, 91, 93, 94, 95, 96, 97, 98, 99, 100, 101, 103, 104, 105, 106, 107, 108, 109, 113, 123, 110, 111, 112, 114, 115, 116, 117, 118, 119, 120, 121, 122, 124, 125, 126, 127, 128, 129, 130, 134, 144, 131, 132, 133, 135, 136, 137, 138, 139, 140, 141, 142, 143, 145, 146, 147, 148, 149, 0, 64, 65, 150, 151, 152, 153, 154, 155, 156, 157, 158, 159, 160, 161]
def i_g (a : Nat → Nat → Nat) (am : Nat → Nat) : Nat → Option Nat := fun j => some (i_ad a am (z_ix (z_rg (m0 0 23 j)) 0))
theorem i_gf {a : Nat → Nat → Nat} {am : Nat → Nat} {f : Nat → Option Nat} {d : ClassId} (hf : ∀ j, j < 4 → f j = some (a (3 + j) 0)) : vp_cell d (4, .inr (.inr (.inr (.inr (i_g a am))))) = vp_cell d (4, .inr (.inr (.inr (.inr f)))) := by
  rw [vp_cell_q, vp_cell_q]
  unfold arrV
  congr 2
  funext j
  have h : i_g a am j.val = f j.val := by
    rw [hf _ j.isLt]
    have := j.isLt
    rcases (show j.val = 0 ∨ j.val = 1 ∨ j.val = 2 ∨ j.val = 3 by omega) with q | q | q | q <;> rw [q] <;> rfl
  show va_rf (i_g a am j.val) = va_rf (f j.val)
  rw [h]
set_option maxRecDepth 100000 in
set_option maxHeartbeats 4000000 in
theorem i_ws (a : Nat → Nat → Nat) (am : Nat → Nat) (k d c b : ClassId) : i_pos.map (fun i => (w_ma a (i_g a am) k d c b ++ w_mo am k c)[i]?) = (z_ws (i_ad a am) (i_cA k c b d) m0).map some := rfl
