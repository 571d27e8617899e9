/-! small words for what methods answer -/
def z_b (P : Prop) [Decidable P] : Int := if P then 1 else 0
theorem z_b_0 {P : Prop} [Decidable P] : (z_b P = 0) = ¬ P := by unfold z_b; split <;> simp_all
theorem z_b_1 {P : Prop} [Decidable P] : (z_b P = 1) = P := by unfold z_b; split <;> simp_all
theorem z_b_n0 {P : Prop} [Decidable P] : (¬ z_b P = 0) = P := by unfold z_b; split <;> simp_all
theorem z_b_t {P : Prop} [Decidable P] (h : P) : z_b P = 1 := by unfold z_b; rw [if_pos h]
theorem z_b_f {P : Prop} [Decidable P] (h : ¬ P) : z_b P = 0 := by unfold z_b; rw [if_neg h]
theorem z_b_01 {P : Prop} [Decidable P] : z_b P = 0 ∨ z_b P = 1 := by unfold z_b; split <;> simp
theorem z_b_iff {P Q : Prop} [Decidable P] [Decidable Q] (h : P ↔ Q) : z_b P = z_b Q := by
  unfold z_b
  by_cases hP : P
  · rw [if_pos hP, if_pos (h.mp hP)]
  · rw [if_neg hP, if_neg (fun q => hP (h.mpr q))]
theorem z_ri {r r' : Int} {M M' : z_M} (h : r = r') (hM : M = M') : (some (some (.inl r), M) : Option (Option z_V × z_M)) = some (some (.inl r'), M') := by rw [h, hM]
/-- sums over lists -/
def s_sum (l : List Nat) (f : Nat → Int) : Int := (l.map f).sum
theorem s_sum_nil (f : Nat → Int) : s_sum [] f = 0 := rfl
theorem s_sum_cons (j : Nat) (l : List Nat) (f : Nat → Int) : s_sum (j :: l) f = f j + s_sum l f := by unfold s_sum; rw [List.map_cons, List.sum_cons]
theorem s_sum_app (l l' : List Nat) (f : Nat → Int) : s_sum (l ++ l') f = s_sum l f + s_sum l' f := by
  induction l with
  | nil => rw [List.nil_append, s_sum_nil]; omega
  | cons j l ih => rw [List.cons_append, s_sum_cons, s_sum_cons, ih]; omega
theorem s_sum_bd {l : List Nat} {f : Nat → Int} {b : Int} (h : ∀ j ∈ l, 0 ≤ f j ∧ f j ≤ b) : 0 ≤ s_sum l f ∧ s_sum l f ≤ b * l.length := by
  induction l with
  | nil => rw [s_sum_nil]; simp
  | cons j l ih =>
    have h1 := h j List.mem_cons_self
    have h2 := ih fun k hk => h k (List.mem_cons_of_mem _ hk)
    rw [s_sum_cons, List.length_cons]
    have e : b * ((l.length + 1 : Nat) : Int) = b * l.length + b := by rw [Int.natCast_add, Int.mul_add]; simp
    omega
theorem s_sum_congr {l : List Nat} {f g : Nat → Int} (h : ∀ j ∈ l, f j = g j) : s_sum l f = s_sum l g := by
  induction l with
  | nil => rfl
  | cons j l ih => rw [s_sum_cons, s_sum_cons, h j List.mem_cons_self, ih fun k hk => h k (List.mem_cons_of_mem _ hk)]
/-- the first of a list with a property, or none -/
def s_fst (l : List Nat) (p : Nat → Prop) [DecidablePred p] : Int := match l with
  | [] => -5
  | j :: l => if p j then (j : Int) else s_fst l p
theorem s_fst_nil (p : Nat → Prop) [DecidablePred p] : s_fst [] p = -5 := rfl
theorem s_fst_cons (j : Nat) (l : List Nat) (p : Nat → Prop) [DecidablePred p] : s_fst (j :: l) p = if p j then (j : Int) else s_fst l p := rfl
