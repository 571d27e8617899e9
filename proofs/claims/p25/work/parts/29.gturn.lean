/-! the turns, whole -/
theorem v_srg_le {gn : Nat → Int} {A : Nat → Nat → Int} : ∀ (L : List Nat) (r : Int), v_srg gn A L r ≤ r ∧ (∀ c ∈ L, 0 < gn c → v_srg gn A L r ≤ v_rb (gn c) (A 5 c) (A 4 c)) ∧
    (v_srg gn A L r = r ∨ ∃ c ∈ L, 0 < gn c ∧ v_srg gn A L r = v_rb (gn c) (A 5 c) (A 4 c)) := by
  intro L
  induction L with
  | nil => intro r; exact ⟨Int.le_refl _, fun c hc => absurd hc List.not_mem_nil, Or.inl rfl⟩
  | cons c L ih =>
    intro r
    rw [v_srg_cons]
    by_cases h : 0 < gn c
    · rw [if_pos h]
      by_cases h2 : v_rb (gn c) (A 5 c) (A 4 c) < r
      · rw [if_pos h2]
        obtain ⟨i1, i2, i3⟩ := ih (v_rb (gn c) (A 5 c) (A 4 c))
        refine ⟨by omega, fun c' hc' a => ?_, ?_⟩
        · rcases List.mem_cons.mp hc' with rfl | hc'
          · exact i1
          · exact i2 c' hc' a
        · rcases i3 with i3 | ⟨c', a, b⟩
          · exact Or.inr ⟨c, List.mem_cons_self, h, i3⟩
          · exact Or.inr ⟨c', List.mem_cons_of_mem _ a, b⟩
      · rw [if_neg h2]
        obtain ⟨i1, i2, i3⟩ := ih r
        refine ⟨i1, fun c' hc' a => ?_, ?_⟩
        · rcases List.mem_cons.mp hc' with rfl | hc'
          · omega
          · exact i2 c' hc' a
        · rcases i3 with i3 | ⟨c', a, b⟩
          · exact Or.inl i3
          · exact Or.inr ⟨c', List.mem_cons_of_mem _ a, b⟩
    · rw [if_neg h]
      obtain ⟨i1, i2, i3⟩ := ih r
      refine ⟨i1, fun c' hc' a => ?_, ?_⟩
      · rcases List.mem_cons.mp hc' with rfl | hc'
        · exact absurd a h
        · exact i2 c' hc' a
      · rcases i3 with i3 | ⟨c', a, b⟩
        · exact Or.inl i3
        · exact Or.inr ⟨c', List.mem_cons_of_mem _ a, b⟩
theorem v_skg0 (A : Nat → Nat → Int) (gn : Nat → Int) (k : Nat) : v_skg A gn 0 k = A := by
  funext o j
  unfold v_skg
  split
  · rename_i h; rw [h.1]; omega
  · rfl
theorem g_J_skg {nd gb gn : Nat → Int} {A : Nat → Nat → Int} {r : Int} {k : Nat} (h : g_J nd gb A) : g_J nd gb (v_skg A gn r k) := by
  have e : ∀ o' i, o' ≠ 5 → v_skg A gn r k o' i = A o' i := fun o' i b => v_skg_o b
  unfold g_J v_H at *
  simp (disch := omega) only [e]
  exact h
/-- rounds of groups that let nobody in, one by one; from a settled state -/
theorem g_rounds {nd gb gn : Nat → Int} {A B : Nat → Nat → Int} (hJ : g_J nd gb A) (hnd : ∀ c, nd c ≤ 99) (hp : 0 ≤ A 0 4 ∧ A 0 4 < A 1 0) (hS : ∀ i : Nat, (i : Int) < A 1 0 → gb i ≠ 0 → v_ok (A 2 0) nd i A)
    (hgn : ∀ i : Nat, (i : Int) < A 1 0 → gn i = if gb i = 0 then 0 else nd (A 6 i).toNat) (hz : ∀ i : Nat, (i : Int) < A 1 0 → gb i = 0 → A 5 i = 0) (hlo : ∀ i : Nat, (i : Int) < A 1 0 → -20000 ≤ A 5 i) {r : Nat}
    (hr : ∀ i : Nat, (i : Int) < A 1 0 → gb i ≠ 0 → A 5 i + r * A 4 i < gn i) : ∀ (t n : Nat), t ≤ r → r_mg nd gb n (v_skg A gn r (A 1 0).toNat) B → ∃ n', r_mg nd gb n' (v_skg A gn ((r - t : Nat) : Int) (A 1 0).toNat) B := by
  intro t
  induction t with
  | zero => intro n _ h; exact ⟨n, h⟩
  | succ t ih =>
    intro n ht h
    obtain ⟨n', h'⟩ := ih n (by omega) h
    obtain ⟨u, hu⟩ : ∃ u : Nat, r - t = u + 1 := ⟨r - t - 1, by omega⟩
    rw [hu] at h'
    rw [show r - (t + 1) = u by omega]
    obtain ⟨he0, he1, hes⟩ := v_e_in (C := A 1 0) (p := A 0 4) (Or.inr hp) hJ.2.1.1
    have k0 : ∀ (x : Int) (o j : Nat), o ≠ 5 → v_skg A gn x (A 1 0).toNat o j = A o j := fun x o j q => v_skg_o q
    have gpos : ∀ i : Nat, (i : Int) < A 1 0 → gb i ≠ 0 → 0 < gn i := fun i hi q => by
      rw [hgn i hi, if_neg q]
      exact (hS i hi q).2.1
    have a5 : ∀ (x : Int) (i : Nat), (i : Int) < A 1 0 → gb i ≠ 0 → v_skg A gn x (A 1 0).toNat 5 i = A 5 i + x * A 4 i := fun x i hi q => by
      unfold v_skg; rw [if_pos ⟨rfl, by omega, gpos i hi q⟩]
    have a5z : ∀ (x : Int) (i : Nat), ¬ ((i : Int) < A 1 0 ∧ gb i ≠ 0) → v_skg A gn x (A 1 0).toNat 5 i = A 5 i := fun x i hi => by
      unfold v_skg
      rw [if_neg]
      rintro ⟨-, q1, q2⟩
      have q1' : (i : Int) < A 1 0 := by omega
      refine hi ⟨q1', fun q => ?_⟩
      rw [hgn i q1', if_pos q] at q2
      omega
    have hmul : ∀ i : Nat, (i : Int) < A 1 0 → ((u : Int) + 1) * A 4 i ≤ r * A 4 i := fun i hi => Int.mul_le_mul_of_nonneg_right (by omega) (by have := hJ.2.2.2.2 i hi; omega)
    have hu0 : ∀ i : Nat, (i : Int) < A 1 0 → 0 ≤ (u : Int) * A 4 i := fun i hi => Int.mul_nonneg (by omega) (by have := hJ.2.2.2.2 i hi; omega)
    have hlt : ∀ i : Nat, (i : Int) < A 1 0 → gb i ≠ 0 → v_skg A gn (u : Int) (A 1 0).toNat 5 i + A 4 i < nd (A 6 i).toNat := fun i hi q => by
      have m1 := hmul i hi
      have m2 := hr i hi q
      rw [Int.add_mul, Int.one_mul] at m1
      rw [a5 _ _ hi q]
      rw [hgn i hi, if_neg q] at m2
      omega
    have hJu := g_J_skg (gn := gn) (r := (u : Int)) (k := (A 1 0).toNat) hJ
    have h98 : ∀ i : Nat, (i : Int) < (v_skg A gn (u : Int) (A 1 0).toNat) 1 0 → -20000 ≤ (v_skg A gn (u : Int) (A 1 0).toNat) 5 i ∧ (v_skg A gn (u : Int) (A 1 0).toNat) 5 i ≤ 98 := fun i hi => by
      rw [k0 _ 1 0 (by decide)] at hi
      by_cases q : gb i = 0
      · rw [a5z _ _ (fun x => x.2 q), hz i hi q]; omega
      · have h1 := hlt i hi q
        have h2 := hnd (A 6 i).toNat
        have h3 := hJ.2.2.2.2 i hi
        have h4 := hu0 i hi
        have h5 := hlo i hi
        rw [a5 _ _ hi q] at h1 ⊢
        omega
    have hS' : ∀ i : Nat, (i : Int) < (v_skg A gn (u : Int) (A 1 0).toNat) 1 0 → gb i ≠ 0 → v_ok ((v_skg A gn (u : Int) (A 1 0).toNat) 2 0) nd i (v_skg A gn (u : Int) (A 1 0).toNat) := fun i hi q => by
      unfold v_ok
      simp (disch := omega) only [k0] at hi ⊢
      exact hS i hi q
    rcases g_unroll (T := A) (A := v_skg A gn (u : Int) (A 1 0).toNat) (e := v_e (A 0 4)) hJu h98 hnd he0 (by rw [k0 _ 1 0 (by decide)]; exact he1) (by rw [k0 _ 1 0 (by decide), k0 _ 0 4 (by decide)]; exact hes) (A 1 0).toNat (by rw [k0 _ 1 0 (by decide)]; omega) with ⟨B', m, -, -, -, -, hF⟩ | ⟨T', A'', hP, -, -, hU⟩
    · -- nobody can be found
      exfalso
      obtain ⟨f1, f2, f3, f4, f5, f6, f7, f8, f9⟩ := hF
      simp (disch := omega) only [k0] at f3 f9
      have e6 := f8 hS' 6 (B' 0 4).toNat (by decide) (by omega)
      rw [k0 _ 6 _ (by decide)] at e6
      rw [e6, f9] at f6
      have := hlt (B' 0 4).toNat (by omega) f4
      omega
    · obtain ⟨p1, p2, p3, p4, p5, p6⟩ := hP
      have eA : A'' = v_skg A gn ((u + 1 : Nat) : Int) (A 1 0).toNat := by
        funext o j
        by_cases o5 : o = 5
        · subst o5
          by_cases hj : (j : Int) < A 1 0
          · have h4 := (p4 j (by rw [k0 _ 1 0 (by decide)]; exact hj)).1 (by rw [k0 _ 1 0 (by decide)]; exact (v_seen_all he0 he1).mpr hj)
            by_cases q : gb j = 0
            · rw [(h4.1 q).1, a5z _ _ (fun x => x.2 q), hz j hj q]
            · rw [(h4.2 q).2.1, a5 _ _ hj q, a5 _ _ hj q, k0 _ 4 j (by decide), Int.natCast_add, Int.natCast_one, Int.add_mul, Int.one_mul]
              omega
          · rw [p6 j (by rw [k0 _ 1 0 (by decide)]; omega), a5z _ _ (fun x => hj x.1), a5z _ _ (fun x => hj x.1)]
        · by_cases o4 : o = 0 ∧ j = 4
          · obtain ⟨rfl, rfl⟩ := o4
            rw [p3, k0 _ 1 0 (by decide), k0 _ 0 4 (by decide), k0 _ 0 4 (by decide)]
            exact v_last hp
          · rw [p5 hS' o j o5 o4, k0 _ o j o5, k0 _ o j o5]
      rw [← eA] at h'
      exact ⟨n' + (A 1 0).toNat, by rw [(hU n').2]; exact h'⟩
