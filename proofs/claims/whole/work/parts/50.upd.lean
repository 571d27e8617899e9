/-! one cell of a state and of its row, written -/
def e_pos (o i : Nat) : Nat :=
  if o = 0 then (if i = 3 then 0 else if i = 4 then 4 else if i = 7 then 6 else 7) else if o ≤ 3 then o else if o ≤ 6 then 8 + 4 * i + (o - 4) else if o ≤ 13 then 20 + 10 * i + (o - 7) else if o ≤ 15 then 20 + 10 * i + (o - 6) else if o ≤ 18 then 100 + 7 * i + (o - 16) else 100 + 7 * i + 4
def e_dom (A : Nat → Nat → Int) (o i : Nat) : Prop :=
  (o = 0 ∧ (i = 3 ∨ i = 4 ∨ i = 7 ∨ i = 8)) ∨ ((o = 1 ∨ o = 2 ∨ o = 3) ∧ i = 0) ∨ ((4 ≤ o ∧ o ≤ 6) ∧ (i : Int) < A 1 0) ∨ ((7 ≤ o ∧ o ≤ 15 ∧ o ≠ 12) ∧ (i : Int) < A 2 0) ∨ ((16 ≤ o ∧ o ≤ 19) ∧ (i : Int) < A 3 0)
theorem e_pos_val {A : Nat → Nat → Int} (h1 : A 1 0 ≤ 3) (h2 : A 2 0 ≤ 8) {o i : Nat} (h : e_dom A o i) :
    (o = 0 ∧ ((i = 3 ∧ e_pos o i = 0) ∨ (i = 4 ∧ e_pos o i = 4) ∨ (i = 7 ∧ e_pos o i = 6) ∨ (i = 8 ∧ e_pos o i = 7))) ∨ (1 ≤ o ∧ o ≤ 3 ∧ i = 0 ∧ e_pos o i = o) ∨ (4 ≤ o ∧ o ≤ 6 ∧ i < 3 ∧ e_pos o i + 4 = 8 + 4 * i + o) ∨
    (7 ≤ o ∧ o ≤ 13 ∧ o ≠ 12 ∧ i < 8 ∧ e_pos o i + 7 = 20 + 10 * i + o) ∨ (14 ≤ o ∧ o ≤ 15 ∧ i < 8 ∧ e_pos o i + 6 = 20 + 10 * i + o) ∨ (16 ≤ o ∧ o ≤ 18 ∧ e_pos o i + 16 = 100 + 7 * i + o) ∨ (o = 19 ∧ e_pos o i = 100 + 7 * i + 4) := by
  unfold e_dom at h
  rcases h with ⟨rfl, rfl | rfl | rfl | rfl⟩ | ⟨rfl | rfl | rfl, rfl⟩ | ⟨a, b⟩ | ⟨a, b⟩ | ⟨a, b⟩
  · exact Or.inl ⟨rfl, Or.inl ⟨rfl, rfl⟩⟩
  · exact Or.inl ⟨rfl, Or.inr (Or.inl ⟨rfl, rfl⟩)⟩
  · exact Or.inl ⟨rfl, Or.inr (Or.inr (Or.inl ⟨rfl, rfl⟩))⟩
  · exact Or.inl ⟨rfl, Or.inr (Or.inr (Or.inr ⟨rfl, rfl⟩))⟩
  · exact Or.inr (Or.inl ⟨by decide, by decide, rfl, rfl⟩)
  · exact Or.inr (Or.inl ⟨by decide, by decide, rfl, rfl⟩)
  · exact Or.inr (Or.inl ⟨by decide, by decide, rfl, rfl⟩)
  · have e : e_pos o i = 8 + 4 * i + (o - 4) := by unfold e_pos; rw [if_neg (by omega), if_neg (by omega), if_pos (by omega)]
    rw [e]; exact Or.inr (Or.inr (Or.inl (by omega)))
  · by_cases q : o ≤ 13
    · have e : e_pos o i = 20 + 10 * i + (o - 7) := by unfold e_pos; rw [if_neg (by omega), if_neg (by omega), if_neg (by omega), if_pos q]
      rw [e]; exact Or.inr (Or.inr (Or.inr (Or.inl (by omega))))
    · have e : e_pos o i = 20 + 10 * i + (o - 6) := by unfold e_pos; rw [if_neg (by omega), if_neg (by omega), if_neg (by omega), if_neg q, if_pos (by omega)]
      rw [e]; exact Or.inr (Or.inr (Or.inr (Or.inr (Or.inl (by omega)))))
  · by_cases q : o ≤ 18
    · have e : e_pos o i = 100 + 7 * i + (o - 16) := by unfold e_pos; rw [if_neg (by omega), if_neg (by omega), if_neg (by omega), if_neg (by omega), if_neg (by omega), if_pos q]
      rw [e]; exact Or.inr (Or.inr (Or.inr (Or.inr (Or.inr (Or.inl (by omega))))))
    · have e : e_pos o i = 100 + 7 * i + 4 := by unfold e_pos; rw [if_neg (by omega), if_neg (by omega), if_neg (by omega), if_neg (by omega), if_neg (by omega), if_neg q]
      rw [e]; exact Or.inr (Or.inr (Or.inr (Or.inr (Or.inr (Or.inr (by omega))))))
theorem e_pos_inj {A : Nat → Nat → Int} (h1 : A 1 0 ≤ 3) (h2 : A 2 0 ≤ 8) {o i o' i' : Nat} (h : e_dom A o i) (h' : e_dom A o' i') (e : e_pos o i = e_pos o' i') : o = o' ∧ i = i' := by
  have a := e_pos_val h1 h2 h
  have b := e_pos_val h1 h2 h'
  generalize e_pos o i = p at *
  generalize e_pos o' i' = p' at *
  subst e
  clear h h' h1 h2
  rcases a with a | a | a | a | a | a | a <;> rcases b with b | b | b | b | b | b | b <;> omega
theorem e_W_iff {A : Nat → Nat → Int} {ρ : Nat → Int} : e_W A ρ ↔ (∀ o i, e_dom A o i → ρ (e_pos o i) = A o i) ∧ (∀ g : Nat, (g : Int) < A 1 0 → ρ (8 + 4 * g + 3) = s_sum (s_rg (A 2 0).toNat) (fun c => if A 7 c = (g : Int) then A 15 c else 0)) ∧ ∀ j : Nat, (j : Int) < A 3 0 → (ρ (100 + 7 * j + 3) = 0 ↔ A 19 j = -5) := by
  constructor
  · rintro ⟨⟨w0, w1, w2, w3, w4, w6, w7⟩, wg, wc, wj⟩
    refine ⟨fun o i h => ?_, fun g hg => (wg g hg).2.2.2, fun j hj => (wj j hj).2.2.2.1⟩
    unfold e_dom at h
    rcases h with ⟨rfl, a⟩ | ⟨a, rfl⟩ | ⟨a, hi⟩ | ⟨a, hi⟩ | ⟨a, hi⟩
    · rcases a with rfl | rfl | rfl | rfl
      · exact w0
      · exact w4
      · exact w6
      · exact w7
    · rcases a with rfl | rfl | rfl
      · exact w1
      · exact w2
      · exact w3
    · obtain ⟨b1, b2, b3, -⟩ := wg i hi
      obtain rfl | rfl | rfl : o = 4 ∨ o = 5 ∨ o = 6 := by omega
      · exact b1
      · exact b2
      · exact b3
    · obtain ⟨⟨b1, b2, b3, b4, b5⟩, b6, b7, b8, b9⟩ := wc i hi
      obtain rfl | rfl | rfl | rfl | rfl | rfl | rfl | rfl : o = 7 ∨ o = 8 ∨ o = 9 ∨ o = 10 ∨ o = 11 ∨ o = 13 ∨ o = 14 ∨ o = 15 := by omega
      · exact b1
      · exact b2
      · exact b3
      · exact b4
      · exact b5
      · exact b7
      · exact b8
      · exact b9
    · obtain ⟨b1, b2, b3, -, b4⟩ := wj i hi
      obtain rfl | rfl | rfl | rfl : o = 16 ∨ o = 17 ∨ o = 18 ∨ o = 19 := by omega
      · exact b1
      · exact b2
      · exact b3
      · exact b4
  · rintro ⟨h, hg, hj⟩
    refine ⟨⟨h 0 3 (Or.inl ⟨rfl, by omega⟩), h 1 0 (Or.inr (Or.inl ⟨by omega, rfl⟩)), h 2 0 (Or.inr (Or.inl ⟨by omega, rfl⟩)), h 3 0 (Or.inr (Or.inl ⟨by omega, rfl⟩)), h 0 4 (Or.inl ⟨rfl, by omega⟩), h 0 7 (Or.inl ⟨rfl, by omega⟩), h 0 8 (Or.inl ⟨rfl, by omega⟩)⟩, fun g q => ?_, fun c q => ?_, fun j q => ?_⟩
    · have e := fun o (a : 4 ≤ o ∧ o ≤ 6) => h o g (Or.inr (Or.inr (Or.inl ⟨a, q⟩)))
      exact ⟨e 4 (by omega), e 5 (by omega), e 6 (by omega), hg g q⟩
    · have e := fun o (a : 7 ≤ o ∧ o ≤ 15 ∧ o ≠ 12) => h o c (Or.inr (Or.inr (Or.inr (Or.inl ⟨a, q⟩))))
      exact ⟨⟨e 7 (by omega), e 8 (by omega), e 9 (by omega), e 10 (by omega), e 11 (by omega)⟩, trivial, e 13 (by omega), e 14 (by omega), e 15 (by omega)⟩
    · have e := fun o (a : 16 ≤ o ∧ o ≤ 19) => h o j (Or.inr (Or.inr (Or.inr (Or.inr ⟨a, q⟩))))
      exact ⟨e 16 (by omega), e 17 (by omega), e 18 (by omega), hj j q, e 19 (by omega)⟩
/-- a cell that is no count, no group of a class, no unit and no beginning -/
theorem e_W_u {A : Nat → Nat → Int} {ρ : Nat → Int} (h1 : A 1 0 ≤ 3) (h2 : A 2 0 ≤ 8) (h : e_W A ρ) {o i : Nat} {v : Int} (hd : e_dom A o i) (ho : o ≠ 1 ∧ o ≠ 2 ∧ o ≠ 3 ∧ o ≠ 7 ∧ o ≠ 15 ∧ o ≠ 19) : e_W (a_u A o i v) (r_u ρ (e_pos o i) v) := by
  rw [e_W_iff] at h ⊢
  obtain ⟨a, b, c⟩ := h
  have e : ∀ o' i', o' ≠ o → a_u A o i v o' i' = A o' i' := fun o' i' q => a_u_o q
  rw [e 1 0 (by omega), e 2 0 (by omega), e 3 0 (by omega)]
  refine ⟨fun o' i' q => ?_, fun g hg => ?_, fun j hj => ?_⟩
  · have q' : e_dom A o' i' := by
      unfold e_dom at q ⊢
      rw [e 1 0 (by omega), e 2 0 (by omega), e 3 0 (by omega)] at q
      exact q
    by_cases z : o' = o ∧ i' = i
    · rw [z.1, z.2, r_u_same, a_u_same]
    · rw [a_u_ne z, r_u_ne (fun y => z (e_pos_inj h1 h2 q' hd y))]
      exact a o' i' q'
  · rw [r_u_ne (by have := e_pos_val h1 h2 hd; omega), b g hg]
    refine s_sum_congr fun c _ => ?_
    rw [e 7 _ (by omega), e 15 _ (by omega)]
  · rw [r_u_ne (by have := e_pos_val h1 h2 hd; omega), e 19 _ (by omega)]
    exact c j hj
theorem e_W_19 {A : Nat → Nat → Int} {ρ : Nat → Int} (h1 : A 1 0 ≤ 3) (h2 : A 2 0 ≤ 8) (h : e_W A ρ) {j : Nat} {v t : Int} (hj : (j : Int) < A 3 0) (hv : v = 0 ↔ t = -5) : e_W (a_u A 19 j t) (r_u (r_u ρ (100 + 7 * j + 3) v) (100 + 7 * j + 4) t) := by
  rw [e_W_iff] at h ⊢
  obtain ⟨a, b, c⟩ := h
  have e : ∀ o' i', o' ≠ 19 → a_u A 19 j t o' i' = A o' i' := fun o' i' q => a_u_o q
  have hd : e_dom A 19 j := Or.inr (Or.inr (Or.inr (Or.inr ⟨by omega, hj⟩)))
  rw [e 1 0 (by omega), e 2 0 (by omega), e 3 0 (by omega)]
  refine ⟨fun o' i' q => ?_, fun g hg => ?_, fun k hk => ?_⟩
  · have q' : e_dom A o' i' := by
      unfold e_dom at q ⊢
      rw [e 1 0 (by omega), e 2 0 (by omega), e 3 0 (by omega)] at q
      exact q
    by_cases z : o' = 19 ∧ i' = j
    · rw [z.1, z.2, a_u_same]
      exact r_u_same _ _ _
    · rw [a_u_ne z, r_u_ne (by have := e_pos_val h1 h2 q'; omega), r_u_ne (by have := e_pos_val h1 h2 q'; omega)]
      exact a o' i' q'
  · rw [r_u_ne (by omega), r_u_ne (by omega), b g hg]
    refine s_sum_congr fun c _ => ?_
    rw [e 7 _ (by omega), e 15 _ (by omega)]
  · rw [r_u_ne (by omega), a_u_at]
    by_cases z : k = j
    · rw [z, r_u_same, if_pos rfl]; exact hv
    · rw [r_u_ne (by omega), if_neg z]; exact c k hk
theorem e_W_congrA {A A' : Nat → Nat → Int} {ρ : Nat → Int} (h : e_W A ρ) (hA : ∀ o i, o ≠ 20 ∧ o ≠ 12 → ¬ (o = 0 ∧ (i = 5 ∨ i = 6)) → ¬ (o = 3 ∧ i = 5) → A' o i = A o i) : e_W A' ρ := by
  rw [e_W_iff] at h ⊢
  obtain ⟨a, b, c⟩ := h
  rw [hA 1 0 (by omega) (by omega) (by omega), hA 2 0 (by omega) (by omega) (by omega), hA 3 0 (by omega) (by omega) (by omega)]
  refine ⟨fun o i q => ?_, fun g hg => ?_, fun j hj => ?_⟩
  · have q' : e_dom A o i := by
      unfold e_dom at q ⊢
      rw [hA 1 0 (by omega) (by omega) (by omega), hA 2 0 (by omega) (by omega) (by omega), hA 3 0 (by omega) (by omega) (by omega)] at q
      exact q
    rw [hA o i (by unfold e_dom at q; omega) (by unfold e_dom at q; omega) (by unfold e_dom at q; omega)]
    exact a o i q'
  · rw [b g hg]
    refine s_sum_congr fun c _ => ?_
    rw [hA 7 c (by omega) (by omega) (by omega), hA 15 c (by omega) (by omega) (by omega)]
  · rw [hA 19 j (by omega) (by omega) (by omega)]; exact c j hj
theorem e_W_congrR {A : Nat → Nat → Int} {ρ ρ' : Nat → Int} (h1 : A 1 0 ≤ 3) (h2 : A 2 0 ≤ 8) (h : e_W A ρ) (hρ : ∀ i, i ≠ 5 → ¬ (20 ≤ i ∧ i < 100 ∧ (i % 10 = 7 ∨ i % 10 = 5)) → ¬ (100 ≤ i ∧ ((i - 100) % 7 = 5 ∨ (i - 100) % 7 = 6)) → ρ' i = ρ i) : e_W A ρ' := by
  rw [e_W_iff] at h ⊢
  obtain ⟨a, b, c⟩ := h
  refine ⟨fun o i q => ?_, fun g hg => ?_, fun j hj => ?_⟩
  · rw [← a o i q]
    have := e_pos_val h1 h2 q
    exact hρ _ (by omega) (by omega) (by omega)
  · rw [← b g hg]
    exact hρ _ (by omega) (by omega) (by omega)
  · rw [hρ _ (by omega) (by omega) (by omega)]; exact c j hj
