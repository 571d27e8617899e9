/-! the next class of a busy group, both ways -/
def v_H (C : Int) (nd : Nat → Int) (g : Nat) (A : Nat → Nat → Int) : Prop :=
  (∀ c : Nat, (c : Int) < C → (1 ≤ A 8 c ∧ A 8 c ≤ 200) ∧ 0 ≤ nd c ∧ nd c ≤ 99) ∧ (A 6 g = -5 ∨ (0 ≤ A 6 g ∧ A 6 g < C ∧ A 7 (A 6 g).toNat = (g : Int))) ∧
  ∀ c : Nat, (c : Int) < C → A 7 c = (g : Int) → (-20000 ≤ A 9 c ∧ A 9 c ≤ 298) ∧ (A 6 g ≠ (c : Int) ∨ nd c = 0 → A 9 c ≤ 98)
abbrev v_ok (C : Int) (nd : Nat → Int) (g : Nat) (A : Nat → Nat → Int) : Prop := (0 ≤ A 6 g ∧ A 6 g < C) ∧ 0 < nd (A 6 g).toNat ∧ nd (A 6 g).toNat ≤ A 9 (A 6 g).toNat
def v_fr (g : Nat) (A B : Nat → Nat → Int) : Prop := (∀ o j, o ≠ 9 → ¬ (o = 6 ∧ j = g) → B o j = A o j) ∧ ∀ j, A 7 j ≠ (g : Int) → B 9 j = A 9 j
def v_e (p : Int) : Int := if 0 ≤ p then p + 1 else 0
theorem v_e_in {C p : Int} (h : p = -5 ∨ (0 ≤ p ∧ p < C)) (hC : 0 < C) : 0 ≤ v_e p ∧ v_e p ≤ C ∧ v_nx C p = v_at C (v_e p) 0 := by
  unfold v_e v_nx v_at
  repeat' split
  all_goals omega
theorem v_cover {C e : Int} (h0 : 0 ≤ e) (h1 : e ≤ C) {j : Nat} (hj : (j : Int) < C) : ∃ i : Nat, (i : Int) < C ∧ v_at C e i = (j : Int) := by
  by_cases h : e ≤ (j : Int)
  · refine ⟨((j : Int) - e).toNat, by omega, ?_⟩
    unfold v_at
    split <;> omega
  · refine ⟨((j : Int) + C - e).toNat, by omega, ?_⟩
    unfold v_at
    split <;> omega
theorem v_P_fr {C : Int} {nd : Nat → Int} {g : Nat} {A A' : Nat → Nat → Int} {e : Int} {k : Nat} (h : v_P C nd g A e k A') : v_fr g A A' := ⟨h.1, fun j hj => (h.2.1 j).2 (fun q => hj q.1)⟩
theorem v_look1 {C : Int} {nd : Nat → Int} {g : Nat} {A : Nat → Nat → Int} (hC : 0 < C) (hH : v_H C nd g A) (hno : ¬ v_ok C nd g A) (hG : ∃ j : Nat, (j : Int) < C ∧ v_G nd g A (j : Int)) :
    ∃ B n, v_wc C nd g C.toNat (A 6 g) A = (1, B) ∧ r_mc C nd g n (A 6 g) A B ∧ v_ok C nd g B ∧ v_fr g A B ∧ v_H C nd g B := by
  obtain ⟨q1, q2, q3⟩ := hH
  have hp : A 6 g = -5 ∨ (0 ≤ A 6 g ∧ A 6 g < C) := by rcases q2 with h | h; exact Or.inl h; exact Or.inr ⟨h.1, h.2.1⟩
  obtain ⟨he0, he1, hes⟩ := v_e_in hp hC
  have hm : ∃ m : Nat, m < C.toNat ∧ v_G nd g A (v_at C (v_e (A 6 g)) m) ∧ ∀ i, i < m → ¬ v_G nd g A (v_at C (v_e (A 6 g)) i) := by
    rcases v_first (fun i => v_G nd g A (v_at C (v_e (A 6 g)) i)) C.toNat with h | h
    · obtain ⟨j, hj, hg⟩ := hG
      obtain ⟨i, hi, e⟩ := v_cover he0 he1 hj
      exact absurd (by rw [e]; exact hg) (h i (by omega))
    · exact h
  obtain ⟨m, hm1, hm2, hm3⟩ := hm
  have hmC : (m : Int) < C := by omega
  obtain ⟨B, hP, hw, hr, hB6, hB9⟩ := v_found he0 he1 (by omega) hes hmC hm2 hm3
  have hin := v_at_in he0 he1 hmC
  refine ⟨B, m + 1, hw, hr, ?_, v_P_fr hP, ?_, ?_, ?_⟩
  · unfold v_ok
    rw [hB6, hB9]
    have := hm2.2
    have := (q1 (v_at C (v_e (A 6 g)) m).toNat (by omega)).2
    omega
  · intro c hc
    rw [hP.1 8 c (by decide) (by omega)]
    exact q1 c hc
  · rw [hB6, hP.1 7 _ (by decide) (by omega)]
    exact Or.inr ⟨hin.1, hin.2, hm2.1⟩
  · intro c hc h7
    rw [hP.1 7 c (by decide) (by omega)] at h7
    have h3 := q3 c hc h7
    have h1 := q1 c hc
    have hP9 := hP.2.1 c
    rw [hB6]
    obtain ⟨ic, hic, eic⟩ := v_cover he0 he1 hc
    have hpc : A 6 g = (c : Int) → nd c ≠ 0 → A 9 c < nd c := by
      intro e1 e2
      have : ¬ ((0 ≤ A 6 g ∧ A 6 g < C) ∧ 0 < nd (A 6 g).toNat ∧ nd (A 6 g).toNat ≤ A 9 (A 6 g).toNat) := hno
      rw [e1, Int.toNat_natCast] at this
      omega
    have h98 : A 9 c ≤ 98 := by
      by_cases e1 : A 6 g = (c : Int)
      · by_cases e2 : nd c = 0
        · exact h3.2 (Or.inr e2)
        · have := hpc e1 e2; omega
      · exact h3.2 (Or.inl e1)
    by_cases hs : v_seen C (v_e (A 6 g)) (m + 1) c
    · rw [hP9.1 ⟨h7, hs⟩]
      unfold v_new
      by_cases ez : nd c = 0
      · rw [if_pos ez]; omega
      · rw [if_neg ez]
        refine ⟨by omega, fun hh => ?_⟩
        rcases hh with hh | hh
        · -- seen before, and not good
          have hicm : ic < m := by
            rcases (v_seen_succ he0 he1 hmC).mp hs with q | q
            · unfold v_seen at q
              unfold v_at at eic
              split at eic <;> omega
            · omega
          have hng := hm3 ic hicm
          rw [eic] at hng
          unfold v_G at hng
          rw [Int.toNat_natCast] at hng
          omega
        · exact absurd hh ez
    · rw [hP9.2 (fun q => hs q.2)]
      exact ⟨by omega, fun _ => h98⟩
theorem v_sr_le {nd : Nat → Int} {g : Nat} {A : Nat → Nat → Int} : ∀ (L : List Nat) (r : Int), v_sr nd g A L r ≤ r ∧ (∀ c ∈ L, A 7 c = (g : Int) → 0 < nd c → v_sr nd g A L r ≤ v_rb (nd c) (A 9 c) (A 8 c)) ∧
    (v_sr nd g A L r = r ∨ ∃ c ∈ L, A 7 c = (g : Int) ∧ 0 < nd c ∧ v_sr nd g A L r = v_rb (nd c) (A 9 c) (A 8 c)) := by
  intro L
  induction L with
  | nil => intro r; exact ⟨Int.le_refl _, fun c hc => absurd hc List.not_mem_nil, Or.inl rfl⟩
  | cons c L ih =>
    intro r
    rw [v_sr_cons]
    by_cases h : A 7 c = (g : Int) ∧ 0 < nd c
    · rw [if_pos h]
      by_cases h2 : v_rb (nd c) (A 9 c) (A 8 c) < r
      · rw [if_pos h2]
        obtain ⟨i1, i2, i3⟩ := ih (v_rb (nd c) (A 9 c) (A 8 c))
        refine ⟨by omega, fun c' hc' a b => ?_, ?_⟩
        · rcases List.mem_cons.mp hc' with rfl | hc'
          · exact i1
          · exact i2 c' hc' a b
        · rcases i3 with i3 | ⟨c', a, b⟩
          · exact Or.inr ⟨c, List.mem_cons_self, h.1, h.2, i3⟩
          · exact Or.inr ⟨c', List.mem_cons_of_mem _ a, b⟩
      · rw [if_neg h2]
        obtain ⟨i1, i2, i3⟩ := ih r
        refine ⟨i1, fun c' hc' a b => ?_, ?_⟩
        · rcases List.mem_cons.mp hc' with rfl | hc'
          · omega
          · exact i2 c' hc' a b
        · rcases i3 with i3 | ⟨c', a, b⟩
          · exact Or.inl i3
          · exact Or.inr ⟨c', List.mem_cons_of_mem _ a, b⟩
    · rw [if_neg h]
      obtain ⟨i1, i2, i3⟩ := ih r
      refine ⟨i1, fun c' hc' a b => ?_, ?_⟩
      · rcases List.mem_cons.mp hc' with rfl | hc'
        · exact absurd ⟨a, b⟩ h
        · exact i2 c' hc' a b
      · rcases i3 with i3 | ⟨c', a, b⟩
        · exact Or.inl i3
        · exact Or.inr ⟨c', List.mem_cons_of_mem _ a, b⟩
theorem v_gap {C : Int} {nd : Nat → Int} {g : Nat} {A B : Nat → Nat → Int} {e : Int} (h0 : 0 ≤ e) (h1 : e ≤ C) {i : Nat} (hn : ∀ i' : Nat, i < i' → (i' : Int) < C → A 7 (v_at C e i').toNat ≠ (g : Int)) : ∀ (d n : Nat), ((i + d : Nat) : Int) < C → r_mc C nd g n (v_at C e i) A B → ∃ n', r_mc C nd g n' (v_at C e (i + d)) A B := by
  intro d
  induction d with
  | zero => intro n _ h; exact ⟨n, h⟩
  | succ d ih =>
    intro n hd h
    obtain ⟨n', h'⟩ := ih n (by omega) h
    cases n' with
    | zero => exact absurd h' id
    | succ n' =>
      rw [r_mc_succ, v_at_nx h0 h1 (by omega), show i + d + 1 = i + (d + 1) by omega, if_neg (hn (i + (d + 1)) (by omega) (by omega))] at h'
      exact ⟨n', h'⟩
theorem v_last {C p : Int} (h : 0 ≤ p ∧ p < C) : v_wh C (v_e p) p C.toNat = p := by
  obtain ⟨k, hk⟩ : ∃ k : Nat, C.toNat = k + 1 := ⟨C.toNat - 1, by omega⟩
  rw [hk]
  show v_at C (v_e p) k = p
  unfold v_at v_e
  rw [if_pos h.1]
  split <;> omega
theorem v_seen_all {C e : Int} (h0 : 0 ≤ e) (h1 : e ≤ C) {j : Nat} : v_seen C e C.toNat j ↔ (j : Int) < C := by
  unfold v_seen
  omega
theorem v_sk0 (A : Nat → Nat → Int) (nd : Nat → Int) (g k : Nat) : v_sk A nd g 0 k = A := by
  funext o j
  unfold v_sk
  split
  · rename_i h; rw [h.1]; omega
  · rfl
/-- rounds that let nobody in, one by one -/
theorem v_rounds {C : Int} {nd : Nat → Int} {g : Nat} {A B : Nat → Nat → Int} (hC : 0 < C) (hp : 0 ≤ A 6 g ∧ A 6 g < C) (h7 : A 7 (A 6 g).toNat = (g : Int)) {r : Nat}
    (hz : ∀ c : Nat, (c : Int) < C → A 7 c = (g : Int) → nd c = 0 → A 9 c = 0) (hn : ∀ c : Nat, (c : Int) < C → 0 ≤ nd c) (hq : ∀ c : Nat, (c : Int) < C → 1 ≤ A 8 c)
    (hr : ∀ c : Nat, (c : Int) < C → A 7 c = (g : Int) → nd c ≠ 0 → A 9 c + r * A 8 c < nd c) : ∀ (t n : Nat), t ≤ r → r_mc C nd g n (A 6 g) (v_sk A nd g r C.toNat) B → ∃ n', r_mc C nd g n' (A 6 g) (v_sk A nd g ((r - t : Nat) : Int) C.toNat) B := by
  intro t
  induction t with
  | zero => intro n _ h; exact ⟨n, h⟩
  | succ t ih =>
    intro n ht h
    obtain ⟨n', h'⟩ := ih n (by omega) h
    obtain ⟨u, hu⟩ : ∃ u : Nat, r - t = u + 1 := ⟨r - t - 1, by omega⟩
    rw [hu] at h'
    rw [show r - (t + 1) = u by omega]
    obtain ⟨he0, he1, hes⟩ := v_e_in (C := C) (p := A 6 g) (Or.inr hp) hC
    have a6 : ∀ x : Int, v_sk A nd g x C.toNat 6 g = A 6 g := fun x => v_sk_o (by decide)
    have a9 : ∀ (x : Int) (c : Nat), (c : Int) < C → A 7 c = (g : Int) → nd c ≠ 0 → v_sk A nd g x C.toNat 9 c = A 9 c + x * A 8 c := fun x c hc hg hz => by
      unfold v_sk; rw [if_pos ⟨rfl, by omega, hg, by have := hn c hc; omega⟩]
    have a9z : ∀ (x : Int) (c : Nat), ¬ ((c : Int) < C ∧ A 7 c = (g : Int) ∧ nd c ≠ 0) → v_sk A nd g x C.toNat 9 c = A 9 c := fun x c hc => by
      unfold v_sk
      rw [if_neg (fun q => hc ⟨by omega, q.2.2.1, by omega⟩)]
    have hmul : ∀ c : Nat, (c : Int) < C → ((u : Int) + 1) * A 8 c ≤ r * A 8 c := fun c hc => Int.mul_le_mul_of_nonneg_right (by omega) (by have := hq c hc; omega)
    obtain ⟨A'', hP, -, hU⟩ := v_none (A := v_sk A nd g (u : Int) C.toNat) (nd := nd) (g := g) he0 he1 (by omega) hes (fun i hi => by
      have hin := v_at_in he0 he1 hi
      generalize v_at C (v_e (A 6 g)) i = w at hin
      intro hG
      obtain ⟨g1, g2, g3⟩ := hG
      rw [v_sk_o (by decide)] at g1
      rw [a9 _ _ (by omega) g1 g2, v_sk_o (by decide)] at g3
      have m1 := hmul w.toNat (by omega)
      have m2 := hr w.toNat (by omega) g1 g2
      rw [Int.add_mul, Int.one_mul] at m1
      omega)
    have eA : A'' = v_sk A nd g ((u + 1 : Nat) : Int) C.toNat := by
      funext o j
      by_cases o9 : o = 9
      · subst o9
        have hj := hP.2.1 j
        rw [v_seen_all he0 he1, v_sk_o (show 7 ≠ 9 by decide)] at hj
        by_cases hc : A 7 j = (g : Int) ∧ (j : Int) < C
        · rw [hj.1 hc]
          unfold v_new
          by_cases ez : nd j = 0
          · rw [if_pos ez, a9z _ _ (fun q => q.2.2 ez), hz j hc.2 hc.1 ez]
          · rw [if_neg ez, a9 _ _ hc.2 hc.1 ez, a9 _ _ hc.2 hc.1 ez, v_sk_o (show 8 ≠ 9 by decide), Int.natCast_add, Int.natCast_one, Int.add_mul, Int.one_mul]
            omega
        · rw [hj.2 hc, a9z _ _ (fun q => hc ⟨q.2.1, q.1⟩), a9z _ _ (fun q => hc ⟨q.2.1, q.1⟩)]
      · rw [v_sk_o o9]
        by_cases o6 : o = 6 ∧ j = g
        · obtain ⟨rfl, rfl⟩ := o6
          rcases hP.2.2 with ⟨-, hx⟩ | ⟨i, hi, e1, e2, e3⟩
          · exfalso
            obtain ⟨i, hi, e⟩ := v_cover he0 he1 (j := (A 6 j).toNat) (by omega)
            have := hx i (by omega)
            rw [e, Int.toNat_natCast, v_sk_o (by decide)] at this
            exact this h7
          · have hl := v_last hp
            obtain ⟨k, hk⟩ : ∃ k : Nat, C.toNat = k + 1 := ⟨C.toNat - 1, by omega⟩
            rw [hk] at hl hi e3
            have hl' : v_at C (v_e (A 6 j)) k = A 6 j := hl
            rcases Nat.lt_succ_iff_lt_or_eq.mp hi with q | q
            · exfalso
              have := e3 k q (by omega)
              rw [hl', v_sk_o (by decide)] at this
              exact this h7
            · rw [e1, q, hl']
        · rw [hP.1 o j o9 o6, v_sk_o o9]
    rw [eA, v_last hp] at hU
    exact ⟨n' + C.toNat, by rw [hU]; exact h'⟩
/-- what lookAt comes to for a busy group -/
def v_la1 (C : Int) (nd : Nat → Int) (g : Nat) (A : Nat → Nat → Int) : Nat → Nat → Int :=
  if (v_wc C nd g C.toNat (A 6 g) A).1 = 0 then
    (v_wc C nd g C.toNat ((v_wc C nd g C.toNat (A 6 g) A).2 6 g) (v_sk (v_wc C nd g C.toNat (A 6 g) A).2 nd g (v_sr nd g (v_wc C nd g C.toNat (A 6 g) A).2 (s_rg C.toNat) 1000000) C.toNat)).2
  else (v_wc C nd g C.toNat (A 6 g) A).2
theorem v_look {C : Int} {nd : Nat → Int} {g : Nat} {A : Nat → Nat → Int} (hC : 0 < C) (hH : v_H C nd g A) (hno : ¬ v_ok C nd g A) (hbusy : ∃ j : Nat, (j : Int) < C ∧ A 7 j = (g : Int) ∧ nd j ≠ 0) :
    (∃ n, r_mc C nd g n (A 6 g) A (v_la1 C nd g A)) ∧ v_ok C nd g (v_la1 C nd g A) ∧ v_fr g A (v_la1 C nd g A) ∧ v_H C nd g (v_la1 C nd g A) ∧
    ((v_wc C nd g C.toNat (A 6 g) A).1 = 0 → v_fr g A (v_wc C nd g C.toNat (A 6 g) A).2 ∧ (0 ≤ (v_wc C nd g C.toNat (A 6 g) A).2 6 g ∧ (v_wc C nd g C.toNat (A 6 g) A).2 6 g < C) ∧ ∀ c : Nat, (c : Int) < C → (-20000 ≤ (v_wc C nd g C.toNat (A 6 g) A).2 9 c ∧ (v_wc C nd g C.toNat (A 6 g) A).2 9 c ≤ 600) ∨ A 7 c ≠ (g : Int)) := by
  obtain ⟨q1, q2, q3⟩ := id hH
  have hp : A 6 g = -5 ∨ (0 ≤ A 6 g ∧ A 6 g < C) := by rcases q2 with h | h; exact Or.inl h; exact Or.inr ⟨h.1, h.2.1⟩
  by_cases hG : ∃ j : Nat, (j : Int) < C ∧ v_G nd g A (j : Int)
  · obtain ⟨B, n, hw, hr, hok, hfr, hB⟩ := v_look1 hC hH hno hG
    have e : v_la1 C nd g A = B := by unfold v_la1; rw [hw]; exact if_neg (show ¬ (1 : Int) = 0 by decide)
    rw [e]
    exact ⟨⟨n, hr⟩, hok, hfr, hB, fun h => by rw [hw] at h; exact absurd (show (1 : Int) = 0 from h) (by decide)⟩
  · obtain ⟨he0, he1, hes⟩ := v_e_in hp hC
    have hnG : ∀ c : Nat, (c : Int) < C → A 7 c = (g : Int) → nd c ≠ 0 → A 9 c + A 8 c < nd c := fun c hc h7 hz => by
      have : ¬ v_G nd g A (c : Int) := fun h => hG ⟨c, hc, h⟩
      unfold v_G at this
      rw [Int.toNat_natCast] at this
      omega
    obtain ⟨A', hP, hw, hU⟩ := v_none (A := A) (nd := nd) (g := g) he0 he1 (by omega) hes (fun i hi hGi => by
      have hin := v_at_in he0 he1 hi
      exact hG ⟨(v_at C (v_e (A 6 g)) i).toNat, by omega, by rw [Int.toNat_of_nonneg hin.1]; exact hGi⟩)
    have f7 : ∀ j, A' 7 j = A 7 j := fun j => hP.1 7 j (by decide) (by omega)
    have f8 : ∀ j, A' 8 j = A 8 j := fun j => hP.1 8 j (by decide) (by omega)
    have f9 : ∀ c : Nat, (c : Int) < C → A 7 c = (g : Int) → A' 9 c = if nd c = 0 then 0 else A 9 c + A 8 c := fun c hc h7 => (hP.2.1 c).1 ⟨h7, (v_seen_all he0 he1).mpr hc⟩
    obtain ⟨jb, hjC, hj7, hjz⟩ := hbusy
    have hlast : ∃ i : Nat, (i : Int) < C ∧ A' 6 g = v_at C (v_e (A 6 g)) i ∧ A 7 (v_at C (v_e (A 6 g)) i).toNat = (g : Int) ∧ ∀ i' : Nat, i < i' → (i' : Int) < C → A 7 (v_at C (v_e (A 6 g)) i').toNat ≠ (g : Int) := by
      rcases hP.2.2 with ⟨-, h⟩ | ⟨i, h1, h2, h3, h4⟩
      · exfalso
        obtain ⟨i, hi, e⟩ := v_cover he0 he1 hjC
        have := h i (by omega)
        rw [e, Int.toNat_natCast] at this
        exact this hj7
      · exact ⟨i, by omega, h2, h3, fun i' a b => h4 i' a (by omega)⟩
    obtain ⟨i, hi, hi6, hi7, hi8⟩ := hlast
    have hin := v_at_in he0 he1 hi
    have hp' : 0 ≤ A' 6 g ∧ A' 6 g < C := by rw [hi6]; exact hin
    have hp7 : A' 7 (A' 6 g).toNat = (g : Int) := by rw [f7, hi6]; exact hi7
    -- the rounds
    have hrb : ∀ c : Nat, (c : Int) < C → A' 7 c = (g : Int) → 0 < nd c → v_rb (nd c) (A' 9 c) (A' 8 c) = (nd c - 1 - A' 9 c) / A 8 c ∧ 0 ≤ nd c - 1 - A' 9 c ∧ nd c - 1 - A' 9 c ≤ 21000 := fun c hc h7 hz => by
      rw [f7] at h7
      have h1 := hnG c hc h7 (by omega)
      have h2 := f9 c hc h7
      rw [if_neg (by omega)] at h2
      have h3 := q1 c hc
      have h4 := q3 c hc h7
      refine ⟨?_, by omega, by omega⟩
      unfold v_rb
      rw [f8, if_pos ⟨by omega, by omega⟩]
    obtain ⟨s1, s2, s3⟩ := v_sr_le (nd := nd) (g := g) (A := A') (s_rg C.toNat) 1000000
    have hmem : ∀ c : Nat, c ∈ s_rg C.toNat ↔ (c : Int) < C := fun c => by unfold s_rg; rw [List.mem_range'_1]; omega
    generalize hrr : v_sr nd g A' (s_rg C.toNat) 1000000 = r at s1 s2 s3
    have hjr := s2 jb ((hmem jb).mpr hjC) (by rw [f7]; exact hj7) (by have := q1 jb hjC; omega)
    have hjrb := hrb jb hjC (by rw [f7]; exact hj7) (by have := q1 jb hjC; omega)
    have hjq := q1 jb hjC
    have hjle := Int.ediv_le_self (A 8 jb) hjrb.2.1
    rw [hjrb.1] at hjr
    have hstar : ∃ c : Nat, (c : Int) < C ∧ A 7 c = (g : Int) ∧ 0 < nd c ∧ r = (nd c - 1 - A' 9 c) / A 8 c := by
      rcases s3 with h | ⟨c, h1, h2, h3, h4⟩
      · omega
      · have hc := (hmem c).mp h1
        rw [(hrb c hc h2 h3).1] at h4
        exact ⟨c, hc, by rw [← f7]; exact h2, h3, h4⟩
    obtain ⟨cs, hcs, hcs7, hcsn, hcsr⟩ := hstar
    have hr0 : 0 ≤ r := by
      rw [hcsr]
      exact Int.ediv_nonneg (hrb cs hcs (by rw [f7]; exact hcs7) hcsn).2.1 (by have := q1 cs hcs; omega)
    have hrle : ∀ c : Nat, (c : Int) < C → A 7 c = (g : Int) → nd c ≠ 0 → r * A 8 c ≤ nd c - 1 - A' 9 c := fun c hc h7 hz => by
      have h0 := q1 c hc
      have h1 := s2 c ((hmem c).mpr hc) (by rw [f7]; exact h7) (by omega)
      rw [(hrb c hc (by rw [f7]; exact h7) (by omega)).1] at h1
      have h2 := Int.mul_le_mul_of_nonneg_right h1 (show 0 ≤ A 8 c by omega)
      have h3 := Int.ediv_mul_le (nd c - 1 - A' 9 c) (show A 8 c ≠ 0 by omega)
      omega
    have hA16 : v_sk A' nd g r C.toNat 6 g = A' 6 g := v_sk_o (by decide)
    have hA17 : ∀ j, v_sk A' nd g r C.toNat 7 j = A 7 j := fun j => by rw [v_sk_o (by decide)]; exact f7 j
    have hA18 : ∀ j, v_sk A' nd g r C.toNat 8 j = A 8 j := fun j => by rw [v_sk_o (by decide)]; exact f8 j
    have hA19 : ∀ c : Nat, (c : Int) < C → A 7 c = (g : Int) → nd c ≠ 0 → v_sk A' nd g r C.toNat 9 c = A' 9 c + r * A 8 c := fun c hc h7 hz => by
      unfold v_sk
      rw [if_pos ⟨rfl, by omega, by rw [f7]; exact h7, by have := (q1 c hc).2; omega⟩, f8]
    have hA19z : ∀ c : Nat, (c : Int) < C → nd c = 0 → v_sk A' nd g r C.toNat 9 c = A' 9 c := fun c hc hz => by
      unfold v_sk
      rw [if_neg (fun q => by omega)]
    have hno1 : ¬ v_ok C nd g (v_sk A' nd g r C.toNat) := by
      unfold v_ok
      rw [hA16]
      intro h
      have h7' : A 7 (A' 6 g).toNat = (g : Int) := by rw [← f7]; exact hp7
      rw [hA19 (A' 6 g).toNat (by omega) h7' (by omega)] at h
      have := hrle (A' 6 g).toNat (by omega) h7' (by omega)
      omega
    have hH1 : v_H C nd g (v_sk A' nd g r C.toNat) := by
      refine ⟨fun c hc => ?_, Or.inr ?_, fun c hc h7 => ?_⟩
      · rw [hA18]; exact q1 c hc
      · rw [hA16, hA17, ← f7]; exact ⟨hp'.1, hp'.2, hp7⟩
      · rw [hA17] at h7
        have h9 := f9 c hc h7
        have h1 := q1 c hc
        have h3 := q3 c hc h7
        by_cases hz : nd c = 0
        · rw [hA19z c hc hz, h9, if_pos hz]
          omega
        · rw [if_neg hz] at h9
          rw [hA19 c hc h7 hz]
          have := hrle c hc h7 hz
          have := Int.mul_nonneg hr0 (show 0 ≤ A 8 c by omega)
          omega
    have hG1 : ∃ j : Nat, (j : Int) < C ∧ v_G nd g (v_sk A' nd g r C.toNat) (j : Int) := by
      refine ⟨cs, hcs, ?_, ?_, ?_⟩
      · rw [Int.toNat_natCast, hA17]; exact hcs7
      · rw [Int.toNat_natCast]; omega
      · rw [Int.toNat_natCast, hA18, hA19 cs hcs hcs7 (by omega)]
        have h0 := q1 cs hcs
        have h2 := Int.lt_ediv_add_one_mul_self (nd cs - 1 - A' 9 cs) (show 0 < A 8 cs by omega)
        rw [← hcsr, Int.add_mul, Int.one_mul] at h2
        omega
    obtain ⟨B, n, hwB, hrB, hokB, hfrB, hHB⟩ := v_look1 hC hH1 hno1 hG1
    rw [hA16] at hwB hrB
    have eB : v_la1 C nd g A = B := by
      unfold v_la1
      rw [hw]
      dsimp only
      rw [if_pos rfl, hrr, hwB]
    rw [eB]
    have hrN : ((r.toNat : Nat) : Int) = r := Int.toNat_of_nonneg hr0
    obtain ⟨n', hn'⟩ := v_rounds (A := A') (B := B) (nd := nd) hC hp' hp7 (r := r.toNat) (fun c hc h7 hz => by rw [f7] at h7; rw [f9 c hc h7, if_pos hz]) (fun c hc => (q1 c hc).2.1) (fun c hc => by rw [f8]; exact (q1 c hc).1.1) (fun c hc h7 hz => by
        rw [f7] at h7
        rw [f8, hrN]
        have := hrle c hc h7 hz
        omega) r.toNat n (Nat.le_refl _) (by rw [hrN]; exact hrB)
    rw [Nat.sub_self, Int.natCast_zero, v_sk0, hi6] at hn'
    obtain ⟨n'', hn''⟩ := v_gap (A := A') (B := B) (nd := nd) (g := g) he0 he1 (i := i) (fun i' a b => by rw [f7]; exact hi8 i' a b) (C.toNat - 1 - i) n' (by omega) hn'
    refine ⟨⟨n'' + C.toNat, ?_⟩, hokB, ⟨fun o j a b => ?_, fun j hj => ?_⟩, hHB, fun _ => ?_⟩
    · rw [hU]
      obtain ⟨k, hk⟩ : ∃ k : Nat, C.toNat = k + 1 := ⟨C.toNat - 1, by omega⟩
      rw [hk] at hn'' ⊢
      rw [show i + (k + 1 - 1 - i) = k by omega] at hn''
      exact hn''
    · rw [hfrB.1 o j a b, v_sk_o a, hP.1 o j a b]
    · rw [hfrB.2 j (by rw [hA17]; exact hj)]
      unfold v_sk
      rw [if_neg (fun q => hj (by rw [← f7]; exact q.2.2.1))]
      exact (v_P_fr hP).2 j hj
    · rw [hw]
      refine ⟨v_P_fr hP, hp', fun c hc => ?_⟩
      by_cases h7 : A 7 c = (g : Int)
      · left
        show -20000 ≤ A' 9 c ∧ A' 9 c ≤ 600
        rw [f9 c hc h7]
        have := q1 c hc
        have := q3 c hc h7
        split <;> omega
      · exact Or.inr h7
