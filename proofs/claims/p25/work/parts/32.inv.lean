/-! of a state between calls; out of whole's parts by pick.py -/
theorem z_up_at (M : z_M) (s : Fin 7) (o j : Nat) (v : Int) : z_up M s o j v s o j = v := by unfold z_up; rw [if_pos ⟨rfl, rfl, rfl⟩]
theorem z_up_ne {M : z_M} {s s' : Fin 7} {o j o' j' : Nat} {v : Int} (h : ¬ (o' = o ∧ j' = j)) : z_up M s o j v s' o' j' = M s' o' j' := by unfold z_up; rw [if_neg (fun q => h q.2)]
theorem a_cell_lt {o j : Nat} (h : a_cell o j) : o < 21 := by unfold a_cell at h; omega
/-- the rooms of the history -/
def w_pm (M : z_M) : Prop := (∀ i, i < 4 → 3 ≤ M 0 23 i ∧ M 0 23 i ≤ 6) ∧ ∀ i j, i < 4 → j < 4 → M 0 23 i = M 0 23 j → i = j
theorem z_rg_36 {x : Int} (h : 3 ≤ x ∧ x ≤ 6) : ((z_rg x).val : Int) = x ∧ 3 ≤ (z_rg x).val := by
  unfold z_rg
  dsimp only
  omega
theorem w_pm_of {M M' : z_M} (h : w_pm M) (e : ∀ j, M' 0 23 j = M 0 23 j) : w_pm M' := by
  unfold w_pm at *
  simp only [e]
  exact h
theorem z_up_s {M : z_M} {s s' : Fin 7} {o j o' j' : Nat} {v : Int} (h : s' ≠ s) : z_up M s o j v s' o' j' = M s' o' j' := by unfold z_up; rw [if_neg (fun q => h q.1)]
theorem z_rg_ne6 {x y : Int} (hx : 3 ≤ x ∧ x ≤ 6) (hy : 3 ≤ y ∧ y ≤ 6) (h : x ≠ y) : z_rg x ≠ z_rg y := by
  intro e
  have a := (z_rg_36 hx).1
  have b := (z_rg_36 hy).1
  rw [e] at a
  omega
theorem z_rg_n0 {x : Int} (hx : 3 ≤ x ∧ x ≤ 6) : z_rg x ≠ 0 ∧ z_rg x ≠ 1 ∧ z_rg x ≠ 2 := by
  have a := (z_rg_36 hx).2
  refine ⟨fun e => ?_, fun e => ?_, fun e => ?_⟩ <;> rw [e] at a <;> revert a <;> decide
theorem s_fst_congr : ∀ (l : List Nat) (p q : Nat → Prop) [DecidablePred p] [DecidablePred q], (∀ j ∈ l, (p j ↔ q j)) → s_fst l p = s_fst l q := by
  intro l
  induction l with
  | nil => intro p q _ _ _; rfl
  | cons j l ih =>
    intro p q _ _ h
    have hj := h j List.mem_cons_self
    have ih' := ih p q (fun i hi => h i (List.mem_cons_of_mem _ hi))
    rw [s_fst_cons, s_fst_cons, ih']
    by_cases hp : p j
    · rw [if_pos hp, if_pos (hj.mp hp)]
    · rw [if_neg hp, if_neg (fun q => hp (hj.mpr q))]
def e_l (A : Nat → Nat → Int) : List Nat := (s_rg (A 3 0).toNat).filter fun j => decide (A 19 j = -5)
/-- what holds of a state between calls, the service apart -/
def e_I (A : Nat → Nat → Int) (l : List Nat) : Prop :=
  i_G A ∧ i_J A ∧ i_C A ∧ i_K A ∧ c_WL A l ∧ i_D A l ∧ l = e_l A ∧ (∀ c : Nat, (c : Int) < A 2 0 → -99 * (A 3 0 - l.length) ≤ A 9 c) ∧ (∀ g : Nat, (g : Int) < A 1 0 → -99 * (A 3 0 - l.length) ≤ A 5 g) ∧ 0 ≤ A 0 8 ∧ A 0 8 + l.length ≤ A 3 0
theorem s_rg_mem {n j : Nat} : j ∈ s_rg n ↔ j < n := by
  unfold s_rg
  rw [List.mem_range'_1]
  omega
theorem s_fst_filter (q : Nat → Bool) : ∀ (L : List Nat) (p : Nat → Prop) [DecidablePred p], s_fst (L.filter q) p = s_fst L (fun j => q j = true ∧ p j) := by
  intro L
  induction L with
  | nil => intro p _; rfl
  | cons j L ih =>
    intro p _
    rw [List.filter_cons, s_fst_cons, ← ih]
    by_cases hq : q j = true
    · rw [if_pos hq, s_fst_cons]
      by_cases hp : p j
      · rw [if_pos hp, if_pos ⟨hq, hp⟩]
      · rw [if_neg hp, if_neg (fun h => hp h.2)]
    · rw [if_neg hq, if_neg (fun h => hq h.1)]
theorem e_l_mem {A : Nat → Nat → Int} {j : Nat} : j ∈ e_l A ↔ (j : Int) < A 3 0 ∧ A 19 j = -5 := by
  unfold e_l
  rw [List.mem_filter, s_rg_mem, decide_eq_true_iff]
  omega
theorem e_nd {A : Nat → Nat → Int} {l : List Nat} (c : Nat) : (s_fst l (fun j => A 16 j = (c : Int)) = -5 ∧ a_nd A l c = 0) ∨ ∃ j ∈ l, s_fst l (fun j => A 16 j = (c : Int)) = (j : Int) ∧ A 16 j = (c : Int) ∧ a_nd A l c = A 17 j := by
  induction l with
  | nil => exact Or.inl ⟨rfl, rfl⟩
  | cons j l ih =>
    rw [s_fst_cons, a_nd_cons]
    by_cases h : A 16 j = (c : Int)
    · rw [if_pos h, if_pos h]
      exact Or.inr ⟨j, List.mem_cons_self, rfl, h, rfl⟩
    · rw [if_neg h, if_neg h]
      rcases ih with q | ⟨k, q1, q2⟩
      · exact Or.inl q
      · exact Or.inr ⟨k, List.mem_cons_of_mem _ q1, q2⟩
theorem s_sum_filter (q : Nat → Bool) (f : Nat → Int) : ∀ L : List Nat, s_sum (L.filter q) f = s_sum L (fun j => if q j = true then f j else 0) := by
  intro L
  induction L with
  | nil => rfl
  | cons j L ih =>
    rw [List.filter_cons, s_sum_cons, ← ih]
    by_cases hq : q j = true
    · rw [if_pos hq, if_pos hq, s_sum_cons]
    · rw [if_neg hq, if_neg hq, Int.zero_add]
theorem r_mc_lo {C m : Int} {nd : Nat → Int} {g : Nat} (hm : m ≤ 0) (hC : 0 < C) : ∀ (n : Nat) (which : Int) (A B : Nat → Nat → Int), (∀ c : Nat, (c : Int) < C → 0 ≤ A 8 c) → (∀ c : Nat, (c : Int) < C → m ≤ A 9 c) → r_mc C nd g n which A B → ∀ c : Nat, (c : Int) < C → m ≤ B 9 c := by
  intro n
  induction n with
  | zero => intro which A B _ _ h; exact absurd h id
  | succ n ih =>
    intro which A B h8 h9 h
    rw [r_mc_succ] at h
    have hin := v_nx_in (C := C) (which := which) hC
    have v8 : ∀ c : Nat, (c : Int) < C → 0 ≤ v_vis nd g (v_nx C which) A 8 c := fun c hc => by
      unfold v_vis; rw [a_u_o (by decide), a_u_o (by decide)]; exact h8 c hc
    have v9 : ∀ c : Nat, (c : Int) < C → m ≤ v_vis nd g (v_nx C which) A 9 c := fun c hc => by
      have a := h8 (v_nx C which).toNat (by omega)
      have b := h9 (v_nx C which).toNat (by omega)
      have d := h9 c hc
      unfold v_vis
      rw [a_u_at, a_u_o (show 9 ≠ 6 by decide)]
      split
      · split <;> omega
      · exact d
    by_cases h7 : A 7 (v_nx C which).toNat = (g : Int)
    · rw [if_pos h7] at h
      by_cases hq : nd (v_nx C which).toNat ≠ 0 ∧ nd (v_nx C which).toNat ≤ A 9 (v_nx C which).toNat + A 8 (v_nx C which).toNat
      · rw [if_pos hq] at h
        rw [h]; exact v9
      · rw [if_neg hq] at h
        exact ih _ _ B v8 v9 h
    · rw [if_neg h7] at h
      exact ih _ A B h8 h9 h
def h_K (m : Int) (gb : Nat → Int) (A0 A : Nat → Nat → Int) : Prop :=
  (∀ c : Nat, (c : Int) < A 2 0 → m ≤ A 9 c) ∧ (∀ g : Nat, (g : Int) < A 1 0 → m ≤ A 5 g) ∧ (∀ g : Nat, gb g = 0 → A 6 g = A0 6 g ∧ ∀ c : Nat, A0 7 c = (g : Int) → A 9 c = A0 9 c) ∧ ∀ j, A 7 j = A0 7 j
theorem h_K_la {m : Int} {nd gb : Nat → Int} {A0 A : Nat → Nat → Int} (hm : m ≤ 0) (hJ : g_J nd gb A) {w : Nat} (hw : (w : Int) < A 1 0) (h : h_K m gb A0 A) : h_K m gb A0 (v_la (A 2 0) nd (gb w) w A) := by
  by_cases hz : gb w = 0
  · have e : v_la (A 2 0) nd (gb w) w A = A := by unfold v_la; rw [if_pos hz]
    rw [e]; exact h
  · obtain ⟨hH, hbu⟩ := hJ.2.2.2.1 w hw hz
    by_cases hok : v_ok (A 2 0) nd w A
    · have e : v_la (A 2 0) nd (gb w) w A = A := by unfold v_la; rw [if_neg hz, if_pos hok]
      rw [e]; exact h
    · have e : v_la (A 2 0) nd (gb w) w A = v_la1 (A 2 0) nd w A := by unfold v_la; rw [if_neg hz, if_neg hok]
      obtain ⟨⟨n, hn⟩, -, hfr, -⟩ := v_look hJ.1.1 hH hok hbu
      rw [e]
      obtain ⟨a, b, c, d⟩ := h
      have lo := r_mc_lo hm hJ.1.1 n _ A _ (fun c hc => by have := (hH.1 c hc).1; omega) a hn
      have f2 : v_la1 (A 2 0) nd w A 2 0 = A 2 0 := hfr.1 2 0 (by decide) (by omega)
      have f1 : v_la1 (A 2 0) nd w A 1 0 = A 1 0 := hfr.1 1 0 (by decide) (by omega)
      refine ⟨fun c hc => lo c (by rw [f2] at hc; exact hc), fun g hg => ?_, fun g hg => ?_, fun j => ?_⟩
      · rw [hfr.1 5 g (by decide) (by omega)]
        rw [f1] at hg
        exact b g hg
      · have hne : g ≠ w := fun q => hz (by rw [← q]; exact hg)
        rw [hfr.1 6 g (by decide) (by omega)]
        refine ⟨(c g hg).1, fun k hk => ?_⟩
        rw [hfr.2 k (by rw [d]; omega)]
        exact (c g hg).2 k hk
      · rw [hfr.1 7 j (by decide) (by omega)]; exact d j
theorem h_K_04 {m : Int} {gb : Nat → Int} {A0 A : Nat → Nat → Int} (h : h_K m gb A0 A) (v : Int) : h_K m gb A0 (a_u A 0 4 v) := by
  have e : ∀ o i, o ≠ 0 → a_u A 0 4 v o i = A o i := fun o i a => a_u_o a
  unfold h_K at *
  simp (disch := omega) only [e]
  exact h
theorem h_K_gv {m : Int} {nd gb : Nat → Int} {A0 A : Nat → Nat → Int} (hm : m ≤ 0) (hJ : g_J nd gb A) {w : Nat} (hw : (w : Int) < A 1 0) (h : h_K m gb A0 A) : h_K m gb A0 (v_gv nd gb (w : Int) A) := by
  have h1 := g_J_u hJ 0 4 (w : Int) (Or.inl rfl)
  have h2 := h_K_la hm h1 (w := w) (by rw [a_u_o (by decide)]; exact hw) (h_K_04 h (w : Int))
  have h3 := (v_la_props h1 (g := w) (by rw [a_u_o (by decide)]; exact hw)).1
  rw [a_u_o (show 2 ≠ 0 by decide)] at h2 h3
  have f1 : v_la (A 2 0) nd (gb w) w (a_u A 0 4 (w : Int)) 1 0 = A 1 0 := by rw [h3.1 1 0 (by decide) (by omega), a_u_o (by decide)]
  have hA5 := h.2.1 w hw
  have hA4 := hJ.2.2.2.2 w hw
  unfold v_gv
  rw [Int.toNat_natCast]
  generalize v_la (A 2 0) nd (gb w) w (a_u A 0 4 (w : Int)) = B at *
  obtain ⟨a, b, c, d⟩ := h2
  have e : ∀ (v : Int) o i, o ≠ 5 → a_u B 5 w v o i = B o i := fun v o i q => a_u_o q
  refine ⟨fun c hc => ?_, fun g hg => ?_, fun g hg => ?_, fun j => ?_⟩
  · rw [e _ _ _ (by decide)] at hc
    rw [e _ _ _ (by decide)]; exact a c hc
  · rw [e _ _ _ (by decide)] at hg
    rw [a_u_at]
    split
    · split <;> omega
    · exact b g hg
  · rw [e _ _ _ (by decide)]
    refine ⟨(c g hg).1, fun k hk => ?_⟩
    rw [e _ _ _ (by decide)]
    exact (c g hg).2 k hk
  · rw [e _ _ _ (by decide)]; exact d j
theorem h_K_mg {m : Int} {nd gb : Nat → Int} {A0 B : Nat → Nat → Int} (hm : m ≤ 0) : ∀ (n : Nat) (A : Nat → Nat → Int), g_J nd gb A → h_K m gb A0 A → r_mg nd gb n A B → h_K m gb A0 B := by
  intro n
  induction n with
  | zero => intro A _ _ h; exact absurd h id
  | succ n ih =>
    intro A hJ h hr
    have hin := v_nx_in (C := A 1 0) (which := A 0 4) hJ.2.1.1
    rw [r_mg_succ] at hr
    obtain ⟨w, hw⟩ : ∃ w : Nat, v_nx (A 1 0) (A 0 4) = (w : Int) := ⟨(v_nx (A 1 0) (A 0 4)).toNat, by omega⟩
    rw [hw] at hr hin
    have h' := h_K_gv hm hJ hin.2 h
    split at hr
    · rw [hr]; exact h'
    · exact ih _ (v_gv_J hJ hin.1 hin.2) h' hr
theorem h_K_pg {m : Int} {nd gb : Nat → Int} {A0 A : Nat → Nat → Int} (hm : m ≤ 0) (hJ : g_J nd gb A) (h : h_K m gb A0 A) : h_K m gb A0 (v_pg nd gb A).2 := by
  unfold v_pg
  split
  · rename_i q
    exact h_K_la hm hJ (w := (A 0 4).toNat) (by omega) h
  · exact h
theorem e_I_turn {A B : Nat → Nat → Int} {l : List Nat} (hI : e_I A l) (hl : l ≠ []) (hT : g_T (a_nd A l) (a_gb A l) A B) (hK : h_K (-99 * (A 3 0 - l.length)) (a_gb A l) A B) : e_I B l := by
  obtain ⟨iG, iJ, iC, iK, cW, iD, el, c9, c5, c08, c08'⟩ := id hI
  obtain ⟨tJ, tf, t04, tgb, tok, tle, t5⟩ := hT
  obtain ⟨k9, k5, k6, k7⟩ := hK
  have f := fun o j a b c d => tf o j a b c d
  have b10 : B 1 0 = A 1 0 := tf 1 0 (by decide) (by decide) (by decide) (by omega)
  have b20 : B 2 0 = A 2 0 := tf 2 0 (by decide) (by decide) (by decide) (by omega)
  have b30 : B 3 0 = A 3 0 := tf 3 0 (by decide) (by decide) (by decide) (by omega)
  have b08 : B 0 8 = A 0 8 := tf 0 8 (by decide) (by decide) (by decide) (by omega)
  have b03 : B 0 3 = A 0 3 := tf 0 3 (by decide) (by decide) (by decide) (by omega)
  have bo : ∀ o, o ≠ 0 → o ≠ 9 → o ≠ 6 → o ≠ 5 → ∀ j, B o j = A o j := fun o a b c d j => tf o j b c d (by omega)
  have hz : ∀ j ∈ l, 1 ≤ A 17 j ∧ A 17 j ≤ 99 := fun j hj => (iJ j (cW.2.2.2.1 j hj)).2.1
  have hB6 : ∀ g : Nat, (g : Int) < A 1 0 → B 6 g = -5 ∨ (0 ≤ B 6 g ∧ B 6 g < A 2 0 ∧ A 7 (B 6 g).toNat = (g : Int)) := fun g hg => by
    by_cases q : a_gb A l g = 0
    · rw [(k6 g q).1]; exact (iD.2.1 g hg).1
    · have := (tJ.2.2.2.1 g (by rw [b10]; exact hg) q).1.2.1
      rw [k7, b20] at this
      exact this
  have hB9 : ∀ c : Nat, (c : Int) < A 2 0 → (-20000 ≤ B 9 c ∧ B 9 c ≤ 298) ∧ (B 6 (A 7 c).toNat ≠ (c : Int) ∨ (∀ j ∈ l, A 16 j ≠ (c : Int)) → B 9 c ≤ 98) := fun c hc => by
    have ac := iC c hc
    obtain ⟨g, hg⟩ : ∃ g : Nat, A 7 c = (g : Int) := ⟨(A 7 c).toNat, by omega⟩
    rw [hg, Int.toNat_natCast]
    by_cases q : a_gb A l g = 0
    · rw [(k6 g q).1, (k6 g q).2 c hg]
      have := iD.2.2 c hc
      rw [hg, Int.toNat_natCast] at this
      exact this
    · have h := (tJ.2.2.2.1 g (by rw [b10]; omega) q).1.2.2 c (by rw [b20]; exact hc) (by rw [k7]; exact hg)
      refine ⟨h.1, fun hq => h.2 ?_⟩
      rcases hq with hq | hq
      · exact Or.inl hq
      · refine Or.inr (Classical.byContradiction fun hn => ?_)
        obtain ⟨j, hj, e⟩ := (a_nd_ne hz c).mp hn
        exact hq j hj e
  refine ⟨i_G_congr iG b10 b20 b03, i_J_congr iJ b30 b20 b03 (bo 16 (by decide) (by decide) (by decide) (by decide)) (bo 17 (by decide) (by decide) (by decide) (by decide)) (bo 18 (by decide) (by decide) (by decide) (by decide)) (fun j hj => ?_), fun c hc => ?_, fun g hg => ?_, c_WL_congr cW (bo 20 (by decide) (by decide) (by decide) (by decide)) (bo 3 (by decide) (by decide) (by decide) (by decide) 5) b30, ⟨?_, fun g hg => ?_, fun c hc => ?_⟩, ?_, fun c hc => ?_, fun g hg => ?_, ?_, ?_⟩
  · rw [bo 19 (by decide) (by decide) (by decide) (by decide)]; exact (iJ j hj).2.2.2
  · rw [b20] at hc
    have a := iC c hc
    have b := hB9 c hc
    rw [b10, k7, bo 8 (by decide) (by decide) (by decide) (by decide), bo 10 (by decide) (by decide) (by decide) (by decide), bo 11 (by decide) (by decide) (by decide) (by decide), bo 12 (by decide) (by decide) (by decide) (by decide), bo 13 (by decide) (by decide) (by decide) (by decide), bo 14 (by decide) (by decide) (by decide) (by decide), bo 15 (by decide) (by decide) (by decide) (by decide)]
    exact ⟨a.1, a.2.1, by omega, a.2.2.2⟩
  · rw [b10] at hg
    have a := iK g hg
    have b := t5 g hg
    have d := hB6 g hg
    rw [bo 4 (by decide) (by decide) (by decide) (by decide), b20]
    have h2 := iG.2.1
    exact ⟨a.1, by omega, by omega⟩
  · rw [b10]; exact Or.inr t04
  · rw [b10] at hg
    have b := t5 g hg
    have d := hB6 g hg
    rw [b20, k7]
    refine ⟨d, by omega, fun hq => b.2.2 ?_⟩
    rcases hq with hq | hq
    · exact hq
    · intro e
      apply tgb
      rw [e, Int.toNat_natCast]
      refine Classical.byContradiction fun hn => ?_
      obtain ⟨j, hj, ej⟩ := (a_gb_ne g).mp hn
      have := hq j hj
      unfold a_gr at this ej
      rw [k7, bo 16 (by decide) (by decide) (by decide) (by decide)] at this
      exact this ej
  · rw [b20] at hc
    have b := hB9 c hc
    rw [k7]
    refine ⟨b.1, fun hq => b.2 ?_⟩
    rcases hq with hq | hq
    · exact Or.inl hq
    · exact Or.inr (fun j hj => by have := hq j hj; rw [bo 16 (by decide) (by decide) (by decide) (by decide)] at this; exact this)
  · rw [el]
    unfold e_l
    rw [b30]
    refine List.filter_congr fun j _ => ?_
    rw [bo 19 (by decide) (by decide) (by decide) (by decide)]
  · rw [b30]; exact k9 c hc
  · rw [b30]; exact k5 g hg
  · rw [b08]; exact c08
  · rw [b08, b30]; exact c08'
theorem s_sum_pos {l : List Nat} {p : Nat → Prop} [DecidablePred p] : 0 < s_sum l (fun j => if p j then 1 else 0) ↔ ∃ j ∈ l, p j := by
  induction l with
  | nil =>
    rw [s_sum_nil]
    exact ⟨fun h => absurd h (by decide), fun ⟨j, hj, _⟩ => absurd hj List.not_mem_nil⟩
  | cons j l ih =>
    have hb := (s_sum_bd (l := l) (f := fun j => if p j then 1 else 0) (b := 1) (fun j _ => by split <;> omega)).1
    rw [s_sum_cons]
    by_cases h : p j
    · rw [if_pos h]
      exact ⟨fun _ => ⟨j, List.mem_cons_self, h⟩, fun _ => by omega⟩
    · rw [if_neg h, Int.zero_add, ih]
      constructor
      · rintro ⟨k, hk, e⟩; exact ⟨k, List.mem_cons_of_mem _ hk, e⟩
      · rintro ⟨k, hk, e⟩
        rcases List.mem_cons.mp hk with rfl | hk
        · exact absurd e h
        · exact ⟨k, hk, e⟩
theorem s_fst_pos {l : List Nat} {p : Nat → Prop} [DecidablePred p] : 0 ≤ s_fst l p ↔ ∃ j ∈ l, p j := by
  rcases s_fst_ge (l := l) (p := p) with ⟨q, h⟩ | ⟨i, h1, h2, q⟩
  · rw [q]
    exact ⟨fun h => absurd h (by decide), fun ⟨j, hj, e⟩ => absurd e (h j hj)⟩
  · rw [q]
    exact ⟨fun _ => ⟨i, h1, h2⟩, fun _ => by omega⟩
/-- the cells that a beginning changes, in the model's order -/
def e_beg (A : Nat → Nat → Int) (l' : List Nat) (j : Nat) : Nat → Nat → Int :=
  a_u (a_u (a_u (a_u (a_beg0 A j) 19 j (A 0 3)) 14 (A 16 j).toNat (if A 14 (A 16 j).toNat < A 0 3 - A 18 j then A 0 3 - A 18 j else A 14 (A 16 j).toNat)) 9 (A 16 j).toNat (if 0 < s_sum l' (fun i => if A 16 i = A 16 j then 1 else 0) then A 9 (A 16 j).toNat - A 17 j else 0)) 5 (a_gr A j).toNat (if 0 < s_sum l' (fun i => if a_gr A i = a_gr A j then 1 else 0) then A 5 (a_gr A j).toNat - A 17 j else 0)
theorem a_u_ext {X Y : Nat → Nat → Int} {o i o' i' : Nat} {v : Int} (h : X o' i' = Y o' i') : a_u X o i v o' i' = a_u Y o i v o' i' := by
  unfold a_u
  rw [h]
theorem e_beg_o {A A' : Nat → Nat → Int} {l' : List Nat} {j : Nat} (h : a_e20 A' (a_beg A l' j)) (o i : Nat) (h1 : o ≠ 20) (h2 : ¬ (o = 0 ∧ (i = 5 ∨ i = 6))) (h3 : ¬ (o = 3 ∧ i = 5)) : A' o i = e_beg A l' j o i := by
  rw [h o i h1]
  unfold a_beg a_beg1 e_beg
  refine a_u_ext (a_u_ext (a_u_ext ?_))
  rw [a_u_ne (by omega), a_u_ne (by omega)]
  refine a_u_ext ?_
  rw [a_u_ne h3]
theorem e_I_beg {A A' : Nat → Nat → Int} {l : List Nat} (hI : e_I A l) {j : Nat} (hj : j ∈ l) (hA : a_e20 A' (a_beg A (l.filter (q_ne j)) j)) (hW' : c_WL A' (l.filter (q_ne j))) : e_I A' (l.filter (q_ne j)) := by
  obtain ⟨iG, iJ, iC, iK, cW, iD, el, c9, c5, c08, c08'⟩ := id hI
  have c3 := cW.2.2.2.2
  have hjn := cW.2.2.2.1 j hj
  have aj := iJ j hjn
  have h19 : A 19 j = -5 := by rw [el] at hj; exact (e_l_mem.mp hj).2
  obtain ⟨c, hc⟩ : ∃ c : Nat, A 16 j = (c : Int) := ⟨(A 16 j).toNat, by omega⟩
  have hc2 : (c : Int) < A 2 0 := by omega
  have ac := iC c hc2
  obtain ⟨g, hg⟩ : ∃ g : Nat, A 7 c = (g : Int) := ⟨(A 7 c).toNat, by omega⟩
  have hg1 : (g : Int) < A 1 0 := by omega
  have ag := iK g hg1
  have hgr : a_gr A j = (g : Int) := by unfold a_gr; rw [hc, Int.toNat_natCast, hg]
  obtain ⟨G1, G2, G3, G4⟩ := iG
  have hlen : (l.filter (q_ne j)).length + 1 ≤ l.length := by
    have : (l.filter (q_ne j)).length < l.length := by
      rcases Nat.lt_or_ge (l.filter (q_ne j)).length l.length with h | h
      · exact h
      · have h2 := List.length_filter_eq_length_iff.mp (Nat.le_antisymm (List.length_filter_le _ _) h) j hj
        unfold q_ne at h2
        simp at h2
    omega
  have hl' : ∀ i, i ∈ l.filter (q_ne j) ↔ i ∈ l ∧ i ≠ j := fun i => by
    rw [List.mem_filter]
    unfold q_ne
    rw [decide_eq_true_iff]
    exact ⟨fun q => ⟨q.1, fun e => q.2 (by rw [e])⟩, fun q => ⟨q.1, fun e => q.2 (by omega)⟩⟩
  have o1 : ∀ o i, o ≠ 20 → ¬ (o = 0 ∧ (i = 5 ∨ i = 6)) → ¬ (o = 3 ∧ i = 5) → ¬ (o = 0 ∧ i = 8) → o ≠ 19 → o ≠ 14 → o ≠ 9 → o ≠ 5 → A' o i = A o i := fun o i a b d e f h k m => by
    rw [e_beg_o hA o i a b d]
    unfold e_beg
    rw [a_u_o m, a_u_o k, a_u_o h, a_u_o f, a_beg0_o A j e]
  have o19 : ∀ i, A' 19 i = if i = j then A 0 3 else A 19 i := fun i => by
    rw [e_beg_o hA 19 i (by omega) (by omega) (by omega)]
    unfold e_beg
    rw [a_u_o (by decide), a_u_o (by decide), a_u_o (by decide), a_u_at, a_beg0_o A j (by omega)]
  have o14 : ∀ i, A' 14 i = if i = c then (if A 14 c < A 0 3 - A 18 j then A 0 3 - A 18 j else A 14 c) else A 14 i := fun i => by
    rw [e_beg_o hA 14 i (by omega) (by omega) (by omega)]
    unfold e_beg
    rw [a_u_o (by decide), a_u_o (by decide), a_u_at, a_u_o (by decide), a_beg0_o A j (by omega), hc, Int.toNat_natCast]
  have o9 : ∀ i, A' 9 i = if i = c then (if 0 < s_sum (l.filter (q_ne j)) (fun i => if A 16 i = (c : Int) then 1 else 0) then A 9 c - A 17 j else 0) else A 9 i := fun i => by
    rw [e_beg_o hA 9 i (by omega) (by omega) (by omega)]
    unfold e_beg
    rw [a_u_o (by decide), a_u_at, a_u_o (by decide), a_u_o (by decide), a_beg0_o A j (by omega), hc, Int.toNat_natCast]
  have o5 : ∀ i, A' 5 i = if i = g then (if 0 < s_sum (l.filter (q_ne j)) (fun i => if a_gr A i = (g : Int) then 1 else 0) then A 5 g - A 17 j else 0) else A 5 i := fun i => by
    rw [e_beg_o hA 5 i (by omega) (by omega) (by omega)]
    unfold e_beg
    rw [a_u_at, a_u_o (by decide), a_u_o (by decide), a_u_o (by decide), a_beg0_o A j (by omega), hgr, Int.toNat_natCast]
  have o08 : A' 0 8 = A 0 8 ∨ A' 0 8 = A 0 8 + 1 := by
    rw [e_beg_o hA 0 8 (by omega) (by omega) (by omega)]
    unfold e_beg
    rw [a_u_o (by decide), a_u_o (by decide), a_u_o (by decide), a_u_o (by decide)]
    unfold a_beg0
    split
    · rw [a_u_same]; exact Or.inr rfl
    · exact Or.inl rfl
  have p10 : A' 1 0 = A 1 0 := o1 1 0 (by omega) (by omega) (by omega) (by omega) (by omega) (by omega) (by omega) (by omega)
  have p20 : A' 2 0 = A 2 0 := o1 2 0 (by omega) (by omega) (by omega) (by omega) (by omega) (by omega) (by omega) (by omega)
  have p30 : A' 3 0 = A 3 0 := o1 3 0 (by omega) (by omega) (by omega) (by omega) (by omega) (by omega) (by omega) (by omega)
  have p03 : A' 0 3 = A 0 3 := o1 0 3 (by omega) (by omega) (by omega) (by omega) (by omega) (by omega) (by omega) (by omega)
  have p04 : A' 0 4 = A 0 4 := o1 0 4 (by omega) (by omega) (by omega) (by omega) (by omega) (by omega) (by omega) (by omega)
  have po : ∀ o, 4 ≤ o → o ≠ 20 → o ≠ 19 → o ≠ 14 → o ≠ 9 → o ≠ 5 → ∀ i, A' o i = A o i := fun o a b d e f h i => o1 o i b (by omega) (by omega) (by omega) d e f h
  have hv9 : ∀ v, v = (if 0 < s_sum (l.filter (q_ne j)) (fun i => if A 16 i = (c : Int) then 1 else 0) then A 9 c - A 17 j else 0) → (v = A 9 c - A 17 j ∨ v = 0) ∧ ((∀ i ∈ l.filter (q_ne j), A 16 i ≠ (c : Int)) → v = 0) := fun v hv => by
    by_cases q : ∃ i ∈ l.filter (q_ne j), A 16 i = (c : Int)
    · rw [if_pos (s_sum_pos.mpr q)] at hv
      exact ⟨Or.inl hv, fun z => by obtain ⟨i, q1, q2⟩ := q; exact absurd q2 (z i q1)⟩
    · rw [if_neg (fun z => q (s_sum_pos.mp z))] at hv
      exact ⟨Or.inr hv, fun _ => hv⟩
  have hv5 : ∀ v, v = (if 0 < s_sum (l.filter (q_ne j)) (fun i => if a_gr A i = (g : Int) then 1 else 0) then A 5 g - A 17 j else 0) → (v = A 5 g - A 17 j ∨ v = 0) ∧ ((∀ i ∈ l.filter (q_ne j), a_gr A i ≠ (g : Int)) → v = 0) := fun v hv => by
    by_cases q : ∃ i ∈ l.filter (q_ne j), a_gr A i = (g : Int)
    · rw [if_pos (s_sum_pos.mpr q)] at hv
      exact ⟨Or.inl hv, fun z => by obtain ⟨i, q1, q2⟩ := q; exact absurd q2 (z i q1)⟩
    · rw [if_neg (fun z => q (s_sum_pos.mp z))] at hv
      exact ⟨Or.inr hv, fun _ => hv⟩
  obtain ⟨v9, hv9e⟩ : ∃ v, v = (if 0 < s_sum (l.filter (q_ne j)) (fun i => if A 16 i = (c : Int) then 1 else 0) then A 9 c - A 17 j else 0) := ⟨_, rfl⟩
  obtain ⟨v5, hv5e⟩ : ∃ v, v = (if 0 < s_sum (l.filter (q_ne j)) (fun i => if a_gr A i = (g : Int) then 1 else 0) then A 5 g - A 17 j else 0) := ⟨_, rfl⟩
  have k9 := hv9 v9 hv9e
  have k5 := hv5 v5 hv5e
  rw [← hv9e] at o9
  rw [← hv5e] at o5
  have D9 := iD.2.2 c hc2
  have D5 := iD.2.1 g hg1
  have L9 := c9 c hc2
  have L5 := c5 g hg1
  have gr' : ∀ i, a_gr A' i = a_gr A i := fun i => by unfold a_gr; rw [po 16 (by omega) (by omega) (by omega) (by omega) (by omega) (by omega), po 7 (by omega) (by omega) (by omega) (by omega) (by omega) (by omega)]
  have n9 : ∀ i : Nat, (i : Int) < A 2 0 → (-20000 ≤ A' 9 i ∧ A' 9 i ≤ 298) ∧ -99 * (A 3 0 - (l.filter (q_ne j)).length) ≤ A' 9 i := fun i hi => by
    have d := iD.2.2 i hi
    have e := c9 i hi
    rw [o9]
    split <;> omega
  have n5 : ∀ i : Nat, (i : Int) < A 1 0 → (-20000 ≤ A' 5 i ∧ A' 5 i ≤ 298) ∧ -99 * (A 3 0 - (l.filter (q_ne j)).length) ≤ A' 5 i := fun i hi => by
    have d := iD.2.1 i hi
    have e := c5 i hi
    rw [o5]
    split <;> omega
  refine ⟨i_G_congr ⟨G1, G2, G3, G4⟩ p10 p20 p03, i_J_congr iJ p30 p20 p03 (po 16 (by omega) (by omega) (by omega) (by omega) (by omega) (by omega)) (po 17 (by omega) (by omega) (by omega) (by omega) (by omega) (by omega)) (po 18 (by omega) (by omega) (by omega) (by omega) (by omega) (by omega)) (fun i hi => ?_), fun i hi => ?_, fun i hi => ?_, hW', ⟨?_, fun i hi => ?_, fun i hi => ?_⟩, ?_, fun i hi => ?_, fun i hi => ?_, ?_, ?_⟩
  · have := iJ i hi
    rw [o19]
    split <;> omega
  · rw [p20] at hi
    have a := iC i hi
    have b := (n9 i hi).1
    rw [p10, po 7 (by omega) (by omega) (by omega) (by omega) (by omega) (by omega), po 8 (by omega) (by omega) (by omega) (by omega) (by omega) (by omega), po 10 (by omega) (by omega) (by omega) (by omega) (by omega) (by omega), po 11 (by omega) (by omega) (by omega) (by omega) (by omega) (by omega), po 12 (by omega) (by omega) (by omega) (by omega) (by omega) (by omega), po 13 (by omega) (by omega) (by omega) (by omega) (by omega) (by omega), po 15 (by omega) (by omega) (by omega) (by omega) (by omega) (by omega), o14]
    refine ⟨a.1, a.2.1, by omega, a.2.2.2.1, a.2.2.2.2.1, a.2.2.2.2.2.1, a.2.2.2.2.2.2.1, ?_, a.2.2.2.2.2.2.2.2⟩
    split
    · split <;> omega
    · exact a.2.2.2.2.2.2.2.1
  · rw [p10] at hi
    have a := iK i hi
    have b := (n5 i hi).1
    rw [po 4 (by omega) (by omega) (by omega) (by omega) (by omega) (by omega), po 6 (by omega) (by omega) (by omega) (by omega) (by omega) (by omega), p20]
    exact ⟨a.1, by omega, a.2.2⟩
  · rw [p04, p10]; exact iD.1
  · rw [p10] at hi
    have d := iD.2.1 i hi
    rw [po 6 (by omega) (by omega) (by omega) (by omega) (by omega) (by omega), po 7 (by omega) (by omega) (by omega) (by omega) (by omega) (by omega), p20, p04]
    refine ⟨d.1, (n5 i hi).1, fun hq => ?_⟩
    rw [o5]
    by_cases z : i = g
    · rw [if_pos z]
      rw [z] at hq
      rcases hq with hq | hq
      · have := D5.2.2 (Or.inl hq); omega
      · have := k5.2 (fun k hk => by rw [← gr']; exact hq k hk); omega
    · rw [if_neg z]
      refine d.2.2 ?_
      rcases hq with hq | hq
      · exact Or.inl hq
      · refine Or.inr (fun k hk => ?_)
        by_cases y : k = j
        · rw [y, hgr]; omega
        · rw [← gr']; exact hq k ((hl' k).mpr ⟨hk, y⟩)
  · rw [p20] at hi
    have d := iD.2.2 i hi
    rw [po 6 (by omega) (by omega) (by omega) (by omega) (by omega) (by omega), po 7 (by omega) (by omega) (by omega) (by omega) (by omega) (by omega)]
    refine ⟨(n9 i hi).1, fun hq => ?_⟩
    rw [o9]
    by_cases z : i = c
    · rw [if_pos z]
      rw [z] at hq
      rcases hq with hq | hq
      · have := D9.2 (Or.inl hq); omega
      · have := k9.2 (fun k hk => by rw [← po 16 (by omega) (by omega) (by omega) (by omega) (by omega) (by omega)]; exact hq k hk); omega
    · rw [if_neg z]
      refine d.2 ?_
      rcases hq with hq | hq
      · exact Or.inl hq
      · refine Or.inr (fun k hk => ?_)
        by_cases y : k = j
        · rw [y, hc]; omega
        · rw [← po 16 (by omega) (by omega) (by omega) (by omega) (by omega) (by omega)]; exact hq k ((hl' k).mpr ⟨hk, y⟩)
  · rw [el]
    unfold e_l
    rw [p30, List.filter_filter]
    refine List.filter_congr fun i _ => ?_
    rw [o19]
    unfold q_ne
    by_cases q : i = j
    · rw [if_pos q, q]
      have : ¬ A 0 3 = -5 := by omega
      simp [this]
    · rw [if_neg q]
      have : ¬ ((i : Int) = (j : Int)) := by omega
      simp [this]
  · rw [p20] at hi; rw [p30]; exact (n9 i hi).2
  · rw [p10] at hi; rw [p30]; exact (n5 i hi).2
  · omega
  · rw [p30]; omega
theorem e_beg_all {A A' : Nat → Nat → Int} {l' : List Nat} {j : Nat} (h : a_e20 A' (a_beg A l' j)) : (∀ o i, o = 4 ∨ o = 7 ∨ o = 8 ∨ (10 ≤ o ∧ o ≤ 13) ∨ (15 ≤ o ∧ o ≤ 18) ∨ (o = 0 ∧ (i = 3 ∨ i = 7)) ∨ ((o = 1 ∨ o = 2 ∨ o = 3) ∧ i = 0) → A' o i = A o i) ∧ (∀ i, A' 19 i = if i = j then A 0 3 else A 19 i) ∧ A' 0 5 = (j : Int) ∧ A' 0 6 = A 17 j := by
  refine ⟨fun o i ho => ?_, fun i => ?_, ?_, ?_⟩
  · rw [e_beg_o h o i (by omega) (by omega) (by omega)]
    unfold e_beg
    rw [a_u_o (by omega), a_u_o (by omega), a_u_o (by omega), a_u_o (by omega), a_beg0_o A j (by omega)]
  · rw [e_beg_o h 19 i (by omega) (by omega) (by omega)]
    unfold e_beg
    rw [a_u_o (by decide), a_u_o (by decide), a_u_o (by decide), a_u_at, a_beg0_o A j (by omega)]
  · rw [h 0 5 (by decide)]
    unfold a_beg a_beg1
    rw [a_u_o (by decide), a_u_o (by decide), a_u_o (by decide), a_u_j (by decide), a_u_same]
  · rw [h 0 6 (by decide)]
    unfold a_beg a_beg1
    rw [a_u_o (by decide), a_u_o (by decide), a_u_o (by decide), a_u_same]
theorem e_cell {A A2 : Nat → Nat → Int} {l : List Nat} (hI : e_I A l) (h : ∀ o j, a_cell o j → A2 o j = A o j) : e_I A2 l := by
  obtain ⟨iG, iJ, iC, iK, cW, iD, el, c9, c5, c08, c08'⟩ := id hI
  have c3 := cW.2.2.2.2
  obtain ⟨G1, G2, G3, G4⟩ := id iG
  have h0 : ∀ i, 3 ≤ i → i ≤ 8 → A2 0 i = A 0 i := fun i a b => h 0 i (Or.inl ⟨rfl, a, b⟩)
  have h1 : A2 1 0 = A 1 0 := h 1 0 (by unfold a_cell; omega)
  have h2 : A2 2 0 = A 2 0 := h 2 0 (by unfold a_cell; omega)
  have h3 : A2 3 0 = A 3 0 := h 3 0 (by unfold a_cell; omega)
  have h35 : A2 3 5 = A 3 5 := h 3 5 (by unfold a_cell; omega)
  have hg : ∀ o, 4 ≤ o → o ≤ 6 → ∀ g : Nat, (g : Int) < A 1 0 → A2 o g = A o g := fun o a b g q => h o g (by unfold a_cell; omega)
  have hc : ∀ o, 7 ≤ o → o ≤ 15 → ∀ g : Nat, (g : Int) < A 2 0 → A2 o g = A o g := fun o a b g q => h o g (by unfold a_cell; omega)
  have hj : ∀ o, 16 ≤ o → o ≤ 19 → ∀ g : Nat, (g : Int) < A 3 0 → A2 o g = A o g := fun o a b g q => h o g (by unfold a_cell; omega)
  have h20 : ∀ p, p < 60 → A2 20 p = A 20 p := fun p q => h 20 p (by unfold a_cell; omega)
  have h03 := h0 3 (by omega) (by omega)
  have h04 := h0 4 (by omega) (by omega)
  have h08 := h0 8 (by omega) (by omega)
  have lj : ∀ j ∈ l, (j : Int) < A 3 0 := cW.2.2.2.1
  have hgr : ∀ j ∈ l, a_gr A2 j = a_gr A j := fun j q => by
    have a := iJ j (lj j q)
    unfold a_gr
    rw [hj 16 (by omega) (by omega) j (lj j q), hc 7 (by omega) (by omega) _ (by omega)]
  refine ⟨i_G_congr iG h1 h2 h03, fun j q => ?_, fun c q => ?_, fun g q => ?_, ⟨by rw [h35]; exact cW.1, cW.2.1, fun p j q => ?_, by rw [h3]; exact cW.2.2.2⟩, ⟨?_, fun g q => ?_, fun c q => ?_⟩, ?_, fun c q => ?_, fun g q => ?_, ?_, ?_⟩
  · rw [h3] at q
    rw [h2, h03, hj 16 (by omega) (by omega) j q, hj 17 (by omega) (by omega) j q, hj 18 (by omega) (by omega) j q, hj 19 (by omega) (by omega) j q]
    exact iJ j q
  · rw [h2] at q
    rw [h1, hc 7 (by omega) (by omega) c q, hc 8 (by omega) (by omega) c q, hc 9 (by omega) (by omega) c q, hc 10 (by omega) (by omega) c q, hc 11 (by omega) (by omega) c q, hc 12 (by omega) (by omega) c q, hc 13 (by omega) (by omega) c q, hc 14 (by omega) (by omega) c q, hc 15 (by omega) (by omega) c q]
    exact iC c q
  · rw [h1] at q
    rw [h2, hg 4 (by omega) (by omega) g q, hg 5 (by omega) (by omega) g q, hg 6 (by omega) (by omega) g q]
    exact iK g q
  · have hp : p < l.length := by
      rcases Nat.lt_or_ge p l.length with z | z
      · exact z
      · rw [List.getElem?_eq_none z] at q; exact absurd q (by simp)
    rw [h20 p (by have := cW.2.1; omega)]
    exact cW.2.2.1 p j q
  · rw [h04, h1]; exact iD.1
  · rw [h1] at q
    have d := iD.2.1 g q
    rw [h04, h2, hg 5 (by omega) (by omega) g q, hg 6 (by omega) (by omega) g q]
    refine ⟨?_, d.2.1, fun z => d.2.2 ?_⟩
    · rcases d.1 with z | z
      · exact Or.inl z
      · rw [hc 7 (by omega) (by omega) _ (by omega)]; exact Or.inr z
    · rcases z with z | z
      · exact Or.inl z
      · exact Or.inr (fun j y => by rw [← hgr j y]; exact z j y)
  · rw [h2] at q
    have d := iD.2.2 c q
    have ac := iC c q
    rw [hc 9 (by omega) (by omega) c q, hc 7 (by omega) (by omega) c q, hg 6 (by omega) (by omega) _ (by omega)]
    refine ⟨d.1, fun z => d.2 ?_⟩
    rcases z with z | z
    · exact Or.inl z
    · exact Or.inr (fun j y => by rw [← hj 16 (by omega) (by omega) j (lj j y)]; exact z j y)
  · rw [el]
    unfold e_l
    rw [h3]
    refine List.filter_congr fun j q => ?_
    rw [hj 19 (by omega) (by omega) j (by have := s_rg_mem.mp q; omega)]
  · rw [h2] at q
    rw [h3, hc 9 (by omega) (by omega) c q]; exact c9 c q
  · rw [h1] at q
    rw [h3, hg 5 (by omega) (by omega) g q]; exact c5 g q
  · rw [h08]; exact c08
  · rw [h08, h3]; exact c08'
theorem e_I_time {A : Nat → Nat → Int} {l : List Nat} (hI : e_I A l) {t : Int} (h1 : A 0 3 ≤ t) (h2 : t ≤ 30000) : e_I (a_u A 0 3 t) l := by
  obtain ⟨iG, iJ, iC, iK, cW, iD, el, c9, c5, c08, c08'⟩ := id hI
  obtain ⟨G1, G2, G3, G4⟩ := id iG
  have e : ∀ o i, ¬ (o = 0 ∧ i = 3) → a_u A 0 3 t o i = A o i := fun o i q => a_u_ne q
  have e' : ∀ o i, o ≠ 0 → a_u A 0 3 t o i = A o i := fun o i q => a_u_o q
  have es : a_u A 0 3 t 0 3 = t := a_u_same _ _ _ _
  refine ⟨?_, fun j q => ?_, ?_, ?_, c_WL_congr cW (e' 20 · (by decide)) (e' 3 5 (by decide)) (e' 3 0 (by decide)), ?_, ?_, ?_, ?_, ?_, ?_⟩
  · unfold i_G
    rw [es, e' 1 0 (by decide), e' 2 0 (by decide)]
    exact ⟨G1, G2, by omega, h2⟩
  · rw [e' 3 0 (by decide)] at q
    have a := iJ j q
    rw [es, e' 2 0 (by decide), e' 16 j (by decide), e' 17 j (by decide), e' 18 j (by decide), e' 19 j (by decide)]
    exact ⟨a.1, a.2.1, by omega, a.2.2.2⟩
  · unfold i_C at iC ⊢
    simp (disch := omega) only [e']
    exact iC
  · unfold i_K at iK ⊢
    simp (disch := omega) only [e']
    exact iK
  · unfold i_D a_gr at iD ⊢
    rw [e 0 4 (by omega)]
    simp (disch := omega) only [e']
    exact iD
  · rw [el]
    unfold e_l
    rw [e' 3 0 (by decide)]
    refine List.filter_congr fun j _ => ?_
    rw [e' 19 j (by decide)]
  · simp (disch := omega) only [e']; exact c9
  · simp (disch := omega) only [e']; exact c5
  · rw [e 0 8 (by omega)]; exact c08
  · rw [e 0 8 (by omega), e' 3 0 (by decide)]; exact c08'
theorem a_u_self (A : Nat → Nat → Int) (o j : Nat) : a_u A o j (A o j) = A := by
  funext o' j'
  unfold a_u
  split
  · rename_i h; rw [h.1, h.2]
  · rfl
def e_Sv (A : Nat → Nat → Int) : Prop :=
  ((A 0 5 = -5 ∧ A 0 6 = 0) ∨ ∃ j : Nat, A 0 5 = (j : Int) ∧ (j : Int) < A 3 0 ∧ A 19 j ≠ -5 ∧ 1 ≤ A 0 6 ∧ A 0 6 ≤ A 17 j ∧ A 19 j + A 17 j - A 0 6 = A 0 3) ∧ (∀ c : Nat, (c : Int) < A 2 0 → A 15 c ≤ A 0 3) ∧ 0 ≤ A 0 7 ∧ A 0 7 ≤ A 0 3 ∧ ∀ j : Nat, (j : Int) < A 3 0 → A 19 j ≤ A 0 3
theorem e_I_o {A A' : Nat → Nat → Int} {l : List Nat} (hI : e_I A l) (h : ∀ o i, o ≠ 15 → o ≠ 12 → ¬ (o = 0 ∧ (i = 5 ∨ i = 6 ∨ i = 7)) → A' o i = A o i) (h15 : ∀ c : Nat, (c : Int) < A 2 0 → 0 ≤ A' 15 c ∧ A' 15 c ≤ 30000) (h12 : ∀ c : Nat, (c : Int) < A 2 0 → 0 ≤ A' 12 c ∧ A' 12 c ≤ A 10 c) : e_I A' l := by
  obtain ⟨iG, iJ, iC, iK, cW, iD, el, c9, c5, c08, c08'⟩ := id hI
  have e' : ∀ o i, o ≠ 0 → o ≠ 12 → o ≠ 15 → A' o i = A o i := fun o i a b d => h o i d b (by omega)
  have h03 : A' 0 3 = A 0 3 := h 0 3 (by decide) (by decide) (by omega)
  have h04 : A' 0 4 = A 0 4 := h 0 4 (by decide) (by decide) (by omega)
  have h08 : A' 0 8 = A 0 8 := h 0 8 (by decide) (by decide) (by omega)
  have b10 := e' 1 0 (by decide) (by decide) (by decide)
  have b20 := e' 2 0 (by decide) (by decide) (by decide)
  have b30 := e' 3 0 (by decide) (by decide) (by decide)
  refine ⟨i_G_congr iG b10 b20 h03, i_J_congr iJ b30 b20 h03 (e' 16 · (by decide) (by decide) (by decide)) (e' 17 · (by decide) (by decide) (by decide)) (e' 18 · (by decide) (by decide) (by decide)) (fun j q => by rw [e' 19 j (by decide) (by decide) (by decide)]; exact (iJ j q).2.2.2), fun c q => ?_, ?_, c_WL_congr cW (e' 20 · (by decide) (by decide) (by decide)) (e' 3 5 (by decide) (by decide) (by decide)) b30, ?_, ?_, ?_, ?_, by rw [h08]; exact c08, by rw [h08, b30]; exact c08'⟩
  · rw [b20] at q
    have a := iC c q
    have b := h15 c q
    have d := h12 c q
    rw [b10, e' 7 c (by decide) (by decide) (by decide), e' 8 c (by decide) (by decide) (by decide), e' 9 c (by decide) (by decide) (by decide), e' 10 c (by decide) (by decide) (by decide), e' 11 c (by decide) (by decide) (by decide), e' 13 c (by decide) (by decide) (by decide), e' 14 c (by decide) (by decide) (by decide)]
    exact ⟨a.1, a.2.1, a.2.2.1, a.2.2.2.1, a.2.2.2.2.1, d, a.2.2.2.2.2.2.1, a.2.2.2.2.2.2.2.1, b⟩
  · unfold i_K at iK ⊢
    simp (disch := omega) only [e']
    exact iK
  · unfold i_D a_gr at iD ⊢
    rw [h04]
    simp (disch := omega) only [e']
    exact iD
  · rw [el]
    unfold e_l
    rw [b30]
    refine List.filter_congr fun j _ => ?_
    rw [e' 19 j (by decide) (by decide) (by decide)]
  · simp (disch := omega) only [e']; exact c9
  · simp (disch := omega) only [e']; exact c5
theorem e_tok_b {x f b i y : Int} (hx : 0 ≤ x ∧ x ≤ b) (hf : 0 ≤ f) (hi : 0 ≤ i) (hy : y = if x + f * i < b then x + f * i else b) : 0 ≤ y ∧ y ≤ b := by
  have := Int.mul_nonneg hf hi
  generalize f * i = P at *
  split at hy <;> omega
theorem k_roomAt {M : z_M} {i : Nat} (h : i < 4) : z_ev 12 [.inr (some (0, 22)), .inl (i : Int)] M = some (some (.inr (some (z_rg (M 0 23 i), 0))), M) := by
  rw [x12]
  repeat' (first | (exfalso; omega) | (simp (disch := first | omega | assumption | exact z_b_01) only [x12_0, x12_1, x12_4, x12_5, x12_6, x12_9, x12_10, x12_13, x12_14, x12_15, x12_18, x12_19, Option.bind_some, Option.toList_some, Option.toList_none, List.cons_append, List.nil_append, Int.toNat_natCast, Int.toNat_zero, z_w_id, z_b_0, z_b_1, z_b_n0, z_b_t, z_b_f, ↓reduceIte, Int.reduceEq, Int.reduceLT, Int.reduceLE, Int.reduceToNat, not_true_eq_false, not_false_eq_true, false_and, and_false, true_and, and_true, false_or, or_false, true_or, or_true]) | split)
  all_goals rfl
theorem k_dropOldest {M : z_M} (h : 1 ≤ M 0 22 0 ∧ M 0 22 0 ≤ 4) : z_ev 10 [.inr (some (0, 22))] M = some (none, z_up (z_up (z_up (z_up (z_up M 0 23 0 ((z_rg (M 0 23 1)).val : Int)) 0 23 1 ((z_rg (M 0 23 2)).val : Int)) 0 23 2 ((z_rg (M 0 23 3)).val : Int)) 0 23 3 ((z_rg (M 0 23 0)).val : Int)) 0 22 0 (M 0 22 0 - 1)) := by
  have n2 : ∀ v, z_up M 0 23 0 v 0 23 2 = M 0 23 2 := fun v => z_up_ne (by decide)
  have n3 : ∀ v w, z_up (z_up M 0 23 0 v) 0 23 1 w 0 23 3 = M 0 23 3 := fun v w => by rw [z_up_ne (by decide), z_up_ne (by decide)]
  have n4 : ∀ v w x y, z_up (z_up (z_up (z_up M 0 23 0 v) 0 23 1 w) 0 23 2 x) 0 23 3 y 0 22 0 = M 0 22 0 := fun v w x y => by rw [z_up_ne (by decide), z_up_ne (by decide), z_up_ne (by decide), z_up_ne (by decide)]
  rw [x10]
  repeat' (first | (exfalso; omega) | (simp (disch := first | omega | assumption | exact z_b_01) only [x10_0, x10_1, x10_4, x10_5, x10_6, x10_7, x10_8, x10_9, x10_10, x10_11, x10_14, x10_15, x10_18, x10_19, x10_20, x10_21, x10_22, x10_25, x10_26, x10_27, x10_28, x10_31, x10_34, x10_35, x10_38, x10_39, x10_40, x10_41, x10_42, x10_43, x10_46, x10_47, x10_48, x10_51, Option.bind_some, Option.toList_some, Option.toList_none, List.cons_append, List.nil_append, Int.toNat_natCast, Int.toNat_zero, z_w_id, z_b_0, z_b_1, z_b_n0, z_b_t, z_b_f, ↓reduceIte, Int.reduceEq, Int.reduceLT, Int.reduceLE, Int.reduceToNat, not_true_eq_false, not_false_eq_true, false_and, and_false, true_and, and_true, false_or, or_false, true_or, or_true, n2, n3, n4, Int.reduceAdd, Int.reduceSub]) | split)
  all_goals rfl
theorem k_pushRoom {M : z_M} {n : Nat} (hn : M 0 22 0 = (n : Int)) (h4 : n < 4) (hq : z_rg (M 0 23 n) ≠ 0) : z_ev 11 [.inr (some (0, 22)), .inr (some (0, 0))] M = some (none, z_up (z_ur M (z_rg (M 0 23 n)) (a_copy (M (z_rg (M 0 23 n))) (M 0))) 0 22 0 ((n : Int) + 1)) := by
  have k1 := k_roomAt (M := M) h4
  have k2 := k_State_copy (s := z_rg (M 0 23 n)) (s2 := 0) (Ne.symm hq) (M := M) (A := M (z_rg (M 0 23 n)))
  rw [z_ur_self] at k2
  have k3 : z_ur M (z_rg (M 0 23 n)) (a_copy (M (z_rg (M 0 23 n))) (M 0)) 0 22 0 = (n : Int) := by rw [z_ur_top (by decide)]; exact hn
  generalize z_rg (M 0 23 n) = q at *
  rw [x11]
  repeat' (first | (exfalso; omega) | (simp (disch := first | omega | assumption | exact z_b_01) only [x11_0, x11_1, x11_4, x11_5, x11_8, x11_9, x11_12, x11_13, x11_14, x11_17, x11_20, x11_21, x11_22n, x11_22s, x11_25, x11_26, x11_27, x11_30, x11_31, x11_32, x11_35, x11_36, x11_37, x11_40, Option.bind_some, Option.toList_some, Option.toList_none, List.cons_append, List.nil_append, Int.toNat_natCast, Int.toNat_zero, z_w_id, z_b_0, z_b_1, z_b_n0, z_b_t, z_b_f, ↓reduceIte, Int.reduceEq, Int.reduceLT, Int.reduceLE, Int.reduceToNat, not_true_eq_false, not_false_eq_true, false_and, and_false, true_and, and_true, false_or, or_false, true_or, or_true, hn, k1, k2, k3]) | split)
  all_goals rfl
theorem k_takeLatest {M : z_M} {n : Nat} (hn : M 0 22 0 = ((n + 1 : Nat) : Int)) (h4 : n < 4) (hq : z_rg (M 0 23 n) ≠ 0) : z_ev 13 [.inr (some (0, 22)), .inr (some (0, 0))] M = some (none, z_up (z_ur M 0 (a_copy (M 0) (M (z_rg (M 0 23 n))))) 0 22 0 (n : Int)) := by
  have k1 := k_roomAt (M := M) h4
  have k2 := k_State_copy (s := 0) (s2 := z_rg (M 0 23 n)) hq (M := M) (A := M 0)
  rw [z_ur_self] at k2
  have k3 : z_ur M 0 (a_copy (M 0) (M (z_rg (M 0 23 n)))) 0 22 0 = ((n + 1 : Nat) : Int) := by rw [z_ur_top (by decide)]; exact hn
  have e : ((n + 1 : Nat) : Int) - 1 = (n : Int) := by omega
  generalize z_rg (M 0 23 n) = q at *
  rw [x13]
  repeat' (first | (exfalso; omega) | (simp (disch := first | omega | assumption | exact z_b_01) only [x13_0, x13_1, x13_2, x13_5, x13_6, x13_7, x13_10, x13_11, x13_12n, x13_12s, x13_15, x13_16, x13_17, x13_20, x13_21, x13_22, x13_25, x13_26, x13_27, x13_30, Option.bind_some, Option.toList_some, Option.toList_none, List.cons_append, List.nil_append, Int.toNat_natCast, Int.toNat_zero, z_w_id, z_b_0, z_b_1, z_b_n0, z_b_t, z_b_f, ↓reduceIte, Int.reduceEq, Int.reduceLT, Int.reduceLE, Int.reduceToNat, not_true_eq_false, not_false_eq_true, false_and, and_false, true_and, and_true, false_or, or_false, true_or, or_true, hn, k1, k2, k3, e]) | split)
  all_goals rfl
theorem k_pushFull {M M1 : z_M} (hn : M 0 22 0 = 4) (hd : z_ev 10 [.inr (some (0, 22))] M = some (none, M1)) (h1 : M1 0 22 0 = 3) (hq : z_rg (M1 0 23 3) ≠ 0) : z_ev 11 [.inr (some (0, 22)), .inr (some (0, 0))] M = some (none, z_up (z_ur M1 (z_rg (M1 0 23 3)) (a_copy (M1 (z_rg (M1 0 23 3))) (M1 0))) 0 22 0 4) := by
  have k1 : z_ev 12 [.inr (some (0, 22)), .inl 3] M1 = some (some (.inr (some (z_rg (M1 0 23 3), 0))), M1) := k_roomAt (M := M1) (i := 3) (by decide)
  have k2 := k_State_copy (s := z_rg (M1 0 23 3)) (s2 := 0) (Ne.symm hq) (M := M1) (A := M1 (z_rg (M1 0 23 3)))
  rw [z_ur_self] at k2
  have k3 : z_ur M1 (z_rg (M1 0 23 3)) (a_copy (M1 (z_rg (M1 0 23 3))) (M1 0)) 0 22 0 = 3 := by rw [z_ur_top (by decide)]; exact h1
  generalize z_rg (M1 0 23 3) = q at *
  rw [x11]
  repeat' (first | (exfalso; omega) | (simp (disch := first | omega | assumption | exact z_b_01) only [x11_0, x11_1, x11_4, x11_5, x11_8, x11_9, x11_12, x11_13, x11_14, x11_17, x11_20, x11_21, x11_22n, x11_22s, x11_25, x11_26, x11_27, x11_30, x11_31, x11_32, x11_35, x11_36, x11_37, x11_40, Option.bind_some, Option.toList_some, Option.toList_none, List.cons_append, List.nil_append, Int.toNat_natCast, Int.toNat_zero, z_w_id, z_b_0, z_b_1, z_b_n0, z_b_t, z_b_f, ↓reduceIte, Int.reduceEq, Int.reduceLT, Int.reduceLE, Int.reduceToNat, not_true_eq_false, not_false_eq_true, false_and, and_false, true_and, and_true, false_or, or_false, true_or, or_true, hn, hd, h1, k1, k2, k3, Int.reduceAdd]) | split)
  all_goals rfl
