/-! quanta, ages and units set, in a state and its row -/
theorem e_I_q {A A' : Nat → Nat → Int} {l : List Nat} (hI : e_I A l) (h : ∀ o i, o ≠ 4 → o ≠ 8 → o ≠ 13 → A' o i = A o i) (h4 : ∀ g : Nat, (g : Int) < A 1 0 → 1 ≤ A' 4 g ∧ A' 4 g ≤ 200) (h8 : ∀ c : Nat, (c : Int) < A 2 0 → 1 ≤ A' 8 c ∧ A' 8 c ≤ 200) (h13 : ∀ c : Nat, (c : Int) < A 2 0 → 0 ≤ A' 13 c ∧ A' 13 c ≤ 2000) : e_I A' l := by
  obtain ⟨iG, iJ, iC, iK, cW, iD, el, c9, c5, c08, c08'⟩ := id hI
  have b20 := h 2 0 (by decide) (by decide) (by decide)
  have b10 := h 1 0 (by decide) (by decide) (by decide)
  have b30 := h 3 0 (by decide) (by decide) (by decide)
  refine ⟨?_, ?_, fun c q => ?_, fun g q => ?_, c_WL_congr cW (h 20 · (by decide) (by decide) (by decide)) (h 3 5 (by decide) (by decide) (by decide)) b30, ?_, ?_, ?_, ?_, ?_, ?_⟩
  · unfold i_G at iG ⊢
    simp (disch := omega) only [h]
    exact iG
  · unfold i_J at iJ ⊢
    simp (disch := omega) only [h]
    exact iJ
  · rw [b20] at q
    have a := iC c q
    have b := h8 c q
    have d := h13 c q
    rw [b10, h 7 c (by decide) (by decide) (by decide), h 9 c (by decide) (by decide) (by decide), h 10 c (by decide) (by decide) (by decide), h 11 c (by decide) (by decide) (by decide), h 12 c (by decide) (by decide) (by decide), h 14 c (by decide) (by decide) (by decide), h 15 c (by decide) (by decide) (by decide)]
    exact ⟨a.1, b, a.2.2.1, a.2.2.2.1, a.2.2.2.2.1, a.2.2.2.2.2.1, d, a.2.2.2.2.2.2.2⟩
  · rw [b10] at q
    have a := iK g q
    have b := h4 g q
    rw [b20, h 5 g (by decide) (by decide) (by decide), h 6 g (by decide) (by decide) (by decide)]
    exact ⟨b, a.2⟩
  · unfold i_D a_gr at iD ⊢
    simp (disch := omega) only [h]
    exact iD
  · rw [el]
    unfold e_l
    rw [b30]
    refine List.filter_congr fun j _ => ?_
    rw [h 19 j (by decide) (by decide) (by decide)]
  · simp (disch := omega) only [h]; exact c9
  · simp (disch := omega) only [h]; exact c5
  · rw [h 0 8 (by decide) (by decide) (by decide)]; exact c08
  · rw [h 0 8 (by decide) (by decide) (by decide), b30]; exact c08'
theorem e_F_u {i : Int} {A : Nat → Nat → Int} {ρ : Nat → Int} {l : List Nat} (hF : e_F i A ρ l) {o k : Nat} {v : Int} (ho : o = 4 ∨ o = 8 ∨ o = 13) (hd : e_dom A o k) (hv : (1 ≤ v ∧ v ≤ 200) ∨ (o = 13 ∧ 0 ≤ v ∧ v ≤ 2000)) : e_F i (a_u A o k v) (r_u ρ (e_pos o k) v) l := by
  obtain ⟨hI, hW, ⟨y5, yj, yc⟩, hS⟩ := hF
  have g1 := hI.1.1
  have g2 := hI.1.2.1
  have e : ∀ o' i', o' ≠ 4 → o' ≠ 8 → o' ≠ 13 → a_u A o k v o' i' = A o' i' := fun o' i' a b d => a_u_o (by omega)
  have pv := e_pos_val g1.2 g2.2 hd
  have hst : ∀ j, a_stage (a_u A o k v) j = a_stage A j := fun j => by unfold a_stage; rw [e 19 j (by decide) (by decide) (by decide), e 0 5 (by decide) (by decide) (by decide)]
  refine ⟨e_I_q hI e (fun g q => ?_) (fun c q => ?_) (fun c q => ?_), e_W_u g1.2 g2.2 hW hd (by omega), ⟨?_, fun j q => ?_, fun c q => ?_⟩, ?_⟩
  · have a := (hI.2.2.2.1 g q).1
    unfold a_u
    split <;> omega
  · have a := (hI.2.2.1 c q).2.1
    unfold a_u
    split <;> omega
  · have a := (hI.2.2.1 c q).2.2.2.2.2.2.1
    unfold a_u
    split <;> omega
  · rw [r_u_ne (by omega), e 0 5 (by decide) (by decide) (by decide)]; exact y5
  · rw [e 3 0 (by decide) (by decide) (by decide)] at q
    rw [r_u_ne (by omega), r_u_ne (by omega), r_u_ne (by omega), hst, e 19 j (by decide) (by decide) (by decide), e 17 j (by decide) (by decide) (by decide), e 0 6 (by decide) (by decide) (by decide)]
    exact yj j q
  · rw [e 2 0 (by decide) (by decide) (by decide)] at q
    rw [r_u_ne (by omega), r_u_ne (by omega), e 12 c (by decide) (by decide) (by decide), e 11 c (by decide) (by decide) (by decide), e 10 c (by decide) (by decide) (by decide), e 3 0 (by decide) (by decide) (by decide)]
    refine ⟨(yc c q).1, ?_⟩
    rw [(yc c q).2]
    refine s_sum_congr fun m _ => ?_
    rw [hst, e 16 m (by decide) (by decide) (by decide)]
  · unfold e_Sv at hS ⊢
    simp (disch := omega) only [e]
    exact hS
/-- units at 0, in the model's rows -/
def m_zg (ρ : Nat → Int) (k : Nat) : Nat → Int := fun p => if 8 ≤ p ∧ p < 8 + 4 * k ∧ p % 4 = 3 then 0 else ρ p
def m_zc (ρ : Nat → Int) (k : Nat) : Nat → Int := fun p => if 20 ≤ p ∧ p < 20 + 10 * k ∧ p % 10 = 9 then 0 else ρ p
theorem m_zg_succ (ρ : Nat → Int) (k : Nat) : r_u (m_zg ρ k) (8 + 4 * k + 3) 0 = m_zg ρ (k + 1) := by
  funext p
  unfold r_u m_zg
  by_cases h : p = 8 + 4 * k + 3
  · rw [if_pos h, if_pos (by omega)]
  · rw [if_neg h]
    by_cases h2 : 8 ≤ p ∧ p < 8 + 4 * k ∧ p % 4 = 3
    · rw [if_pos h2, if_pos (by omega)]
    · rw [if_neg h2, if_neg (by omega)]
theorem m_zc_succ (ρ : Nat → Int) (k : Nat) : r_u (m_zc ρ k) (20 + 10 * k + 9) 0 = m_zc ρ (k + 1) := by
  funext p
  unfold r_u m_zc
  by_cases h : p = 20 + 10 * k + 9
  · rw [if_pos h, if_pos (by omega)]
  · rw [if_neg h]
    by_cases h2 : 20 ≤ p ∧ p < 20 + 10 * k ∧ p % 10 = 9
    · rw [if_pos h2, if_pos (by omega)]
    · rw [if_neg h2, if_neg (by omega)]
theorem m_zg_ne {ρ : Nat → Int} {k p : Nat} (h : ¬ (8 ≤ p ∧ p < 8 + 4 * k ∧ p % 4 = 3)) : m_zg ρ k p = ρ p := if_neg h
theorem m_zc_ne {ρ : Nat → Int} {k p : Nat} (h : ¬ (20 ≤ p ∧ p < 20 + 10 * k ∧ p % 10 = 9)) : m_zc ρ k p = ρ p := if_neg h
theorem s_sum_zero {l : List Nat} {f : Nat → Int} (h : ∀ j ∈ l, f j = 0) : s_sum l f = 0 := by
  induction l with
  | nil => rfl
  | cons j l ih => rw [s_sum_cons, h j List.mem_cons_self, ih fun k hk => h k (List.mem_cons_of_mem _ hk)]; rfl
theorem s_sum_add {l : List Nat} {f g : Nat → Int} : s_sum l (fun j => f j + g j) = s_sum l f + s_sum l g := by
  induction l with
  | nil => rfl
  | cons j l ih => rw [s_sum_cons, s_sum_cons, s_sum_cons, ih]; omega
theorem s_sum_pick {a u : Int} : ∀ (n i : Nat), (i : Int) ≤ a → a < (i : Int) + n → s_sum (List.range' i n) (fun g => if a = (g : Int) then u else 0) = u := by
  intro n
  induction n with
  | zero => intro i h1 h2; omega
  | succ n ih =>
    intro i h1 h2
    rw [List.range'_succ, s_sum_cons]
    by_cases q : a = (i : Int)
    · rw [if_pos q, s_sum_zero]
      · omega
      · intro g hg
        have := (List.mem_range'_1.mp hg).1
        rw [if_neg (by omega)]
    · rw [if_neg q, ih (i + 1) (by omega) (by omega)]
      omega
theorem s_sum_swap {a u : Nat → Int} (n : Nat) : ∀ L : List Nat, (∀ c ∈ L, 0 ≤ a c ∧ a c < (n : Int)) → s_sum (s_rg n) (fun g => s_sum L (fun c => if a c = (g : Int) then u c else 0)) = s_sum L u := by
  intro L
  induction L with
  | nil => intro _; exact s_sum_zero fun _ _ => rfl
  | cons c L ih =>
    intro h
    have e := ih fun k hk => h k (List.mem_cons_of_mem _ hk)
    have hc := h c List.mem_cons_self
    have e2 := s_sum_pick (a := a c) (u := u c) n 0 (by omega) (by omega)
    rw [s_sum_cons, ← e]
    show s_sum (s_rg n) (fun g => s_sum (c :: L) (fun c => if a c = (g : Int) then u c else 0)) = _
    rw [s_sum_congr (g := fun (g : Nat) => (if a c = (g : Int) then u c else 0) + s_sum L (fun c => if a c = (g : Int) then u c else 0)) (fun g _ => s_sum_cons _ _ _), s_sum_add]
    unfold s_rg at e2 ⊢
    rw [e2]
theorem e_F_zero {i : Int} {A : Nat → Nat → Int} {ρ : Nat → Int} {l : List Nat} (hF : e_F i A ρ l) : e_F i (a_zero A (A 2 0).toNat) (m_zc (m_zg ρ (A 1 0).toNat) (A 2 0).toNat) l := by
  obtain ⟨hI, hW, ⟨y5, yj, yc⟩, hS⟩ := hF
  have g1 := hI.1.1
  have g2 := hI.1.2.1
  have g3 := hI.1.2.2
  obtain ⟨⟨w0, w1, w2, w3, w4, w6, w7⟩, wg, wc, wj⟩ := hW
  have eo : ∀ o, o ≠ 15 → ∀ k, a_zero A (A 2 0).toNat o k = A o k := fun o q k => a_zero_o q
  have e15 : ∀ c : Nat, (c : Int) < A 2 0 → a_zero A (A 2 0).toNat 15 c = 0 := fun c hc => by unfold a_zero; rw [if_pos ⟨rfl, by omega⟩]
  have hst : ∀ k, a_stage (a_zero A (A 2 0).toNat) k = a_stage A k := fun k => by unfold a_stage; rw [eo 19 (by decide), eo 0 (by decide)]
  have en : ∀ p, ¬ (8 ≤ p ∧ p < 20 ∧ p % 4 = 3) → ¬ (20 ≤ p ∧ p < 100 ∧ p % 10 = 9) → m_zc (m_zg ρ (A 1 0).toNat) (A 2 0).toNat p = ρ p := fun p a b => by
    rw [m_zc_ne (by omega), m_zg_ne (by omega)]
  refine ⟨e_I_o hI (fun o k a _ _ => eo o a k) (fun c hc => by rw [e15 c hc]; omega) (fun c hc => by rw [eo 12 (by decide)]; exact (hI.2.2.1 c hc).2.2.2.2.2.1), ⟨⟨?_, ?_, ?_, ?_, ?_, ?_, ?_⟩, fun g hg => ?_, fun c hc => ?_, fun j hj => ?_⟩, ⟨?_, fun j hj => ?_, fun c hc => ?_⟩, ?_⟩
  · rw [en _ (by omega) (by omega), eo 0 (by decide)]; exact w0
  · rw [en _ (by omega) (by omega), eo 1 (by decide)]; exact w1
  · rw [en _ (by omega) (by omega), eo 2 (by decide)]; exact w2
  · rw [en _ (by omega) (by omega), eo 3 (by decide)]; exact w3
  · rw [en _ (by omega) (by omega), eo 0 (by decide)]; exact w4
  · rw [en _ (by omega) (by omega), eo 0 (by decide)]; exact w6
  · rw [en _ (by omega) (by omega), eo 0 (by decide)]; exact w7
  · rw [eo 1 (by decide)] at hg
    have w := wg g hg
    rw [en _ (by omega) (by omega), en (8 + 4 * g + 1) (by omega) (by omega), en (8 + 4 * g + 2) (by omega) (by omega), eo 4 (by decide), eo 5 (by decide), eo 6 (by decide), eo 2 (by decide)]
    refine ⟨w.1, w.2.1, w.2.2.1, ?_⟩
    rw [m_zc_ne (by omega)]
    unfold m_zg
    rw [if_pos (by omega)]
    refine (s_sum_zero fun c hc => ?_).symm
    have := s_rg_mem.mp hc
    rw [e15 c (by omega)]
    split <;> rfl
  · rw [eo 2 (by decide)] at hc
    have w := wc c hc
    rw [en _ (by omega) (by omega), en (20 + 10 * c + 1) (by omega) (by omega), en (20 + 10 * c + 2) (by omega) (by omega), en (20 + 10 * c + 3) (by omega) (by omega), en (20 + 10 * c + 4) (by omega) (by omega), en (20 + 10 * c + 6) (by omega) (by omega), en (20 + 10 * c + 8) (by omega) (by omega), eo 7 (by decide), eo 8 (by decide), eo 9 (by decide), eo 10 (by decide), eo 11 (by decide), eo 13 (by decide), eo 14 (by decide), e15 c hc]
    refine ⟨w.1, trivial, w.2.2.1, w.2.2.2.1, ?_⟩
    unfold m_zc
    rw [if_pos (by omega)]
  · rw [eo 3 (by decide)] at hj
    have w := wj j hj
    rw [en _ (by omega) (by omega), en (100 + 7 * j + 1) (by omega) (by omega), en (100 + 7 * j + 2) (by omega) (by omega), en (100 + 7 * j + 3) (by omega) (by omega), en (100 + 7 * j + 4) (by omega) (by omega), eo 16 (by decide), eo 17 (by decide), eo 18 (by decide), eo 19 (by decide)]
    exact w
  · rw [en _ (by omega) (by omega), eo 0 (by decide)]; exact y5
  · rw [eo 3 (by decide)] at hj
    rw [en (100 + 7 * j + 3) (by omega) (by omega), en (100 + 7 * j + 5) (by omega) (by omega), en (100 + 7 * j + 6) (by omega) (by omega), hst, eo 19 (by decide), eo 17 (by decide), eo 0 (by decide)]
    exact yj j hj
  · rw [eo 2 (by decide)] at hc
    rw [en (20 + 10 * c + 5) (by omega) (by omega), en (20 + 10 * c + 7) (by omega) (by omega), eo 12 (by decide), eo 11 (by decide), eo 10 (by decide), eo 3 (by decide)]
    refine ⟨(yc c hc).1, ?_⟩
    rw [(yc c hc).2]
    refine s_sum_congr fun k _ => ?_
    rw [hst, eo 16 (by decide)]
  · obtain ⟨s0, s15, s7, s7', s19⟩ := hS
    refine ⟨?_, fun c hc => ?_, ?_, ?_, fun j hj => ?_⟩
    · simp (disch := decide) only [eo]; exact s0
    · rw [eo 2 (by decide)] at hc
      rw [e15 c hc, eo 0 (by decide)]; omega
    · rw [eo 0 (by decide)]; exact s7
    · rw [eo 0 (by decide), eo 0 (by decide)]; exact s7'
    · rw [eo 3 (by decide)] at hj
      rw [eo 19 (by decide), eo 0 (by decide)]; exact s19 j hj
