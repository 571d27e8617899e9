/-! only the cells of a state matter -/
theorem e_cell {A A2 : Nat → Nat → Int} {l : List Nat} (hI : e_I A l) (h : ∀ o j, a_cell o j → A2 o j = A o j) : e_I A2 l := by
  obtain ⟨iG, iJ, iC, iK, cW, iD, el, c9, c5, c08, c08'⟩ := id hI
  have c3 := cW.2.2.2.2
  obtain ⟨G1, G2, G3, G4⟩ := id iG
  have h0 : ∀ i, 3 ≤ i → i ≤ 8 → A2 0 i = A 0 i := fun i a b => h 0 i (Or.inl ⟨rfl, a, b⟩)
  have h1 : A2 1 0 = A 1 0 := h 1 0 (by unfold a_cell; omega)
  have h2 : A2 2 0 = A 2 0 := h 2 0 (by unfold a_cell; omega)
  have h3 : A2 3 0 = A 3 0 := h 3 0 (by unfold a_cell; omega)
  have h35 : A2 3 5 = A 3 5 := h 3 5 (by unfold a_cell; omega)
  have hg : ∀ o, 4 ≤ o → o ≤ 6 → ∀ g : Nat, (g : Int) < A 1 0 → A2 o g = A o g := fun o a b g q => h o g (by unfold a_cell; omega)
  have hc : ∀ o, 7 ≤ o → o ≤ 15 → ∀ g : Nat, (g : Int) < A 2 0 → A2 o g = A o g := fun o a b g q => h o g (by unfold a_cell; omega)
  have hj : ∀ o, 16 ≤ o → o ≤ 19 → ∀ g : Nat, (g : Int) < A 3 0 → A2 o g = A o g := fun o a b g q => h o g (by unfold a_cell; omega)
  have h20 : ∀ p, p < 60 → A2 20 p = A 20 p := fun p q => h 20 p (by unfold a_cell; omega)
  have h03 := h0 3 (by omega) (by omega)
  have h04 := h0 4 (by omega) (by omega)
  have h08 := h0 8 (by omega) (by omega)
  have lj : ∀ j ∈ l, (j : Int) < A 3 0 := cW.2.2.2.1
  have hgr : ∀ j ∈ l, a_gr A2 j = a_gr A j := fun j q => by
    have a := iJ j (lj j q)
    unfold a_gr
    rw [hj 16 (by omega) (by omega) j (lj j q), hc 7 (by omega) (by omega) _ (by omega)]
  refine ⟨i_G_congr iG h1 h2 h03, fun j q => ?_, fun c q => ?_, fun g q => ?_, ⟨by rw [h35]; exact cW.1, cW.2.1, fun p j q => ?_, by rw [h3]; exact cW.2.2.2⟩, ⟨?_, fun g q => ?_, fun c q => ?_⟩, ?_, fun c q => ?_, fun g q => ?_, ?_, ?_⟩
  · rw [h3] at q
    rw [h2, h03, hj 16 (by omega) (by omega) j q, hj 17 (by omega) (by omega) j q, hj 18 (by omega) (by omega) j q, hj 19 (by omega) (by omega) j q]
    exact iJ j q
  · rw [h2] at q
    rw [h1, hc 7 (by omega) (by omega) c q, hc 8 (by omega) (by omega) c q, hc 9 (by omega) (by omega) c q, hc 10 (by omega) (by omega) c q, hc 11 (by omega) (by omega) c q, hc 12 (by omega) (by omega) c q, hc 13 (by omega) (by omega) c q, hc 14 (by omega) (by omega) c q, hc 15 (by omega) (by omega) c q]
    exact iC c q
  · rw [h1] at q
    rw [h2, hg 4 (by omega) (by omega) g q, hg 5 (by omega) (by omega) g q, hg 6 (by omega) (by omega) g q]
    exact iK g q
  · have hp : p < l.length := by
      rcases Nat.lt_or_ge p l.length with z | z
      · exact z
      · rw [List.getElem?_eq_none z] at q; exact absurd q (by simp)
    rw [h20 p (by have := cW.2.1; omega)]
    exact cW.2.2.1 p j q
  · rw [h04, h1]; exact iD.1
  · rw [h1] at q
    have d := iD.2.1 g q
    rw [h04, h2, hg 5 (by omega) (by omega) g q, hg 6 (by omega) (by omega) g q]
    refine ⟨?_, d.2.1, fun z => d.2.2 ?_⟩
    · rcases d.1 with z | z
      · exact Or.inl z
      · rw [hc 7 (by omega) (by omega) _ (by omega)]; exact Or.inr z
    · rcases z with z | z
      · exact Or.inl z
      · exact Or.inr (fun j y => by rw [← hgr j y]; exact z j y)
  · rw [h2] at q
    have d := iD.2.2 c q
    have ac := iC c q
    rw [hc 9 (by omega) (by omega) c q, hc 7 (by omega) (by omega) c q, hg 6 (by omega) (by omega) _ (by omega)]
    refine ⟨d.1, fun z => d.2 ?_⟩
    rcases z with z | z
    · exact Or.inl z
    · exact Or.inr (fun j y => by rw [← hj 16 (by omega) (by omega) j (lj j y)]; exact z j y)
  · rw [el]
    unfold e_l
    rw [h3]
    refine List.filter_congr fun j q => ?_
    rw [hj 19 (by omega) (by omega) j (by have := s_rg_mem.mp q; omega)]
  · rw [h2] at q
    rw [h3, hc 9 (by omega) (by omega) c q]; exact c9 c q
  · rw [h1] at q
    rw [h3, hg 5 (by omega) (by omega) g q]; exact c5 g q
  · rw [h08]; exact c08
  · rw [h08, h3]; exact c08'
theorem e_Wcell {A A2 : Nat → Nat → Int} {ρ : Nat → Int} (G1 : A 1 0 ≤ 3) (G2 : A 2 0 ≤ 8) (G3 : A 3 0 ≤ 200) (hW : e_W A ρ) (h : ∀ o j, a_cell o j → A2 o j = A o j) : e_W A2 ρ := by
  rw [e_W_iff] at hW ⊢
  obtain ⟨a, b, c⟩ := hW
  have h1 : A2 1 0 = A 1 0 := h 1 0 (by unfold a_cell; omega)
  have h2 : A2 2 0 = A 2 0 := h 2 0 (by unfold a_cell; omega)
  have h3 : A2 3 0 = A 3 0 := h 3 0 (by unfold a_cell; omega)
  rw [h1, h2, h3]
  refine ⟨fun o i q => ?_, fun g q => ?_, fun j q => ?_⟩
  · have q' : e_dom A o i := by
      unfold e_dom at q ⊢
      rw [h1, h2, h3] at q
      exact q
    rw [h o i (by unfold e_dom at q'; unfold a_cell; omega)]
    exact a o i q'
  · rw [b g q]
    refine s_sum_congr fun k y => ?_
    have := s_rg_mem.mp y
    rw [h 7 k (by unfold a_cell; omega), h 15 k (by unfold a_cell; omega)]
  · rw [h 19 j (by unfold a_cell; omega)]; exact c j q
theorem e_I_time {A : Nat → Nat → Int} {l : List Nat} (hI : e_I A l) {t : Int} (h1 : A 0 3 ≤ t) (h2 : t ≤ 30000) : e_I (a_u A 0 3 t) l := by
  obtain ⟨iG, iJ, iC, iK, cW, iD, el, c9, c5, c08, c08'⟩ := id hI
  obtain ⟨G1, G2, G3, G4⟩ := id iG
  have e : ∀ o i, ¬ (o = 0 ∧ i = 3) → a_u A 0 3 t o i = A o i := fun o i q => a_u_ne q
  have e' : ∀ o i, o ≠ 0 → a_u A 0 3 t o i = A o i := fun o i q => a_u_o q
  have es : a_u A 0 3 t 0 3 = t := a_u_same _ _ _ _
  refine ⟨?_, fun j q => ?_, ?_, ?_, c_WL_congr cW (e' 20 · (by decide)) (e' 3 5 (by decide)) (e' 3 0 (by decide)), ?_, ?_, ?_, ?_, ?_, ?_⟩
  · unfold i_G
    rw [es, e' 1 0 (by decide), e' 2 0 (by decide)]
    exact ⟨G1, G2, by omega, h2⟩
  · rw [e' 3 0 (by decide)] at q
    have a := iJ j q
    rw [es, e' 2 0 (by decide), e' 16 j (by decide), e' 17 j (by decide), e' 18 j (by decide), e' 19 j (by decide)]
    exact ⟨a.1, a.2.1, by omega, a.2.2.2⟩
  · unfold i_C at iC ⊢
    simp (disch := omega) only [e']
    exact iC
  · unfold i_K at iK ⊢
    simp (disch := omega) only [e']
    exact iK
  · unfold i_D a_gr at iD ⊢
    rw [e 0 4 (by omega)]
    simp (disch := omega) only [e']
    exact iD
  · rw [el]
    unfold e_l
    rw [e' 3 0 (by decide)]
    refine List.filter_congr fun j _ => ?_
    rw [e' 19 j (by decide)]
  · simp (disch := omega) only [e']; exact c9
  · simp (disch := omega) only [e']; exact c5
  · rw [e 0 8 (by omega)]; exact c08
  · rw [e 0 8 (by omega), e' 3 0 (by decide)]; exact c08'
theorem e_W_st {A : Nat → Nat → Int} {ρ : Nat → Int} (G1 : A 1 0 ≤ 3) (G2 : A 2 0 ≤ 8) (hW : e_W A ρ) {j : Nat} {v : Int} (hj : (j : Int) < A 3 0) (h19 : A 19 j ≠ -5) (hv : v ≠ 0) : e_W A (r_u ρ (100 + 7 * j + 3) v) := by
  rw [e_W_iff] at hW ⊢
  obtain ⟨a, b, c⟩ := hW
  refine ⟨fun o i q => ?_, fun g q => ?_, fun k q => ?_⟩
  · have := e_pos_val G1 G2 q
    rw [r_u_ne (by omega)]; exact a o i q
  · rw [r_u_ne (by omega)]; exact b g q
  · by_cases z : k = j
    · rw [z, r_u_same]
      exact ⟨fun y => absurd y hv, fun y => absurd y h19⟩
    · rw [r_u_ne (by omega)]; exact c k q
