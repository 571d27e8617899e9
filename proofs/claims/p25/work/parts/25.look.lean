/-! lookAt -/
def v_la (C : Int) (nd : Nat → Int) (gb : Int) (g : Nat) (A : Nat → Nat → Int) : Nat → Nat → Int := if gb = 0 then A else if v_ok C nd g A then A else v_la1 C nd g A
def v_ln (C : Int) (nd : Nat → Int) (gb : Int) (g : Nat) (A : Nat → Nat → Int) : Int := if gb = 0 then 0 else nd (v_la C nd gb g A 6 g).toNat
theorem k_look {s : Fin 7} {M : z_M} {T A : Nat → Nat → Int} {nd : Nat → Int} {gb : Int} (hC0 : 0 < A 2 0) (h8 : A 2 0 ≤ 8) {g : Nat} (hg : g < 3) (hT : ∀ c : Nat, c < 8 → T 27 c = nd c) (hZ : ∀ c : Nat, c < 8 → A 2 0 ≤ (c : Int) → nd c = 0) (hT9 : T 29 g = gb) (hb : ∀ c : Nat, (c : Int) < A 2 0 → -20000 ≤ A 9 c ∧ A 9 c ≤ 300)
    (hH : gb ≠ 0 → v_H (A 2 0) nd g A ∧ ∃ j : Nat, (j : Int) < A 2 0 ∧ A 7 j = (g : Int) ∧ nd j ≠ 0) :
    z_ev 51 [.inr (some (0, 26)), .inr (some (s, 0)), .inl (g : Int)] (z_ur (z_ut M T) s A) = some (some (.inl (v_ln (A 2 0) nd gb g A)), z_ur (z_ut M T) s (v_la (A 2 0) nd gb g A)) := by
  by_cases hgb : gb = 0
  · have e1 : v_la (A 2 0) nd gb g A = A := by unfold v_la; rw [if_pos hgb]
    have e2 : v_ln (A 2 0) nd gb g A = 0 := by unfold v_ln; rw [if_pos hgb]
    rw [e1, e2, x51]
    rw [hgb] at hT9
    repeat' (first | (exfalso; omega) | (simp (disch := first | omega | assumption | exact z_b_01) only [x51_0, x51_1, x51_4, x51_5, x51_6, x51_9, x51_10, x51_13, x51_14, x51_15, x51_18, x51_19, x51_20, x51_21, x51_24, x51_27, x51_28, x51_29, x51_30, x51_31, x51_34, x51_35, x51_38, x51_41, x51_42, x51_45, x51_46, x51_47, x51_50, x51_51, x51_54, x51_57, x51_58, x51_59, x51_60, x51_63, x51_64, x51_65, x51_68, x51_69, x51_72, x51_73, x51_74, x51_75, x51_76, x51_77, x51_78, x51_81, x51_84, x51_85, x51_86, x51_87, x51_90, x51_91, x51_92, x51_93, x51_96, x51_97, x51_98, x51_101, x51_104, x51_105, x51_106, x51_108, x51_109, x51_112, x51_114, x51_117, x51_120, x51_121, x51_124, x51_126, x51_127, x51_130, x51_131, Option.bind_some, Option.toList_some, Option.toList_none, List.cons_append, List.nil_append, Int.toNat_natCast, Int.toNat_zero, z_w_id, z_b_0, z_b_1, z_b_n0, z_b_t, z_b_f, ↓reduceIte, Int.reduceEq, Int.reduceLT, Int.reduceLE, Int.reduceToNat, not_true_eq_false, not_false_eq_true, false_and, and_false, true_and, and_true, false_or, or_false, true_or, or_true, z_ut_get, hT9]) | split)
  · obtain ⟨hH1, hbusy⟩ := hH hgb
    have hpr : A 6 g = -5 ∨ (0 ≤ A 6 g ∧ A 6 g < A 2 0) := by rcases hH1.2.1 with h | h; exact Or.inl h; exact Or.inr ⟨h.1, h.2.1⟩
    by_cases hok : v_ok (A 2 0) nd g A
    · have e1 : v_la (A 2 0) nd gb g A = A := by unfold v_la; rw [if_neg hgb, if_pos hok]
      have e2 : v_ln (A 2 0) nd gb g A = nd (A 6 g).toNat := by unfold v_ln; rw [if_neg hgb, e1]
      have hTp := hT (A 6 g).toNat (by have := hok.1; omega)
      unfold v_ok at hok
      rw [e1, e2, x51]
      repeat' (first | (exfalso; omega) | (simp (disch := first | omega | assumption | exact z_b_01) only [x51_0, x51_1, x51_4, x51_5, x51_6, x51_9, x51_10, x51_13, x51_14, x51_15, x51_18, x51_19, x51_20, x51_21, x51_24, x51_27, x51_28, x51_29, x51_30, x51_31, x51_34, x51_35, x51_38, x51_41, x51_42, x51_45, x51_46, x51_47, x51_50, x51_51, x51_54, x51_57, x51_58, x51_59, x51_60, x51_63, x51_64, x51_65, x51_68, x51_69, x51_72, x51_73, x51_74, x51_75, x51_76, x51_77, x51_78, x51_81, x51_84, x51_85, x51_86, x51_87, x51_90, x51_91, x51_92, x51_93, x51_96, x51_97, x51_98, x51_101, x51_104, x51_105, x51_106, x51_108, x51_109, x51_112, x51_114, x51_117, x51_120, x51_121, x51_124, x51_126, x51_127, x51_130, x51_131, Option.bind_some, Option.toList_some, Option.toList_none, List.cons_append, List.nil_append, Int.toNat_natCast, Int.toNat_zero, z_w_id, z_b_0, z_b_1, z_b_n0, z_b_t, z_b_f, ↓reduceIte, Int.reduceEq, Int.reduceLT, Int.reduceLE, Int.reduceToNat, not_true_eq_false, not_false_eq_true, false_and, and_false, true_and, and_true, false_or, or_false, true_or, or_true, z_ur_get, z_ut_get, hT9, k_Classes_has, hTp]) | split)
      all_goals rfl
    · have e1 : v_la (A 2 0) nd gb g A = v_la1 (A 2 0) nd g A := by unfold v_la; rw [if_neg hgb, if_neg hok]
      have e2 : v_ln (A 2 0) nd gb g A = nd (v_la1 (A 2 0) nd g A 6 g).toNat := by unfold v_ln; rw [if_neg hgb, e1]
      obtain ⟨-, hokB, hfrB, -, hw0⟩ := v_look hC0 hH1 hok hbusy
      have hb2 : ∀ c : Nat, (c : Int) < A 2 0 → (-500000000 ≤ A 9 c ∧ A 9 c ≤ 500000000) ∧ (1 ≤ A 8 c ∧ A 8 c ≤ 200) := fun c hc => by have := hb c hc; have := (hH1.1 c hc).1; omega
      have kw := k_wc (s := s) (M := M) (T := T) (by omega) h8 hg hT (by omega) hb2
      have hTf := hT (v_la1 (A 2 0) nd g A 6 g).toNat (by have := hokB.1; omega)
      have hB2 : v_la1 (A 2 0) nd g A 2 0 = A 2 0 := hfrB.1 2 0 (by decide) (by omega)
      have hokB1 := hokB.1
      rw [e1, e2, x51]
      by_cases hz : (v_wc (A 2 0) nd g (A 2 0).toNat (A 6 g) A).1 = 0
      · obtain ⟨hfr, hp', hb9⟩ := hw0 hz
        have eB : v_la1 (A 2 0) nd g A = _ := if_pos hz
        generalize hA' : (v_wc (A 2 0) nd g (A 2 0).toNat (A 6 g) A).2 = A' at kw eB hfr hp' hb9
        have h20 : A' 2 0 = A 2 0 := hfr.1 2 0 (by decide) (by omega)
        have hb3 : ∀ c : Nat, (c : Int) < A' 2 0 → (-100000000 ≤ A' 9 c ∧ A' 9 c ≤ 100000000) ∧ (1 ≤ A' 8 c ∧ A' 8 c ≤ 200) := fun c hc => by
          rw [h20] at hc
          rw [hfr.1 8 c (by decide) (by omega)]
          refine ⟨?_, (hH1.1 c hc).1⟩
          rcases hb9 c hc with q | q
          · omega
          · rw [hfr.2 c q]; have := hb c hc; omega
        obtain ⟨ks, hr0, hr1⟩ := k_sk (s := s) (M := M) (T := T) (A := A') (g := g) (by omega) (by omega) hT (fun c h1 h2 => hZ c h1 (by omega)) (fun c hc => (hH1.1 c (by omega)).2) hb3
        rw [h20] at ks hr0 hr1
        generalize hrr : v_sr nd g A' (s_rg (A 2 0).toNat) 1000000 = r at ks hr0 hr1 eB
        generalize hA1 : v_sk A' nd g r (A 2 0).toNat = A1 at ks eB
        have h21 : A1 2 0 = A 2 0 := by rw [← hA1, v_sk_o (by decide)]; exact h20
        have h61 : A1 6 g = A' 6 g := by rw [← hA1, v_sk_o (by decide)]
        have hb4 : ∀ c : Nat, (c : Int) < A1 2 0 → (-500000000 ≤ A1 9 c ∧ A1 9 c ≤ 500000000) ∧ (1 ≤ A1 8 c ∧ A1 8 c ≤ 200) := fun c hc => by
          rw [h21, ← h20] at hc
          have h3 := hb3 c hc
          have hm := Int.mul_nonneg hr0 (show 0 ≤ A' 8 c by omega)
          have hm2 := Int.mul_le_mul (a := r) (b := A' 8 c) (c := 1000000) (d := 200) hr1 h3.2.2 (by omega) (by omega)
          rw [← hA1]
          refine ⟨?_, by rw [v_sk_o (by decide)]; exact h3.2⟩
          unfold v_sk
          split <;> omega
        have kw2 := k_wc (s := s) (M := M) (T := T) (A := A1) (g := g) (by omega) (by omega) hg hT (by rw [h61, h21]; omega) hb4
        rw [h21, h61] at kw2
        rw [← eB] at kw2
        repeat' (first | (exfalso; omega) | (simp (disch := first | omega | assumption | exact z_b_01) only [x51_0, x51_1, x51_4, x51_5, x51_6, x51_9, x51_10, x51_13, x51_14, x51_15, x51_18, x51_19, x51_20, x51_21, x51_24, x51_27, x51_28, x51_29, x51_30, x51_31, x51_34, x51_35, x51_38, x51_41, x51_42, x51_45, x51_46, x51_47, x51_50, x51_51, x51_54, x51_57, x51_58, x51_59, x51_60, x51_63, x51_64, x51_65, x51_68, x51_69, x51_72, x51_73, x51_74, x51_75, x51_76, x51_77, x51_78, x51_81, x51_84, x51_85, x51_86, x51_87, x51_90, x51_91, x51_92, x51_93, x51_96, x51_97, x51_98, x51_101, x51_104, x51_105, x51_106, x51_108, x51_109, x51_112, x51_114, x51_117, x51_120, x51_121, x51_124, x51_126, x51_127, x51_130, x51_131, Option.bind_some, Option.toList_some, Option.toList_none, List.cons_append, List.nil_append, Int.toNat_natCast, Int.toNat_zero, z_w_id, z_b_0, z_b_1, z_b_n0, z_b_t, z_b_f, ↓reduceIte, Int.reduceEq, Int.reduceLT, Int.reduceLE, Int.reduceToNat, not_true_eq_false, not_false_eq_true, false_and, and_false, true_and, and_true, false_or, or_false, true_or, or_true, z_ur_get, z_ut_get, hT9, k_Classes_has, hT, kw, hz, ks, kw2, hB2, hTf]) | split)
        all_goals rfl
      · have eB : v_la1 (A 2 0) nd g A = _ := if_neg hz
        rw [← eB] at kw
        repeat' (first | (exfalso; omega) | (simp (disch := first | omega | assumption | exact z_b_01) only [x51_0, x51_1, x51_4, x51_5, x51_6, x51_9, x51_10, x51_13, x51_14, x51_15, x51_18, x51_19, x51_20, x51_21, x51_24, x51_27, x51_28, x51_29, x51_30, x51_31, x51_34, x51_35, x51_38, x51_41, x51_42, x51_45, x51_46, x51_47, x51_50, x51_51, x51_54, x51_57, x51_58, x51_59, x51_60, x51_63, x51_64, x51_65, x51_68, x51_69, x51_72, x51_73, x51_74, x51_75, x51_76, x51_77, x51_78, x51_81, x51_84, x51_85, x51_86, x51_87, x51_90, x51_91, x51_92, x51_93, x51_96, x51_97, x51_98, x51_101, x51_104, x51_105, x51_106, x51_108, x51_109, x51_112, x51_114, x51_117, x51_120, x51_121, x51_124, x51_126, x51_127, x51_130, x51_131, Option.bind_some, Option.toList_some, Option.toList_none, List.cons_append, List.nil_append, Int.toNat_natCast, Int.toNat_zero, z_w_id, z_b_0, z_b_1, z_b_n0, z_b_t, z_b_f, ↓reduceIte, Int.reduceEq, Int.reduceLT, Int.reduceLE, Int.reduceToNat, not_true_eq_false, not_false_eq_true, false_and, and_false, true_and, and_true, false_or, or_false, true_or, or_true, z_ur_get, z_ut_get, hT9, k_Classes_has, hT, kw, hB2, hTf]) | split)
        all_goals rfl
