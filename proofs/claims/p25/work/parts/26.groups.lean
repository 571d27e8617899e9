/-! groups: a visit, a walk -/
def g_J (nd gb : Nat → Int) (A : Nat → Nat → Int) : Prop :=
  (0 < A 2 0 ∧ A 2 0 ≤ 8 ∧ ∀ c : Nat, c < 8 → A 2 0 ≤ (c : Int) → nd c = 0) ∧ (0 < A 1 0 ∧ A 1 0 ≤ 3) ∧ (∀ c : Nat, (c : Int) < A 2 0 → -20000 ≤ A 9 c ∧ A 9 c ≤ 300) ∧
  (∀ g : Nat, (g : Int) < A 1 0 → gb g ≠ 0 → v_H (A 2 0) nd g A ∧ ∃ j : Nat, (j : Int) < A 2 0 ∧ A 7 j = (g : Int) ∧ nd j ≠ 0) ∧
  ∀ g : Nat, (g : Int) < A 1 0 → 1 ≤ A 4 g ∧ A 4 g ≤ 200
theorem v_la_props {nd gb : Nat → Int} {A : Nat → Nat → Int} (h : g_J nd gb A) {g : Nat} (hg : (g : Int) < A 1 0) :
    v_fr g A (v_la (A 2 0) nd (gb g) g A) ∧ g_J nd gb (v_la (A 2 0) nd (gb g) g A) ∧ (gb g ≠ 0 → v_ok (A 2 0) nd g (v_la (A 2 0) nd (gb g) g A)) := by
  obtain ⟨h1, h2, h3, h4, h5⟩ := id h
  by_cases hz : gb g = 0
  · have e : v_la (A 2 0) nd (gb g) g A = A := by unfold v_la; rw [if_pos hz]
    rw [e]
    exact ⟨⟨fun _ _ _ _ => rfl, fun _ _ => rfl⟩, h, fun q => absurd hz q⟩
  · obtain ⟨hH, hb⟩ := h4 g hg hz
    by_cases hok : v_ok (A 2 0) nd g A
    · have e : v_la (A 2 0) nd (gb g) g A = A := by unfold v_la; rw [if_neg hz, if_pos hok]
      rw [e]
      exact ⟨⟨fun _ _ _ _ => rfl, fun _ _ => rfl⟩, h, fun _ => hok⟩
    · have e : v_la (A 2 0) nd (gb g) g A = v_la1 (A 2 0) nd g A := by unfold v_la; rw [if_neg hz, if_neg hok]
      obtain ⟨-, hokB, hfr, hHB, -⟩ := v_look h1.1 hH hok hb
      rw [e]
      generalize v_la1 (A 2 0) nd g A = B at hokB hfr hHB
      have b2 : B 2 0 = A 2 0 := hfr.1 2 0 (by decide) (by omega)
      have b1 : B 1 0 = A 1 0 := hfr.1 1 0 (by decide) (by omega)
      have b7 : ∀ j, B 7 j = A 7 j := fun j => hfr.1 7 j (by decide) (by omega)
      have b8 : ∀ j, B 8 j = A 8 j := fun j => hfr.1 8 j (by decide) (by omega)
      refine ⟨hfr, ⟨by rw [b2]; exact h1, by rw [b1]; exact h2, fun c hc => ?_, fun g' hg' hz' => ?_, fun g' hg' => ?_⟩, fun _ => hokB⟩
      · rw [b2] at hc
        by_cases q : A 7 c = (g : Int)
        · have := hHB.2.2 c hc (by rw [b7]; exact q)
          omega
        · rw [hfr.2 c q]; exact h3 c hc
      · rw [b2]
        rw [b1] at hg'
        obtain ⟨hH', hb'⟩ := h4 g' hg' hz'
        refine ⟨?_, by simpa only [b7] using hb'⟩
        by_cases q : g' = g
        · subst q; exact hHB
        · have b6 : B 6 g' = A 6 g' := hfr.1 6 g' (by decide) (by omega)
          refine ⟨fun c hc => by rw [b8]; exact hH'.1 c hc, ?_, fun c hc h7 => ?_⟩
          · rw [b6, b7]; exact hH'.2.1
          · rw [b7] at h7
            rw [b6, hfr.2 c (by omega)]
            exact hH'.2.2 c hc h7
      · rw [b1] at hg'
        rw [hfr.1 4 g' (by decide) (by omega)]
        exact h5 g' hg'
theorem g_J_u {nd gb : Nat → Int} {A : Nat → Nat → Int} (h : g_J nd gb A) (o j : Nat) (v : Int) (ho : o = 0 ∨ o = 5) : g_J nd gb (a_u A o j v) := by
  have e : ∀ o' i, o' ≠ 0 → o' ≠ 5 → a_u A o j v o' i = A o' i := fun o' i a b => a_u_o (by omega)
  unfold g_J v_H at *
  simp (disch := omega) only [e]
  exact h
def v_gn (nd gb : Nat → Int) (w : Int) (A : Nat → Nat → Int) : Int := v_ln (A 2 0) nd (gb w.toNat) w.toNat (a_u A 0 4 w)
def v_gv (nd gb : Nat → Int) (w : Int) (A : Nat → Nat → Int) : Nat → Nat → Int := a_u (v_la (A 2 0) nd (gb w.toNat) w.toNat (a_u A 0 4 w)) 5 w.toNat (if v_gn nd gb w A = 0 then 0 else A 5 w.toNat + A 4 w.toNat)
theorem v_gv_J {nd gb : Nat → Int} {A : Nat → Nat → Int} (h : g_J nd gb A) {w : Int} (h0 : 0 ≤ w) (hw : w < A 1 0) : g_J nd gb (v_gv nd gb w A) := by
  have h1 := g_J_u h 0 4 w (Or.inl rfl)
  have h2 := v_la_props h1 (g := w.toNat) (by rw [a_u_o (by decide)]; omega)
  rw [a_u_o (show 2 ≠ 0 by decide)] at h2
  exact g_J_u h2.2.1 5 _ _ (Or.inr rfl)
def v_wg (nd gb : Nat → Int) : Nat → (Nat → Nat → Int) → (Nat → Nat → Int) → Int × (Nat → Nat → Int) × (Nat → Nat → Int)
  | 0, T, A => (0, T, A)
  | n + 1, T, A => if v_gn nd gb (v_nx (A 1 0) (A 0 4)) A = 0 then v_wg nd gb n (a_u T 28 (v_nx (A 1 0) (A 0 4)).toNat (v_gn nd gb (v_nx (A 1 0) (A 0 4)) A)) (v_gv nd gb (v_nx (A 1 0) (A 0 4)) A)
      else if v_gn nd gb (v_nx (A 1 0) (A 0 4)) A ≤ A 5 (v_nx (A 1 0) (A 0 4)).toNat + A 4 (v_nx (A 1 0) (A 0 4)).toNat then (1, a_u T 28 (v_nx (A 1 0) (A 0 4)).toNat (v_gn nd gb (v_nx (A 1 0) (A 0 4)) A), v_gv nd gb (v_nx (A 1 0) (A 0 4)) A)
      else v_wg nd gb n (a_u T 28 (v_nx (A 1 0) (A 0 4)).toNat (v_gn nd gb (v_nx (A 1 0) (A 0 4)) A)) (v_gv nd gb (v_nx (A 1 0) (A 0 4)) A)
theorem v_wg_succ (nd gb : Nat → Int) (n : Nat) (T A : Nat → Nat → Int) : v_wg nd gb (n + 1) T A = if v_gn nd gb (v_nx (A 1 0) (A 0 4)) A = 0 then v_wg nd gb n (a_u T 28 (v_nx (A 1 0) (A 0 4)).toNat (v_gn nd gb (v_nx (A 1 0) (A 0 4)) A)) (v_gv nd gb (v_nx (A 1 0) (A 0 4)) A)
      else if v_gn nd gb (v_nx (A 1 0) (A 0 4)) A ≤ A 5 (v_nx (A 1 0) (A 0 4)).toNat + A 4 (v_nx (A 1 0) (A 0 4)).toNat then (1, a_u T 28 (v_nx (A 1 0) (A 0 4)).toNat (v_gn nd gb (v_nx (A 1 0) (A 0 4)) A), v_gv nd gb (v_nx (A 1 0) (A 0 4)) A)
      else v_wg nd gb n (a_u T 28 (v_nx (A 1 0) (A 0 4)).toNat (v_gn nd gb (v_nx (A 1 0) (A 0 4)) A)) (v_gv nd gb (v_nx (A 1 0) (A 0 4)) A) := rfl
theorem v_gv_fr {nd gb : Nat → Int} {A : Nat → Nat → Int} (h : g_J nd gb A) {w : Int} (h0 : 0 ≤ w) (hw : w < A 1 0) : (∀ o j, o ≠ 9 → ¬ (o = 6 ∧ j = w.toNat) → ¬ (o = 5 ∧ j = w.toNat) → ¬ (o = 0 ∧ j = 4) → v_gv nd gb w A o j = A o j) ∧ v_gv nd gb w A 0 4 = w := by
  have h1 := g_J_u h 0 4 w (Or.inl rfl)
  have h2 := v_la_props h1 (g := w.toNat) (by rw [a_u_o (by decide)]; omega)
  rw [a_u_o (show 2 ≠ 0 by decide)] at h2
  refine ⟨fun o j a b c d => ?_, ?_⟩
  · unfold v_gv
    rw [a_u_ne c, h2.1.1 o j a b, a_u_ne d]
  · unfold v_gv
    rw [a_u_o (by decide), h2.1.1 0 4 (by decide) (by omega), a_u_same]
theorem k_wg_loop {s : Fin 7} {M : z_M} {nd gb : Nat → Int} {G : Int} : ∀ (n i : Nat) (b : Int) (T A : Nat → Nat → Int), g_J nd gb A → (i : Int) + n = G → A 1 0 = G → -5 ≤ A 0 4 → A 0 4 < G → (∀ c : Nat, c < 8 → T 27 c = nd c) → (∀ g : Nat, g < 3 → T 29 g = gb g) → (∀ g : Nat, (g : Int) < G → -b ≤ A 5 g ∧ A 5 g ≤ b) → 0 ≤ b → b + 200 * n ≤ 1000000000 → ∀ (l4 l5 : Option z_V),
    z_ex 60 7 [some (.inr (some (0, 26))), some (.inr (some (s, 0))), some (.inr (some (s, 1))), some (.inl (i : Int)), l4, l5] [] (z_ur (z_ut M T) s A) = some (some (.inl (v_wg nd gb n T A).1), z_ur (z_ut M (v_wg nd gb n T A).2.1) s (v_wg nd gb n T A).2.2) := by
  intro n
  induction n with
  | zero =>
    intro i b T A hJ e hG hp1 hp2 hT7 hT9 hb hb0 hbn l4 l5
    rw [x60_7]
    repeat' (first | (exfalso; omega) | (simp (disch := first | omega | assumption | exact z_b_01) only [x60_0, x60_1, x60_4, x60_5, x60_6, x60_8, x60_9, x60_12, x60_15, x60_16, x60_17, x60_20, x60_21, x60_22, x60_25, x60_28, x60_29, x60_32, x60_33, x60_34, x60_37, x60_38, x60_40, x60_41, x60_43, x60_46, x60_47, x60_48, x60_50, x60_53, x60_55, x60_56, x60_59, x60_61, x60_63, x60_64, x60_66, x60_69, x60_70, x60_73, x60_75, x60_76, x60_77, x60_80, x60_81, x60_84, x60_86, x60_87, x60_88, x60_89, x60_92, x60_94, x60_95, x60_96, x60_97, x60_98, x60_101, x60_103, x60_104, x60_106, x60_109, x60_110, x60_111, x60_114, x60_117, x60_118, Option.bind_some, Option.toList_some, Option.toList_none, List.cons_append, List.nil_append, Int.toNat_natCast, Int.toNat_zero, z_w_id, z_b_0, z_b_1, z_b_n0, z_b_t, z_b_f, ↓reduceIte, Int.reduceEq, Int.reduceLT, Int.reduceLE, Int.reduceToNat, not_true_eq_false, not_false_eq_true, false_and, and_false, true_and, and_true, false_or, or_false, true_or, or_true, z_ur_get, hG]) | split)
    all_goals rfl
  | succ n ih =>
    intro i b T A hJ e hG hp1 hp2 hT7 hT9 hb hb0 hbn l4 l5
    have hG3 := hJ.2.1
    have hin := v_nx_in (C := A 1 0) (which := A 0 4) hG3.1
    have hdef := v_wg_succ nd gb n T A
    have hnx : v_nx (A 1 0) (A 0 4) = if 0 ≤ A 0 4 + 1 ∧ A 0 4 + 1 < A 1 0 then A 0 4 + 1 else 0 := rfl
    generalize hwI : v_nx (A 1 0) (A 0 4) = w at hdef hin hnx
    obtain ⟨hin0, hin1⟩ := hin
    obtain ⟨g, rfl⟩ : ∃ g : Nat, w = (g : Int) := ⟨w.toNat, by omega⟩
    simp only [Int.toNat_natCast] at hdef
    have hbw := hb g (by omega)
    have hJ1 := g_J_u hJ 0 4 (g : Int) (Or.inl rfl)
    have hla := v_la_props hJ1 (g := g) (by rw [a_u_o (by decide)]; exact hin1)
    have hJv := v_gv_J hJ hin0 hin1
    have hfv := v_gv_fr hJ hin0 hin1
    have kl := k_look (s := s) (M := M) (T := T) (A := a_u A 0 4 (g : Int)) (nd := nd) (gb := gb g) hJ1.1.1 hJ1.1.2.1 (g := g) (by omega) hT7 hJ1.1.2.2 (hT9 g (by omega)) hJ1.2.2.1 (fun hz => hJ1.2.2.2.1 g (by rw [a_u_o (by decide)]; exact hin1) hz)
    rw [a_u_o (show 2 ≠ 0 by decide)] at kl hla
    have hgn : v_ln (A 2 0) nd (gb g) g (a_u A 0 4 (g : Int)) = v_gn nd gb (g : Int) A := by unfold v_gn; rw [Int.toNat_natCast]
    rw [hgn] at kl
    have hgv : v_gv nd gb (g : Int) A = a_u (v_la (A 2 0) nd (gb g) g (a_u A 0 4 (g : Int))) 5 g (if v_gn nd gb (g : Int) A = 0 then 0 else A 5 g + A 4 g) := by unfold v_gv; rw [Int.toNat_natCast]
    generalize hA2 : v_la (A 2 0) nd (gb g) g (a_u A 0 4 (g : Int)) = A2 at kl hla hgv
    have r5 : A2 5 g = A 5 g := by rw [hla.1.1 5 g (by decide) (by omega), a_u_o (by decide)]
    have r4 : A2 4 g = A 4 g := by rw [hla.1.1 4 g (by decide) (by omega), a_u_o (by decide)]
    have h4 := hJ.2.2.2.2 g (by omega)
    have hvG : (v_gv nd gb (g : Int) A) 1 0 = G := by rw [hfv.1 1 0 (by decide) (by omega) (by omega) (by omega)]; exact hG
    have hv5 : ∀ g' : Nat, (g' : Int) < G → -(b + 200) ≤ (v_gv nd gb (g : Int) A) 5 g' ∧ (v_gv nd gb (g : Int) A) 5 g' ≤ b + 200 := fun g' hg' => by
      have := hb g' hg'
      by_cases q : g' = g
      · subst q
        rw [hgv, a_u_same]
        split <;> omega
      · rw [hfv.1 5 g' (by decide) (by omega) (by omega) (by omega)]; omega
    have ih' := fun (T' : Nat → Nat → Int) (h7 : ∀ c : Nat, c < 8 → T' 27 c = nd c) (h9 : ∀ g : Nat, g < 3 → T' 29 g = gb g) (l4 l5 : Option z_V) => ih (i + 1) (b + 200) T' (v_gv nd gb (g : Int) A) hJv (by omega) hvG (by rw [hfv.2]; omega) (by rw [hfv.2]; omega) h7 h9 hv5 (by omega) (by omega) l4 l5
    simp only [Int.natCast_add, Int.natCast_one] at ih'
    have ihT := ih' (a_u T 28 g (v_gn nd gb (g : Int) A)) (fun c hc => by rw [a_u_o (by decide)]; exact hT7 c hc) (fun c hc => by rw [a_u_o (by decide)]; exact hT9 c hc)
    rw [x60_7]
    by_cases hr : 0 ≤ A 0 4 + 1 ∧ A 0 4 + 1 < A 1 0
    · have ew : A 0 4 + 1 = (g : Int) := by rw [if_pos hr] at hnx; exact hnx.symm
      by_cases hz : v_gn nd gb (g : Int) A = 0
      · rw [if_pos hz] at hdef hgv
        rw [hdef]
        rw [hgv] at ihT ⊢
        rw [hz] at kl ihT ⊢
        repeat' (first | (exfalso; omega) | (simp (disch := first | omega | assumption | exact z_b_01) only [x60_0, x60_1, x60_4, x60_5, x60_6, x60_8, x60_9, x60_12, x60_15, x60_16, x60_17, x60_20, x60_21, x60_22, x60_25, x60_28, x60_29, x60_32, x60_33, x60_34, x60_37, x60_38, x60_40, x60_41, x60_43, x60_46, x60_47, x60_48, x60_50, x60_53, x60_55, x60_56, x60_59, x60_61, x60_63, x60_64, x60_66, x60_69, x60_70, x60_73, x60_75, x60_76, x60_77, x60_80, x60_81, x60_84, x60_86, x60_87, x60_88, x60_89, x60_92, x60_94, x60_95, x60_96, x60_97, x60_98, x60_101, x60_103, x60_104, x60_106, x60_109, x60_110, x60_111, x60_114, x60_117, x60_118, Option.bind_some, Option.toList_some, Option.toList_none, List.cons_append, List.nil_append, Int.toNat_natCast, Int.toNat_zero, z_w_id, z_b_0, z_b_1, z_b_n0, z_b_t, z_b_f, ↓reduceIte, Int.reduceEq, Int.reduceLT, Int.reduceLE, Int.reduceToNat, not_true_eq_false, not_false_eq_true, false_and, and_false, true_and, and_true, false_or, or_false, true_or, or_true, z_ur_get, z_up_ur, z_ut_get, z_up_ut, hG, k_Groups_has, ew, kl, r5, r4, a_u_same, ihT]) | split)
        all_goals rfl
      · rw [if_neg hz] at hdef hgv
        by_cases hc : v_gn nd gb (g : Int) A ≤ A 5 g + A 4 g
        · rw [if_pos hc] at hdef
          rw [hdef, hgv]
          repeat' (first | (exfalso; omega) | (simp (disch := first | omega | assumption | exact z_b_01) only [x60_0, x60_1, x60_4, x60_5, x60_6, x60_8, x60_9, x60_12, x60_15, x60_16, x60_17, x60_20, x60_21, x60_22, x60_25, x60_28, x60_29, x60_32, x60_33, x60_34, x60_37, x60_38, x60_40, x60_41, x60_43, x60_46, x60_47, x60_48, x60_50, x60_53, x60_55, x60_56, x60_59, x60_61, x60_63, x60_64, x60_66, x60_69, x60_70, x60_73, x60_75, x60_76, x60_77, x60_80, x60_81, x60_84, x60_86, x60_87, x60_88, x60_89, x60_92, x60_94, x60_95, x60_96, x60_97, x60_98, x60_101, x60_103, x60_104, x60_106, x60_109, x60_110, x60_111, x60_114, x60_117, x60_118, Option.bind_some, Option.toList_some, Option.toList_none, List.cons_append, List.nil_append, Int.toNat_natCast, Int.toNat_zero, z_w_id, z_b_0, z_b_1, z_b_n0, z_b_t, z_b_f, ↓reduceIte, Int.reduceEq, Int.reduceLT, Int.reduceLE, Int.reduceToNat, not_true_eq_false, not_false_eq_true, false_and, and_false, true_and, and_true, false_or, or_false, true_or, or_true, z_ur_get, z_up_ur, z_ut_get, z_up_ut, hG, k_Groups_has, ew, kl, r5, r4, a_u_same, hz]) | split)
          all_goals rfl
        · rw [if_neg hc] at hdef
          rw [hdef]
          rw [hgv] at ihT ⊢
          repeat' (first | (exfalso; omega) | (simp (disch := first | omega | assumption | exact z_b_01) only [x60_0, x60_1, x60_4, x60_5, x60_6, x60_8, x60_9, x60_12, x60_15, x60_16, x60_17, x60_20, x60_21, x60_22, x60_25, x60_28, x60_29, x60_32, x60_33, x60_34, x60_37, x60_38, x60_40, x60_41, x60_43, x60_46, x60_47, x60_48, x60_50, x60_53, x60_55, x60_56, x60_59, x60_61, x60_63, x60_64, x60_66, x60_69, x60_70, x60_73, x60_75, x60_76, x60_77, x60_80, x60_81, x60_84, x60_86, x60_87, x60_88, x60_89, x60_92, x60_94, x60_95, x60_96, x60_97, x60_98, x60_101, x60_103, x60_104, x60_106, x60_109, x60_110, x60_111, x60_114, x60_117, x60_118, Option.bind_some, Option.toList_some, Option.toList_none, List.cons_append, List.nil_append, Int.toNat_natCast, Int.toNat_zero, z_w_id, z_b_0, z_b_1, z_b_n0, z_b_t, z_b_f, ↓reduceIte, Int.reduceEq, Int.reduceLT, Int.reduceLE, Int.reduceToNat, not_true_eq_false, not_false_eq_true, false_and, and_false, true_and, and_true, false_or, or_false, true_or, or_true, z_ur_get, z_up_ur, z_ut_get, z_up_ut, hG, k_Groups_has, ew, kl, r5, r4, a_u_same, hz, ihT]) | split)
          all_goals rfl
    · have ew : g = 0 := by rw [if_neg hr] at hnx; omega
      subst ew
      simp only [Int.natCast_zero] at kl hdef hgv ihT hgn
      by_cases hz : v_gn nd gb 0 A = 0
      · rw [if_pos hz] at hdef hgv
        rw [hdef]
        rw [hgv] at ihT ⊢
        rw [hz] at kl ihT ⊢
        repeat' (first | (exfalso; omega) | (simp (disch := first | omega | assumption | exact z_b_01) only [x60_0, x60_1, x60_4, x60_5, x60_6, x60_8, x60_9, x60_12, x60_15, x60_16, x60_17, x60_20, x60_21, x60_22, x60_25, x60_28, x60_29, x60_32, x60_33, x60_34, x60_37, x60_38, x60_40, x60_41, x60_43, x60_46, x60_47, x60_48, x60_50, x60_53, x60_55, x60_56, x60_59, x60_61, x60_63, x60_64, x60_66, x60_69, x60_70, x60_73, x60_75, x60_76, x60_77, x60_80, x60_81, x60_84, x60_86, x60_87, x60_88, x60_89, x60_92, x60_94, x60_95, x60_96, x60_97, x60_98, x60_101, x60_103, x60_104, x60_106, x60_109, x60_110, x60_111, x60_114, x60_117, x60_118, Option.bind_some, Option.toList_some, Option.toList_none, List.cons_append, List.nil_append, Int.toNat_natCast, Int.toNat_zero, z_w_id, z_b_0, z_b_1, z_b_n0, z_b_t, z_b_f, ↓reduceIte, Int.reduceEq, Int.reduceLT, Int.reduceLE, Int.reduceToNat, not_true_eq_false, not_false_eq_true, false_and, and_false, true_and, and_true, false_or, or_false, true_or, or_true, z_ur_get, z_up_ur, z_ut_get, z_up_ut, hG, k_Groups_has, kl, r5, r4, a_u_same, ihT]) | split)
        all_goals rfl
      · rw [if_neg hz] at hdef hgv
        by_cases hc : v_gn nd gb 0 A ≤ A 5 0 + A 4 0
        · rw [if_pos hc] at hdef
          rw [hdef, hgv]
          repeat' (first | (exfalso; omega) | (simp (disch := first | omega | assumption | exact z_b_01) only [x60_0, x60_1, x60_4, x60_5, x60_6, x60_8, x60_9, x60_12, x60_15, x60_16, x60_17, x60_20, x60_21, x60_22, x60_25, x60_28, x60_29, x60_32, x60_33, x60_34, x60_37, x60_38, x60_40, x60_41, x60_43, x60_46, x60_47, x60_48, x60_50, x60_53, x60_55, x60_56, x60_59, x60_61, x60_63, x60_64, x60_66, x60_69, x60_70, x60_73, x60_75, x60_76, x60_77, x60_80, x60_81, x60_84, x60_86, x60_87, x60_88, x60_89, x60_92, x60_94, x60_95, x60_96, x60_97, x60_98, x60_101, x60_103, x60_104, x60_106, x60_109, x60_110, x60_111, x60_114, x60_117, x60_118, Option.bind_some, Option.toList_some, Option.toList_none, List.cons_append, List.nil_append, Int.toNat_natCast, Int.toNat_zero, z_w_id, z_b_0, z_b_1, z_b_n0, z_b_t, z_b_f, ↓reduceIte, Int.reduceEq, Int.reduceLT, Int.reduceLE, Int.reduceToNat, not_true_eq_false, not_false_eq_true, false_and, and_false, true_and, and_true, false_or, or_false, true_or, or_true, z_ur_get, z_up_ur, z_ut_get, z_up_ut, hG, k_Groups_has, kl, r5, r4, a_u_same, hz]) | split)
          all_goals rfl
        · rw [if_neg hc] at hdef
          rw [hdef]
          rw [hgv] at ihT ⊢
          repeat' (first | (exfalso; omega) | (simp (disch := first | omega | assumption | exact z_b_01) only [x60_0, x60_1, x60_4, x60_5, x60_6, x60_8, x60_9, x60_12, x60_15, x60_16, x60_17, x60_20, x60_21, x60_22, x60_25, x60_28, x60_29, x60_32, x60_33, x60_34, x60_37, x60_38, x60_40, x60_41, x60_43, x60_46, x60_47, x60_48, x60_50, x60_53, x60_55, x60_56, x60_59, x60_61, x60_63, x60_64, x60_66, x60_69, x60_70, x60_73, x60_75, x60_76, x60_77, x60_80, x60_81, x60_84, x60_86, x60_87, x60_88, x60_89, x60_92, x60_94, x60_95, x60_96, x60_97, x60_98, x60_101, x60_103, x60_104, x60_106, x60_109, x60_110, x60_111, x60_114, x60_117, x60_118, Option.bind_some, Option.toList_some, Option.toList_none, List.cons_append, List.nil_append, Int.toNat_natCast, Int.toNat_zero, z_w_id, z_b_0, z_b_1, z_b_n0, z_b_t, z_b_f, ↓reduceIte, Int.reduceEq, Int.reduceLT, Int.reduceLE, Int.reduceToNat, not_true_eq_false, not_false_eq_true, false_and, and_false, true_and, and_true, false_or, or_false, true_or, or_true, z_ur_get, z_up_ur, z_ut_get, z_up_ut, hG, k_Groups_has, kl, r5, r4, a_u_same, hz, ihT]) | split)
          all_goals rfl
theorem k_wg {s : Fin 7} {M : z_M} {nd gb : Nat → Int} {T A : Nat → Nat → Int} (hJ : g_J nd gb A) (hp : -5 ≤ A 0 4 ∧ A 0 4 < A 1 0) (hT7 : ∀ c : Nat, c < 8 → T 27 c = nd c) (hT9 : ∀ g : Nat, g < 3 → T 29 g = gb g) (hb : ∀ g : Nat, (g : Int) < A 1 0 → -500000000 ≤ A 5 g ∧ A 5 g ≤ 500000000) :
    z_ev 60 [.inr (some (0, 26)), .inr (some (s, 0))] (z_ur (z_ut M T) s A) = some (some (.inl (v_wg nd gb (A 1 0).toNat T A).1), z_ur (z_ut M (v_wg nd gb (A 1 0).toNat T A).2.1) s (v_wg nd gb (A 1 0).toNat T A).2.2) := by
  have h := k_wg_loop (s := s) (M := M) (A 1 0).toNat 0 500000000 T A hJ (by have := hJ.2.1; omega) rfl hp.1 hp.2 hT7 hT9 hb (by omega) (by have := hJ.2.1; omega) none none
  rw [x60]
  simp (disch := first | omega | assumption) only [x60_0, x60_1, x60_4, x60_5, x60_6, x60_8, x60_9, x60_12, x60_15, x60_16, x60_17, x60_20, x60_21, x60_22, x60_25, x60_28, x60_29, x60_32, x60_33, x60_34, x60_37, x60_38, x60_40, x60_41, x60_43, x60_46, x60_47, x60_48, x60_50, x60_53, x60_55, x60_56, x60_59, x60_61, x60_63, x60_64, x60_66, x60_69, x60_70, x60_73, x60_75, x60_76, x60_77, x60_80, x60_81, x60_84, x60_86, x60_87, x60_88, x60_89, x60_92, x60_94, x60_95, x60_96, x60_97, x60_98, x60_101, x60_103, x60_104, x60_106, x60_109, x60_110, x60_111, x60_114, x60_117, x60_118, Option.bind_some, Option.toList_some, Option.toList_none, List.cons_append, List.nil_append, Int.toNat_natCast, Int.toNat_zero, z_w_id, z_b_0, z_b_1, z_b_n0, z_b_t, z_b_f, ↓reduceIte, Int.reduceEq, Int.reduceLT, Int.reduceLE, Int.reduceToNat, not_true_eq_false, not_false_eq_true, false_and, and_false, true_and, and_true, false_or, or_false, true_or, or_true, z_ur_get]
  exact h
theorem v_wg_28 {nd gb : Nat → Int} {G : Int} {i : Nat} (hi : G ≤ (i : Int)) : ∀ (n : Nat) (T A : Nat → Nat → Int), g_J nd gb A → A 1 0 = G → (v_wg nd gb n T A).2.1 28 i = T 28 i := by
  intro n
  induction n with
  | zero => intro T A hJ hG; rfl
  | succ n ih =>
    intro T A hJ hG
    have hin := v_nx_in (C := A 1 0) (which := A 0 4) hJ.2.1.1
    rw [v_wg_succ]
    generalize v_nx (A 1 0) (A 0 4) = w at hin ⊢
    have e : ∀ v : Int, a_u T 28 w.toNat v 28 i = T 28 i := fun v => a_u_ne (fun q => by omega)
    have hJv := v_gv_J hJ hin.1 hin.2
    have hfv := (v_gv_fr hJ hin.1 hin.2).1 1 0 (by decide) (by omega) (by omega) (by omega)
    have ih' := ih (a_u T 28 w.toNat (v_gn nd gb w A)) (v_gv nd gb w A) hJv (hfv.trans hG)
    rw [e] at ih'
    split
    · exact ih'
    · split
      · exact e _
      · exact ih'
