/-! nextJob -/
theorem a_nd_le {A : Nat → Nat → Int} {l : List Nat} (hz : ∀ j ∈ l, 1 ≤ A 17 j ∧ A 17 j ≤ 99) (c : Nat) : 0 ≤ a_nd A l c ∧ a_nd A l c ≤ 99 := by
  induction l with
  | nil => exact ⟨Int.le_refl 0, by show (0 : Int) ≤ 99; decide⟩
  | cons j l ih =>
    rw [a_nd_cons]
    have h1 := hz j List.mem_cons_self
    have h2 := ih (fun k hk => hz k (List.mem_cons_of_mem _ hk))
    split <;> omega
theorem a_nd_ne {A : Nat → Nat → Int} {l : List Nat} (hz : ∀ j ∈ l, 1 ≤ A 17 j ∧ A 17 j ≤ 99) (c : Nat) : a_nd A l c ≠ 0 ↔ ∃ j ∈ l, A 16 j = (c : Int) := by
  induction l with
  | nil => exact ⟨fun h => absurd rfl h, fun ⟨j, hj, _⟩ => absurd hj List.not_mem_nil⟩
  | cons j l ih =>
    rw [a_nd_cons]
    have h1 := hz j List.mem_cons_self
    have h2 := ih (fun k hk => hz k (List.mem_cons_of_mem _ hk))
    by_cases h : A 16 j = (c : Int)
    · rw [if_pos h]; exact ⟨fun _ => ⟨j, List.mem_cons_self, h⟩, fun _ => by omega⟩
    · rw [if_neg h, h2]
      constructor
      · rintro ⟨k, hk, e⟩; exact ⟨k, List.mem_cons_of_mem _ hk, e⟩
      · rintro ⟨k, hk, e⟩
        rcases List.mem_cons.mp hk with rfl | hk
        · exact absurd e h
        · exact ⟨k, hk, e⟩
theorem a_gb_ne {A : Nat → Nat → Int} {l : List Nat} (g : Nat) : a_gb A l g ≠ 0 ↔ ∃ j ∈ l, a_gr A j = (g : Int) := by
  induction l with
  | nil => exact ⟨fun h => absurd rfl h, fun ⟨j, hj, _⟩ => absurd hj List.not_mem_nil⟩
  | cons j l ih =>
    rw [a_gb_cons]
    by_cases h : a_gr A j = (g : Int)
    · rw [if_pos h]; exact ⟨fun _ => ⟨j, List.mem_cons_self, h⟩, fun _ => by decide⟩
    · rw [if_neg h, ih]
      constructor
      · rintro ⟨k, hk, e⟩; exact ⟨k, List.mem_cons_of_mem _ hk, e⟩
      · rintro ⟨k, hk, e⟩
        rcases List.mem_cons.mp hk with rfl | hk
        · exact absurd e h
        · exact ⟨k, hk, e⟩
/-- deficits and present ones, as they stand between calls -/
def i_D (A : Nat → Nat → Int) (l : List Nat) : Prop :=
  (A 0 4 = -5 ∨ (0 ≤ A 0 4 ∧ A 0 4 < A 1 0)) ∧
  (∀ g : Nat, (g : Int) < A 1 0 → (A 6 g = -5 ∨ (0 ≤ A 6 g ∧ A 6 g < A 2 0 ∧ A 7 (A 6 g).toNat = (g : Int))) ∧ (-20000 ≤ A 5 g ∧ A 5 g ≤ 298) ∧ (A 0 4 ≠ (g : Int) ∨ (∀ j ∈ l, a_gr A j ≠ (g : Int)) → A 5 g ≤ 98)) ∧
  ∀ c : Nat, (c : Int) < A 2 0 → (-20000 ≤ A 9 c ∧ A 9 c ≤ 298) ∧ (A 6 (A 7 c).toNat ≠ (c : Int) ∨ (∀ j ∈ l, A 16 j ≠ (c : Int)) → A 9 c ≤ 98)
theorem g_J_of {A : Nat → Nat → Int} {l : List Nat} (hG : i_G A) (hJ : i_J A) (hC : i_C A) (hK : i_K A) (hW : c_WL A l) (hD : i_D A l) (hl : l ≠ []) : g_J (a_nd A l) (a_gb A l) A ∧ (∀ c, a_nd A l c ≤ 99) ∧ ∃ i : Nat, (i : Int) < A 1 0 ∧ a_gb A l i ≠ 0 := by
  have hz : ∀ j ∈ l, 1 ≤ A 17 j ∧ A 17 j ≤ 99 := fun j hj => (hJ j (hW.2.2.2.1 j hj)).2.1
  obtain ⟨j0, hj0⟩ := List.exists_mem_of_ne_nil l hl
  have h0 := hJ j0 (hW.2.2.2.1 j0 hj0)
  have hc0 := hC (A 16 j0).toNat (by omega)
  refine ⟨⟨⟨by omega, hG.2.1.2, fun c _ hc => Classical.byContradiction fun q => by
      obtain ⟨j, hj, e⟩ := (a_nd_ne hz c).mp q
      have := hJ j (hW.2.2.2.1 j hj)
      omega⟩, ⟨by omega, hG.1.2⟩, fun c hc => ?_, fun g hg hgb => ?_, fun g hg => (hK g hg).1⟩, fun c => (a_nd_le hz c).2, (a_gr A j0).toNat, ?_, ?_⟩
  · have := (hD.2.2 c hc).1; omega
  · obtain ⟨j, hj, hjg⟩ := (a_gb_ne g).mp hgb
    have h1 := hJ j (hW.2.2.2.1 j hj)
    refine ⟨⟨fun c hc => ⟨(hC c hc).2.1, a_nd_le hz c⟩, (hD.2.1 g hg).1, fun c hc h7 => ⟨(hD.2.2 c hc).1, fun h => (hD.2.2 c hc).2 ?_⟩⟩, (A 16 j).toNat, by omega, hjg, ?_⟩
    · rw [h7, Int.toNat_natCast]
      rcases h with h | h
      · exact Or.inl h
      · refine Or.inr (fun k hk e => ?_)
        exact (a_nd_ne hz c).mpr ⟨k, hk, e⟩ h
    · exact (a_nd_ne hz _).mpr ⟨j, hj, by omega⟩
  · unfold a_gr; omega
  · refine (a_gb_ne _).mpr ⟨j0, hj0, ?_⟩
    unfold a_gr; omega
theorem g_D_of {A : Nat → Nat → Int} {l : List Nat} (hD : i_D A l) : ∀ i : Nat, (i : Int) < A 1 0 → (-20000 ≤ A 5 i ∧ A 5 i ≤ 298) ∧ (A 0 4 ≠ (i : Int) ∨ a_gb A l i = 0 → A 5 i ≤ 98) := fun i hi => by
  have h := hD.2.1 i hi
  refine ⟨h.2.1, fun q => h.2.2 ?_⟩
  rcases q with q | q
  · exact Or.inl q
  · exact Or.inr (fun j hj e => (a_gb_ne i).mpr ⟨j, hj, e⟩ q)
theorem s_fst_ge {l : List Nat} {p : Nat → Prop} [DecidablePred p] : (s_fst l p = -5 ∧ ∀ j ∈ l, ¬ p j) ∨ ∃ j ∈ l, p j ∧ s_fst l p = (j : Int) := by
  induction l with
  | nil => exact Or.inl ⟨rfl, fun j hj => absurd hj List.not_mem_nil⟩
  | cons j l ih =>
    rw [s_fst_cons]
    by_cases h : p j
    · rw [if_pos h]; exact Or.inr ⟨j, List.mem_cons_self, h, rfl⟩
    · rw [if_neg h]
      rcases ih with ⟨h1, h2⟩ | ⟨k, h1, h2, h3⟩
      · refine Or.inl ⟨h1, fun k hk => ?_⟩
        rcases List.mem_cons.mp hk with rfl | hk
        · exact h
        · exact h2 k hk
      · exact Or.inr ⟨k, List.mem_cons_of_mem _ h1, h2, h3⟩
theorem k_next0 {s : Fin 7} {M : z_M} {A : Nat → Nat → Int} (hW : c_WL A []) : z_ev 52 [.inr (some (0, 26)), .inr (some (s, 0))] (z_ur M s A) = some (some (.inl (-5)), z_ur M s A) := by
  have h := hW.1
  simp only [List.length_nil, Int.natCast_zero] at h
  rw [x52]
  repeat' (first | (exfalso; omega) | (simp (disch := first | omega | assumption | exact z_b_01) only [x52_0, x52_1, x52_4, x52_7, x52_10, x52_12, x52_13, x52_14, x52_17, x52_18, x52_19, x52_21, x52_24, x52_25, x52_26, x52_27, x52_28, x52_31, x52_32, x52_33, x52_36, x52_39, x52_40, x52_41, x52_44, x52_47, x52_48, x52_49, x52_52, x52_53, x52_54, x52_57, x52_58, x52_59, x52_62, x52_63, x52_64, x52_67, x52_68, x52_71, x52_74, x52_75, x52_78, x52_79, x52_82, x52_85, x52_86, x52_87, x52_90, x52_93, x52_95, Option.bind_some, Option.toList_some, Option.toList_none, List.cons_append, List.nil_append, Int.toNat_natCast, Int.toNat_zero, z_w_id, z_b_0, z_b_1, z_b_n0, z_b_t, z_b_f, ↓reduceIte, Int.reduceEq, Int.reduceLT, Int.reduceLE, Int.reduceToNat, not_true_eq_false, not_false_eq_true, false_and, and_false, true_and, and_true, false_or, or_false, true_or, or_true, z_ur_get, h]) | split)
theorem k_nextOld {s : Fin 7} {M : z_M} {A : Nat → Nat → Int} {l : List Nat} (hG : i_G A) (hJ : i_J A) (hW : c_WL A l) (hl : l ≠ []) (ho : s_fst l (fun j => a_old A j) ≠ -5) : z_ev 52 [.inr (some (0, 26)), .inr (some (s, 0))] (z_ur M s A) = some (some (.inl (s_fst l (fun j => a_old A j))), z_ur M s A) := by
  have h := hW.1
  have hlen : 0 < l.length := List.length_pos_iff.mpr hl
  have k := k_firstOld (i_G_ur (M := M) (s := s) hG) (i_J_ur hJ) (c_WL_ur hW)
  simp (disch := omega) only [a_old, z_ur_get] at k
  have ho' : ¬ s_fst l (fun j => a_old A j) = -5 := ho
  generalize s_fst l (fun j => a_old A j) = x at k ho'
  rw [x52]
  repeat' (first | (exfalso; omega) | (simp (disch := first | omega | assumption | exact z_b_01) only [x52_0, x52_1, x52_4, x52_7, x52_10, x52_12, x52_13, x52_14, x52_17, x52_18, x52_19, x52_21, x52_24, x52_25, x52_26, x52_27, x52_28, x52_31, x52_32, x52_33, x52_36, x52_39, x52_40, x52_41, x52_44, x52_47, x52_48, x52_49, x52_52, x52_53, x52_54, x52_57, x52_58, x52_59, x52_62, x52_63, x52_64, x52_67, x52_68, x52_71, x52_74, x52_75, x52_78, x52_79, x52_82, x52_85, x52_86, x52_87, x52_90, x52_93, x52_95, Option.bind_some, Option.toList_some, Option.toList_none, List.cons_append, List.nil_append, Int.toNat_natCast, Int.toNat_zero, z_w_id, z_b_0, z_b_1, z_b_n0, z_b_t, z_b_f, ↓reduceIte, Int.reduceEq, Int.reduceLT, Int.reduceLE, Int.reduceToNat, not_true_eq_false, not_false_eq_true, false_and, and_false, true_and, and_true, false_or, or_false, true_or, or_true, z_ur_get, h, k]) | split)
  all_goals rfl
set_option maxHeartbeats 4000000 in
theorem k_nextTurn {s : Fin 7} {M : z_M} {T A : Nat → Nat → Int} {l : List Nat} (hG : i_G A) (hJ : i_J A) (hC : i_C A) (hK : i_K A) (hW : c_WL A l) (hD : i_D A l) (hl : l ≠ []) (ho : s_fst l (fun j => a_old A j) = -5) :
    ∃ T' B, z_ev 52 [.inr (some (0, 26)), .inr (some (s, 0))] (z_ur (z_ut M T) s A) = some (some (.inl (s_fst l fun j => A 16 j = B 6 (B 0 4).toNat)), z_ur (z_ut M T') s B) ∧ g_T (a_nd A l) (a_gb A l) A B ∧
      (((v_pg (a_nd A l) (a_gb A l) A).1 ≠ 0 ∧ B = (v_pg (a_nd A l) (a_gb A l) A).2) ∨ ((v_pg (a_nd A l) (a_gb A l) A).1 = 0 ∧ ∃ n, r_mg (a_nd A l) (a_gb A l) n (v_pg (a_nd A l) (a_gb A l) A).2 B)) ∧
      ∃ T1 : Nat → Nat → Int, B = v_nt (a_nd A l) (a_gb A l) T1 A ∧ ∀ g : Nat, g < 3 → T1 28 g = 0 := by
  have h := hW.1
  have hlen : 0 < l.length := List.length_pos_iff.mpr hl
  obtain ⟨gJ, gnd, gb⟩ := g_J_of hG hJ hC hK hW hD hl
  have gD := g_D_of hD
  obtain ⟨T1, e1, hT1⟩ := k_noteFirst (s := s) (M := M) (T := T) hG hJ hC hW
  generalize hnd : a_nd A l = nd at *
  generalize hgb : a_gb A l = gbf at *
  obtain ⟨t1, t2, t3, t4⟩ := g_turn (T := T1) gJ gnd hD.1 gD gb
  have k := k_firstOld (i_G_ur (M := z_ut M T) (s := s) hG) (i_J_ur hJ) (c_WL_ur hW)
  simp (disch := omega) only [a_old, z_ur_get] at k ho
  rw [ho] at k
  have kp := k_pg (s := s) (M := M) (T := T1) gJ (fun c hc => by rw [← hnd]; exact hT1.1 c hc) (fun c hc => by rw [← hgb]; exact hT1.2.1 c hc)
  have hB1 := v_nt nd gbf T1 A
  have hv1 : v_nt nd gbf T1 A = if (v_pg nd gbf A).1 ≠ 0 then (v_pg nd gbf A).2 else if (v_wg nd gbf (A 1 0).toNat T1 (v_pg nd gbf A).2).1 ≠ 0 then (v_wg nd gbf (A 1 0).toNat T1 (v_pg nd gbf A).2).2.2 else _ := rfl
  -- the last reads
  have hread : ∀ T' : Nat → Nat → Int, z_ev 17 [.inr (some (s, 3)), .inl (v_nt nd gbf T1 A 6 (v_nt nd gbf T1 A 0 4).toNat)] (z_ur (z_ut M T') s (v_nt nd gbf T1 A)) = some (some (.inl (s_fst l fun j => A 16 j = v_nt nd gbf T1 A 6 (v_nt nd gbf T1 A 0 4).toNat)), z_ur (z_ut M T') s (v_nt nd gbf T1 A)) := fun T' => by
    have hWB : c_WL (v_nt nd gbf T1 A) l := c_WL_congr hW (fun j => t1.2.1 20 j (by decide) (by decide) (by decide) (by omega)) (t1.2.1 3 5 (by decide) (by decide) (by decide) (by omega)) (t1.2.1 3 0 (by decide) (by decide) (by decide) (by omega))
    have := k_firstOf (c_WL_ur (M := z_ut M T') (s := s) hWB) (v_nt nd gbf T1 A 6 (v_nt nd gbf T1 A 0 4).toNat)
    have f16 : ∀ j, v_nt nd gbf T1 A 16 j = A 16 j := fun j => t1.2.1 16 j (by decide) (by decide) (by decide) (by omega)
    simp (disch := omega) only [z_ur_get, f16] at this
    exact this
  have hB10 : v_nt nd gbf T1 A 1 0 = A 1 0 := t1.2.1 1 0 (by decide) (by decide) (by decide) (by omega)
  have hB04 := t1.2.2.1
  have hG1 := hG.1
  generalize hB : v_nt nd gbf T1 A = B at t1 t2 hv1 hread hB10 hB04
  have fin : ∀ T' : Nat → Nat → Int, z_ex 52 58 [some (.inr (some (0, 26))), some (.inr (some (s, 0))), some (.inl (-5)), none] [] (z_ur (z_ut M T') s B) = some (some (.inl (s_fst l fun j => A 16 j = B 6 (B 0 4).toNat)), z_ur (z_ut M T') s B) := fun T' => by
    have hr := hread T'
    rw [x52_58]
    repeat' (first | (exfalso; omega) | (simp (disch := first | omega | assumption | exact z_b_01) only [x52_0, x52_1, x52_4, x52_7, x52_10, x52_12, x52_13, x52_14, x52_17, x52_18, x52_19, x52_21, x52_24, x52_25, x52_26, x52_27, x52_28, x52_31, x52_32, x52_33, x52_36, x52_39, x52_40, x52_41, x52_44, x52_47, x52_48, x52_49, x52_52, x52_53, x52_54, x52_57, x52_59, x52_62, x52_63, x52_64, x52_67, x52_68, x52_71, x52_74, x52_75, x52_78, x52_79, x52_82, x52_85, x52_86, x52_87, x52_90, x52_93, x52_95, Option.bind_some, Option.toList_some, Option.toList_none, List.cons_append, List.nil_append, Int.toNat_natCast, Int.toNat_zero, z_w_id, z_b_0, z_b_1, z_b_n0, z_b_t, z_b_f, ↓reduceIte, Int.reduceEq, Int.reduceLT, Int.reduceLE, Int.reduceToNat, not_true_eq_false, not_false_eq_true, false_and, and_false, true_and, and_true, false_or, or_false, true_or, or_true, z_ur_get, k_Groups_has, hB10, hr]) | split)
    all_goals rfl
  by_cases hb1 : (v_pg nd gbf A).1 = 0
  · rw [if_neg (fun q => q hb1)] at hv1
    obtain ⟨t3J, t3f⟩ := t3
    have c1 : (v_pg nd gbf A).2 1 0 = A 1 0 := t3f 1 0 (by decide) (by decide)
    have c04 : (v_pg nd gbf A).2 0 4 = A 0 4 := t3f 0 4 (by decide) (by decide)
    have c5 : ∀ i, (v_pg nd gbf A).2 5 i = A 5 i := fun i => t3f 5 i (by decide) (by decide)
    have t4' := t4 hb1
    rw [hb1] at kp
    generalize hA1 : (v_pg nd gbf A).2 = A1 at *
    have kw := k_wg (s := s) (M := M) (T := T1) t3J (by rw [c1, c04]; have := hD.1; omega) (fun c hc => by rw [← hnd]; exact hT1.1 c hc) (fun c hc => by rw [← hgb]; exact hT1.2.1 c hc) (fun i hi => by rw [c5]; rw [c1] at hi; have := (gD i hi).1; omega)
    rw [c1] at kw
    by_cases hw1 : (v_wg nd gbf (A 1 0).toNat T1 A1).1 = 0
    · rw [if_neg (fun q => q hw1)] at hv1
      obtain ⟨⟨w1, w2, w3, w4, w5, w6⟩, w7⟩ := t4' hw1
      rw [hw1] at kw
      have w8 : ∀ c : Nat, A 1 0 ≤ (c : Int) → (v_wg nd gbf (A 1 0).toNat T1 A1).2.1 28 c = T1 28 c := fun c h => v_wg_28 h (A 1 0).toNat T1 A1 t3J c1
      generalize hTA : v_wg nd gbf (A 1 0).toNat T1 A1 = TA at *
      obtain ⟨b0, T2, A2⟩ := TA
      dsimp only at *
      rw [w7] at w4
      obtain ⟨ks, r0, r1⟩ := k_skg (s := s) (M := M) (T := T2) (A := A2) (gn := T2 28) (by omega) (by omega) (fun _ _ => rfl) (fun c h1 h2 => (w8 c (by omega)).trans (hT1.2.2 c h1)) w5 (fun i hi => ⟨by have := w6 i hi; omega, w1.2.2.2.2 i hi⟩)
      rw [w7] at ks r0 r1
      generalize hrr : v_srg (T2 28) A2 (s_rg (A 1 0).toNat) 1000000 = r at ks r0 r1 hv1
      have kw2 := k_wg (s := s) (M := M) (T := T2) (A := v_skg A2 (T2 28) r (A 1 0).toNat) (nd := nd) (gb := gbf) (g_J_skg w1) (by rw [v_skg_o (by decide), v_skg_o (by decide), w7]; omega) (fun c hc => by rw [w2, ← hnd]; exact hT1.1 c hc) (fun c hc => by rw [w3, ← hgb]; exact hT1.2.1 c hc) (fun i hi => by
        rw [v_skg_o (by decide)] at hi
        have h6 := w6 i hi
        have h4 := w1.2.2.2.2 i hi
        have hm := Int.mul_nonneg r0 (show 0 ≤ A2 4 i by omega)
        have hm2 := Int.mul_le_mul (a := r) (b := A2 4 i) (c := 1000000) (d := 200) r1 h4.2 (by omega) (by omega)
        unfold v_skg
        split <;> omega)
      rw [v_skg_o (by decide), w7, ← hv1] at kw2
      refine ⟨(v_wg nd gbf (A 1 0).toNat T2 (v_skg A2 (T2 28) r (A 1 0).toNat)).2.1, B, ?_, t1, t2, T1, hB.symm, hT1.2.2⟩
      rw [x52]
      repeat' (first | (exfalso; omega) | (simp (disch := first | omega | assumption | exact z_b_01) only [x52_0, x52_1, x52_4, x52_7, x52_10, x52_12, x52_13, x52_14, x52_17, x52_18, x52_19, x52_21, x52_24, x52_25, x52_26, x52_27, x52_28, x52_31, x52_32, x52_33, x52_36, x52_39, x52_40, x52_41, x52_44, x52_47, x52_48, x52_49, x52_52, x52_53, x52_54, x52_57, x52_59, x52_62, x52_63, x52_64, x52_67, x52_68, x52_71, x52_74, x52_75, x52_78, x52_79, x52_82, x52_85, x52_86, x52_87, x52_90, x52_93, x52_95, Option.bind_some, Option.toList_some, Option.toList_none, List.cons_append, List.nil_append, Int.toNat_natCast, Int.toNat_zero, z_w_id, z_b_0, z_b_1, z_b_n0, z_b_t, z_b_f, ↓reduceIte, Int.reduceEq, Int.reduceLT, Int.reduceLE, Int.reduceToNat, not_true_eq_false, not_false_eq_true, false_and, and_false, true_and, and_true, false_or, or_false, true_or, or_true, z_ur_get, h, k, e1, kp, kw, ks, kw2]) | split)
      exact fin _
    · rw [if_pos hw1] at hv1
      rw [← hv1] at kw
      refine ⟨(v_wg nd gbf (A 1 0).toNat T1 A1).2.1, B, ?_, t1, t2, T1, hB.symm, hT1.2.2⟩
      rw [x52]
      repeat' (first | (exfalso; omega) | (simp (disch := first | omega | assumption | exact z_b_01) only [x52_0, x52_1, x52_4, x52_7, x52_10, x52_12, x52_13, x52_14, x52_17, x52_18, x52_19, x52_21, x52_24, x52_25, x52_26, x52_27, x52_28, x52_31, x52_32, x52_33, x52_36, x52_39, x52_40, x52_41, x52_44, x52_47, x52_48, x52_49, x52_52, x52_53, x52_54, x52_57, x52_59, x52_62, x52_63, x52_64, x52_67, x52_68, x52_71, x52_74, x52_75, x52_78, x52_79, x52_82, x52_85, x52_86, x52_87, x52_90, x52_93, x52_95, Option.bind_some, Option.toList_some, Option.toList_none, List.cons_append, List.nil_append, Int.toNat_natCast, Int.toNat_zero, z_w_id, z_b_0, z_b_1, z_b_n0, z_b_t, z_b_f, ↓reduceIte, Int.reduceEq, Int.reduceLT, Int.reduceLE, Int.reduceToNat, not_true_eq_false, not_false_eq_true, false_and, and_false, true_and, and_true, false_or, or_false, true_or, or_true, z_ur_get, h, k, e1, kp, kw]) | split)
      exact fin _
  · rw [if_pos hb1] at hv1
    rw [← hv1] at kp
    refine ⟨T1, B, ?_, t1, t2, T1, hB.symm, hT1.2.2⟩
    rw [x52]
    repeat' (first | (exfalso; omega) | (simp (disch := first | omega | assumption | exact z_b_01) only [x52_0, x52_1, x52_4, x52_7, x52_10, x52_12, x52_13, x52_14, x52_17, x52_18, x52_19, x52_21, x52_24, x52_25, x52_26, x52_27, x52_28, x52_31, x52_32, x52_33, x52_36, x52_39, x52_40, x52_41, x52_44, x52_47, x52_48, x52_49, x52_52, x52_53, x52_54, x52_57, x52_59, x52_62, x52_63, x52_64, x52_67, x52_68, x52_71, x52_74, x52_75, x52_78, x52_79, x52_82, x52_85, x52_86, x52_87, x52_90, x52_93, x52_95, Option.bind_some, Option.toList_some, Option.toList_none, List.cons_append, List.nil_append, Int.toNat_natCast, Int.toNat_zero, z_w_id, z_b_0, z_b_1, z_b_n0, z_b_t, z_b_f, ↓reduceIte, Int.reduceEq, Int.reduceLT, Int.reduceLE, Int.reduceToNat, not_true_eq_false, not_false_eq_true, false_and, and_false, true_and, and_true, false_or, or_false, true_or, or_true, z_ur_get, h, k, e1, kp]) | split)
    exact fin _
