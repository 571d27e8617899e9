/-! nextJob -/
theorem a_nd_le {A : Nat → Nat → Int} {l : List Nat} (hz : ∀ j ∈ l, 1 ≤ A 17 j ∧ A 17 j ≤ 99) (c : Nat) : 0 ≤ a_nd A l c ∧ a_nd A l c ≤ 99 := by
  induction l with
  | nil => exact ⟨Int.le_refl 0, by show (0 : Int) ≤ 99; decide⟩
  | cons j l ih =>
    rw [a_nd_cons]
    have h1 := hz j List.mem_cons_self
    have h2 := ih (fun k hk => hz k (List.mem_cons_of_mem _ hk))
    split <;> omega
theorem a_nd_ne {A : Nat → Nat → Int} {l : List Nat} (hz : ∀ j ∈ l, 1 ≤ A 17 j ∧ A 17 j ≤ 99) (c : Nat) : a_nd A l c ≠ 0 ↔ ∃ j ∈ l, A 16 j = (c : Int) := by
  induction l with
  | nil => exact ⟨fun h => absurd rfl h, fun ⟨j, hj, _⟩ => absurd hj List.not_mem_nil⟩
  | cons j l ih =>
    rw [a_nd_cons]
    have h1 := hz j List.mem_cons_self
    have h2 := ih (fun k hk => hz k (List.mem_cons_of_mem _ hk))
    by_cases h : A 16 j = (c : Int)
    · rw [if_pos h]; exact ⟨fun _ => ⟨j, List.mem_cons_self, h⟩, fun _ => by omega⟩
    · rw [if_neg h, h2]
      constructor
      · rintro ⟨k, hk, e⟩; exact ⟨k, List.mem_cons_of_mem _ hk, e⟩
      · rintro ⟨k, hk, e⟩
        rcases List.mem_cons.mp hk with rfl | hk
        · exact absurd e h
        · exact ⟨k, hk, e⟩
theorem a_gb_ne {A : Nat → Nat → Int} {l : List Nat} (g : Nat) : a_gb A l g ≠ 0 ↔ ∃ j ∈ l, a_gr A j = (g : Int) := by
  induction l with
  | nil => exact ⟨fun h => absurd rfl h, fun ⟨j, hj, _⟩ => absurd hj List.not_mem_nil⟩
  | cons j l ih =>
    rw [a_gb_cons]
    by_cases h : a_gr A j = (g : Int)
    · rw [if_pos h]; exact ⟨fun _ => ⟨j, List.mem_cons_self, h⟩, fun _ => by decide⟩
    · rw [if_neg h, ih]
      constructor
      · rintro ⟨k, hk, e⟩; exact ⟨k, List.mem_cons_of_mem _ hk, e⟩
      · rintro ⟨k, hk, e⟩
        rcases List.mem_cons.mp hk with rfl | hk
        · exact absurd e h
        · exact ⟨k, hk, e⟩
/-- deficits and present ones, as they stand between calls -/
def i_D (A : Nat → Nat → Int) (l : List Nat) : Prop :=
  (A 0 4 = -5 ∨ (0 ≤ A 0 4 ∧ A 0 4 < A 1 0)) ∧
  (∀ g : Nat, (g : Int) < A 1 0 → (A 6 g = -5 ∨ (0 ≤ A 6 g ∧ A 6 g < A 2 0 ∧ A 7 (A 6 g).toNat = (g : Int))) ∧ (-20000 ≤ A 5 g ∧ A 5 g ≤ 298) ∧ (A 0 4 ≠ (g : Int) ∨ (∀ j ∈ l, a_gr A j ≠ (g : Int)) → A 5 g ≤ 98)) ∧
  ∀ c : Nat, (c : Int) < A 2 0 → (-20000 ≤ A 9 c ∧ A 9 c ≤ 298) ∧ (A 6 (A 7 c).toNat ≠ (c : Int) ∨ (∀ j ∈ l, A 16 j ≠ (c : Int)) → A 9 c ≤ 98)
theorem g_J_of {A : Nat → Nat → Int} {l : List Nat} (hG : i_G A) (hJ : i_J A) (hC : i_C A) (hK : i_K A) (hW : c_WL A l) (hD : i_D A l) (hl : l ≠ []) : g_J (a_nd A l) (a_gb A l) A ∧ (∀ c, a_nd A l c ≤ 99) ∧ ∃ i : Nat, (i : Int) < A 1 0 ∧ a_gb A l i ≠ 0 := by
  have hz : ∀ j ∈ l, 1 ≤ A 17 j ∧ A 17 j ≤ 99 := fun j hj => (hJ j (hW.2.2.2.1 j hj)).2.1
  obtain ⟨j0, hj0⟩ := List.exists_mem_of_ne_nil l hl
  have h0 := hJ j0 (hW.2.2.2.1 j0 hj0)
  have hc0 := hC (A 16 j0).toNat (by omega)
  refine ⟨⟨⟨by omega, hG.2.1.2⟩, ⟨by omega, hG.1.2⟩, fun c hc => ?_, fun g hg hgb => ?_, fun g hg => (hK g hg).1⟩, fun c => (a_nd_le hz c).2, (a_gr A j0).toNat, ?_, ?_⟩
  · have := (hD.2.2 c hc).1; omega
  · obtain ⟨j, hj, hjg⟩ := (a_gb_ne g).mp hgb
    have h1 := hJ j (hW.2.2.2.1 j hj)
    refine ⟨⟨fun c hc => ⟨(hC c hc).2.1, a_nd_le hz c⟩, (hD.2.1 g hg).1, fun c hc h7 => ⟨(hD.2.2 c hc).1, fun h => (hD.2.2 c hc).2 ?_⟩⟩, (A 16 j).toNat, by omega, hjg, ?_⟩
    · rw [h7, Int.toNat_natCast]
      rcases h with h | h
      · exact Or.inl h
      · refine Or.inr (fun k hk e => ?_)
        exact (a_nd_ne hz c).mpr ⟨k, hk, e⟩ h
    · exact (a_nd_ne hz _).mpr ⟨j, hj, by omega⟩
  · unfold a_gr; omega
  · refine (a_gb_ne _).mpr ⟨j0, hj0, ?_⟩
    unfold a_gr; omega
theorem g_D_of {A : Nat → Nat → Int} {l : List Nat} (hD : i_D A l) : ∀ i : Nat, (i : Int) < A 1 0 → (-20000 ≤ A 5 i ∧ A 5 i ≤ 298) ∧ (A 0 4 ≠ (i : Int) ∨ a_gb A l i = 0 → A 5 i ≤ 98) := fun i hi => by
  have h := hD.2.1 i hi
  refine ⟨h.2.1, fun q => h.2.2 ?_⟩
  rcases q with q | q
  · exact Or.inl q
  · exact Or.inr (fun j hj e => (a_gb_ne i).mpr ⟨j, hj, e⟩ q)
theorem s_fst_ge {l : List Nat} {p : Nat → Prop} [DecidablePred p] : (s_fst l p = -5 ∧ ∀ j ∈ l, ¬ p j) ∨ ∃ j ∈ l, p j ∧ s_fst l p = (j : Int) := by
  induction l with
  | nil => exact Or.inl ⟨rfl, fun j hj => absurd hj List.not_mem_nil⟩
  | cons j l ih =>
    rw [s_fst_cons]
    by_cases h : p j
    · rw [if_pos h]; exact Or.inr ⟨j, List.mem_cons_self, h, rfl⟩
    · rw [if_neg h]
      rcases ih with ⟨h1, h2⟩ | ⟨k, h1, h2, h3⟩
      · refine Or.inl ⟨h1, fun k hk => ?_⟩
        rcases List.mem_cons.mp hk with rfl | hk
        · exact h
        · exact h2 k hk
      · exact Or.inr ⟨k, List.mem_cons_of_mem _ h1, h2, h3⟩
theorem k_next0 {s : Fin 7} {M : z_M} {A : Nat → Nat → Int} (hW : c_WL A []) : z_ev 52 [.inr (some (0, 26)), .inr (some (s, 0))] (z_ur M s A) = some (some (.inl (-5)), z_ur M s A) := by
  have h := hW.1
  simp only [List.length_nil, Int.natCast_zero] at h
  rw [x52]
  repeat' (first | (exfalso; omega) | (simp (disch := first | omega | assumption | exact z_b_01) only [x52_0, x52_1, x52_4, x52_7, x52_10, x52_12, x52_13, x52_14, x52_17, x52_18, x52_19, x52_21, x52_24, x52_25, x52_26, x52_27, x52_28, x52_31, x52_32, x52_33, x52_36, x52_39, x52_40, x52_41, x52_44, x52_47, x52_48, x52_49, x52_52, x52_53, x52_54, x52_57, x52_58, x52_59, x52_62, x52_63, x52_64, x52_67, x52_68, x52_71, x52_74, x52_75, x52_78, x52_79, x52_82, x52_85, x52_86, x52_87, x52_90, x52_93, x52_95, Option.bind_some, Option.toList_some, Option.toList_none, List.cons_append, List.nil_append, Int.toNat_natCast, Int.toNat_zero, z_w_id, z_b_0, z_b_1, z_b_n0, z_b_t, z_b_f, ↓reduceIte, Int.reduceEq, Int.reduceLT, Int.reduceLE, Int.reduceToNat, not_true_eq_false, not_false_eq_true, false_and, and_false, true_and, and_true, false_or, or_false, true_or, or_true, z_ur_get, h]) | split)
theorem k_nextOld {s : Fin 7} {M : z_M} {A : Nat → Nat → Int} {l : List Nat} (hG : i_G A) (hJ : i_J A) (hW : c_WL A l) (hl : l ≠ []) (ho : s_fst l (fun j => a_old A j) ≠ -5) : z_ev 52 [.inr (some (0, 26)), .inr (some (s, 0))] (z_ur M s A) = some (some (.inl (s_fst l (fun j => a_old A j))), z_ur M s A) := by
  have h := hW.1
  have hlen : 0 < l.length := List.length_pos_iff.mpr hl
  have k := k_firstOld (i_G_ur (M := M) (s := s) hG) (i_J_ur hJ) (c_WL_ur hW)
  simp (disch := omega) only [a_old, z_ur_get] at k
  have ho' : ¬ s_fst l (fun j => a_old A j) = -5 := ho
  generalize s_fst l (fun j => a_old A j) = x at k ho'
  rw [x52]
  repeat' (first | (exfalso; omega) | (simp (disch := first | omega | assumption | exact z_b_01) only [x52_0, x52_1, x52_4, x52_7, x52_10, x52_12, x52_13, x52_14, x52_17, x52_18, x52_19, x52_21, x52_24, x52_25, x52_26, x52_27, x52_28, x52_31, x52_32, x52_33, x52_36, x52_39, x52_40, x52_41, x52_44, x52_47, x52_48, x52_49, x52_52, x52_53, x52_54, x52_57, x52_58, x52_59, x52_62, x52_63, x52_64, x52_67, x52_68, x52_71, x52_74, x52_75, x52_78, x52_79, x52_82, x52_85, x52_86, x52_87, x52_90, x52_93, x52_95, Option.bind_some, Option.toList_some, Option.toList_none, List.cons_append, List.nil_append, Int.toNat_natCast, Int.toNat_zero, z_w_id, z_b_0, z_b_1, z_b_n0, z_b_t, z_b_f, ↓reduceIte, Int.reduceEq, Int.reduceLT, Int.reduceLE, Int.reduceToNat, not_true_eq_false, not_false_eq_true, false_and, and_false, true_and, and_true, false_or, or_false, true_or, or_true, z_ur_get, h, k]) | split)
  all_goals rfl
