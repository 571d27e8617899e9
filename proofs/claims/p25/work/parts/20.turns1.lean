/-! Turns: its own rows, and the first jobs noted in them -/
def z_ut (M : z_M) (T : Nat → Nat → Int) : z_M := fun s' o j => if s' = 0 ∧ 27 ≤ o ∧ o < 30 then T o j else M s' o j
theorem z_ut_self (M : z_M) : z_ut M (M 0) = M := by
  funext s' o j
  unfold z_ut
  split
  · rename_i h; rw [h.1]
  · rfl
theorem z_ut_ut (M : z_M) (T T' : Nat → Nat → Int) : z_ut (z_ut M T) T' = z_ut M T' := by
  funext s' o j
  unfold z_ut
  split <;> rfl
theorem z_ut_get {M : z_M} {T : Nat → Nat → Int} {s : Fin 7} {A : Nat → Nat → Int} {o j : Nat} (h : 27 ≤ o) (h2 : o < 30) : z_ur (z_ut M T) s A 0 o j = T o j := by
  rw [z_ur_top (by omega)]; unfold z_ut; rw [if_pos ⟨rfl, h, h2⟩]
theorem z_ut_lo {M : z_M} {T : Nat → Nat → Int} {s : Fin 7} {o j : Nat} (h : o < 27) : z_ut M T s o j = M s o j := by unfold z_ut; rw [if_neg (fun q => by omega)]
theorem z_ut_hi {M : z_M} {T : Nat → Nat → Int} {s : Fin 7} {o j : Nat} (h : 30 ≤ o) : z_ut M T s o j = M s o j := by unfold z_ut; rw [if_neg (fun q => by omega)]
theorem z_up_ut {M : z_M} {T : Nat → Nat → Int} {s : Fin 7} {A : Nat → Nat → Int} {o j : Nat} {v : Int} (h : 27 ≤ o) (h2 : o < 30) : z_up (z_ur (z_ut M T) s A) 0 o j v = z_ur (z_ut M (a_u T o j v)) s A := by
  funext s' o' j'
  unfold z_up
  by_cases e : s' = 0 ∧ o' = o ∧ j' = j
  · rw [if_pos e, e.1, e.2.1, e.2.2, z_ut_get h h2, a_u_same]
  · rw [if_neg e]
    unfold z_ur
    split
    · rfl
    · unfold z_ut
      by_cases e2 : s' = 0 ∧ 27 ≤ o' ∧ o' < 30
      · rw [if_pos e2, if_pos e2]
        unfold a_u
        rw [if_neg (fun q => e ⟨e2.1, q⟩)]
      · rw [if_neg e2, if_neg e2]
/-- the size of the first job of a class; 0 if none waits -/
def a_nd (A : Nat → Nat → Int) (l : List Nat) (c : Nat) : Int := match l with
  | [] => 0
  | j :: l => if A 16 j = (c : Int) then A 17 j else a_nd A l c
def a_gb (A : Nat → Nat → Int) (l : List Nat) (g : Nat) : Int := match l with
  | [] => 0
  | j :: l => if a_gr A j = (g : Int) then 1 else a_gb A l g
theorem a_nd_cons (A : Nat → Nat → Int) (j : Nat) (l : List Nat) (c : Nat) : a_nd A (j :: l) c = if A 16 j = (c : Int) then A 17 j else a_nd A l c := rfl
theorem a_gb_cons (A : Nat → Nat → Int) (j : Nat) (l : List Nat) (g : Nat) : a_gb A (j :: l) g = if a_gr A j = (g : Int) then 1 else a_gb A l g := rfl
def t_ok (T A : Nat → Nat → Int) (l : List Nat) : Prop := (∀ c : Nat, c < 8 → T 27 c = a_nd A l c) ∧ (∀ g : Nat, g < 3 → T 29 g = a_gb A l g) ∧ ∀ g : Nat, g < 3 → T 28 g = 0
theorem k_noteJob {s : Fin 7} {M : z_M} {T A : Nat → Nat → Int} {l r : List Nat} (hG : i_G A) (hJ : i_J A) (hC : i_C A) (hW : c_WL A l) {j : Nat} (hj : j ∈ l) (hT : t_ok T A r) :
    ∃ T', z_ev 54 [.inr (some (0, 26)), .inr (some (s, 0)), .inl (j : Int)] (z_ur (z_ut M T) s A) = some (none, z_ur (z_ut M T') s A) ∧ t_ok T' A (j :: r) := by
  have hjJ := hW.2.2.2.1 j hj
  have h200 := hW.2.2.2.2.1
  have h3 := hJ j hjJ
  obtain ⟨c, hc⟩ : ∃ c : Nat, A 16 j = (c : Int) := ⟨(A 16 j).toNat, by omega⟩
  have h4 := hC c (by omega)
  obtain ⟨g, hg⟩ : ∃ g : Nat, A 7 c = (g : Int) := ⟨(A 7 c).toNat, by omega⟩
  have hgr : a_gr A j = (g : Int) := by unfold a_gr; rw [hc, Int.toNat_natCast, hg]
  have h6 := hG.1
  have h7 := hG.2
  have k6 := k_groupFor (i_G_ur (M := z_ut M T) (s := s) hG) (i_J_ur (M := z_ut M T) (s := s) hJ) (j := j) (by rw [z_ur_get (by decide)]; omega) (by rw [z_ur_get (by decide)]; omega)
  simp (disch := omega) only [a_gr, z_ur_get, hc, hg, Int.toNat_natCast] at k6
  refine ⟨a_u (a_u T 27 c (A 17 j)) 29 g 1, ?_, fun c' hc' => ?_, fun g' hg' => ?_, fun g' hg' => by rw [a_u_o (by decide), a_u_o (by decide)]; exact hT.2.2 g' hg'⟩
  · rw [x54]
    repeat' (first | (exfalso; omega) | (simp (disch := first | omega | assumption | exact z_b_01) only [x54_0, x54_1, x54_4, x54_5, x54_8, x54_11, x54_12, x54_13, x54_16, x54_19, x54_20, x54_21, x54_22, x54_23, x54_24, x54_27, x54_29, x54_30, x54_33, x54_34, x54_37, x54_40, x54_41, x54_44, x54_46, x54_49, x54_52, x54_53, x54_56, x54_57, x54_58, x54_61, x54_64, x54_65, x54_66, x54_67, x54_68, x54_71, x54_73, x54_74, x54_75, Option.bind_some, Option.toList_some, Option.toList_none, List.cons_append, List.nil_append, Int.toNat_natCast, Int.toNat_zero, z_w_id, z_b_0, z_b_1, z_b_n0, z_b_t, z_b_f, ↓reduceIte, Int.reduceEq, Int.reduceLT, Int.reduceLE, Int.reduceToNat, not_true_eq_false, not_false_eq_true, false_and, and_false, true_and, and_true, false_or, or_false, true_or, or_true, z_ur_get, z_up_ut, k_Jobs_has, k_Classes_has, k_Groups_has, k6, hc]) | split)
  · rw [a_u_o (by decide), a_u_at, a_nd_cons, hc, hT.1 c' hc']
    by_cases e : c' = c
    · rw [if_pos e, if_pos (by omega)]
    · rw [if_neg e, if_neg (by omega)]
  · rw [a_u_at, a_u_o (by decide), a_gb_cons, hgr, hT.2.1 g' hg']
    by_cases e : g' = g
    · rw [if_pos e, if_pos (by omega)]
    · rw [if_neg e, if_neg (by omega)]
theorem k_note_loop3 {s : Fin 7} {M : z_M} {A : Nat → Nat → Int} {l : List Nat} (hG : i_G A) (hJ : i_J A) (hC : i_C A) (hW : c_WL A l) : ∀ (n : Nat) (T : Nat → Nat → Int), n ≤ l.length → t_ok T A (l.drop n) →
    ∃ T', z_ex 53 58 [some (.inr (some (0, 26))), some (.inr (some (s, 0))), some (.inl ((n : Int) - 1))] [] (z_ur (z_ut M T) s A) = some (none, z_ur (z_ut M T') s A) ∧ t_ok T' A l := by
  intro n
  induction n with
  | zero =>
    intro T hn hT
    refine ⟨T, ?_, by simpa using hT⟩
    rw [x53_58]
    repeat' (first | (exfalso; omega) | (simp (disch := first | omega | assumption | exact z_b_01) only [x53_0, x53_1, x53_2, x53_3, x53_4, x53_7, x53_8, x53_11, x53_12, x53_13, x53_14, x53_15, x53_18, x53_19, x53_20, x53_21, x53_24, x53_27, x53_28, x53_29, x53_30, x53_32, x53_35, x53_36, x53_39, x53_40, x53_41, x53_42, x53_45, x53_48, x53_49, x53_52, x53_55, x53_56, x53_57, x53_59, x53_62, x53_63, x53_64, x53_65, x53_68, x53_69, x53_72, x53_75, x53_78, x53_81, Option.bind_some, Option.toList_some, Option.toList_none, List.cons_append, List.nil_append, Int.toNat_natCast, Int.toNat_zero, z_w_id, z_b_0, z_b_1, z_b_n0, z_b_t, z_b_f, ↓reduceIte, Int.reduceEq, Int.reduceLT, Int.reduceLE, Int.reduceToNat, not_true_eq_false, not_false_eq_true, false_and, and_false, true_and, and_true, false_or, or_false, true_or, or_true]) | split)
  | succ n ih =>
    intro T hn hT
    have hp : l[n]? = some l[n] := List.getElem?_eq_getElem (by omega)
    have hm : l[n] ∈ l := List.getElem_mem _
    obtain ⟨T1, e1, hT1⟩ := k_noteJob (s := s) (M := M) hG hJ hC hW hm hT
    rw [List.getElem_cons_drop] at hT1
    obtain ⟨T2, e2, hT2⟩ := ih T1 (by omega) hT1
    have hw := k_waitingAt (c_WL_ur (M := z_ut M T) (s := s) hW) hp
    refine ⟨T2, ?_, hT2⟩
    have h60 := hW.2.1
    rw [x53_58]
    simp only [Int.natCast_add, Int.natCast_one]
    rw [show (n : Int) + 1 - 1 = (n : Int) by omega]
    repeat' (first | (exfalso; omega) | (simp (disch := first | omega | assumption | exact z_b_01) only [x53_0, x53_1, x53_2, x53_3, x53_4, x53_7, x53_8, x53_11, x53_12, x53_13, x53_14, x53_15, x53_18, x53_19, x53_20, x53_21, x53_24, x53_27, x53_28, x53_29, x53_30, x53_32, x53_35, x53_36, x53_39, x53_40, x53_41, x53_42, x53_45, x53_48, x53_49, x53_52, x53_55, x53_56, x53_57, x53_59, x53_62, x53_63, x53_64, x53_65, x53_68, x53_69, x53_72, x53_75, x53_78, x53_81, Option.bind_some, Option.toList_some, Option.toList_none, List.cons_append, List.nil_append, Int.toNat_natCast, Int.toNat_zero, z_w_id, z_b_0, z_b_1, z_b_n0, z_b_t, z_b_f, ↓reduceIte, Int.reduceEq, Int.reduceLT, Int.reduceLE, Int.reduceToNat, not_true_eq_false, not_false_eq_true, false_and, and_false, true_and, and_true, false_or, or_false, true_or, or_true, hw, e1]) | split)
    all_goals exact e2
theorem k_noteFirst {s : Fin 7} {M : z_M} {T A : Nat → Nat → Int} {l : List Nat} (hG : i_G A) (hJ : i_J A) (hC : i_C A) (hW : c_WL A l) :
    ∃ T', z_ev 53 [.inr (some (0, 26)), .inr (some (s, 0))] (z_ur (z_ut M T) s A) = some (none, z_ur (z_ut M T') s A) ∧ t_ok T' A l := by
  have h1 := hW.1
  have h60 := hW.2.1
  obtain ⟨T', e, hT'⟩ := k_note_loop3 (s := s) (M := M) hG hJ hC hW l.length (a_u (a_u (a_u (a_u (a_u (a_u (a_u (a_u (a_u (a_u (a_u (a_u (a_u (a_u T 29 0 0) 28 0 0) 29 1 0) 28 1 0) 29 2 0) 28 2 0) 27 0 0) 27 1 0) 27 2 0) 27 3 0) 27 4 0) 27 5 0) 27 6 0) 27 7 0) (Nat.le_refl _) ⟨fun c hc => by
      rw [List.drop_length]
      rcases (by omega : c = 0 ∨ c = 1 ∨ c = 2 ∨ c = 3 ∨ c = 4 ∨ c = 5 ∨ c = 6 ∨ c = 7) with rfl | rfl | rfl | rfl | rfl | rfl | rfl | rfl <;> rfl, fun g hg => by
      rw [List.drop_length]
      rcases (by omega : g = 0 ∨ g = 1 ∨ g = 2) with rfl | rfl | rfl <;> rfl, fun g hg => by
      rcases (by omega : g = 0 ∨ g = 1 ∨ g = 2) with rfl | rfl | rfl <;> rfl⟩
  refine ⟨T', ?_, hT'⟩
  rw [x53]
  repeat' (first | (exfalso; omega) | (simp (disch := first | omega | assumption | exact z_b_01) only [x53_0, x53_1, x53_2, x53_3, x53_4, x53_7, x53_8, x53_11, x53_12, x53_13, x53_14, x53_15, x53_18, x53_19, x53_20, x53_21, x53_24, x53_27, x53_28, x53_29, x53_30, x53_32, x53_35, x53_36, x53_39, x53_40, x53_41, x53_42, x53_45, x53_48, x53_49, x53_52, x53_55, x53_56, x53_57, x53_59, x53_62, x53_63, x53_64, x53_65, x53_68, x53_69, x53_72, x53_75, x53_78, x53_81, Option.bind_some, Option.toList_some, Option.toList_none, List.cons_append, List.nil_append, Int.toNat_natCast, Int.toNat_zero, z_w_id, z_b_0, z_b_1, z_b_n0, z_b_t, z_b_f, ↓reduceIte, Int.reduceEq, Int.reduceLT, Int.reduceLE, Int.reduceToNat, not_true_eq_false, not_false_eq_true, false_and, and_false, true_and, and_true, false_or, or_false, true_or, or_true, z_ur_get, z_up_ut, h1, Int.reduceAdd]) | split)
  all_goals exact e
