/-! readJobs, both sides -/
theorem k_reads {M N : z_M} {n : Nat} (hn : M 0 24 0 = (n : Int)) (hn' : N 0 30 7 = (n : Int)) (h60 : n ≤ 60) (hS : ∀ i, i < n → N 0 35 i = M 0 25 i) (f : Int) : ∀ (k a : Nat) (cnt : Int) (l : List Nat) (ρ : Nat → Int) (B : Nat → Nat → Int) (w s e told : Option z_V), a ≤ n → n < k + a → 0 ≤ cnt → cnt ≤ (a : Int) → t_F (M 0 25) n k a = -5 → e_F 0 B ρ l →
    (∃ (r : Int) (B' : Nat → Nat → Int) (ρ' : Nat → Int) (a' : Int), r < 0 ∧ z_ex 78 32 [some (.inr (some (0, 21))), some (.inl f), some (.inl cnt), some (.inl (a : Int)), w, s, e] [] (z_ur M 2 B) = some (some (.inl r), z_ur M 2 B') ∧ z_ex 112 9 [some (.inr (some (0, 30))), some (.inl 1), some (.inl cnt), some (.inl 1), told] [] (t_m N ρ (a : Int)) = some (some (.inl r), t_m N ρ' a')) ∨
    (∃ (r : Int) (B' : Nat → Nat → Int) (ρ' : Nat → Int) (a' : Int) (l' : List Nat) (at' : Int) (w' s' e' : Option z_V), 0 ≤ r ∧ z_ex 78 32 [some (.inr (some (0, 21))), some (.inl f), some (.inl cnt), some (.inl (a : Int)), w, s, e] [] (z_ur M 2 B) = z_ex 78 119 [some (.inr (some (0, 21))), some (.inl f), some (.inl r), some (.inl at'), w', s', e'] [] (z_ur M 2 B') ∧ z_ex 112 9 [some (.inr (some (0, 30))), some (.inl 1), some (.inl cnt), some (.inl 1), told] [] (t_m N ρ (a : Int)) = some (some (.inl r), t_m N ρ' a') ∧ e_F 0 B' ρ' l' ∧ B' 0 3 = B 0 3) := by
  intro k
  induction k with
  | zero => intro a cnt l ρ B w s e told h1 h2; omega
  | succ k ih =>
    intro a cnt l ρ B w s e told h1 h2 h3 h4 hf hF
    unfold t_F at hf
    have hI := hF.1
    have g2 := hI.1.2.1
    have cW := hI.2.2.2.2.1
    have c3' := cW.2.2.2.2
    have e24 : z_ur M 2 B 0 24 0 = (n : Int) := by rw [z_ur_top (by decide)]; exact hn
    have e25 : ∀ i, z_ur M 2 B 0 25 i = M 0 25 i := fun i => z_ur_top (by decide)
    have c0 : a < n ∧ t_D (M 0 25 a) := by
      refine Decidable.byContradiction fun q => ?_
      rw [if_pos q] at hf; omega
    rw [if_neg (fun q => q c0)] at hf
    have c1 : a + 1 < n ∧ M 0 25 (a + 1) = 58 := by
      refine Decidable.byContradiction fun q => ?_
      rw [if_pos q] at hf; omega
    rw [if_neg (fun q => q c1)] at hf
    have c2 : a + 2 < n ∧ 49 ≤ M 0 25 (a + 2) ∧ M 0 25 (a + 2) ≤ 57 := by
      refine Decidable.byContradiction fun q => ?_
      rw [if_pos q] at hf; omega
    rw [if_neg (fun q => q c2)] at hf
    obtain ⟨c, hc⟩ : ∃ c : Nat, M 0 25 a - 48 = (c : Int) := ⟨(M 0 25 a - 48).toNat, by omega⟩
    have hd := k_digitAt (M := z_ur M 2 B) e24 h60 a
    rw [e25, if_pos c0, hc] at hd
    have hs := k_sizeAt (M := z_ur M 2 B) e24 h60 (b := a + 2) c2.1 (by rw [e25]; exact ⟨by omega, c2.2.2⟩)
    rw [e25, e25] at hs
    have hcc := hc
    obtain ⟨z, b, hzb, hr, hb, hsz, htl⟩ : ∃ (z : Int) (b : Nat), ((a : Int) + (if z < 10 then 4 else 5) = ((b + 1 : Nat) : Int)) ∧ z_ex 124 0 [some (.inr (some (0, 30))), some (.inl 1), none, none, none] [] (t_m N ρ (a : Int)) = z_ex 124 137 [some (.inr (some (0, 30))), some (.inl 1), some (.inl (c : Int)), some (.inl z), none] [] (t_m N ρ (b : Int)) ∧ (a + 3 ≤ b ∧ b ≤ n) ∧ z_ev 50 [.inr (some (0, 24)), .inl ((a : Int) + 2)] (z_ur M 2 B) = some (some (.inl z), z_ur M 2 B) ∧ (b = n ∨ (b < n ∧ M 0 25 b = 59 ∧ t_F (M 0 25) n k (b + 1) = -5)) := by
      by_cases c3 : a + 3 < n ∧ t_D (M 0 25 (a + 3))
      · rw [if_pos c3] at hf
        rw [if_pos c3] at hs
        have hr := k_rj3 hn' h60 hS (ρ := ρ) 1 c0 c1 c2 c3
        rw [hc, show (a : Int) + 1 + 1 + 1 + 1 = ((a + 4 : Nat) : Int) by omega] at hr
        refine ⟨_, a + 4, ?_, hr, by omega, ?_, ?_⟩
        · have := c3.2
          rw [if_neg (by omega)]; omega
        · rw [show (a : Int) + 2 = ((a + 2 : Nat) : Int) by omega]; exact hs
        · by_cases c4 : a + 4 = n
          · exact Or.inl c4
          · rw [if_neg c4] at hf
            by_cases c5 : M 0 25 (a + 4) = 59
            · rw [if_pos c5] at hf
              exact Or.inr ⟨by omega, c5, hf⟩
            · rw [if_neg c5] at hf; omega
      · rw [if_neg c3] at hf
        rw [if_neg c3] at hs
        have hr := k_rj4 hn' h60 hS (ρ := ρ) 1 c0 c1 c2 c3
        rw [hc, show (a : Int) + 1 + 1 + 1 = ((a + 3 : Nat) : Int) by omega] at hr
        refine ⟨_, a + 3, ?_, hr, by omega, ?_, ?_⟩
        · rw [if_pos (by omega)]; omega
        · rw [show (a : Int) + 2 = ((a + 2 : Nat) : Int) by omega]; exact hs
        · by_cases c4 : a + 3 = n
          · exact Or.inl c4
          · rw [if_neg c4] at hf
            by_cases c5 : M 0 25 (a + 3) = 59
            · rw [if_pos c5] at hf
              exact Or.inr ⟨by omega, c5, hf⟩
            · rw [if_neg c5] at hf; omega
    have km := k_mjob hF hr
    by_cases hw : a_why B c z < 0
    · exact Or.inl ⟨_, B, ρ, (b : Int), hw, k_cjob hn h60 hI.1 f w s e c0.1 hd hsz hw, k_jbad hw told (km.1 hw)⟩
    · have hwf : a_why B c z = 0 ∧ (c : Int) < B 2 0 ∧ (1 ≤ z ∧ z ≤ 99) ∧ z ≤ B 12 c ∧ B 3 0 < 200 ∧ B 3 5 < 60 := by
        unfold a_why at hw ⊢
        rw [Int.toNat_natCast] at hw ⊢
        (repeat' split at hw) <;> first | (exfalso; omega) | (refine ⟨?_, by omega, by omega, by omega, by omega, by omega⟩; (repeat' split) <;> omega)
      obtain ⟨hw0, q1, q2, q3, q4, q5⟩ := hwf
      obtain ⟨j, hj⟩ : ∃ j : Nat, B 3 0 = (j : Int) := ⟨(B 3 0).toNat, by omega⟩
      have ac := (hI.2.2.1 c q1).2.2.2
      have hm := k_admit (s := 2) (M := M) (A := B) (c := c) q1 g2.2 (by omega) (z := z) (by omega) c3'.2 q4 (by have := cW.1; omega) q5
      have hF' := e_F_come hF hj (by omega) (by have := cW.1; omega) q1 q2 q3
      have h03 : a_admit B c z 0 3 = B 0 3 := by
        unfold a_admit a_append
        simp (disch := decide) only [a_u_o]
      rw [k_cjob2 hn h60 hI.1 f w s e c0.1 (by omega) hd hsz hw0 hm, k_jnext hn' h60 hS (by omega) (by omega) (Int.le_refl 0) told (km.2 hw0 j hj), hzb]
      rcases htl with rfl | ⟨t1, t2, t3⟩
      · rw [if_neg (fun y => Nat.lt_irrefl _ y.1), if_neg (Nat.lt_irrefl _), k_cend hn f (cnt + 1) _ _ _ _ (by omega)]
        exact Or.inr ⟨cnt + 1, _, _, _, _, _, _, _, _, by omega, rfl, rfl, hF', h03⟩
      · rw [if_pos ⟨t1, t2⟩]
        rcases ih (b + 1) (cnt + 1) (l ++ [j]) (m_come ρ j c z) (a_admit B c z) (some (.inl (c : Int))) (some (.inl z)) (some (.inl 0)) (some (.inl 0)) (by omega) (by omega) (by omega) (by omega) t3 hF' with y | ⟨r, B', ρ', a', l', at', w', s', e', y1, y2, y3, y4, y5⟩
        · exact Or.inl y
        · exact Or.inr ⟨r, B', ρ', a', l', at', w', s', e', y1, y2, y3, y4, y5.trans h03⟩
theorem t_m_self (N : z_M) (b : Int) : t_m N (N 0 31) b = z_up N 0 30 8 b := by
  have e : z_up N 0 30 8 b 0 31 = N 0 31 := by
    funext j
    exact z_up_ne (by omega)
  have k := z_mr_self (z_up N 0 30 8 b)
  rw [e] at k
  exact k
theorem k_mjobs0 {N : z_M} {come : Int} : z_ev 112 [.inr (some (0, 30)), .inl come] N = z_ex 112 9 [some (.inr (some (0, 30))), some (.inl come), some (.inl 0), some (.inl 1), none] [] (t_m N (N 0 31) 0) := by
  rw [t_m_self, x112]
  repeat' (first | (exfalso; omega) | (simp (disch := first | omega | assumption | exact z_b_01) only [x112_0, x112_1, x112_2, x112_5, x112_6, x112_7, x112_8, x112_10, x112_13, x112_14, x112_15, x112_18, x112_20, x112_22, x112_25, x112_27, x112_28, x112_31, x112_32, x112_34, x112_36, x112_39, x112_40, x112_41, x112_42, x112_45, x112_46, x112_49, x112_50, x112_53, x112_54, x112_55, x112_58, x112_61, x112_62, x112_65, x112_66, x112_69, x112_72, x112_74, x112_77, x112_78, Option.bind_some, Option.toList_some, Option.toList_none, List.cons_append, List.nil_append, Int.toNat_natCast, Int.toNat_zero, z_w_id, z_b_0, z_b_1, z_b_n0, z_b_t, z_b_f, ↓reduceIte, Int.reduceEq, Int.reduceLT, Int.reduceLE, Int.reduceToNat, not_true_eq_false, not_false_eq_true, false_and, and_false, true_and, and_true, false_or, or_false, true_or, or_true]) | split)
  all_goals rfl
theorem w_R2 {M : z_M} (hR : w_R M) (B : Nat → Nat → Int) : w_R (z_ur M 2 B) := w_R_of hR (fun s o j a b => z_ur_ne a) (fun o j a _ _ _ _ => z_ur_top a)
/-- readJobs of the class, when the text has no fault, from the end of its loop on -/
theorem k_creads_end {M : z_M} (hR : w_R M) {B : Nat → Nat → Int} (f r at' : Int) (w s e : Option z_V) : ∃ Mp, z_ex 78 119 [some (.inr (some (0, 21))), some (.inl f), some (.inl r), some (.inl at'), w, s, e] [] (z_ur M 2 B) = some (some (.inl r), z_ur Mp 0 (a_copy (M 0) (Mp 2))) ∧ w_Hp Mp (M 0 31) ∧ w_pf (z_ur M 2 B) Mp := by
  obtain ⟨Mp, p1, p2, p3⟩ := k_push2 (w_R2 hR B)
  have e0 : z_ur M 2 B 0 = M 0 := by
    funext o j
    exact z_ur_ne (by decide)
  rw [e0] at p1 p2
  have k1 := k_State_copy (s := 0) (s2 := 2) (by decide) (M := Mp) (A := M 0)
  refine ⟨Mp, ?_, p2, p3⟩
  rw [x78_119]
  repeat' (first | (exfalso; omega) | (simp (disch := first | omega | assumption | exact z_b_01) only [x78_0, x78_1, x78_4, x78_7, x78_8, x78_9, x78_12, x78_14, x78_15, x78_16, x78_17, x78_18, x78_21, x78_22, x78_25, x78_28, x78_29, x78_30, x78_31, x78_33, x78_34, x78_37, x78_40, x78_43, x78_44, x78_47, x78_48, x78_51, x78_53, x78_54, x78_57, x78_58, x78_59, x78_60, x78_63, x78_65, x78_66, x78_69, x78_71, x78_73, x78_76, x78_78, x78_80, x78_83, x78_85, x78_86, x78_87, x78_90, x78_92, x78_94, x78_97, x78_98, x78_101, x78_102, x78_104, x78_106, x78_109, x78_110, x78_113, x78_114, x78_115, x78_116, x78_120, x78_123, x78_124, x78_127, x78_130, x78_131, x78_134, x78_135, x78_138, x78_141, x78_142, Option.bind_some, Option.toList_some, Option.toList_none, List.cons_append, List.nil_append, Int.toNat_natCast, Int.toNat_zero, z_w_id, z_b_0, z_b_1, z_b_n0, z_b_t, z_b_f, ↓reduceIte, Int.reduceEq, Int.reduceLT, Int.reduceLE, Int.reduceToNat, not_true_eq_false, not_false_eq_true, false_and, and_false, true_and, and_true, false_or, or_false, true_or, or_true, p1, k1]) | split)
theorem k_creads {M : z_M} (hR : w_R M) {n : Nat} (hn : M 0 24 0 = (n : Int)) (h60 : n ≤ 60) (hf : t_F (M 0 25) n 61 0 = -5) : z_ev 78 [.inr (some (0, 21))] M = z_ex 78 32 [some (.inr (some (0, 21))), some (.inl (-5)), some (.inl 0), some (.inl 0), none, none, none] [] (z_ur M 2 (a_copy (M 2) (M 0))) := by
  have k0 := k_fault hn h60
  rw [hf] at k0
  have k1 := k_State_copy (s := 2) (s2 := 0) (by decide) (M := M) (A := M 2)
  rw [z_ur_self] at k1
  rw [x78]
  repeat' (first | (exfalso; omega) | (simp (disch := first | omega | assumption | exact z_b_01) only [x78_0, x78_1, x78_4, x78_7, x78_8, x78_9, x78_12, x78_14, x78_15, x78_16, x78_17, x78_18, x78_21, x78_22, x78_25, x78_28, x78_29, x78_30, x78_31, x78_33, x78_34, x78_37, x78_40, x78_43, x78_44, x78_47, x78_48, x78_51, x78_53, x78_54, x78_57, x78_58, x78_59, x78_60, x78_63, x78_65, x78_66, x78_69, x78_71, x78_73, x78_76, x78_78, x78_80, x78_83, x78_85, x78_86, x78_87, x78_90, x78_92, x78_94, x78_97, x78_98, x78_101, x78_102, x78_104, x78_106, x78_109, x78_110, x78_113, x78_114, x78_115, x78_116, x78_120, x78_123, x78_124, x78_127, x78_130, x78_131, x78_134, x78_135, x78_138, x78_141, x78_142, Option.bind_some, Option.toList_some, Option.toList_none, List.cons_append, List.nil_append, Int.toNat_natCast, Int.toNat_zero, z_w_id, z_b_0, z_b_1, z_b_n0, z_b_t, z_b_f, ↓reduceIte, Int.reduceEq, Int.reduceLT, Int.reduceLE, Int.reduceToNat, not_true_eq_false, not_false_eq_true, false_and, and_false, true_and, and_true, false_or, or_false, true_or, or_true, k0, k1]) | split)
theorem c_readJobs : w_c 78 125 [] := by
  intro M hR
  obtain ⟨⟨⟨l, hF⟩, ht⟩, hH, hA, ⟨n, h60, hn, hn', hS0⟩⟩ := id hR
  have hS : ∀ i, i < n → M 0 35 i = M 0 25 i := fun i hi => (hS0 i hi).1
  obtain ⟨r0, a0, j1, j2, j3, j4⟩ := k_jobsF hn' h60 hS (M 0 31) 61 0 0 none (by omega) (by omega) (by omega) (by omega)
  simp only [Int.natCast_zero] at j1
  have k0 := k_fault hn h60
  rcases j2 with ⟨f1, rfl, rfl⟩ | ⟨f1, f2⟩
  · have em := k_mjobs0 (N := M) (come := 0)
    rw [j1] at em
    generalize t_F (M 0 25) n 61 0 = f at *
    refine ⟨-100 - f, M, t_m M (M 0 31) f, ?_, ?_, w_R_of hR (fun s o j a b => ?_) (fun o j a b d g h => ?_)⟩
    · rw [x78]
      repeat' (first | (exfalso; omega) | (simp (disch := first | omega | assumption | exact z_b_01) only [x78_0, x78_1, x78_4, x78_7, x78_8, x78_9, x78_12, x78_14, x78_15, x78_16, x78_17, x78_18, x78_21, x78_22, x78_25, x78_28, x78_29, x78_30, x78_31, x78_33, x78_34, x78_37, x78_40, x78_43, x78_44, x78_47, x78_48, x78_51, x78_53, x78_54, x78_57, x78_58, x78_59, x78_60, x78_63, x78_65, x78_66, x78_69, x78_71, x78_73, x78_76, x78_78, x78_80, x78_83, x78_85, x78_86, x78_87, x78_90, x78_92, x78_94, x78_97, x78_98, x78_101, x78_102, x78_104, x78_106, x78_109, x78_110, x78_113, x78_114, x78_115, x78_116, x78_120, x78_123, x78_124, x78_127, x78_130, x78_131, x78_134, x78_135, x78_138, x78_141, x78_142, Option.bind_some, Option.toList_some, Option.toList_none, List.cons_append, List.nil_append, Int.toNat_natCast, Int.toNat_zero, z_w_id, z_b_0, z_b_1, z_b_n0, z_b_t, z_b_f, ↓reduceIte, Int.reduceEq, Int.reduceLT, Int.reduceLE, Int.reduceToNat, not_true_eq_false, not_false_eq_true, false_and, and_false, true_and, and_true, false_or, or_false, true_or, or_true, k0]) | split)
    · rw [x125]
      repeat' (first | (exfalso; omega) | (simp (disch := first | omega | assumption | exact z_b_01) only [x125_0, x125_1, x125_2, x125_5, x125_8, x125_10, x125_11, x125_14, x125_15, x125_16, x125_17, x125_20, x125_21, x125_22, x125_25, x125_26, x125_27, x125_30, x125_31, x125_34, x125_35, x125_36, x125_37, x125_40, x125_41, Option.bind_some, Option.toList_some, Option.toList_none, List.cons_append, List.nil_append, Int.toNat_natCast, Int.toNat_zero, z_w_id, z_b_0, z_b_1, z_b_n0, z_b_t, z_b_f, ↓reduceIte, Int.reduceEq, Int.reduceLT, Int.reduceLE, Int.reduceToNat, not_true_eq_false, not_false_eq_true, false_and, and_false, true_and, and_true, false_or, or_false, true_or, or_true, em, t_m_at]) | split)
    · rw [t_m_self, z_up_ne (by omega)]
    · rw [t_m_self, z_up_ne g]
  · have kc := k_creads hR hn h60 f1
    have hF2 := e_F_copy (A0 := M 2) hF
    -- the class's own run, first
    obtain ⟨r1, Mc, e1⟩ : ∃ (r1 : Int) (Mc : z_M), z_ev 78 [.inr (some (0, 21))] M = some (some (.inl r1), Mc) := by
      rcases k_reads hn hn' h60 hS (-5) 61 0 0 l (M 0 31) (a_copy (M 2) (M 0)) none none none none (by omega) (by omega) (by omega) (by omega) f1 hF2 with ⟨r, B', ρ', a', y1, y2, y3⟩ | ⟨r, B', ρ', a', l', at', w', s', e', y1, y2, y3, y4, y5⟩
      · simp only [Int.natCast_zero] at y2
        exact ⟨r, _, by rw [kc, y2]⟩
      · simp only [Int.natCast_zero] at y2
        obtain ⟨Mp, q1, -, -⟩ := k_creads_end hR (B := B') (-5) r at' w' s' e'
        exact ⟨r, _, by rw [kc, y2, q1]⟩
    have hMc : Mc 0 31 = M 0 31 ∧ Mc 0 30 7 = (n : Int) ∧ ∀ i, Mc 0 35 i = M 0 35 i := by
      rcases k_reads hn hn' h60 hS (-5) 61 0 0 l (M 0 31) (a_copy (M 2) (M 0)) none none none none (by omega) (by omega) (by omega) (by omega) f1 hF2 with ⟨r, B', ρ', a', y1, y2, y3⟩ | ⟨r, B', ρ', a', l', at', w', s', e', y1, y2, y3, y4, y5⟩
      · simp only [Int.natCast_zero] at y2
        obtain ⟨-, rfl⟩ := z_same e1 (by rw [kc, y2])
        refine ⟨funext fun j => z_ur_top (by decide), ?_, fun i => z_ur_top (by decide)⟩
        rw [z_ur_top (by decide)]; exact hn'
      · simp only [Int.natCast_zero] at y2
        obtain ⟨Mp, q1, -, q3⟩ := k_creads_end hR (B := B') (-5) r at' w' s' e'
        obtain ⟨-, rfl⟩ := z_same e1 (by rw [kc, y2, q1])
        have e : ∀ o j, 30 ≤ o → z_ur Mp 0 (a_copy (M 0) (Mp 2)) 0 o j = M 0 o j := fun o j a => by
          rw [z_ur_top (by omega), q3.1 o j (by omega) (by omega) (by omega), z_ur_top (by omega)]
        refine ⟨funext fun j => e _ _ (by decide), ?_, fun i => e _ _ (by decide)⟩
        rw [e _ _ (by decide)]; exact hn'
    obtain ⟨m1, m2, m3⟩ := hMc
    obtain ⟨r2, a2, i1, i2, i3, i4⟩ := k_jobsF (N := Mc) (S := M 0 25) m2 h60 (fun i hi => by rw [m3]; exact hS i hi) (M 0 31) 61 0 0 none (by omega) (by omega) (by omega) (by omega)
    simp only [Int.natCast_zero] at i1
    have em := k_mjobs0 (N := Mc) (come := 0)
    rw [m1, i1] at em
    have hr2 : 0 ≤ r2 := by omega
    clear i2
    have kr := k_remember (t_m Mc (M 0 31) a2)
    obtain ⟨N, hN⟩ : ∃ N, N = z_st (t_m Mc (M 0 31) a2) 34 0 1500 (t_m Mc (M 0 31) a2 0 31) := ⟨_, rfl⟩
    rw [← hN] at kr
    have e31 : t_m Mc (M 0 31) a2 0 31 = M 0 31 := by unfold t_m; rw [z_mr_row]
    rw [e31] at hN
    have No : ∀ (s : Fin 7) (o j : Nat), o ≠ 34 → o ≠ 31 → ¬ (o = 30 ∧ j = 8) → N s o j = Mc s o j := fun s o j a b d => by
      rw [hN, z_st_o a, t_m_o b d]
    have N31 : N 0 31 = M 0 31 := by
      funext j
      rw [hN, z_st_o (by decide)]
      exact congrFun e31 j
    have N34 : ∀ j, j < 1500 → N 0 34 j = M 0 31 j := fun j hj => by rw [hN, z_st_in ⟨by omega, hj⟩]
    clear hN
    have em2 := k_mjobs0 (N := N) (come := 1)
    rw [N31] at em2
    have n7 : N 0 30 7 = (n : Int) := by rw [No _ _ _ (by decide) (by decide) (by omega)]; exact m2
    rcases k_reads hn n7 h60 (fun i hi => by rw [No _ _ _ (by decide) (by decide) (by omega), m3]; exact hS i hi) (-5) 61 0 0 l (M 0 31) (a_copy (M 2) (M 0)) none none none none (by omega) (by omega) (by omega) (by omega) f1 hF2 with ⟨r, B', ρ', a', y1, y2, y3⟩ | ⟨r, B', ρ', a', l', at', w', s', e', y1, y2, y3, y4, y5⟩
    · simp only [Int.natCast_zero] at y2 y3
      obtain ⟨rfl, rfl⟩ := z_same e1 (by rw [kc, y2])
      rw [y3] at em2
      have kb := k_goBack (t_m N ρ' a')
      refine ⟨r1, _, z_st (t_m N ρ' a') 31 0 1500 (t_m N ρ' a' 0 34), e1, ?_, w_R_of hR (fun s o j a b => ?_) (fun o j a b d g h => ?_)⟩
      · rw [x125]
        repeat' (first | (exfalso; omega) | (simp (disch := first | omega | assumption | exact z_b_01) only [x125_0, x125_1, x125_2, x125_5, x125_8, x125_10, x125_11, x125_14, x125_15, x125_16, x125_17, x125_20, x125_21, x125_22, x125_25, x125_26, x125_27, x125_30, x125_31, x125_34, x125_35, x125_36, x125_37, x125_40, x125_41, Option.bind_some, Option.toList_some, Option.toList_none, List.cons_append, List.nil_append, Int.toNat_natCast, Int.toNat_zero, z_w_id, z_b_0, z_b_1, z_b_n0, z_b_t, z_b_f, ↓reduceIte, Int.reduceEq, Int.reduceLT, Int.reduceLE, Int.reduceToNat, not_true_eq_false, not_false_eq_true, false_and, and_false, true_and, and_true, false_or, or_false, true_or, or_true, em, kr, em2, kb]) | split)
      · rw [z_st_o (by omega), t_m_o (by omega) (by omega), No _ _ _ (by omega) (by omega) (by omega), z_ur_ne a]
      · by_cases q : o = 31
        · subst q
          rw [z_st_in ⟨by omega, h rfl⟩, t_m_o (by decide) (by omega), N34 _ (h rfl)]
        · rw [z_st_o q, t_m_o q g, No _ _ _ d q g, z_ur_top a]
    · simp only [Int.natCast_zero] at y2 y3
      obtain ⟨Mp, q1, q2, q3⟩ := k_creads_end hR (B := B') (-5) r at' w' s' e'
      obtain ⟨rfl, rfl⟩ := z_same e1 (by rw [kc, y2, q1])
      rw [y3] at em2
      have h30 : t_m N ρ' a' 0 30 4 = M 0 30 4 := by
        rw [t_m_o (by decide) (by omega), No _ _ _ (by decide) (by decide) (by omega), z_ur_top (by decide), q3.1 30 4 (by decide) (by decide) (by omega), z_ur_top (by decide)]
      have kb := k_record (M := t_m N ρ' a') (by rw [h30]; exact w_R30 hR)
      have hR2 := w_R2 hR B'
      have e0 : z_ur M 2 B' 0 31 = M 0 31 := funext fun j => z_ur_top (by decide)
      refine ⟨r1, _, m_rec (t_m N ρ' a'), e1, ?_, w_act (M := z_ur M 2 B') (M' := Mp) (Mr := t_m N ρ' a') hR2 (by rw [e0]; exact q2) q3 (fun s o j a b d => ?_) (fun o j a b d g h => ?_) (fun j hj => ?_) (fun s o j a b d => rfl) (fun o j a b d g h => rfl) ?_⟩
      · rw [x125]
        repeat' (first | (exfalso; omega) | (simp (disch := first | omega | assumption | exact z_b_01) only [x125_0, x125_1, x125_2, x125_5, x125_8, x125_10, x125_11, x125_14, x125_15, x125_16, x125_17, x125_20, x125_21, x125_22, x125_25, x125_26, x125_27, x125_30, x125_31, x125_34, x125_35, x125_36, x125_37, x125_40, x125_41, Option.bind_some, Option.toList_some, Option.toList_none, List.cons_append, List.nil_append, Int.toNat_natCast, Int.toNat_zero, z_w_id, z_b_0, z_b_1, z_b_n0, z_b_t, z_b_f, ↓reduceIte, Int.reduceEq, Int.reduceLT, Int.reduceLE, Int.reduceToNat, not_true_eq_false, not_false_eq_true, false_and, and_false, true_and, and_true, false_or, or_false, true_or, or_true, em, kr, em2, kb]) | split)
      · rw [t_m_o (by omega) (by omega), No _ _ _ (by omega) (by omega) (by omega), z_ur_ne a]
      · rw [t_m_o h g, No _ _ _ d h g, z_ur_top a]
      · rw [t_m_o (by decide) (by omega), N34 j hj, e0]
      · have e31' : m_rec (t_m N ρ' a') 0 31 = ρ' := by
          funext j
          rw [m_rec_o (by decide) (by omega)]
          unfold t_m
          rw [z_mr_row]
        rw [e31']
        refine w_S_cell (A := B') (ρ := ρ') ⟨⟨l', y4⟩, ?_⟩ (fun o j c => ?_) (fun _ _ => rfl)
        · rw [y5, a_copy_cell _ _ _ _ (by unfold a_cell; omega)]; exact ht
        · have := a_cell_lt c
          rw [m_rec_o (by omega) (by omega), t_m_o (by omega) (by omega), No _ _ _ (by omega) (by omega) (by omega), a_copy_get c, q3.2.2 o j, z_ur_get this]
