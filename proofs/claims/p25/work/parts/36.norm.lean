/-! cells that mean nothing stay 0 -/
def z_val (o j : Nat) : Bool := match z_kds[o]? with
  | some (.inl (_, sl)) => (match sl[j]? with
    | some (.inl _) => true
    | _ => false)
  | some (.inr (_, n)) => decide (j < n)
  | none => false
def z_nz (M : z_M) : Prop := ∀ (s : Fin 7) (o j : Nat), z_val o j = false → M s o j = 0
theorem z_nz_up {M : z_M} (h : z_nz M) {s : Fin 7} {o j : Nat} (hv : z_val o j = true) (v : Int) : z_nz (z_up M s o j v) := by
  intro s' o' j' q
  unfold z_up
  rw [if_neg]
  · exact h s' o' j' q
  · rintro ⟨-, rfl, rfl⟩
    rw [hv] at q
    cases q
theorem z_nz_cp {M : z_M} (h : z_nz M) {s0 s1 : Fin 7} {o0 o1 b d n : Nat} (hv : ∀ j, d ≤ j → j < d + n → z_val o1 j = true) : z_nz (z_cp M s0 o0 s1 o1 b d n) := by
  intro s' o' j' q
  unfold z_cp
  rw [if_neg]
  · exact h s' o' j' q
  · rintro ⟨-, rfl, q1, q2⟩
    rw [hv _ q1 q2] at q
    cases q
theorem z_val_f {o ci k x : Nat} {sl : List z_S} (h : z_kds[o]? = some (.inl (ci, sl))) (hk : sl[k]? = some (.inl x)) : z_val o k = true := by
  unfold z_val
  rw [h]
  dsimp only
  rw [hk]
theorem z_val_a {o t n j : Nat} (h : z_kds[o]? = some (.inr (t, n))) (hj : j < n) : z_val o j = true := by
  unfold z_val
  rw [h]
  exact decide_eq_true hj
section ZN
variable {mi : z_I} {i : Instr} {len pc : Nat} {ls : z_L} {st : List z_V} {M : z_M} {n : z_N}
set_option maxHeartbeats 4000000 in
theorem z_nz_I (h : z_stI mi i len pc ls st M = some n) (hM : z_nz M) : z_nz n.2.2.2 := by
  cases i with
  | putfield ix =>
    unfold z_stI at h
    dsimp only at h
    split at h
    · obtain ⟨ci, k, s', o, r, sl, v, x, -, rfl, hk, hv, hsl, -, rfl⟩ := z_pf_i h
      exact z_nz_up hM (z_val_f hk hsl) v
    · cases h
  | iastore =>
    unfold z_stI at h
    dsimp only at h
    split at h
    · obtain ⟨v, j, s', o, r, N, rfl, hk, hv, h0, h1, hfit, rfl⟩ := z_as_i h
      exact z_nz_up hM (z_val_a hk (by omega)) v
    · cases h
  | castore =>
    unfold z_stI at h
    dsimp only at h
    split at h
    · obtain ⟨v, j, s', o, r, N, rfl, hk, hv, h0, h1, hfit, rfl⟩ := z_as_i h
      exact z_nz_up hM (z_val_a hk (by omega)) v
    · cases h
  | bastore =>
    unfold z_stI at h
    dsimp only at h
    split at h
    · obtain ⟨v, j, s', o, r, N, rfl, hk, hv, h0, h1, hfit, rfl⟩ := z_as_i h
      exact z_nz_up hM (z_val_a hk (by omega)) v
    · cases h
  | aastore =>
    unfold z_stI at h
    dsimp only at h
    split at h
    · obtain ⟨q, j, s', o, r, N, rfl, hk, hv, h0, h1, rfl⟩ := z_aa_i h
      exact z_nz_up hM (z_val_a hk (by omega)) _
    · cases h
  | invokestatic ix =>
    unfold z_stI at h
    dsimp only at h
    split at h
    · unfold z_jdk at h
      split at h
      · split at h
        · cases h; exact hM
        · cases h
      · split at h
        · cases h; exact hM
        · cases h
      · rename_i k d s1 o1 b s0 o0 r hm
        split at h
        · rename_i t0 n0 t1 n1 hk0 hk1
          split at h
          · split at h
            · rename_i e3
              cases h
              exact z_nz_cp hM fun j _ q => z_val_a hk1 (by omega)
            · cases h
          · cases h
        · cases h
      · cases h
    · cases h
  | goto off =>
    unfold z_stI at h
    dsimp only at h
    split at h
    · cases h; exact hM
    · cases h
  | ifnull off =>
    unfold z_stI at h
    dsimp only at h
    unfold z_nul at h
    split at h
    · split at h
      · cases h; exact hM
      · cases h
    · split at h
      · cases h; exact hM
      · cases h
    · cases h
  | tableswitch d lo hi offs =>
    unfold z_stI at h
    dsimp only at h
    unfold z_sw at h
    split at h
    · split at h
      · split at h
        · cases h; exact hM
        · cases h
      · split at h
        · split at h
          · cases h; exact hM
          · cases h
        · cases h
    · cases h
  | if_icmp k off =>
    obtain ⟨x, y, r, -, -, -, rfl⟩ := z_ic_i h
    split <;> exact hM
  | ifCond k off =>
    obtain ⟨x, r, -, -, -, rfl⟩ := z_if_i h
    split <;> exact hM
  | istore_n k => obtain ⟨x, r, -, -, -, rfl⟩ := z_sti_i h; exact hM
  | istore k => obtain ⟨x, r, -, -, -, rfl⟩ := z_sti_i h; exact hM
  | astore_n k => obtain ⟨x, r, -, -, -, rfl⟩ := z_sta_i h; exact hM
  | astore k => obtain ⟨x, r, -, -, -, rfl⟩ := z_sta_i h; exact hM
  | iinc k d => obtain ⟨x, -, -, rfl⟩ := z_inc_i h; exact hM
  | iconst k => obtain ⟨-, t, -, rfl⟩ := z_nx_i h; exact hM
  | bipush k => obtain ⟨-, t, -, rfl⟩ := z_nx_i h; exact hM
  | sipush k => obtain ⟨-, t, -, rfl⟩ := z_nx_i h; exact hM
  | ldc k => obtain ⟨-, t, -, rfl⟩ := z_nx_i h; exact hM
  | aconst_null => obtain ⟨-, t, -, rfl⟩ := z_nx_i h; exact hM
  | iload_n k => obtain ⟨-, t, -, rfl⟩ := z_nx_i h; exact hM
  | iload k => obtain ⟨-, t, -, rfl⟩ := z_nx_i h; exact hM
  | aload_n k => obtain ⟨-, t, -, rfl⟩ := z_nx_i h; exact hM
  | aload k => obtain ⟨-, t, -, rfl⟩ := z_nx_i h; exact hM
  | iadd => obtain ⟨-, t, -, rfl⟩ := z_nx_i h; exact hM
  | isub => obtain ⟨-, t, -, rfl⟩ := z_nx_i h; exact hM
  | imul => obtain ⟨-, t, -, rfl⟩ := z_nx_i h; exact hM
  | idiv => obtain ⟨-, t, -, rfl⟩ := z_nx_i h; exact hM
  | irem => obtain ⟨-, t, -, rfl⟩ := z_nx_i h; exact hM
  | iand => obtain ⟨-, t, -, rfl⟩ := z_nx_i h; exact hM
  | ishr => obtain ⟨-, t, -, rfl⟩ := z_nx_i h; exact hM
  | dup => obtain ⟨-, t, -, rfl⟩ := z_nx_i h; exact hM
  | dup2 => obtain ⟨-, t, -, rfl⟩ := z_nx_i h; exact hM
  | pop => obtain ⟨-, t, -, rfl⟩ := z_nx_i h; exact hM
  | getfield ix => obtain ⟨-, t, -, rfl⟩ := z_nx_i h; exact hM
  | iaload => obtain ⟨-, t, -, rfl⟩ := z_nx_i h; exact hM
  | caload => obtain ⟨-, t, -, rfl⟩ := z_nx_i h; exact hM
  | baload => obtain ⟨-, t, -, rfl⟩ := z_nx_i h; exact hM
  | aaload => obtain ⟨-, t, -, rfl⟩ := z_nx_i h; exact hM
  | _ => cases h
end ZN
theorem z_nz_run : ∀ (n m pc : Nat) (ls : z_L) (st : List z_V) (M : z_M) (q : Option z_V × z_M), z_run n m pc ls st M = some q → z_nz M → z_nz q.2 := by
  intro n
  induction n with
  | zero => intro m pc ls st M q h; cases h
  | succ n ih =>
    intro m pc ls st M q h hM
    unfold z_run at h
    split at h
    · cases h
    · rename_i pc' ls' st' M2 hstp
      unfold z_stp at hstp
      split at hstp
      · cases hstp
      · split at hstp
        · split at hstp
          · rename_i n' hI
            cases hstp
            exact ih _ _ _ _ _ _ h (z_nz_I hI hM)
          · split at hstp
            · cases hstp
            · rw [Option.map_eq_some_iff] at hstp
              obtain ⟨x, -, hx2⟩ := hstp
              cases hx2
        · cases hstp
    · rename_i q' hstp
      cases h
      unfold z_stp at hstp
      split at hstp
      · cases hstp
      · split at hstp
        · split at hstp
          · cases hstp
          · split at hstp
            · cases hstp; exact hM
            · rw [Option.map_eq_some_iff] at hstp
              obtain ⟨x, -, hx2⟩ := hstp
              cases hx2
        · cases hstp
    · rename_i k as rest hstp
      split at h
      · cases h
      · rename_i q1 hr
        exact ih _ _ _ _ _ _ h (ih _ _ _ _ _ _ hr hM)
theorem z_nz_ex {m pc : Nat} {ls : z_L} {st : List z_V} {M M' : z_M} {r : Option z_V} (h : z_ex m pc ls st M = some (r, M')) (hM : z_nz M) : z_nz M' := by
  obtain ⟨n, hn⟩ := z_ex_iff.mp h
  exact z_nz_run n _ _ _ _ _ _ hn hM
theorem z_nz_ev {k : Nat} {as : List z_V} {M M' : z_M} {r : Option z_V} (h : z_ev k as M = some (r, M')) (hM : z_nz M) : z_nz M' := z_nz_ex h hM
theorem z_val_cell {o j : Nat} (h : o < 21) (n : ¬ a_cell o j) : z_val o j = false := by
  unfold a_cell at n
  rcases (by omega : o = 0 ∨ o = 1 ∨ o = 2 ∨ o = 3 ∨ (4 ≤ o ∧ o ≤ 6) ∨ (7 ≤ o ∧ o ≤ 15) ∨ (16 ≤ o ∧ o ≤ 19) ∨ o = 20) with rfl | rfl | rfl | rfl | q | q | q | rfl
  · match j with
    | 0 => rfl
    | 1 => rfl
    | 2 => rfl
    | j + 3 =>
      obtain ⟨k, rfl⟩ : ∃ k, j = k + 6 := ⟨j - 6, by omega⟩
      rfl
  · match j with
    | 0 => exact absurd (by omega) n
    | 1 => rfl
    | 2 => rfl
    | 3 => rfl
    | j + 4 => rfl
  · match j with
    | 0 => exact absurd (by omega) n
    | 1 => rfl
    | 2 => rfl
    | 3 => rfl
    | 4 => rfl
    | 5 => rfl
    | 6 => rfl
    | 7 => rfl
    | 8 => rfl
    | 9 => rfl
    | j + 10 => rfl
  · match j with
    | 0 => exact absurd (by omega) n
    | 1 => rfl
    | 2 => rfl
    | 3 => rfl
    | 4 => rfl
    | 5 => exact absurd (by omega) n
    | 6 => rfl
    | j + 7 => rfl
  · have : z_val o j = decide (j < 3) := by
      rcases (by omega : o = 4 ∨ o = 5 ∨ o = 6) with rfl | rfl | rfl <;> rfl
    rw [this]; exact decide_eq_false (by omega)
  · have : z_val o j = decide (j < 8) := by
      rcases (by omega : o = 7 ∨ o = 8 ∨ o = 9 ∨ o = 10 ∨ o = 11 ∨ o = 12 ∨ o = 13 ∨ o = 14 ∨ o = 15) with rfl | rfl | rfl | rfl | rfl | rfl | rfl | rfl | rfl <;> rfl
    rw [this]; exact decide_eq_false (by omega)
  · have : z_val o j = decide (j < 200) := by
      rcases (by omega : o = 16 ∨ o = 17 ∨ o = 18 ∨ o = 19) with rfl | rfl | rfl | rfl <;> rfl
    rw [this]; exact decide_eq_false (by omega)
  · have : z_val 20 j = decide (j < 60) := rfl
    rw [this]; exact decide_eq_false (by omega)
theorem a_u_or {A B X : Nat → Nat → Int} {o j : Nat} {v : Int} (hv : v = B o j) {o' j' : Nat} (h : X o' j' = A o' j' ∨ X o' j' = B o' j') : a_u X o j v o' j' = A o' j' ∨ a_u X o j v o' j' = B o' j' := by
  unfold a_u
  split
  · rename_i e; rw [e.1, e.2]; exact Or.inr hv
  · exact h
theorem a_cp_or {A B X : Nat → Nat → Int} {o n : Nat} {o' j' : Nat} (h : X o' j' = A o' j' ∨ X o' j' = B o' j') : a_cp X (B o) o 0 0 n o' j' = A o' j' ∨ a_cp X (B o) o 0 0 n o' j' = B o' j' := by
  unfold a_cp
  split
  · rename_i e
    right
    rw [e.1]
    congr 1
    omega
  · exact h
theorem a_copy_or (A B : Nat → Nat → Int) (o j : Nat) : a_copy A B o j = A o j ∨ a_copy A B o j = B o j := by
  unfold a_copy a_cj a_cc a_cg
  exact a_u_or rfl (a_u_or rfl (a_u_or rfl (a_u_or rfl (a_u_or rfl (a_u_or rfl (a_cp_or (a_cp_or (a_cp_or (a_cp_or (a_cp_or (a_u_or rfl (a_u_or rfl (a_cp_or (a_cp_or (a_cp_or (a_cp_or (a_cp_or (a_cp_or (a_cp_or (a_cp_or (a_cp_or (a_u_or rfl (a_cp_or (a_cp_or (a_cp_or (a_u_or rfl (Or.inl rfl)))))))))))))))))))))))))))
theorem a_copy_nz {M : z_M} (h : z_nz M) (s s2 : Fin 7) (N : z_M) : z_ur N s (a_copy (M s) (M s2)) = z_ur N s (M s2) := by
  refine z_ur_congr fun o j ho => ?_
  by_cases c : a_cell o j
  · exact a_copy_cell _ _ o j c
  · have v := z_val_cell ho c
    have e1 := h s o j v
    have e2 := h s2 o j v
    rcases a_copy_or (M s) (M s2) o j with q | q
    · rw [q, e1, e2]
    · exact q
