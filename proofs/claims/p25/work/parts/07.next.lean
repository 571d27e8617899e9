/-! a step that is no call and no return -/
theorem z_nx_i {a b pc : Nat} {ls : z_L} {M : z_M} {o : Option (List z_V)} {n : z_N} (h : z_nx a b pc ls M o = some n) : a = b ∧ ∃ t, o = some t ∧ n = (pc, ls, t, M) := by
  unfold z_nx at h
  split at h
  · rename_i e
    cases o with
    | none => cases h
    | some t => cases h; exact ⟨e, t, rfl, rfl⟩
  · cases h
theorem z_bin_i {f : Int → Int → Int} {st t : List z_V} (h : z_bin f st = some t) : ∃ x y r, st = .inl y :: .inl x :: r ∧ t = .inl (f x y) :: r := by
  unfold z_bin at h
  split at h
  · cases h; exact ⟨_, _, _, rfl, rfl⟩
  · cases h
theorem z_div_i {f : Int → Int → Int} {st t : List z_V} (h : z_div f st = some t) : ∃ x y r, st = .inl y :: .inl x :: r ∧ y ≠ 0 ∧ t = .inl (f x y) :: r := by
  unfold z_div at h
  split at h
  · split at h
    · cases h
    · rename_i e; cases h; exact ⟨_, _, _, rfl, e, rfl⟩
  · cases h
theorem z_ldi_i {ls : z_L} {i : Nat} {st t : List z_V} (h : z_ldi ls i st = some t) : ∃ x, ls[i]? = some (some (.inl x)) ∧ t = .inl x :: st := by
  unfold z_ldi at h
  split at h
  · rename_i e; cases h; exact ⟨_, e, rfl⟩
  · cases h
theorem z_lda_i {ls : z_L} {i : Nat} {st t : List z_V} (h : z_lda ls i st = some t) : ∃ x, ls[i]? = some (some (.inr x)) ∧ t = .inr x :: st := by
  unfold z_lda at h
  split at h
  · rename_i e; cases h; exact ⟨_, e, rfl⟩
  · cases h
theorem z_sti_i {a b pc i : Nat} {ls : z_L} {M : z_M} {st : List z_V} {n : z_N} (h : z_sti a b pc ls M i st = some n) : ∃ x r, st = .inl x :: r ∧ a = b ∧ i < ls.length ∧ n = (pc, ls.set i (some (.inl x)), r, M) := by
  unfold z_sti at h
  split at h
  · split at h
    · rename_i e; cases h; exact ⟨_, _, rfl, e.1, e.2, rfl⟩
    · cases h
  · cases h
theorem z_sta_i {a b pc i : Nat} {ls : z_L} {M : z_M} {st : List z_V} {n : z_N} (h : z_sta' a b pc ls M i st = some n) : ∃ x r, st = .inr x :: r ∧ a = b ∧ i < ls.length ∧ n = (pc, ls.set i (some (.inr x)), r, M) := by
  unfold z_sta' at h
  split at h
  · split at h
    · rename_i e; cases h; exact ⟨_, _, rfl, e.1, e.2, rfl⟩
    · cases h
  · cases h
theorem z_inc_i {a b pc i : Nat} {ls : z_L} {M : z_M} {c : Int} {st : List z_V} {n : z_N} (h : z_inc a b pc ls M i c st = some n) : ∃ x, ls[i]? = some (some (.inl x)) ∧ a = b ∧ n = (pc, ls.set i (some (.inl (z_w (x + c)))), st, M) := by
  unfold z_inc at h
  split at h
  · rename_i e
    split at h
    · rename_i e2; cases h; exact ⟨_, e, e2, rfl⟩
    · cases h
  · cases h
theorem z_ic_i {c : Jvm.ClassFile.Cond} {a b pc : Nat} {off : Int} {ls : z_L} {M : z_M} {st : List z_V} {n : z_N} (h : z_ic c a b pc off ls M st = some n) : ∃ x y r, st = .inl y :: .inl x :: r ∧ a = b ∧ 0 ≤ (pc : Int) + off ∧ n = (if z_cc c x y = true then (((pc : Int) + off).toNat, ls, r, M) else (pc + 3, ls, r, M)) := by
  unfold z_ic at h
  split at h
  · split at h
    · rename_i e
      refine ⟨_, _, _, rfl, e.1, e.2, ?_⟩
      split at h <;> (rename_i e3; cases h; first | rw [if_pos e3] | rw [if_neg e3])
    · cases h
  · cases h
theorem z_if_i {c : Jvm.ClassFile.Cond} {a b pc : Nat} {off : Int} {ls : z_L} {M : z_M} {st : List z_V} {n : z_N} (h : z_if c a b pc off ls M st = some n) : ∃ x r, st = .inl x :: r ∧ a = b ∧ 0 ≤ (pc : Int) + off ∧ n = (if z_cc c x 0 = true then (((pc : Int) + off).toNat, ls, r, M) else (pc + 3, ls, r, M)) := by
  unfold z_if at h
  split at h
  · split at h
    · rename_i e
      refine ⟨_, _, rfl, e.1, e.2, ?_⟩
      split at h <;> (rename_i e3; cases h; first | rw [if_pos e3] | rw [if_neg e3])
    · cases h
  · cases h
theorem z_gf_i {own ix : Nat} {M : z_M} {st t : List z_V} (h : z_gf own ix M st = some t) : ∃ ci k s o r sl x, z_fl.lookup (own, ix) = some (ci, k) ∧ st = .inr (some (s, o)) :: r ∧ z_kds[o]? = some (.inl (ci, sl)) ∧ z_lv s o = true ∧ sl[k]? = some x ∧
    ((∃ u, x = .inl u ∧ t = .inl (M s o k) :: r) ∨ ∃ q o', x = .inr (q, o') ∧ t = .inr (some (q.getD s, o')) :: r) := by
  unfold z_gf at h
  split at h
  · rename_i ci k s o r e
    split at h
    · rename_i cj sl e2
      split at h
      · rename_i e3
        obtain ⟨rfl, e4⟩ := e3
        split at h
        · rename_i u e5; cases h; exact ⟨_, _, _, _, _, _, _, e, rfl, e2, e4, e5, Or.inl ⟨u, rfl, rfl⟩⟩
        · rename_i q o' e5; cases h; exact ⟨_, _, _, _, _, _, _, e, rfl, e2, e4, e5, Or.inr ⟨q, o', rfl, rfl⟩⟩
        · cases h
      · cases h
    · cases h
  · cases h
theorem z_pf_i {own ix pc : Nat} {ls : z_L} {M : z_M} {st : List z_V} {n : z_N} (h : z_pf own ix pc ls M st = some n) : ∃ ci k s o r sl v x, z_fl.lookup (own, ix) = some (ci, k) ∧ st = .inl v :: .inr (some (s, o)) :: r ∧ z_kds[o]? = some (.inl (ci, sl)) ∧ z_lv s o = true ∧ sl[k]? = some (.inl x) ∧
    (x = 0 ∨ x = 1 ∧ (v = 0 ∨ v = 1)) ∧ n = (pc, ls, r, z_up M s o k v) := by
  unfold z_pf at h
  split at h
  · rename_i ci k v s o r e
    split at h
    · rename_i cj sl e2
      split at h
      · rename_i e3
        obtain ⟨rfl, e4⟩ := e3
        split at h
        · rename_i e5; cases h; exact ⟨_, _, _, _, _, _, _, _, e, rfl, e2, e4, e5, Or.inl rfl, rfl⟩
        · rename_i e5
          split at h
          · rename_i e6; cases h; exact ⟨_, _, _, _, _, _, _, _, e, rfl, e2, e4, e5, Or.inr ⟨rfl, e6⟩, rfl⟩
          · cases h
        · cases h
      · cases h
    · cases h
  · cases h
theorem z_al_i {t : Nat} {M : z_M} {st u : List z_V} (h : z_al t M st = some u) : ∃ i s o r n, st = .inl i :: .inr (some (s, o)) :: r ∧ z_kds[o]? = some (.inr (t, n)) ∧ z_lv s o = true ∧ 0 ≤ i ∧ i < (n : Int) ∧ u = (if t = 3 then .inr (some (z_rg (M s o i.toNat), 0)) else .inl (M s o i.toNat)) :: r := by
  unfold z_al at h
  split at h
  · split at h
    · rename_i e2
      split at h
      · rename_i e3
        obtain ⟨rfl, e4⟩ := e3
        split at h
        · rename_i e5; cases h; exact ⟨_, _, _, _, _, rfl, e2, e4, e5.1, e5.2, rfl⟩
        · cases h
      · cases h
    · cases h
  · cases h
theorem z_as_i {t pc : Nat} {ls : z_L} {M : z_M} {st : List z_V} {m : z_N} (h : z_as t pc ls M st = some m) : ∃ v i s o r n, st = .inl v :: .inl i :: .inr (some (s, o)) :: r ∧ z_kds[o]? = some (.inr (t, n)) ∧ z_lv s o = true ∧ 0 ≤ i ∧ i < (n : Int) ∧ z_fit t v = true ∧ m = (pc, ls, r, z_up M s o i.toNat v) := by
  unfold z_as at h
  split at h
  · split at h
    · rename_i e2
      split at h
      · rename_i e3
        obtain ⟨rfl, e4⟩ := e3
        split at h
        · rename_i e5
          split at h
          · rename_i e6; cases h; exact ⟨_, _, _, _, _, _, rfl, e2, e4, e5.1, e5.2, e6, rfl⟩
          · cases h
        · cases h
      · cases h
    · cases h
  · cases h
theorem z_aa_i {pc : Nat} {ls : z_L} {M : z_M} {st : List z_V} {m : z_N} (h : z_aa pc ls M st = some m) : ∃ q i s o r n, st = .inr (some (q, 0)) :: .inl i :: .inr (some (s, o)) :: r ∧ z_kds[o]? = some (.inr (3, n)) ∧ z_lv s o = true ∧ 0 ≤ i ∧ i < (n : Int) ∧ m = (pc, ls, r, z_up M s o i.toNat (q.val : Int)) := by
  unfold z_aa at h
  split at h
  · split at h
    · rename_i e2
      split at h
      · rename_i e3
        obtain ⟨rfl, e4⟩ := e3
        split at h
        · rename_i e5; cases h; exact ⟨_, _, _, _, _, _, rfl, e2, e4, e5.1, e5.2, rfl⟩
        · cases h
      · cases h
    · cases h
  · cases h
