/-! a machine over positions: states s of Fin 7, objects o, slots j; ints are Int, kept in range by z_w -/
abbrev z_P : Type := Fin 7 × Nat
abbrev z_V : Type := Int ⊕ Option z_P
abbrev z_M : Type := Fin 7 → Nat → Nat → Int
abbrev z_L : Type := List (Option z_V)
abbrev z_N : Type := Nat × z_L × List z_V × z_M
def z_w (x : Int) : Int := (Int32.ofInt x).toInt
def z_lv (s : Fin 7) (o : Nat) : Bool := decide (o < 21) || (decide (s = 0) && decide (o < 33))
def z_up (M : z_M) (s : Fin 7) (o j : Nat) (v : Int) : z_M := fun s' o' j' => if s' = s ∧ o' = o ∧ j' = j then v else M s' o' j'
def z_cp (M : z_M) (s0 : Fin 7) (o0 : Nat) (s1 : Fin 7) (o1 sp dp n : Nat) : z_M := fun s o j => if s = s1 ∧ o = o1 ∧ dp ≤ j ∧ j < dp + n then M s0 o0 (sp + (j - dp)) else M s o j
def z_rg (x : Int) : Fin 7 := ⟨x.toNat % 7, Nat.mod_lt _ (by decide)⟩
def z_own (mi : z_I) : Nat := mi.1
def z_y (mi : z_I) : MethodName := mi.2.1
def z_cd (mi : z_I) : ByteArray := mi.2.2.1
def z_ml' (mi : z_I) : Nat := mi.2.2.2.1
def z_rt (mi : z_I) : Option FieldType := mi.2.2.2.2.1
def z_sta (mi : z_I) : Bool := mi.2.2.2.2.2.1
def z_na (mi : z_I) : Nat := mi.2.2.2.2.2.2.1
def z_dp (mi : z_I) : Nat := mi.2.2.2.2.2.2.2
def z_nx (a b pc : Nat) (ls : z_L) (M : z_M) (o : Option (List z_V)) : Option z_N := if a = b then o.map (fun t => (pc, ls, t, M)) else none
def z_bin (f : Int → Int → Int) (st : List z_V) : Option (List z_V) := match st with
  | .inl y :: .inl x :: r => some (.inl (f x y) :: r)
  | _ => none
def z_div (f : Int → Int → Int) (st : List z_V) : Option (List z_V) := match st with
  | .inl y :: .inl x :: r => if y = 0 then none else some (.inl (f x y) :: r)
  | _ => none
def z_and (x y : Int) : Int := (Int32.ofInt x &&& Int32.ofInt y).toInt
def z_shr (x y : Int) : Int := (Int32.ofInt x >>> (Int32.ofInt y &&& 31)).toInt
def z_neg (st : List z_V) : Option (List z_V) := match st with
  | .inl x :: r => some (.inl (z_w (-x)) :: r)
  | _ => none
def z_ldi (ls : z_L) (i : Nat) (st : List z_V) : Option (List z_V) := match ls[i]? with
  | some (some (.inl x)) => some (.inl x :: st)
  | _ => none
def z_lda (ls : z_L) (i : Nat) (st : List z_V) : Option (List z_V) := match ls[i]? with
  | some (some (.inr x)) => some (.inr x :: st)
  | _ => none
def z_sti (a b pc : Nat) (ls : z_L) (M : z_M) (i : Nat) (st : List z_V) : Option z_N := match st with
  | .inl x :: r => if a = b ∧ i < ls.length then some (pc, ls.set i (some (.inl x)), r, M) else none
  | _ => none
def z_sta' (a b pc : Nat) (ls : z_L) (M : z_M) (i : Nat) (st : List z_V) : Option z_N := match st with
  | .inr x :: r => if a = b ∧ i < ls.length then some (pc, ls.set i (some (.inr x)), r, M) else none
  | _ => none
def z_inc (a b pc : Nat) (ls : z_L) (M : z_M) (i : Nat) (n : Int) (st : List z_V) : Option z_N := match ls[i]? with
  | some (some (.inl x)) => if a = b then some (pc, ls.set i (some (.inl (z_w (x + n)))), st, M) else none
  | _ => none
def z_dup (st : List z_V) : Option (List z_V) := match st with
  | x :: r => some (x :: x :: r)
  | _ => none
def z_dup2 (st : List z_V) : Option (List z_V) := match st with
  | x :: y :: r => some (x :: y :: x :: y :: r)
  | _ => none
def z_pop (st : List z_V) : Option (List z_V) := match st with
  | _ :: r => some r
  | _ => none
def z_cc (c : Jvm.ClassFile.Cond) (x y : Int) : Bool := match c with
  | .eq => decide (x = y)
  | .ne => !decide (x = y)
  | .lt => decide (x < y)
  | .ge => decide (y ≤ x)
  | .gt => decide (y < x)
  | .le => decide (x ≤ y)
def z_ic (c : Jvm.ClassFile.Cond) (a b pc : Nat) (off : Int) (ls : z_L) (M : z_M) (st : List z_V) : Option z_N := match st with
  | .inl y :: .inl x :: r => if a = b ∧ 0 ≤ (pc : Int) + off then (if z_cc c x y = true then some (((pc : Int) + off).toNat, ls, r, M) else some (pc + 3, ls, r, M)) else none
  | _ => none
def z_if (c : Jvm.ClassFile.Cond) (a b pc : Nat) (off : Int) (ls : z_L) (M : z_M) (st : List z_V) : Option z_N := match st with
  | .inl x :: r => if a = b ∧ 0 ≤ (pc : Int) + off then (if z_cc c x 0 = true then some (((pc : Int) + off).toNat, ls, r, M) else some (pc + 3, ls, r, M)) else none
  | _ => none
def z_nul (a b pc : Nat) (off : Int) (ls : z_L) (M : z_M) (st : List z_V) : Option z_N := match st with
  | .inr none :: r => if a = b ∧ 0 ≤ (pc : Int) + off then some (((pc : Int) + off).toNat, ls, r, M) else none
  | .inr (some _) :: r => if a = b then some (pc + 3, ls, r, M) else none
  | _ => none
def z_sw (pc : Nat) (d lo hi : Int) (offs : Array Int) (ls : z_L) (M : z_M) (st : List z_V) : Option z_N := match st with
  | .inl x :: r => if x < lo ∨ hi < x then (if 0 ≤ (pc : Int) + d then some (((pc : Int) + d).toNat, ls, r, M) else none) else
      match offs[(x - lo).toNat]? with
      | some off => if 0 ≤ (pc : Int) + off then some (((pc : Int) + off).toNat, ls, r, M) else none
      | none => none
  | _ => none
def z_gf (own ix : Nat) (M : z_M) (st : List z_V) : Option (List z_V) := match z_fl.lookup (own, ix), st with
  | some (ci, k), .inr (some (s, o)) :: r => match z_kds[o]? with
    | some (.inl (cj, sl)) => if (cj = ci ∧ z_lv s o = true) then (match sl[k]? with
        | some (.inl _) => some (.inl (M s o k) :: r)
        | some (.inr (q, o')) => some (.inr (some (q.getD s, o')) :: r)
        | none => none) else none
    | _ => none
  | _, _ => none
def z_pf (own ix pc : Nat) (ls : z_L) (M : z_M) (st : List z_V) : Option z_N := match z_fl.lookup (own, ix), st with
  | some (ci, k), .inl v :: .inr (some (s, o)) :: r => match z_kds[o]? with
    | some (.inl (cj, sl)) => if (cj = ci ∧ z_lv s o = true) then (match sl[k]? with
        | some (.inl 0) => some (pc, ls, r, z_up M s o k v)
        | some (.inl 1) => if v = 0 ∨ v = 1 then some (pc, ls, r, z_up M s o k v) else none
        | _ => none) else none
    | _ => none
  | _, _ => none
def z_al (t : Nat) (M : z_M) (st : List z_V) : Option (List z_V) := match st with
  | .inl i :: .inr (some (s, o)) :: r => match z_kds[o]? with
    | some (.inr (t', n)) => if (t' = t ∧ z_lv s o = true) then (if 0 ≤ i ∧ i < (n : Int) then some ((if t = 3 then .inr (some (z_rg (M s o i.toNat), 0)) else .inl (M s o i.toNat)) :: r) else none) else none
    | _ => none
  | _ => none
def z_fit (t : Nat) (v : Int) : Bool := if t = 0 then true else if t = 1 then decide (0 ≤ v ∧ v ≤ 65535) else if t = 2 then decide (v = 0 ∨ v = 1) else false
def z_as (t pc : Nat) (ls : z_L) (M : z_M) (st : List z_V) : Option z_N := match st with
  | .inl v :: .inl i :: .inr (some (s, o)) :: r => match z_kds[o]? with
    | some (.inr (t', n)) => if (t' = t ∧ z_lv s o = true) then (if 0 ≤ i ∧ i < (n : Int) then (if z_fit t v = true then some (pc, ls, r, z_up M s o i.toNat v) else none) else none) else none
    | _ => none
  | _ => none
def z_aa (pc : Nat) (ls : z_L) (M : z_M) (st : List z_V) : Option z_N := match st with
  | .inr (some (q, 0)) :: .inl i :: .inr (some (s, o)) :: r => match z_kds[o]? with
    | some (.inr (t', n)) => if (t' = 3 ∧ z_lv s o = true) then (if 0 ≤ i ∧ i < (n : Int) then some (pc, ls, r, z_up M s o i.toNat (q.val : Int)) else none) else none
    | _ => none
  | _ => none
def z_jdk (dp own ix pc : Nat) (ls : z_L) (M : z_M) (st : List z_V) : Option z_N := match z_mm.lookup (own, ix), st with
  | some 0, .inl y :: .inl x :: r => if r.length ≤ 8 ∧ 1 ≤ dp then some (pc, ls, .inl (if x < y then y else x) :: r, M) else none
  | some 1, .inl y :: .inl x :: r => if r.length ≤ 8 ∧ 1 ≤ dp then some (pc, ls, .inl (if y < x then y else x) :: r, M) else none
  | some 2, .inl n :: .inl d :: .inr (some (s1, o1)) :: .inl b :: .inr (some (s0, o0)) :: r => match z_kds[o0]?, z_kds[o1]? with
    | some (.inr (t0, n0)), some (.inr (t1, n1)) => if (t0 = 0 ∧ t1 = 0 ∧ z_lv s0 o0 = true ∧ z_lv s1 o1 = true ∧ r.length ≤ 8 ∧ 1 ≤ dp) then
        (if 0 ≤ b ∧ 0 ≤ d ∧ 0 ≤ n ∧ b + n ≤ (n0 : Int) ∧ d + n ≤ (n1 : Int) then some (pc, ls, r, z_cp M s0 o0 s1 o1 b.toNat d.toNat n.toNat) else none) else none
    | _, _ => none
  | _, _ => none
/-- what is no call of the program's own, and no return -/
def z_stI (mi : z_I) (i : Instr) (len pc : Nat) (ls : z_L) (st : List z_V) (M : z_M) : Option z_N := match i with
  | .iconst n => z_nx len 1 (pc + 1) ls M (some (.inl (z_w n) :: st))
  | .bipush n => z_nx len 2 (pc + 2) ls M (some (.inl (Int8.ofInt n).toInt32.toInt :: st))
  | .sipush n => z_nx len 3 (pc + 3) ls M (some (.inl (Int16.ofInt n).toInt32.toInt :: st))
  | .ldc ix => z_nx len 2 (pc + 2) ls M ((z_cs.lookup (z_own mi, ix)).map fun v => .inl (z_w v) :: st)
  | .aconst_null => z_nx len 1 (pc + 1) ls M (some (.inr none :: st))
  | .iload_n k => z_nx len 1 (pc + 1) ls M (z_ldi ls k.val st)
  | .iload k => z_nx len 2 (pc + 2) ls M (z_ldi ls k st)
  | .aload_n k => z_nx len 1 (pc + 1) ls M (z_lda ls k.val st)
  | .aload k => z_nx len 2 (pc + 2) ls M (z_lda ls k st)
  | .istore_n k => z_sti len 1 (pc + 1) ls M k.val st
  | .istore k => z_sti len 2 (pc + 2) ls M k st
  | .astore_n k => z_sta' len 1 (pc + 1) ls M k.val st
  | .astore k => z_sta' len 2 (pc + 2) ls M k st
  | .iinc k n => z_inc len 3 (pc + 3) ls M k n st
  | .iadd => z_nx len 1 (pc + 1) ls M (z_bin (fun x y => z_w (x + y)) st)
  | .isub => z_nx len 1 (pc + 1) ls M (z_bin (fun x y => z_w (x - y)) st)
  | .imul => z_nx len 1 (pc + 1) ls M (z_bin (fun x y => z_w (x * y)) st)
  | .iand => z_nx len 1 (pc + 1) ls M (z_bin z_and st)
  | .ishr => z_nx len 1 (pc + 1) ls M (z_bin z_shr st)
  | .idiv => z_nx len 1 (pc + 1) ls M (z_div (fun x y => z_w (x.tdiv y)) st)
  | .irem => z_nx len 1 (pc + 1) ls M (z_div (fun x y => z_w (x.tmod y)) st)
  | .dup => z_nx len 1 (pc + 1) ls M (z_dup st)
  | .dup2 => z_nx len 1 (pc + 1) ls M (z_dup2 st)
  | .pop => z_nx len 1 (pc + 1) ls M (z_pop st)
  | .goto off => if len = 3 ∧ 0 ≤ (pc : Int) + off then some (((pc : Int) + off).toNat, ls, st, M) else none
  | .if_icmp c off => z_ic c len 3 pc off ls M st
  | .ifCond c off => z_if c len 3 pc off ls M st
  | .ifnull off => z_nul len 3 pc off ls M st
  | .tableswitch d lo hi offs => z_sw pc d lo hi offs ls M st
  | .getfield ix => z_nx len 3 (pc + 3) ls M (z_gf (z_own mi) ix M st)
  | .putfield ix => if len = 3 then z_pf (z_own mi) ix (pc + 3) ls M st else none
  | .iaload => z_nx len 1 (pc + 1) ls M (z_al 0 M st)
  | .caload => z_nx len 1 (pc + 1) ls M (z_al 1 M st)
  | .baload => z_nx len 1 (pc + 1) ls M (z_al 2 M st)
  | .aaload => z_nx len 1 (pc + 1) ls M (z_al 3 M st)
  | .iastore => if len = 1 then z_as 0 (pc + 1) ls M st else none
  | .castore => if len = 1 then z_as 1 (pc + 1) ls M st else none
  | .bastore => if len = 1 then z_as 2 (pc + 1) ls M st else none
  | .aastore => if len = 1 then z_aa (pc + 1) ls M st else none
  | .invokestatic ix => if len = 3 then z_jdk (z_dp mi) (z_own mi) ix (pc + 3) ls M st else none
  | _ => none
/-- returns -/
def z_stR (mi : z_I) (i : Instr) (len : Nat) (st : List z_V) : Option (Option z_V) := match i, st with
  | .ireturn, [.inl v] => if len = 1 then (match z_rt mi with
      | some .int => some (some (.inl v))
      | some .boolean => if v = 0 ∨ v = 1 then some (some (.inl v)) else none
      | _ => none) else none
  | .areturn, [.inr v] => if len = 1 then (match z_rt mi with
      | some (.object _) => some (some (.inr v))
      | _ => none) else none
  | .return_, [] => if len = 1 then (match z_rt mi with
      | none => some none
      | _ => none) else none
  | _, _ => none
/-- calls: which, its arguments, what stays on the stack -/
def z_stC (mi : z_I) (i : Instr) (len : Nat) (st : List z_V) : Option (Nat × List z_V × List z_V) := match i with
  | .invokevirtual ix => match z_ml.lookup (z_own mi, ix) with
    | some k => match z_mts[k]? with
      | some mj => if len = 3 ∧ z_sta mj = false ∧ z_dp mj < z_dp mi ∧ z_ml' mj ≤ 9 ∧ z_na mj + 1 ≤ z_ml' mj then
          (match st.drop (z_na mj) with
          | .inr (some (s, o)) :: r => match z_kds[o]? with
            | some (.inl (ci, _)) => if ci = z_own mj ∧ z_lv s o = true ∧ r.length ≤ 8 then some (k, .inr (some (s, o)) :: (st.take (z_na mj)).reverse, r) else none
            | _ => none
          | _ => none) else none
      | none => none
    | none => none
  | .invokestatic ix => match z_ml.lookup (z_own mi, ix) with
    | some k => match z_mts[k]? with
      | some mj => if len = 3 ∧ z_sta mj = true ∧ z_own mj = z_own mi ∧ z_dp mj < z_dp mi ∧ z_ml' mj ≤ 9 ∧ z_na mj ≤ z_ml' mj ∧ z_na mj ≤ st.length ∧ (st.drop (z_na mj)).length ≤ 8 then some (k, (st.take (z_na mj)).reverse, st.drop (z_na mj)) else none
      | none => none
    | none => match z_nl.lookup (z_own mi, ix) with
      | some (k, _) => match z_mts[k]? with
        | some mj => if len = 3 ∧ z_sta mj = true ∧ z_dp mj < z_dp mi ∧ z_ml' mj ≤ 9 ∧ z_na mj ≤ z_ml' mj ∧ z_na mj ≤ st.length ∧ (st.drop (z_na mj)).length ≤ 8 then some (k, (st.take (z_na mj)).reverse, st.drop (z_na mj)) else none
        | none => none
      | none => none
  | _ => none
/-- the locals at a method's entry -/
def z_en (k : Nat) (as : List z_V) : z_L := match z_mts[k]? with
  | some mi => as.map some ++ List.replicate (z_ml' mi - as.length) none
  | none => []
abbrev z_O : Type := z_N ⊕ ((Option z_V × z_M) ⊕ (Nat × List z_V × List z_V))
/-- one step: on, out, or into a call -/
def z_stp (m pc : Nat) (ls : z_L) (st : List z_V) (M : z_M) : Option z_O := match z_mts[m]? with
  | none => none
  | some mi => match decode (z_cd mi) pc with
    | .ok q => match z_stI mi q.1 q.2 pc ls st M with
      | some n => some (.inl n)
      | none => match z_stR mi q.1 q.2 st with
        | some r => some (.inr (.inl (r, M)))
        | none => (z_stC mi q.1 q.2 st).map fun x => .inr (.inr x)
    | .error _ => none
def z_run : Nat → Nat → Nat → z_L → List z_V → z_M → Option (Option z_V × z_M)
  | 0, _, _, _, _, _ => none
  | n + 1, m, pc, ls, st, M => match z_stp m pc ls st M with
    | none => none
    | some (.inl (pc', ls', st', M')) => z_run n m pc' ls' st' M'
    | some (.inr (.inl q)) => some q
    | some (.inr (.inr (k, as, rest))) => match z_run n k 0 (z_en k as) [] M with
      | none => none
      | some q => z_run n m (pc + 3) ls (q.1.toList ++ rest) q.2
theorem z_run_mono : ∀ (n m pc : Nat) (ls : z_L) (st : List z_V) (M : z_M) (q : Option z_V × z_M), z_run n m pc ls st M = some q → z_run (n + 1) m pc ls st M = some q := by
  intro n
  induction n with
  | zero => intro m pc ls st M q h; cases h
  | succ n ih =>
    intro m pc ls st M q h
    unfold z_run at h ⊢
    cases hs : z_stp m pc ls st M with
    | none => rw [hs] at h; cases h
    | some o =>
      rw [hs] at h
      rcases o with ⟨pc', ls', st', M'⟩ | q' | ⟨k, as, rest⟩
      · exact ih _ _ _ _ _ _ h
      · exact h
      · dsimp only at h ⊢
        cases hr : z_run n k 0 (z_en k as) [] M with
        | none => rw [hr] at h; cases h
        | some q1 =>
          rw [hr] at h
          rw [ih _ _ _ _ _ _ hr]
          exact ih _ _ _ _ _ _ h
theorem z_run_add {n m pc : Nat} {ls : z_L} {st : List z_V} {M : z_M} {q : Option z_V × z_M} (h : z_run n m pc ls st M = some q) : ∀ k, z_run (n + k) m pc ls st M = some q := by
  intro k
  induction k with
  | zero => exact h
  | succ k ih => exact z_run_mono _ _ _ _ _ _ _ ih
theorem z_run_le {n n' m pc : Nat} {ls : z_L} {st : List z_V} {M : z_M} {q : Option z_V × z_M} (hn : n ≤ n') (h : z_run n m pc ls st M = some q) : z_run n' m pc ls st M = some q := by
  obtain ⟨k, rfl⟩ := Nat.le.dest hn
  exact z_run_add h k
theorem z_run_one {n n' m pc : Nat} {ls : z_L} {st : List z_V} {M : z_M} {q q' : Option z_V × z_M} (h : z_run n m pc ls st M = some q) (h' : z_run n' m pc ls st M = some q') : q = q' := by
  have h1 := z_run_le (Nat.le_max_left n n') h
  have h2 := z_run_le (Nat.le_max_right n n') h'
  exact Option.some.inj (h1.symm.trans h2)
/-- what a run comes to, however long it is -/
noncomputable def z_ex (m pc : Nat) (ls : z_L) (st : List z_V) (M : z_M) : Option (Option z_V × z_M) :=
  @dite _ (∃ q, ∃ n, z_run n m pc ls st M = some q) (Classical.propDecidable _) (fun h => some (Classical.choose h)) (fun _ => none)
theorem z_ex_iff {m pc : Nat} {ls : z_L} {st : List z_V} {M : z_M} {q : Option z_V × z_M} : z_ex m pc ls st M = some q ↔ ∃ n, z_run n m pc ls st M = some q := by
  unfold z_ex
  constructor
  · intro h
    split at h
    · rename_i hq
      cases h
      exact Classical.choose_spec hq
    · cases h
  · rintro ⟨n, h⟩
    split
    · rename_i hq
      obtain ⟨n', h'⟩ := Classical.choose_spec hq
      rw [z_run_one h' h]
    · rename_i hq
      exact absurd ⟨q, n, h⟩ hq
/-- a method, called -/
noncomputable def z_ev (k : Nat) (as : List z_V) (M : z_M) : Option (Option z_V × z_M) := z_ex k 0 (z_en k as) [] M
theorem z_ex_eq {m pc m' pc' : Nat} {ls ls' : z_L} {st st' : List z_V} {M M' : z_M} (h : ∀ q, (∃ n, z_run n m pc ls st M = some q) ↔ (∃ n, z_run n m' pc' ls' st' M' = some q)) : z_ex m pc ls st M = z_ex m' pc' ls' st' M' := by
  refine Option.ext fun q => ?_
  rw [z_ex_iff, z_ex_iff]
  exact h q
theorem z_go {m pc : Nat} {ls : z_L} {st : List z_V} {M : z_M} {pc' : Nat} {ls' : z_L} {st' : List z_V} {M' : z_M} (h : z_stp m pc ls st M = some (.inl (pc', ls', st', M'))) : z_ex m pc ls st M = z_ex m pc' ls' st' M' := by
  refine z_ex_eq fun q => ⟨?_, ?_⟩
  · rintro ⟨n, hn⟩
    cases n with
    | zero => cases hn
    | succ n => exact ⟨n, by simpa only [z_run, h] using hn⟩
  · rintro ⟨n, hn⟩
    exact ⟨n + 1, by simpa only [z_run, h] using hn⟩
theorem z_out {m pc : Nat} {ls : z_L} {st : List z_V} {M : z_M} {q : Option z_V × z_M} (h : z_stp m pc ls st M = some (.inr (.inl q))) : z_ex m pc ls st M = some q := by
  rw [z_ex_iff]
  exact ⟨1, by simp only [z_run, h]⟩
theorem z_call {m pc : Nat} {ls : z_L} {st : List z_V} {M : z_M} {k : Nat} {as rest : List z_V} (h : z_stp m pc ls st M = some (.inr (.inr (k, as, rest)))) : z_ex m pc ls st M = (z_ev k as M).bind fun q => z_ex m (pc + 3) ls (q.1.toList ++ rest) q.2 := by
  refine Option.ext fun q => ?_
  rw [z_ex_iff, Option.bind_eq_some_iff]
  constructor
  · rintro ⟨n, hn⟩
    cases n with
    | zero => cases hn
    | succ n =>
      simp only [z_run, h] at hn
      cases hr : z_run n k 0 (z_en k as) [] M with
      | none => rw [hr] at hn; cases hn
      | some q1 =>
        rw [hr] at hn
        exact ⟨q1, z_ex_iff.mpr ⟨n, hr⟩, z_ex_iff.mpr ⟨n, hn⟩⟩
  · rintro ⟨q1, h1, h2⟩
    obtain ⟨n1, h1⟩ := z_ex_iff.mp h1
    obtain ⟨n2, h2⟩ := z_ex_iff.mp h2
    refine ⟨max n1 n2 + 1, ?_⟩
    simp only [z_run, h, z_run_le (Nat.le_max_left n1 n2) h1]
    exact z_run_le (Nat.le_max_right n1 n2) h2
theorem z_stp_I {m pc : Nat} {mi : z_I} {i : Instr} {len : Nat} {ls : z_L} {st : List z_V} {M : z_M} {n : z_N} (hm : z_mts[m]? = some mi) (hd : decode (z_cd mi) pc = .ok (i, len)) (h : z_stI mi i len pc ls st M = some n) : z_stp m pc ls st M = some (.inl n) := by
  unfold z_stp; simp only [hm, hd, h]
theorem z_stp_R {m pc : Nat} {mi : z_I} {i : Instr} {len : Nat} {ls : z_L} {st : List z_V} {M : z_M} {r : Option z_V} (hm : z_mts[m]? = some mi) (hd : decode (z_cd mi) pc = .ok (i, len)) (h1 : z_stI mi i len pc ls st M = none) (h : z_stR mi i len st = some r) : z_stp m pc ls st M = some (.inr (.inl (r, M))) := by
  unfold z_stp; simp only [hm, hd, h1, h]
theorem z_stp_C {m pc : Nat} {mi : z_I} {i : Instr} {len : Nat} {ls : z_L} {st : List z_V} {M : z_M} {x : Nat × List z_V × List z_V} (hm : z_mts[m]? = some mi) (hd : decode (z_cd mi) pc = .ok (i, len)) (h1 : z_stI mi i len pc ls st M = none) (h2 : z_stR mi i len st = none) (h : z_stC mi i len st = some x) : z_stp m pc ls st M = some (.inr (.inr x)) := by
  unfold z_stp; simp only [hm, hd, h1, h2, h, Option.map_some]
