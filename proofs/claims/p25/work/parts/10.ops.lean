/-! the instructions as rewriting rows -/
section ZO
variable {m pc : Nat} {mi : z_I} {ls : z_L} {st : List z_V} {M : z_M}
theorem o_iconst {n v : Int} (hm : z_mts[m]? = some mi) (hd : decode (z_cd mi) pc = .ok (.iconst n, 1)) (hv : z_w n = v) : z_ex m pc ls st M = z_ex m (pc + 1) ls (.inl v :: st) M := by
  subst hv; exact z_go (z_stp_I hm hd rfl)
theorem o_bipush {n v : Int} (hm : z_mts[m]? = some mi) (hd : decode (z_cd mi) pc = .ok (.bipush n, 2)) (hv : (Int8.ofInt n).toInt32.toInt = v) : z_ex m pc ls st M = z_ex m (pc + 2) ls (.inl v :: st) M := by
  subst hv; exact z_go (z_stp_I hm hd rfl)
theorem o_sipush {n v : Int} (hm : z_mts[m]? = some mi) (hd : decode (z_cd mi) pc = .ok (.sipush n, 3)) (hv : (Int16.ofInt n).toInt32.toInt = v) : z_ex m pc ls st M = z_ex m (pc + 3) ls (.inl v :: st) M := by
  subst hv; exact z_go (z_stp_I hm hd rfl)
theorem o_ldc {ix : Nat} {u v : Int} (hm : z_mts[m]? = some mi) (hd : decode (z_cd mi) pc = .ok (.ldc ix, 2)) (hl : z_cs.lookup (z_own mi, ix) = some u) (hv : z_w u = v) : z_ex m pc ls st M = z_ex m (pc + 2) ls (.inl v :: st) M := by
  subst hv
  refine z_go (z_stp_I hm hd ?_)
  show z_nx 2 2 (pc + 2) ls M ((z_cs.lookup (z_own mi, ix)).map fun v => .inl (z_w v) :: st) = _
  rw [hl]; rfl
theorem o_goto {off : Int} {t : Nat} (hm : z_mts[m]? = some mi) (hd : decode (z_cd mi) pc = .ok (.goto off, 3)) (ht : (pc : Int) + off = (t : Int)) : z_ex m pc ls st M = z_ex m t ls st M := by
  refine z_go (z_stp_I hm hd ?_)
  show (if 3 = 3 ∧ 0 ≤ (pc : Int) + off then some (((pc : Int) + off).toNat, ls, st, M) else none) = _
  rw [ht, if_pos ⟨rfl, by omega⟩]; rfl
theorem o_idiv {x y : Int} (hm : z_mts[m]? = some mi) (hd : decode (z_cd mi) pc = .ok (.idiv, 1)) (hy : ¬ y = 0) : z_ex m pc ls (.inl y :: .inl x :: st) M = z_ex m (pc + 1) ls (.inl (z_w (x.tdiv y)) :: st) M := by
  refine z_go (z_stp_I hm hd ?_)
  show z_nx 1 1 (pc + 1) ls M (if y = 0 then none else some (.inl (z_w (x.tdiv y)) :: st)) = _
  rw [if_neg hy]; rfl
theorem o_irem {x y : Int} (hm : z_mts[m]? = some mi) (hd : decode (z_cd mi) pc = .ok (.irem, 1)) (hy : ¬ y = 0) : z_ex m pc ls (.inl y :: .inl x :: st) M = z_ex m (pc + 1) ls (.inl (z_w (x.tmod y)) :: st) M := by
  refine z_go (z_stp_I hm hd ?_)
  show z_nx 1 1 (pc + 1) ls M (if y = 0 then none else some (.inl (z_w (x.tmod y)) :: st)) = _
  rw [if_neg hy]; rfl
theorem o_ic {c : Jvm.ClassFile.Cond} {off x y : Int} {t : Nat} (hm : z_mts[m]? = some mi) (hd : decode (z_cd mi) pc = .ok (.if_icmp c off, 3)) (ht : (pc : Int) + off = (t : Int)) : z_ex m pc ls (.inl y :: .inl x :: st) M = if z_cc c x y = true then z_ex m t ls st M else z_ex m (pc + 3) ls st M := by
  have e : z_stI mi (.if_icmp c off) 3 pc ls (.inl y :: .inl x :: st) M = if z_cc c x y = true then some (t, ls, st, M) else some (pc + 3, ls, st, M) := by
    show (if 3 = 3 ∧ 0 ≤ (pc : Int) + off then (if z_cc c x y = true then some (((pc : Int) + off).toNat, ls, st, M) else some (pc + 3, ls, st, M)) else none) = _
    rw [ht, if_pos ⟨rfl, by omega⟩]; rfl
  split
  · rename_i h; rw [if_pos h] at e; exact z_go (z_stp_I hm hd e)
  · rename_i h; rw [if_neg h] at e; exact z_go (z_stp_I hm hd e)
theorem o_if {c : Jvm.ClassFile.Cond} {off x : Int} {t : Nat} (hm : z_mts[m]? = some mi) (hd : decode (z_cd mi) pc = .ok (.ifCond c off, 3)) (ht : (pc : Int) + off = (t : Int)) : z_ex m pc ls (.inl x :: st) M = if z_cc c x 0 = true then z_ex m t ls st M else z_ex m (pc + 3) ls st M := by
  have e : z_stI mi (.ifCond c off) 3 pc ls (.inl x :: st) M = if z_cc c x 0 = true then some (t, ls, st, M) else some (pc + 3, ls, st, M) := by
    show (if 3 = 3 ∧ 0 ≤ (pc : Int) + off then (if z_cc c x 0 = true then some (((pc : Int) + off).toNat, ls, st, M) else some (pc + 3, ls, st, M)) else none) = _
    rw [ht, if_pos ⟨rfl, by omega⟩]; rfl
  split
  · rename_i h; rw [if_pos h] at e; exact z_go (z_stp_I hm hd e)
  · rename_i h; rw [if_neg h] at e; exact z_go (z_stp_I hm hd e)
theorem o_ic_eq {off x y : Int} {t : Nat} (hm : z_mts[m]? = some mi) (hd : decode (z_cd mi) pc = .ok (.if_icmp .eq off, 3)) (ht : (pc : Int) + off = (t : Int)) : z_ex m pc ls (.inl y :: .inl x :: st) M = if x = y then z_ex m t ls st M else z_ex m (pc + 3) ls st M := by
  rw [o_ic hm hd ht]; simp only [z_cc, decide_eq_true_eq, Bool.not_eq_true', decide_eq_false_iff_not]
theorem o_if_eq {off x : Int} {t : Nat} (hm : z_mts[m]? = some mi) (hd : decode (z_cd mi) pc = .ok (.ifCond .eq off, 3)) (ht : (pc : Int) + off = (t : Int)) : z_ex m pc ls (.inl x :: st) M = if x = 0 then z_ex m t ls st M else z_ex m (pc + 3) ls st M := by
  rw [o_if hm hd ht]; simp only [z_cc, decide_eq_true_eq, Bool.not_eq_true', decide_eq_false_iff_not]
theorem o_ic_ne {off x y : Int} {t : Nat} (hm : z_mts[m]? = some mi) (hd : decode (z_cd mi) pc = .ok (.if_icmp .ne off, 3)) (ht : (pc : Int) + off = (t : Int)) : z_ex m pc ls (.inl y :: .inl x :: st) M = if ¬ x = y then z_ex m t ls st M else z_ex m (pc + 3) ls st M := by
  rw [o_ic hm hd ht]; simp only [z_cc, decide_eq_true_eq, Bool.not_eq_true', decide_eq_false_iff_not]
theorem o_if_ne {off x : Int} {t : Nat} (hm : z_mts[m]? = some mi) (hd : decode (z_cd mi) pc = .ok (.ifCond .ne off, 3)) (ht : (pc : Int) + off = (t : Int)) : z_ex m pc ls (.inl x :: st) M = if ¬ x = 0 then z_ex m t ls st M else z_ex m (pc + 3) ls st M := by
  rw [o_if hm hd ht]; simp only [z_cc, decide_eq_true_eq, Bool.not_eq_true', decide_eq_false_iff_not]
theorem o_ic_lt {off x y : Int} {t : Nat} (hm : z_mts[m]? = some mi) (hd : decode (z_cd mi) pc = .ok (.if_icmp .lt off, 3)) (ht : (pc : Int) + off = (t : Int)) : z_ex m pc ls (.inl y :: .inl x :: st) M = if x < y then z_ex m t ls st M else z_ex m (pc + 3) ls st M := by
  rw [o_ic hm hd ht]; simp only [z_cc, decide_eq_true_eq, Bool.not_eq_true', decide_eq_false_iff_not]
theorem o_if_lt {off x : Int} {t : Nat} (hm : z_mts[m]? = some mi) (hd : decode (z_cd mi) pc = .ok (.ifCond .lt off, 3)) (ht : (pc : Int) + off = (t : Int)) : z_ex m pc ls (.inl x :: st) M = if x < 0 then z_ex m t ls st M else z_ex m (pc + 3) ls st M := by
  rw [o_if hm hd ht]; simp only [z_cc, decide_eq_true_eq, Bool.not_eq_true', decide_eq_false_iff_not]
theorem o_ic_ge {off x y : Int} {t : Nat} (hm : z_mts[m]? = some mi) (hd : decode (z_cd mi) pc = .ok (.if_icmp .ge off, 3)) (ht : (pc : Int) + off = (t : Int)) : z_ex m pc ls (.inl y :: .inl x :: st) M = if y ≤ x then z_ex m t ls st M else z_ex m (pc + 3) ls st M := by
  rw [o_ic hm hd ht]; simp only [z_cc, decide_eq_true_eq, Bool.not_eq_true', decide_eq_false_iff_not]
theorem o_if_ge {off x : Int} {t : Nat} (hm : z_mts[m]? = some mi) (hd : decode (z_cd mi) pc = .ok (.ifCond .ge off, 3)) (ht : (pc : Int) + off = (t : Int)) : z_ex m pc ls (.inl x :: st) M = if 0 ≤ x then z_ex m t ls st M else z_ex m (pc + 3) ls st M := by
  rw [o_if hm hd ht]; simp only [z_cc, decide_eq_true_eq, Bool.not_eq_true', decide_eq_false_iff_not]
theorem o_ic_gt {off x y : Int} {t : Nat} (hm : z_mts[m]? = some mi) (hd : decode (z_cd mi) pc = .ok (.if_icmp .gt off, 3)) (ht : (pc : Int) + off = (t : Int)) : z_ex m pc ls (.inl y :: .inl x :: st) M = if y < x then z_ex m t ls st M else z_ex m (pc + 3) ls st M := by
  rw [o_ic hm hd ht]; simp only [z_cc, decide_eq_true_eq, Bool.not_eq_true', decide_eq_false_iff_not]
theorem o_if_gt {off x : Int} {t : Nat} (hm : z_mts[m]? = some mi) (hd : decode (z_cd mi) pc = .ok (.ifCond .gt off, 3)) (ht : (pc : Int) + off = (t : Int)) : z_ex m pc ls (.inl x :: st) M = if 0 < x then z_ex m t ls st M else z_ex m (pc + 3) ls st M := by
  rw [o_if hm hd ht]; simp only [z_cc, decide_eq_true_eq, Bool.not_eq_true', decide_eq_false_iff_not]
theorem o_ic_le {off x y : Int} {t : Nat} (hm : z_mts[m]? = some mi) (hd : decode (z_cd mi) pc = .ok (.if_icmp .le off, 3)) (ht : (pc : Int) + off = (t : Int)) : z_ex m pc ls (.inl y :: .inl x :: st) M = if x ≤ y then z_ex m t ls st M else z_ex m (pc + 3) ls st M := by
  rw [o_ic hm hd ht]; simp only [z_cc, decide_eq_true_eq, Bool.not_eq_true', decide_eq_false_iff_not]
theorem o_if_le {off x : Int} {t : Nat} (hm : z_mts[m]? = some mi) (hd : decode (z_cd mi) pc = .ok (.ifCond .le off, 3)) (ht : (pc : Int) + off = (t : Int)) : z_ex m pc ls (.inl x :: st) M = if x ≤ 0 then z_ex m t ls st M else z_ex m (pc + 3) ls st M := by
  rw [o_if hm hd ht]; simp only [z_cc, decide_eq_true_eq, Bool.not_eq_true', decide_eq_false_iff_not]
theorem o_ifnull {off : Int} {t : Nat} (hm : z_mts[m]? = some mi) (hd : decode (z_cd mi) pc = .ok (.ifnull off, 3)) (ht : (pc : Int) + off = (t : Int)) : z_ex m pc ls (.inr none :: st) M = z_ex m t ls st M := by
  refine z_go (z_stp_I hm hd ?_)
  show (if 3 = 3 ∧ 0 ≤ (pc : Int) + off then some (((pc : Int) + off).toNat, ls, st, M) else none) = _
  rw [ht, if_pos ⟨rfl, by omega⟩]; rfl
theorem o_swd {d lo hi x : Int} {offs : Array Int} {len t : Nat} (hm : z_mts[m]? = some mi) (hd : decode (z_cd mi) pc = .ok (.tableswitch d lo hi offs, len)) (h : x < lo ∨ hi < x) (ht : (pc : Int) + d = (t : Int)) : z_ex m pc ls (.inl x :: st) M = z_ex m t ls st M := by
  refine z_go (z_stp_I hm hd ?_)
  show z_sw pc d lo hi offs ls M (.inl x :: st) = _
  unfold z_sw
  (try dsimp only)
  rw [if_pos h, ht, if_pos (by omega)]; rfl
theorem o_sw {d lo hi x off : Int} {offs : Array Int} {len t : Nat} (hm : z_mts[m]? = some mi) (hd : decode (z_cd mi) pc = .ok (.tableswitch d lo hi offs, len)) (h : ¬ (x < lo ∨ hi < x)) (ho : offs[(x - lo).toNat]? = some off) (ht : (pc : Int) + off = (t : Int)) : z_ex m pc ls (.inl x :: st) M = z_ex m t ls st M := by
  refine z_go (z_stp_I hm hd ?_)
  show z_sw pc d lo hi offs ls M (.inl x :: st) = _
  unfold z_sw
  (try dsimp only)
  rw [if_neg h, ho]
  (try dsimp only)
  rw [ht, if_pos (by omega)]; rfl
theorem o_putz {ix ci k o : Nat} {s : Fin 7} {sl : List z_S} {v : Int} (hm : z_mts[m]? = some mi) (hd : decode (z_cd mi) pc = .ok (.putfield ix, 3)) (hf : z_fl.lookup (z_own mi, ix) = some (ci, k)) (hk : z_kds[o]? = some (.inl (ci, sl))) (hv : z_lv s o = true) (hs : sl[k]? = some (.inl 1)) (h : v = 0 ∨ v = 1) :
    z_ex m pc ls (.inl v :: .inr (some (s, o)) :: st) M = z_ex m (pc + 3) ls st (z_up M s o k v) := by
  refine z_go (z_stp_I hm hd ?_)
  show (if 3 = 3 then z_pf (z_own mi) ix (pc + 3) ls M (.inl v :: .inr (some (s, o)) :: st) else none) = _
  simp [z_pf, hf, hk, hv, hs, h]
theorem z_al_of {t o n : Nat} {s : Fin 7} {i : Int} (hk : z_kds[o]? = some (.inr (t, n))) (hv : z_lv s o = true) (h0 : 0 ≤ i) (h1 : i < (n : Int)) : z_al t M (.inl i :: .inr (some (s, o)) :: st) = some ((if t = 3 then .inr (some (z_rg (M s o i.toNat), 0)) else .inl (M s o i.toNat)) :: st) := by
  unfold z_al
  (try dsimp only)
  rw [hk]
  (try dsimp only)
  rw [if_pos ⟨rfl, hv⟩, if_pos ⟨h0, h1⟩]
theorem z_as_of {t o n : Nat} {s : Fin 7} {i v : Int} (hk : z_kds[o]? = some (.inr (t, n))) (hv : z_lv s o = true) (h0 : 0 ≤ i) (h1 : i < (n : Int)) (hf : z_fit t v = true) : z_as t pc ls M (.inl v :: .inl i :: .inr (some (s, o)) :: st) = some (pc, ls, st, z_up M s o i.toNat v) := by
  unfold z_as
  (try dsimp only)
  rw [hk]
  (try dsimp only)
  rw [if_pos ⟨rfl, hv⟩, if_pos ⟨h0, h1⟩, if_pos hf]
theorem o_iaload {o n : Nat} {s : Fin 7} {i : Int} (hm : z_mts[m]? = some mi) (hd : decode (z_cd mi) pc = .ok (.iaload, 1)) (hk : z_kds[o]? = some (.inr (0, n))) (hv : z_lv s o = true) (h0 : 0 ≤ i) (h1 : i < (n : Int)) : z_ex m pc ls (.inl i :: .inr (some (s, o)) :: st) M = z_ex m (pc + 1) ls (.inl (M s o i.toNat) :: st) M := by
  refine z_go (z_stp_I hm hd ?_)
  show z_nx 1 1 (pc + 1) ls M (z_al 0 M _) = _
  rw [z_al_of hk hv h0 h1]; rfl
theorem o_caload {o n : Nat} {s : Fin 7} {i : Int} (hm : z_mts[m]? = some mi) (hd : decode (z_cd mi) pc = .ok (.caload, 1)) (hk : z_kds[o]? = some (.inr (1, n))) (hv : z_lv s o = true) (h0 : 0 ≤ i) (h1 : i < (n : Int)) : z_ex m pc ls (.inl i :: .inr (some (s, o)) :: st) M = z_ex m (pc + 1) ls (.inl (M s o i.toNat) :: st) M := by
  refine z_go (z_stp_I hm hd ?_)
  show z_nx 1 1 (pc + 1) ls M (z_al 1 M _) = _
  rw [z_al_of hk hv h0 h1]; rfl
theorem o_baload {o n : Nat} {s : Fin 7} {i : Int} (hm : z_mts[m]? = some mi) (hd : decode (z_cd mi) pc = .ok (.baload, 1)) (hk : z_kds[o]? = some (.inr (2, n))) (hv : z_lv s o = true) (h0 : 0 ≤ i) (h1 : i < (n : Int)) : z_ex m pc ls (.inl i :: .inr (some (s, o)) :: st) M = z_ex m (pc + 1) ls (.inl (M s o i.toNat) :: st) M := by
  refine z_go (z_stp_I hm hd ?_)
  show z_nx 1 1 (pc + 1) ls M (z_al 2 M _) = _
  rw [z_al_of hk hv h0 h1]; rfl
theorem o_aaload {o n : Nat} {s : Fin 7} {i : Int} (hm : z_mts[m]? = some mi) (hd : decode (z_cd mi) pc = .ok (.aaload, 1)) (hk : z_kds[o]? = some (.inr (3, n))) (hv : z_lv s o = true) (h0 : 0 ≤ i) (h1 : i < (n : Int)) : z_ex m pc ls (.inl i :: .inr (some (s, o)) :: st) M = z_ex m (pc + 1) ls (.inr (some (z_rg (M s o i.toNat), 0)) :: st) M := by
  refine z_go (z_stp_I hm hd ?_)
  show z_nx 1 1 (pc + 1) ls M (z_al 3 M _) = _
  rw [z_al_of hk hv h0 h1]; rfl
theorem o_iastore {o n : Nat} {s : Fin 7} {i v : Int} (hm : z_mts[m]? = some mi) (hd : decode (z_cd mi) pc = .ok (.iastore, 1)) (hk : z_kds[o]? = some (.inr (0, n))) (hv : z_lv s o = true) (h0 : 0 ≤ i) (h1 : i < (n : Int)) : z_ex m pc ls (.inl v :: .inl i :: .inr (some (s, o)) :: st) M = z_ex m (pc + 1) ls st (z_up M s o i.toNat v) := by
  refine z_go (z_stp_I hm hd ?_)
  simp only [z_stI, if_pos]
  rw [z_as_of hk hv h0 h1 rfl]
theorem o_castore {o n : Nat} {s : Fin 7} {i v : Int} (hm : z_mts[m]? = some mi) (hd : decode (z_cd mi) pc = .ok (.castore, 1)) (hk : z_kds[o]? = some (.inr (1, n))) (hv : z_lv s o = true) (h0 : 0 ≤ i) (h1 : i < (n : Int)) (h2 : 0 ≤ v) (h3 : v ≤ 65535) : z_ex m pc ls (.inl v :: .inl i :: .inr (some (s, o)) :: st) M = z_ex m (pc + 1) ls st (z_up M s o i.toNat v) := by
  refine z_go (z_stp_I hm hd ?_)
  simp only [z_stI, if_pos]
  rw [z_as_of hk hv h0 h1 (by simp [z_fit, h2, h3])]
theorem o_bastore {o n : Nat} {s : Fin 7} {i v : Int} (hm : z_mts[m]? = some mi) (hd : decode (z_cd mi) pc = .ok (.bastore, 1)) (hk : z_kds[o]? = some (.inr (2, n))) (hv : z_lv s o = true) (h0 : 0 ≤ i) (h1 : i < (n : Int)) (h2 : v = 0 ∨ v = 1) : z_ex m pc ls (.inl v :: .inl i :: .inr (some (s, o)) :: st) M = z_ex m (pc + 1) ls st (z_up M s o i.toNat v) := by
  refine z_go (z_stp_I hm hd ?_)
  simp only [z_stI, if_pos]
  rw [z_as_of hk hv h0 h1 (by simp [z_fit, h2])]
theorem o_aastore {o n : Nat} {s q : Fin 7} {i : Int} (hm : z_mts[m]? = some mi) (hd : decode (z_cd mi) pc = .ok (.aastore, 1)) (hk : z_kds[o]? = some (.inr (3, n))) (hv : z_lv s o = true) (h0 : 0 ≤ i) (h1 : i < (n : Int)) : z_ex m pc ls (.inr (some (q, 0)) :: .inl i :: .inr (some (s, o)) :: st) M = z_ex m (pc + 1) ls st (z_up M s o i.toNat (q.val : Int)) := by
  refine z_go (z_stp_I hm hd ?_)
  simp [z_stI, z_aa, hk, hv, h0, h1]
theorem o_math {ix : Nat} {n : z_N} (hm : z_mts[m]? = some mi) (hd : decode (z_cd mi) pc = .ok (.invokestatic ix, 3)) (h : z_jdk (z_dp mi) (z_own mi) ix (pc + 3) ls M st = some n) : z_ex m pc ls st M = z_ex m n.1 n.2.1 n.2.2.1 n.2.2.2 := by
  refine z_go (z_stp_I hm hd ?_)
  show (if 3 = 3 then z_jdk (z_dp mi) (z_own mi) ix (pc + 3) ls M st else none) = _
  rw [if_pos rfl, h]
theorem o_cpy {ix o0 o1 n0 n1 : Nat} {s0 s1 : Fin 7} {b d n : Int} (hm : z_mts[m]? = some mi) (hd : decode (z_cd mi) pc = .ok (.invokestatic ix, 3)) (hl : z_mm.lookup (z_own mi, ix) = some 2) (hk0 : z_kds[o0]? = some (.inr (0, n0))) (hk1 : z_kds[o1]? = some (.inr (0, n1))) (hv0 : z_lv s0 o0 = true) (hv1 : z_lv s1 o1 = true) (hdp : 1 ≤ z_dp mi)
    (g1 : 0 ≤ b) (g2 : 0 ≤ d) (g3 : 0 ≤ n) (g4 : b + n ≤ (n0 : Int)) (g5 : d + n ≤ (n1 : Int)) : z_ex m pc ls [.inl n, .inl d, .inr (some (s1, o1)), .inl b, .inr (some (s0, o0))] M = z_ex m (pc + 3) ls [] (z_cp M s0 o0 s1 o1 b.toNat d.toNat n.toNat) := by
  refine o_math (n := (pc + 3, ls, [], z_cp M s0 o0 s1 o1 b.toNat d.toNat n.toNat)) hm hd ?_
  simp [z_jdk, hl, hk0, hk1, hv0, hv1, hdp, g1, g2, g3, g4, g5]
theorem o_zret {v : Int} (hm : z_mts[m]? = some mi) (hd : decode (z_cd mi) pc = .ok (.ireturn, 1)) (hr : z_rt mi = some .boolean) (h : v = 0 ∨ v = 1) : z_ex m pc ls [.inl v] M = some (some (.inl v), M) := by
  refine z_out (z_stp_R hm hd rfl ?_)
  unfold z_stR
  (try dsimp only)
  rw [if_pos rfl, hr]
  (try dsimp only)
  rw [if_pos h]
theorem z_ite {α : Type} {c : Prop} [Decidable c] {a b r : α} (h1 : c → a = r) (h2 : ¬ c → b = r) : (if c then a else b) = r := by
  split
  · rename_i h; exact h1 h
  · rename_i h; exact h2 h
theorem z_bind {k : Nat} {as : List z_V} {r : Option z_V} {M' : z_M} {f : Option z_V × z_M → Option (Option z_V × z_M)} {q : Option (Option z_V × z_M)} (h : z_ev k as M = some (r, M')) (h2 : f (r, M') = q) : (z_ev k as M).bind f = q := by
  rw [h]; exact h2
end ZO
