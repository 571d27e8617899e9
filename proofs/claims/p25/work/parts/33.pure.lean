/-! what the turns come to: a function of some cells alone -/
abbrev p_S (o j : Nat) : Prop := (o = 0 ∧ j = 4) ∨ o = 1 ∨ o = 2 ∨ (4 ≤ o ∧ o ≤ 9)
def p_m (X A : Nat → Nat → Int) : Nat → Nat → Int := fun o j => if p_S o j then A o j else X o j
section PM
variable {X A : Nat → Nat → Int} {nd gb : Nat → Int} {C : Int} {g : Nat}
theorem p_m_get {o j : Nat} (h : p_S o j) : p_m X A o j = A o j := if_pos h
theorem p_m_u {o j : Nat} {v : Int} (h : p_S o j) : a_u (p_m X A) o j v = p_m X (a_u A o j v) := by
  funext o' j'
  unfold a_u p_m
  by_cases e : o' = o ∧ j' = j
  · rw [if_pos e, if_pos (by rw [e.1, e.2]; exact h)]; exact (if_pos e).symm
  · rw [if_neg e]
    by_cases q : p_S o' j'
    · rw [if_pos q, if_pos q]; exact (if_neg e).symm
    · rw [if_neg q, if_neg q]
theorem p_g {o j : Nat} (h : 4 ≤ o ∧ o ≤ 9) : p_m X A o j = A o j := p_m_get (Or.inr (Or.inr (Or.inr h)))
theorem p_g1 {j : Nat} : p_m X A 1 j = A 1 j := p_m_get (Or.inr (Or.inl rfl))
theorem p_g2 {j : Nat} : p_m X A 2 j = A 2 j := p_m_get (Or.inr (Or.inr (Or.inl rfl)))
theorem p_g04 : p_m X A 0 4 = A 0 4 := p_m_get (Or.inl ⟨rfl, rfl⟩)
theorem p_u {o j : Nat} {v : Int} (h : 4 ≤ o ∧ o ≤ 9) : a_u (p_m X A) o j v = p_m X (a_u A o j v) := p_m_u (Or.inr (Or.inr (Or.inr h)))
theorem p_u04 {v : Int} : a_u (p_m X A) 0 4 v = p_m X (a_u A 0 4 v) := p_m_u (Or.inl ⟨rfl, rfl⟩)
theorem p_vis {w : Int} : v_vis nd g w (p_m X A) = p_m X (v_vis nd g w A) := by
  unfold v_vis
  rw [p_g (by decide), p_g (by decide), p_u (by decide), p_u (by decide)]
theorem p_wc : ∀ (n : Nat) (which : Int) (A : Nat → Nat → Int), v_wc C nd g n which (p_m X A) = ((v_wc C nd g n which A).1, p_m X (v_wc C nd g n which A).2) := by
  intro n
  induction n with
  | zero => intro which A; rfl
  | succ n ih =>
    intro which A
    rw [v_wc_succ, v_wc_succ, p_g (by decide), p_g (by decide), p_g (by decide), p_vis, ih, ih]
    repeat' split
    all_goals rfl
theorem p_sr : ∀ (L : List Nat) (r : Int), v_sr nd g (p_m X A) L r = v_sr nd g A L r := by
  intro L
  induction L with
  | nil => intro r; rfl
  | cons c L ih =>
    intro r
    rw [v_sr_cons, v_sr_cons, p_g (by decide), p_g (by decide), p_g (by decide), ih]
theorem p_sk {r : Int} {k : Nat} : v_sk (p_m X A) nd g r k = p_m X (v_sk A nd g r k) := by
  funext o j
  unfold v_sk
  rw [p_g (by decide), p_g (by decide), p_g (by decide)]
  by_cases h : o = 9 ∧ j < k ∧ A 7 j = (g : Int) ∧ 0 < nd j
  · rw [if_pos h]
    unfold p_m
    rw [if_pos (Or.inr (Or.inr (Or.inr (by omega))))]; exact (if_pos h).symm
  · rw [if_neg h]
    unfold p_m
    by_cases s : p_S o j
    · rw [if_pos s, if_pos s]; exact (if_neg h).symm
    · rw [if_neg s, if_neg s]
theorem p_la1 : v_la1 C nd g (p_m X A) = p_m X (v_la1 C nd g A) := by
  unfold v_la1
  rw [p_g (by decide), p_wc]
  dsimp only
  rw [p_g (by decide), p_sr, p_sk, p_wc]
  split <;> rfl
theorem p_ok : v_ok C nd g (p_m X A) ↔ v_ok C nd g A := by
  unfold v_ok
  rw [p_g (by decide), p_g (by decide)]
theorem p_la {b : Int} : v_la C nd b g (p_m X A) = p_m X (v_la C nd b g A) := by
  unfold v_la
  by_cases h : b = 0
  · rw [if_pos h, if_pos h]
  · rw [if_neg h, if_neg h]
    by_cases q : v_ok C nd g A
    · rw [if_pos q, if_pos (p_ok.mpr q)]
    · rw [if_neg q, if_neg (fun z => q (p_ok.mp z)), p_la1]
theorem p_ln {b : Int} : v_ln C nd b g (p_m X A) = v_ln C nd b g A := by
  unfold v_ln
  rw [p_la, p_g (by decide)]
theorem p_gn {w : Int} : v_gn nd gb w (p_m X A) = v_gn nd gb w A := by
  unfold v_gn
  rw [p_g2, p_u04, p_ln]
theorem p_gv {w : Int} : v_gv nd gb w (p_m X A) = p_m X (v_gv nd gb w A) := by
  unfold v_gv
  rw [p_gn, p_g2, p_u04, p_la, p_g (by decide), p_g (by decide), p_u (by decide)]
theorem p_wg : ∀ (n : Nat) (T A : Nat → Nat → Int), v_wg nd gb n T (p_m X A) = ((v_wg nd gb n T A).1, (v_wg nd gb n T A).2.1, p_m X (v_wg nd gb n T A).2.2) := by
  intro n
  induction n with
  | zero => intro T A; rfl
  | succ n ih =>
    intro T A
    rw [v_wg_succ, v_wg_succ, p_g1, p_g04, p_g (by decide), p_g (by decide), p_gn, p_gv, ih]
    repeat' split
    all_goals rfl
theorem p_srg {gn : Nat → Int} : ∀ (L : List Nat) (r : Int), v_srg gn (p_m X A) L r = v_srg gn A L r := by
  intro L
  induction L with
  | nil => intro r; rfl
  | cons c L ih =>
    intro r
    rw [v_srg_cons, v_srg_cons, p_g (by decide), p_g (by decide), ih]
theorem p_skg {gn : Nat → Int} {r : Int} {k : Nat} : v_skg (p_m X A) gn r k = p_m X (v_skg A gn r k) := by
  funext o j
  unfold v_skg
  rw [p_g (by decide), p_g (by decide)]
  by_cases h : o = 5 ∧ j < k ∧ 0 < gn j
  · rw [if_pos h]
    unfold p_m
    rw [if_pos (Or.inr (Or.inr (Or.inr (by omega))))]; exact (if_pos h).symm
  · rw [if_neg h]
    unfold p_m
    by_cases s : p_S o j
    · rw [if_pos s, if_pos s]; exact (if_neg h).symm
    · rw [if_neg s, if_neg s]
theorem p_pg : v_pg nd gb (p_m X A) = ((v_pg nd gb A).1, p_m X (v_pg nd gb A).2) := by
  unfold v_pg
  rw [p_g04, p_g1, p_g2, p_ln, p_la, p_g (by decide)]
  split <;> rfl
theorem p_nt {T : Nat → Nat → Int} : v_nt nd gb T (p_m X A) = p_m X (v_nt nd gb T A) := by
  unfold v_nt
  rw [p_pg, p_g1]
  dsimp only
  rw [p_wg]
  dsimp only
  rw [p_srg, p_skg, p_wg]
  repeat' split
  all_goals rfl
end PM
theorem p_nt_eq {nd gb : Nat → Int} {T A A' : Nat → Nat → Int} (h : ∀ o j, p_S o j → A' o j = A o j) : (∀ o j, p_S o j → v_nt nd gb T A' o j = v_nt nd gb T A o j) ∧ ∀ o j, ¬ p_S o j → v_nt nd gb T A' o j = A' o j := by
  have e : A' = p_m A' A := by
    funext o j
    unfold p_m
    by_cases q : p_S o j
    · rw [if_pos q]; exact h o j q
    · rw [if_neg q]
  have e2 : v_nt nd gb T A' = p_m A' (v_nt nd gb T A) := by
    conv => lhs; rw [e]
    exact p_nt
  rw [e2]
  exact ⟨fun o j q => p_m_get q, fun o j q => if_neg q⟩
/-- Turns' own rows matter by what the groups need, of those that are there -/
theorem p_wg_T {nd gb : Nat → Int} : ∀ (n : Nat) (T T' A : Nat → Nat → Int), (v_wg nd gb n T A).1 = (v_wg nd gb n T' A).1 ∧ (v_wg nd gb n T A).2.2 = (v_wg nd gb n T' A).2.2 ∧ ∀ i : Nat, T 28 i = T' 28 i → (v_wg nd gb n T A).2.1 28 i = (v_wg nd gb n T' A).2.1 28 i := by
  intro n
  induction n with
  | zero => intro T T' A; exact ⟨rfl, rfl, fun i h => h⟩
  | succ n ih =>
    intro T T' A
    rw [v_wg_succ, v_wg_succ]
    have e : ∀ (w : Nat) (v : Int) (i : Nat), T 28 i = T' 28 i → a_u T 28 w v 28 i = a_u T' 28 w v 28 i := fun w v i h => by rw [a_u_at, a_u_at, h]
    split
    · obtain ⟨a, b, c⟩ := ih (a_u T 28 (v_nx (A 1 0) (A 0 4)).toNat (v_gn nd gb (v_nx (A 1 0) (A 0 4)) A)) (a_u T' 28 (v_nx (A 1 0) (A 0 4)).toNat (v_gn nd gb (v_nx (A 1 0) (A 0 4)) A)) (v_gv nd gb (v_nx (A 1 0) (A 0 4)) A)
      exact ⟨a, b, fun i h => c i (e _ _ i h)⟩
    · split
      · exact ⟨rfl, rfl, fun i h => e _ _ i h⟩
      · obtain ⟨a, b, c⟩ := ih (a_u T 28 (v_nx (A 1 0) (A 0 4)).toNat (v_gn nd gb (v_nx (A 1 0) (A 0 4)) A)) (a_u T' 28 (v_nx (A 1 0) (A 0 4)).toNat (v_gn nd gb (v_nx (A 1 0) (A 0 4)) A)) (v_gv nd gb (v_nx (A 1 0) (A 0 4)) A)
        exact ⟨a, b, fun i h => c i (e _ _ i h)⟩
theorem p_srg_gn {gn gn' : Nat → Int} {A : Nat → Nat → Int} : ∀ (L : List Nat) (r : Int), (∀ c ∈ L, gn c = gn' c) → v_srg gn A L r = v_srg gn' A L r := by
  intro L
  induction L with
  | nil => intro r _; rfl
  | cons c L ih =>
    intro r h
    rw [v_srg_cons, v_srg_cons, h c List.mem_cons_self]
    exact ih _ fun k hk => h k (List.mem_cons_of_mem _ hk)
theorem p_skg_gn {gn gn' : Nat → Int} {A : Nat → Nat → Int} {r : Int} {k : Nat} (h : ∀ c, c < k → gn c = gn' c) : v_skg A gn r k = v_skg A gn' r k := by
  funext o j
  unfold v_skg
  by_cases q : j < k
  · rw [h j q]
  · rw [if_neg (fun z => q z.2.1), if_neg (fun z => q z.2.1)]
theorem p_nt_T {nd gb : Nat → Int} {T T' A : Nat → Nat → Int} (h3 : A 1 0 ≤ 3) (h : ∀ i : Nat, i < 3 → T 28 i = T' 28 i) : v_nt nd gb T A = v_nt nd gb T' A := by
  unfold v_nt
  obtain ⟨a, b, c⟩ := p_wg_T (nd := nd) (gb := gb) (A 1 0).toNat T T' (v_pg nd gb A).2
  have c' : ∀ i : Nat, i < (A 1 0).toNat → (v_wg nd gb (A 1 0).toNat T (v_pg nd gb A).2).2.1 28 i = (v_wg nd gb (A 1 0).toNat T' (v_pg nd gb A).2).2.1 28 i := fun i hi => c i (h i (by omega))
  rw [a, b]
  rw [p_srg_gn (gn := (v_wg nd gb (A 1 0).toNat T (v_pg nd gb A).2).2.1 28) (gn' := (v_wg nd gb (A 1 0).toNat T' (v_pg nd gb A).2).2.1 28) (s_rg (A 1 0).toNat) 1000000 (fun k hk => c' k (s_rg_mem.mp hk)), p_skg_gn c']
  rw [(p_wg_T (nd := nd) (gb := gb) (A 1 0).toNat (v_wg nd gb (A 1 0).toNat T (v_pg nd gb A).2).2.1 (v_wg nd gb (A 1 0).toNat T' (v_pg nd gb A).2).2.1 _).2.1]
/-- groups in which nobody waits keep a deficit of 0 -/
def g_Z (G : Int) (gb : Nat → Int) (A : Nat → Nat → Int) : Prop := ∀ g : Nat, (g : Int) < G → gb g = 0 → A 5 g = 0
theorem g_Z_gv {G : Int} {nd gb : Nat → Int} {A : Nat → Nat → Int} (hJ : g_J nd gb A) {w : Nat} (hw : (w : Int) < A 1 0) (h : g_Z G gb A) : g_Z G gb (v_gv nd gb (w : Int) A) := by
  intro g hG hg
  have f := v_gv_fr hJ (w := (w : Int)) (by omega) hw
  by_cases e : g = w
  · subst e
    exact ((v_gv_now hJ hw).1 hg).2
  · rw [f.1 5 g (by decide) (by omega) (by omega) (by omega)]
    exact h g hG hg
theorem g_Z_mg {G : Int} {nd gb : Nat → Int} {B : Nat → Nat → Int} : ∀ (n : Nat) (A : Nat → Nat → Int), g_J nd gb A → g_Z G gb A → r_mg nd gb n A B → g_Z G gb B := by
  intro n
  induction n with
  | zero => intro A _ _ h; exact absurd h id
  | succ n ih =>
    intro A hJ h hr
    have hin := v_nx_in (C := A 1 0) (which := A 0 4) hJ.2.1.1
    rw [r_mg_succ] at hr
    obtain ⟨w, hw⟩ : ∃ w : Nat, v_nx (A 1 0) (A 0 4) = (w : Int) := ⟨(v_nx (A 1 0) (A 0 4)).toNat, by omega⟩
    rw [hw] at hr hin
    have h' := g_Z_gv hJ hin.2 h
    split at hr
    · rw [hr]; exact h'
    · exact ih _ (v_gv_J hJ hin.1 hin.2) h' hr
theorem g_Z_pg {G : Int} {nd gb : Nat → Int} {A : Nat → Nat → Int} (hJ : g_J nd gb A) (h : g_Z G gb A) : g_Z G gb (v_pg nd gb A).2 := by
  unfold v_pg
  split
  · rename_i q
    intro g hG hg
    have hla := v_la_props hJ (g := (A 0 4).toNat) (by omega)
    show v_la (A 2 0) nd (gb (A 0 4).toNat) (A 0 4).toNat A 5 g = 0
    rw [hla.1.1 5 g (by decide) (by omega)]
    exact h g hG hg
  · exact h
