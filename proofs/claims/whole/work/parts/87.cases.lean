/-! the cases of the law; by gen_law.py -/
def lw_K (s : State) (D : va_G) (cA : Nat → ClassId) (ad : Nat → Nat) : Prop := va_K D z_cl (z_tys cA) s ∧ z_Nok s ∧ z_inj ad ∧ ∀ q, z_A ad q → s.heap.size ≤ q
theorem i_char (x : Int32) : 0 ≤ ((x.toUInt32 % 65536).toInt32).toInt ∧ ((x.toUInt32 % 65536).toInt32).toInt ≤ 65535 := by
  rw [pk_char, nI_toInt (by omega)]
  omega
set_option maxHeartbeats 4000000 in
set_option maxRecDepth 100000 in
theorem lc_0 {p : Program} {e : Env} {s : State} {m : MethodId} {below : List Frame} {meth : Method} {c : Code} {l : Launch} {b L : Nat} {xs : Nat → Int32} (C0 : lw_At p s m meth c b L xs) {D : va_G} {cA : Nat → ClassId} {ad : Nat → Nat} (E : lw_K s D cA ad) {M : z_M} (hR : w_R M) (hM : z_okM M) {x3 : Int32} (h1 : vp_in (x3 + 1) L) (h2 : vp_in (x3 + 2) L) (h3 : vp_in (x3 + 3) L) (h4 : vp_in (x3 + 4) L) {H : Heap} {locs : List Loc} (hP : va_P D z_cl (z_ws ad cA M) H) (hS : va_S (fun q : Nat => s.heap.size ≤ q) s.heap H locs) {ls : Array Slot} (hl : lv_has ls 4 [(3, .int x3), (2, .ref (ad (z_ix 0 30))), (1, .ref (ad (z_ix 0 21))), (0, .ref b)]) (kk : ∀ (M2 : z_M) (H1 : Heap) (locs1 : List Loc), w_R M2 → z_okM M2 → va_P D z_cl (z_ws ad cA M2) H1 → va_S (fun q : Nat => s.heap.size ≤ q) s.heap H1 locs1 → W p l e room_1 s m #[Value.ref b] below meth c H1 locs1 162 17458 (lw_Z below #[Value.ref b] s) (F0 m 694 ls [])) : W p l e room_1 s m #[Value.ref b] below meth c H locs 162 17458 (lw_Z below #[Value.ref b] s) (F0 m 136 ls []) := by
  obtain ⟨hx, hb, hr, hml, hown, htsL, hX, hbl, hlocks, hgv⟩ := C0
  have hts : ∀ w ∈ z_G, w.before #[Value.ref b] s = true := fun w hw => htsL w (List.mem_filter.mp hw).1
  obtain ⟨hK, hN, had, hA⟩ := E
  have hbA : ¬ (fun q : Nat => s.heap.size ≤ q) b := Nat.not_le.mpr hbl
  obtain ⟨r, M1, M2, e1, e2, hR2⟩ := c_addGroup (xs (x3 + 1).toNatClampNeg).toInt M hR
  refine lv_aload_n hx hb (by decide +kernel : decode code 136 = .ok (.aload_n 1, 1)) rfl (lv_at hl 2 rfl) ?_
  refine lv_aload_n hx hb (by decide +kernel : decode code 137 = .ok (.aload_n 0, 1)) rfl (lv_at hl 3 rfl) ?_
  refine lv_iload_n hx hb (by decide +kernel : decode code 138 = .ok (.iload_n 3, 1)) rfl (lv_at hl 0 rfl) ?_
  refine lv_iconst (v := 1) hx hb (by decide +kernel : decode code 139 = .ok (.iconst 1, 1)) (by decide) ?_
  refine lv_iadd hx hb (by decide +kernel : decode code 140 = .ok (.iadd, 1)) ?_
  refine va_sld hx hb hX hbl hbA hS h1 (by decide +kernel : decode code 141 = .ok (.iaload, 1)) ?_
  refine z_lcall (k := 63) (o := 21) (vs := [xs (x3 + 1).toNatClampNeg]) (rest := []) hx hb hml hown hts hK hN had hA hM (Nat.le_of_ble_eq_true rfl) (Nat.le_of_ble_eq_true rfl) ⟨(Nat.le_of_ble_eq_true rfl), (Nat.le_of_ble_eq_true rfl)⟩ z_mt63 rfl rfl ⟨(Nat.le_of_ble_eq_true rfl), (Nat.le_of_ble_eq_true rfl)⟩ (Nat.le_of_ble_eq_true rfl) (z_m2 (i := 25) rfl rfl) rfl rfl rfl e1 hl hP hS (by decide +kernel : decode code 142 = .ok (.invokevirtual 13, 3)) (by simp [Value.category]) (fun H locs hP hM hS => ?_)
  refine lv_aload_n hx hb (by decide +kernel : decode code 145 = .ok (.aload_n 2, 1)) rfl (lv_at hl 1 rfl) ?_
  refine lv_aload_n hx hb (by decide +kernel : decode code 146 = .ok (.aload_n 0, 1)) rfl (lv_at hl 3 rfl) ?_
  refine lv_iload_n hx hb (by decide +kernel : decode code 147 = .ok (.iload_n 3, 1)) rfl (lv_at hl 0 rfl) ?_
  refine lv_iconst (v := 1) hx hb (by decide +kernel : decode code 148 = .ok (.iconst 1, 1)) (by decide) ?_
  refine lv_iadd hx hb (by decide +kernel : decode code 149 = .ok (.iadd, 1)) ?_
  refine va_sld hx hb hX hbl hbA hS h1 (by decide +kernel : decode code 150 = .ok (.iaload, 1)) ?_
  refine z_lcall (k := 89) (o := 30) (vs := [xs (x3 + 1).toNatClampNeg]) (rest := [.int (Int32.ofInt r)]) hx hb hml hown hts hK hN had hA hM (Nat.le_of_ble_eq_true rfl) (Nat.le_of_ble_eq_true rfl) ⟨(Nat.le_of_ble_eq_true rfl), (Nat.le_of_ble_eq_true rfl)⟩ z_mt89 rfl rfl ⟨(Nat.le_of_ble_eq_true rfl), (Nat.le_of_ble_eq_true rfl)⟩ (Nat.le_of_ble_eq_true rfl) (z_m3 (i := 224) rfl rfl) rfl rfl rfl e2 hl hP hS (by decide +kernel : decode code 151 = .ok (.invokevirtual 17, 3)) (by simp [Value.category]) (fun H locs hP hM hS => ?_)
  exact lv_icmp_eq (tgt := 694) hx hb (by decide +kernel : decode code 154 = .ok (.if_icmp .eq 540, 3)) (by decide) (fun _ => kk M2 H locs hR2 hM hP hS) (fun h => absurd rfl h)
set_option maxHeartbeats 4000000 in
set_option maxRecDepth 100000 in
theorem lc_1 {p : Program} {e : Env} {s : State} {m : MethodId} {below : List Frame} {meth : Method} {c : Code} {l : Launch} {b L : Nat} {xs : Nat → Int32} (C0 : lw_At p s m meth c b L xs) {D : va_G} {cA : Nat → ClassId} {ad : Nat → Nat} (E : lw_K s D cA ad) {M : z_M} (hR : w_R M) (hM : z_okM M) {x3 : Int32} (h1 : vp_in (x3 + 1) L) (h2 : vp_in (x3 + 2) L) (h3 : vp_in (x3 + 3) L) (h4 : vp_in (x3 + 4) L) {H : Heap} {locs : List Loc} (hP : va_P D z_cl (z_ws ad cA M) H) (hS : va_S (fun q : Nat => s.heap.size ≤ q) s.heap H locs) {ls : Array Slot} (hl : lv_has ls 4 [(3, .int x3), (2, .ref (ad (z_ix 0 30))), (1, .ref (ad (z_ix 0 21))), (0, .ref b)]) (kk : ∀ (M2 : z_M) (H1 : Heap) (locs1 : List Loc), w_R M2 → z_okM M2 → va_P D z_cl (z_ws ad cA M2) H1 → va_S (fun q : Nat => s.heap.size ≤ q) s.heap H1 locs1 → W p l e room_1 s m #[Value.ref b] below meth c H1 locs1 162 17458 (lw_Z below #[Value.ref b] s) (F0 m 694 ls [])) : W p l e room_1 s m #[Value.ref b] below meth c H locs 162 17458 (lw_Z below #[Value.ref b] s) (F0 m 159 ls []) := by
  obtain ⟨hx, hb, hr, hml, hown, htsL, hX, hbl, hlocks, hgv⟩ := C0
  have hts : ∀ w ∈ z_G, w.before #[Value.ref b] s = true := fun w hw => htsL w (List.mem_filter.mp hw).1
  obtain ⟨hK, hN, had, hA⟩ := E
  have hbA : ¬ (fun q : Nat => s.heap.size ≤ q) b := Nat.not_le.mpr hbl
  obtain ⟨r, M1, M2, e1, e2, hR2⟩ := c_addClass (xs (x3 + 1).toNatClampNeg).toInt (xs (x3 + 2).toNatClampNeg).toInt (xs (x3 + 3).toNatClampNeg).toInt (xs (x3 + 4).toNatClampNeg).toInt M hR
  refine lv_aload_n hx hb (by decide +kernel : decode code 159 = .ok (.aload_n 1, 1)) rfl (lv_at hl 2 rfl) ?_
  refine lv_aload_n hx hb (by decide +kernel : decode code 160 = .ok (.aload_n 0, 1)) rfl (lv_at hl 3 rfl) ?_
  refine lv_iload_n hx hb (by decide +kernel : decode code 161 = .ok (.iload_n 3, 1)) rfl (lv_at hl 0 rfl) ?_
  refine lv_iconst (v := 1) hx hb (by decide +kernel : decode code 162 = .ok (.iconst 1, 1)) (by decide) ?_
  refine lv_iadd hx hb (by decide +kernel : decode code 163 = .ok (.iadd, 1)) ?_
  refine va_sld hx hb hX hbl hbA hS h1 (by decide +kernel : decode code 164 = .ok (.iaload, 1)) ?_
  refine lv_aload_n hx hb (by decide +kernel : decode code 165 = .ok (.aload_n 0, 1)) rfl (lv_at hl 3 rfl) ?_
  refine lv_iload_n hx hb (by decide +kernel : decode code 166 = .ok (.iload_n 3, 1)) rfl (lv_at hl 0 rfl) ?_
  refine lv_iconst (v := 2) hx hb (by decide +kernel : decode code 167 = .ok (.iconst 2, 1)) (by decide) ?_
  refine lv_iadd hx hb (by decide +kernel : decode code 168 = .ok (.iadd, 1)) ?_
  refine va_sld hx hb hX hbl hbA hS h2 (by decide +kernel : decode code 169 = .ok (.iaload, 1)) ?_
  refine lv_aload_n hx hb (by decide +kernel : decode code 170 = .ok (.aload_n 0, 1)) rfl (lv_at hl 3 rfl) ?_
  refine lv_iload_n hx hb (by decide +kernel : decode code 171 = .ok (.iload_n 3, 1)) rfl (lv_at hl 0 rfl) ?_
  refine lv_iconst (v := 3) hx hb (by decide +kernel : decode code 172 = .ok (.iconst 3, 1)) (by decide) ?_
  refine lv_iadd hx hb (by decide +kernel : decode code 173 = .ok (.iadd, 1)) ?_
  refine va_sld hx hb hX hbl hbA hS h3 (by decide +kernel : decode code 174 = .ok (.iaload, 1)) ?_
  refine lv_aload_n hx hb (by decide +kernel : decode code 175 = .ok (.aload_n 0, 1)) rfl (lv_at hl 3 rfl) ?_
  refine lv_iload_n hx hb (by decide +kernel : decode code 176 = .ok (.iload_n 3, 1)) rfl (lv_at hl 0 rfl) ?_
  refine lv_iconst (v := 4) hx hb (by decide +kernel : decode code 177 = .ok (.iconst 4, 1)) (by decide) ?_
  refine lv_iadd hx hb (by decide +kernel : decode code 178 = .ok (.iadd, 1)) ?_
  refine va_sld hx hb hX hbl hbA hS h4 (by decide +kernel : decode code 179 = .ok (.iaload, 1)) ?_
  refine z_lcall (k := 62) (o := 21) (vs := [xs (x3 + 1).toNatClampNeg, xs (x3 + 2).toNatClampNeg, xs (x3 + 3).toNatClampNeg, xs (x3 + 4).toNatClampNeg]) (rest := []) hx hb hml hown hts hK hN had hA hM (Nat.le_of_ble_eq_true rfl) (Nat.le_of_ble_eq_true rfl) ⟨(Nat.le_of_ble_eq_true rfl), (Nat.le_of_ble_eq_true rfl)⟩ z_mt62 rfl rfl ⟨(Nat.le_of_ble_eq_true rfl), (Nat.le_of_ble_eq_true rfl)⟩ (Nat.le_of_ble_eq_true rfl) (z_m2 (i := 72) rfl rfl) rfl rfl rfl e1 hl hP hS (by decide +kernel : decode code 180 = .ok (.invokevirtual 18, 3)) (by simp [Value.category]) (fun H locs hP hM hS => ?_)
  refine lv_aload_n hx hb (by decide +kernel : decode code 183 = .ok (.aload_n 2, 1)) rfl (lv_at hl 1 rfl) ?_
  refine lv_aload_n hx hb (by decide +kernel : decode code 184 = .ok (.aload_n 0, 1)) rfl (lv_at hl 3 rfl) ?_
  refine lv_iload_n hx hb (by decide +kernel : decode code 185 = .ok (.iload_n 3, 1)) rfl (lv_at hl 0 rfl) ?_
  refine lv_iconst (v := 1) hx hb (by decide +kernel : decode code 186 = .ok (.iconst 1, 1)) (by decide) ?_
  refine lv_iadd hx hb (by decide +kernel : decode code 187 = .ok (.iadd, 1)) ?_
  refine va_sld hx hb hX hbl hbA hS h1 (by decide +kernel : decode code 188 = .ok (.iaload, 1)) ?_
  refine lv_aload_n hx hb (by decide +kernel : decode code 189 = .ok (.aload_n 0, 1)) rfl (lv_at hl 3 rfl) ?_
  refine lv_iload_n hx hb (by decide +kernel : decode code 190 = .ok (.iload_n 3, 1)) rfl (lv_at hl 0 rfl) ?_
  refine lv_iconst (v := 2) hx hb (by decide +kernel : decode code 191 = .ok (.iconst 2, 1)) (by decide) ?_
  refine lv_iadd hx hb (by decide +kernel : decode code 192 = .ok (.iadd, 1)) ?_
  refine va_sld hx hb hX hbl hbA hS h2 (by decide +kernel : decode code 193 = .ok (.iaload, 1)) ?_
  refine lv_aload_n hx hb (by decide +kernel : decode code 194 = .ok (.aload_n 0, 1)) rfl (lv_at hl 3 rfl) ?_
  refine lv_iload_n hx hb (by decide +kernel : decode code 195 = .ok (.iload_n 3, 1)) rfl (lv_at hl 0 rfl) ?_
  refine lv_iconst (v := 3) hx hb (by decide +kernel : decode code 196 = .ok (.iconst 3, 1)) (by decide) ?_
  refine lv_iadd hx hb (by decide +kernel : decode code 197 = .ok (.iadd, 1)) ?_
  refine va_sld hx hb hX hbl hbA hS h3 (by decide +kernel : decode code 198 = .ok (.iaload, 1)) ?_
  refine lv_aload_n hx hb (by decide +kernel : decode code 199 = .ok (.aload_n 0, 1)) rfl (lv_at hl 3 rfl) ?_
  refine lv_iload_n hx hb (by decide +kernel : decode code 200 = .ok (.iload_n 3, 1)) rfl (lv_at hl 0 rfl) ?_
  refine lv_iconst (v := 4) hx hb (by decide +kernel : decode code 201 = .ok (.iconst 4, 1)) (by decide) ?_
  refine lv_iadd hx hb (by decide +kernel : decode code 202 = .ok (.iadd, 1)) ?_
  refine va_sld hx hb hX hbl hbA hS h4 (by decide +kernel : decode code 203 = .ok (.iaload, 1)) ?_
  refine z_lcall (k := 88) (o := 30) (vs := [xs (x3 + 1).toNatClampNeg, xs (x3 + 2).toNatClampNeg, xs (x3 + 3).toNatClampNeg, xs (x3 + 4).toNatClampNeg]) (rest := [.int (Int32.ofInt r)]) hx hb hml hown hts hK hN had hA hM (Nat.le_of_ble_eq_true rfl) (Nat.le_of_ble_eq_true rfl) ⟨(Nat.le_of_ble_eq_true rfl), (Nat.le_of_ble_eq_true rfl)⟩ z_mt88 rfl rfl ⟨(Nat.le_of_ble_eq_true rfl), (Nat.le_of_ble_eq_true rfl)⟩ (Nat.le_of_ble_eq_true rfl) (z_m3 (i := 234) rfl rfl) rfl rfl rfl e2 hl hP hS (by decide +kernel : decode code 204 = .ok (.invokevirtual 22, 3)) (by simp [Value.category]) (fun H locs hP hM hS => ?_)
  exact lv_icmp_eq (tgt := 694) hx hb (by decide +kernel : decode code 207 = .ok (.if_icmp .eq 487, 3)) (by decide) (fun _ => kk M2 H locs hR2 hM hP hS) (fun h => absurd rfl h)
set_option maxHeartbeats 4000000 in
set_option maxRecDepth 100000 in
theorem lc_2 {p : Program} {e : Env} {s : State} {m : MethodId} {below : List Frame} {meth : Method} {c : Code} {l : Launch} {b L : Nat} {xs : Nat → Int32} (C0 : lw_At p s m meth c b L xs) {D : va_G} {cA : Nat → ClassId} {ad : Nat → Nat} (E : lw_K s D cA ad) {M : z_M} (hR : w_R M) (hM : z_okM M) {x3 : Int32} (h1 : vp_in (x3 + 1) L) (h2 : vp_in (x3 + 2) L) (h3 : vp_in (x3 + 3) L) (h4 : vp_in (x3 + 4) L) {H : Heap} {locs : List Loc} (hP : va_P D z_cl (z_ws ad cA M) H) (hS : va_S (fun q : Nat => s.heap.size ≤ q) s.heap H locs) {ls : Array Slot} (hl : lv_has ls 4 [(3, .int x3), (2, .ref (ad (z_ix 0 30))), (1, .ref (ad (z_ix 0 21))), (0, .ref b)]) (kk : ∀ (M2 : z_M) (H1 : Heap) (locs1 : List Loc), w_R M2 → z_okM M2 → va_P D z_cl (z_ws ad cA M2) H1 → va_S (fun q : Nat => s.heap.size ≤ q) s.heap H1 locs1 → W p l e room_1 s m #[Value.ref b] below meth c H1 locs1 162 17458 (lw_Z below #[Value.ref b] s) (F0 m 694 ls [])) : W p l e room_1 s m #[Value.ref b] below meth c H locs 162 17458 (lw_Z below #[Value.ref b] s) (F0 m 212 ls []) := by
  obtain ⟨hx, hb, hr, hml, hown, htsL, hX, hbl, hlocks, hgv⟩ := C0
  have hts : ∀ w ∈ z_G, w.before #[Value.ref b] s = true := fun w hw => htsL w (List.mem_filter.mp hw).1
  obtain ⟨hK, hN, had, hA⟩ := E
  have hbA : ¬ (fun q : Nat => s.heap.size ≤ q) b := Nat.not_le.mpr hbl
  obtain ⟨r, M1, M2, e1, e2, hR2⟩ := c_setGroupQuantum (xs (x3 + 1).toNatClampNeg).toInt (xs (x3 + 2).toNatClampNeg).toInt M hR
  refine lv_aload_n hx hb (by decide +kernel : decode code 212 = .ok (.aload_n 1, 1)) rfl (lv_at hl 2 rfl) ?_
  refine lv_aload_n hx hb (by decide +kernel : decode code 213 = .ok (.aload_n 0, 1)) rfl (lv_at hl 3 rfl) ?_
  refine lv_iload_n hx hb (by decide +kernel : decode code 214 = .ok (.iload_n 3, 1)) rfl (lv_at hl 0 rfl) ?_
  refine lv_iconst (v := 1) hx hb (by decide +kernel : decode code 215 = .ok (.iconst 1, 1)) (by decide) ?_
  refine lv_iadd hx hb (by decide +kernel : decode code 216 = .ok (.iadd, 1)) ?_
  refine va_sld hx hb hX hbl hbA hS h1 (by decide +kernel : decode code 217 = .ok (.iaload, 1)) ?_
  refine lv_aload_n hx hb (by decide +kernel : decode code 218 = .ok (.aload_n 0, 1)) rfl (lv_at hl 3 rfl) ?_
  refine lv_iload_n hx hb (by decide +kernel : decode code 219 = .ok (.iload_n 3, 1)) rfl (lv_at hl 0 rfl) ?_
  refine lv_iconst (v := 2) hx hb (by decide +kernel : decode code 220 = .ok (.iconst 2, 1)) (by decide) ?_
  refine lv_iadd hx hb (by decide +kernel : decode code 221 = .ok (.iadd, 1)) ?_
  refine va_sld hx hb hX hbl hbA hS h2 (by decide +kernel : decode code 222 = .ok (.iaload, 1)) ?_
  refine z_lcall (k := 82) (o := 21) (vs := [xs (x3 + 1).toNatClampNeg, xs (x3 + 2).toNatClampNeg]) (rest := []) hx hb hml hown hts hK hN had hA hM (Nat.le_of_ble_eq_true rfl) (Nat.le_of_ble_eq_true rfl) ⟨(Nat.le_of_ble_eq_true rfl), (Nat.le_of_ble_eq_true rfl)⟩ z_mt82 rfl rfl ⟨(Nat.le_of_ble_eq_true rfl), (Nat.le_of_ble_eq_true rfl)⟩ (Nat.le_of_ble_eq_true rfl) (z_m2 (i := 84) rfl rfl) rfl rfl rfl e1 hl hP hS (by decide +kernel : decode code 223 = .ok (.invokevirtual 23, 3)) (by simp [Value.category]) (fun H locs hP hM hS => ?_)
  refine lv_aload_n hx hb (by decide +kernel : decode code 226 = .ok (.aload_n 2, 1)) rfl (lv_at hl 1 rfl) ?_
  refine lv_aload_n hx hb (by decide +kernel : decode code 227 = .ok (.aload_n 0, 1)) rfl (lv_at hl 3 rfl) ?_
  refine lv_iload_n hx hb (by decide +kernel : decode code 228 = .ok (.iload_n 3, 1)) rfl (lv_at hl 0 rfl) ?_
  refine lv_iconst (v := 1) hx hb (by decide +kernel : decode code 229 = .ok (.iconst 1, 1)) (by decide) ?_
  refine lv_iadd hx hb (by decide +kernel : decode code 230 = .ok (.iadd, 1)) ?_
  refine va_sld hx hb hX hbl hbA hS h1 (by decide +kernel : decode code 231 = .ok (.iaload, 1)) ?_
  refine lv_aload_n hx hb (by decide +kernel : decode code 232 = .ok (.aload_n 0, 1)) rfl (lv_at hl 3 rfl) ?_
  refine lv_iload_n hx hb (by decide +kernel : decode code 233 = .ok (.iload_n 3, 1)) rfl (lv_at hl 0 rfl) ?_
  refine lv_iconst (v := 2) hx hb (by decide +kernel : decode code 234 = .ok (.iconst 2, 1)) (by decide) ?_
  refine lv_iadd hx hb (by decide +kernel : decode code 235 = .ok (.iadd, 1)) ?_
  refine va_sld hx hb hX hbl hbA hS h2 (by decide +kernel : decode code 236 = .ok (.iaload, 1)) ?_
  refine z_lcall (k := 134) (o := 30) (vs := [xs (x3 + 1).toNatClampNeg, xs (x3 + 2).toNatClampNeg]) (rest := [.int (Int32.ofInt r)]) hx hb hml hown hts hK hN had hA hM (Nat.le_of_ble_eq_true rfl) (Nat.le_of_ble_eq_true rfl) ⟨(Nat.le_of_ble_eq_true rfl), (Nat.le_of_ble_eq_true rfl)⟩ z_mt134 rfl rfl ⟨(Nat.le_of_ble_eq_true rfl), (Nat.le_of_ble_eq_true rfl)⟩ (Nat.le_of_ble_eq_true rfl) (z_m4 (i := 5) rfl rfl) rfl rfl rfl e2 hl hP hS (by decide +kernel : decode code 237 = .ok (.invokevirtual 27, 3)) (by simp [Value.category]) (fun H locs hP hM hS => ?_)
  exact lv_icmp_eq (tgt := 694) hx hb (by decide +kernel : decode code 240 = .ok (.if_icmp .eq 454, 3)) (by decide) (fun _ => kk M2 H locs hR2 hM hP hS) (fun h => absurd rfl h)
set_option maxHeartbeats 4000000 in
set_option maxRecDepth 100000 in
theorem lc_3 {p : Program} {e : Env} {s : State} {m : MethodId} {below : List Frame} {meth : Method} {c : Code} {l : Launch} {b L : Nat} {xs : Nat → Int32} (C0 : lw_At p s m meth c b L xs) {D : va_G} {cA : Nat → ClassId} {ad : Nat → Nat} (E : lw_K s D cA ad) {M : z_M} (hR : w_R M) (hM : z_okM M) {x3 : Int32} (h1 : vp_in (x3 + 1) L) (h2 : vp_in (x3 + 2) L) (h3 : vp_in (x3 + 3) L) (h4 : vp_in (x3 + 4) L) {H : Heap} {locs : List Loc} (hP : va_P D z_cl (z_ws ad cA M) H) (hS : va_S (fun q : Nat => s.heap.size ≤ q) s.heap H locs) {ls : Array Slot} (hl : lv_has ls 4 [(3, .int x3), (2, .ref (ad (z_ix 0 30))), (1, .ref (ad (z_ix 0 21))), (0, .ref b)]) (kk : ∀ (M2 : z_M) (H1 : Heap) (locs1 : List Loc), w_R M2 → z_okM M2 → va_P D z_cl (z_ws ad cA M2) H1 → va_S (fun q : Nat => s.heap.size ≤ q) s.heap H1 locs1 → W p l e room_1 s m #[Value.ref b] below meth c H1 locs1 162 17458 (lw_Z below #[Value.ref b] s) (F0 m 694 ls [])) : W p l e room_1 s m #[Value.ref b] below meth c H locs 162 17458 (lw_Z below #[Value.ref b] s) (F0 m 245 ls []) := by
  obtain ⟨hx, hb, hr, hml, hown, htsL, hX, hbl, hlocks, hgv⟩ := C0
  have hts : ∀ w ∈ z_G, w.before #[Value.ref b] s = true := fun w hw => htsL w (List.mem_filter.mp hw).1
  obtain ⟨hK, hN, had, hA⟩ := E
  have hbA : ¬ (fun q : Nat => s.heap.size ≤ q) b := Nat.not_le.mpr hbl
  obtain ⟨r, M1, M2, e1, e2, hR2⟩ := c_setQuantum (xs (x3 + 1).toNatClampNeg).toInt (xs (x3 + 2).toNatClampNeg).toInt M hR
  refine lv_aload_n hx hb (by decide +kernel : decode code 245 = .ok (.aload_n 1, 1)) rfl (lv_at hl 2 rfl) ?_
  refine lv_aload_n hx hb (by decide +kernel : decode code 246 = .ok (.aload_n 0, 1)) rfl (lv_at hl 3 rfl) ?_
  refine lv_iload_n hx hb (by decide +kernel : decode code 247 = .ok (.iload_n 3, 1)) rfl (lv_at hl 0 rfl) ?_
  refine lv_iconst (v := 1) hx hb (by decide +kernel : decode code 248 = .ok (.iconst 1, 1)) (by decide) ?_
  refine lv_iadd hx hb (by decide +kernel : decode code 249 = .ok (.iadd, 1)) ?_
  refine va_sld hx hb hX hbl hbA hS h1 (by decide +kernel : decode code 250 = .ok (.iaload, 1)) ?_
  refine lv_aload_n hx hb (by decide +kernel : decode code 251 = .ok (.aload_n 0, 1)) rfl (lv_at hl 3 rfl) ?_
  refine lv_iload_n hx hb (by decide +kernel : decode code 252 = .ok (.iload_n 3, 1)) rfl (lv_at hl 0 rfl) ?_
  refine lv_iconst (v := 2) hx hb (by decide +kernel : decode code 253 = .ok (.iconst 2, 1)) (by decide) ?_
  refine lv_iadd hx hb (by decide +kernel : decode code 254 = .ok (.iadd, 1)) ?_
  refine va_sld hx hb hX hbl hbA hS h2 (by decide +kernel : decode code 255 = .ok (.iaload, 1)) ?_
  refine z_lcall (k := 83) (o := 21) (vs := [xs (x3 + 1).toNatClampNeg, xs (x3 + 2).toNatClampNeg]) (rest := []) hx hb hml hown hts hK hN had hA hM (Nat.le_of_ble_eq_true rfl) (Nat.le_of_ble_eq_true rfl) ⟨(Nat.le_of_ble_eq_true rfl), (Nat.le_of_ble_eq_true rfl)⟩ z_mt83 rfl rfl ⟨(Nat.le_of_ble_eq_true rfl), (Nat.le_of_ble_eq_true rfl)⟩ (Nat.le_of_ble_eq_true rfl) (z_m2 (i := 88) rfl rfl) rfl rfl rfl e1 hl hP hS (by decide +kernel : decode code 256 = .ok (.invokevirtual 28, 3)) (by simp [Value.category]) (fun H locs hP hM hS => ?_)
  refine lv_aload_n hx hb (by decide +kernel : decode code 259 = .ok (.aload_n 2, 1)) rfl (lv_at hl 1 rfl) ?_
  refine lv_aload_n hx hb (by decide +kernel : decode code 260 = .ok (.aload_n 0, 1)) rfl (lv_at hl 3 rfl) ?_
  refine lv_iload_n hx hb (by decide +kernel : decode code 261 = .ok (.iload_n 3, 1)) rfl (lv_at hl 0 rfl) ?_
  refine lv_iconst (v := 1) hx hb (by decide +kernel : decode code 262 = .ok (.iconst 1, 1)) (by decide) ?_
  refine lv_iadd hx hb (by decide +kernel : decode code 263 = .ok (.iadd, 1)) ?_
  refine va_sld hx hb hX hbl hbA hS h1 (by decide +kernel : decode code 264 = .ok (.iaload, 1)) ?_
  refine lv_aload_n hx hb (by decide +kernel : decode code 265 = .ok (.aload_n 0, 1)) rfl (lv_at hl 3 rfl) ?_
  refine lv_iload_n hx hb (by decide +kernel : decode code 266 = .ok (.iload_n 3, 1)) rfl (lv_at hl 0 rfl) ?_
  refine lv_iconst (v := 2) hx hb (by decide +kernel : decode code 267 = .ok (.iconst 2, 1)) (by decide) ?_
  refine lv_iadd hx hb (by decide +kernel : decode code 268 = .ok (.iadd, 1)) ?_
  refine va_sld hx hb hX hbl hbA hS h2 (by decide +kernel : decode code 269 = .ok (.iaload, 1)) ?_
  refine z_lcall (k := 135) (o := 30) (vs := [xs (x3 + 1).toNatClampNeg, xs (x3 + 2).toNatClampNeg]) (rest := [.int (Int32.ofInt r)]) hx hb hml hown hts hK hN had hA hM (Nat.le_of_ble_eq_true rfl) (Nat.le_of_ble_eq_true rfl) ⟨(Nat.le_of_ble_eq_true rfl), (Nat.le_of_ble_eq_true rfl)⟩ z_mt135 rfl rfl ⟨(Nat.le_of_ble_eq_true rfl), (Nat.le_of_ble_eq_true rfl)⟩ (Nat.le_of_ble_eq_true rfl) (z_m4 (i := 13) rfl rfl) rfl rfl rfl e2 hl hP hS (by decide +kernel : decode code 270 = .ok (.invokevirtual 31, 3)) (by simp [Value.category]) (fun H locs hP hM hS => ?_)
  exact lv_icmp_eq (tgt := 694) hx hb (by decide +kernel : decode code 273 = .ok (.if_icmp .eq 421, 3)) (by decide) (fun _ => kk M2 H locs hR2 hM hP hS) (fun h => absurd rfl h)
set_option maxHeartbeats 4000000 in
set_option maxRecDepth 100000 in
theorem lc_4 {p : Program} {e : Env} {s : State} {m : MethodId} {below : List Frame} {meth : Method} {c : Code} {l : Launch} {b L : Nat} {xs : Nat → Int32} (C0 : lw_At p s m meth c b L xs) {D : va_G} {cA : Nat → ClassId} {ad : Nat → Nat} (E : lw_K s D cA ad) {M : z_M} (hR : w_R M) (hM : z_okM M) {x3 : Int32} (h1 : vp_in (x3 + 1) L) (h2 : vp_in (x3 + 2) L) (h3 : vp_in (x3 + 3) L) (h4 : vp_in (x3 + 4) L) {H : Heap} {locs : List Loc} (hP : va_P D z_cl (z_ws ad cA M) H) (hS : va_S (fun q : Nat => s.heap.size ≤ q) s.heap H locs) {ls : Array Slot} (hl : lv_has ls 4 [(3, .int x3), (2, .ref (ad (z_ix 0 30))), (1, .ref (ad (z_ix 0 21))), (0, .ref b)]) (kk : ∀ (M2 : z_M) (H1 : Heap) (locs1 : List Loc), w_R M2 → z_okM M2 → va_P D z_cl (z_ws ad cA M2) H1 → va_S (fun q : Nat => s.heap.size ≤ q) s.heap H1 locs1 → W p l e room_1 s m #[Value.ref b] below meth c H1 locs1 162 17458 (lw_Z below #[Value.ref b] s) (F0 m 694 ls [])) : W p l e room_1 s m #[Value.ref b] below meth c H locs 162 17458 (lw_Z below #[Value.ref b] s) (F0 m 278 ls []) := by
  obtain ⟨hx, hb, hr, hml, hown, htsL, hX, hbl, hlocks, hgv⟩ := C0
  have hts : ∀ w ∈ z_G, w.before #[Value.ref b] s = true := fun w hw => htsL w (List.mem_filter.mp hw).1
  obtain ⟨hK, hN, had, hA⟩ := E
  have hbA : ¬ (fun q : Nat => s.heap.size ≤ q) b := Nat.not_le.mpr hbl
  obtain ⟨r, M1, M2, e1, e2, hR2⟩ := c_setAge (xs (x3 + 1).toNatClampNeg).toInt (xs (x3 + 2).toNatClampNeg).toInt M hR
  refine lv_aload_n hx hb (by decide +kernel : decode code 278 = .ok (.aload_n 1, 1)) rfl (lv_at hl 2 rfl) ?_
  refine lv_aload_n hx hb (by decide +kernel : decode code 279 = .ok (.aload_n 0, 1)) rfl (lv_at hl 3 rfl) ?_
  refine lv_iload_n hx hb (by decide +kernel : decode code 280 = .ok (.iload_n 3, 1)) rfl (lv_at hl 0 rfl) ?_
  refine lv_iconst (v := 1) hx hb (by decide +kernel : decode code 281 = .ok (.iconst 1, 1)) (by decide) ?_
  refine lv_iadd hx hb (by decide +kernel : decode code 282 = .ok (.iadd, 1)) ?_
  refine va_sld hx hb hX hbl hbA hS h1 (by decide +kernel : decode code 283 = .ok (.iaload, 1)) ?_
  refine lv_aload_n hx hb (by decide +kernel : decode code 284 = .ok (.aload_n 0, 1)) rfl (lv_at hl 3 rfl) ?_
  refine lv_iload_n hx hb (by decide +kernel : decode code 285 = .ok (.iload_n 3, 1)) rfl (lv_at hl 0 rfl) ?_
  refine lv_iconst (v := 2) hx hb (by decide +kernel : decode code 286 = .ok (.iconst 2, 1)) (by decide) ?_
  refine lv_iadd hx hb (by decide +kernel : decode code 287 = .ok (.iadd, 1)) ?_
  refine va_sld hx hb hX hbl hbA hS h2 (by decide +kernel : decode code 288 = .ok (.iaload, 1)) ?_
  refine z_lcall (k := 81) (o := 21) (vs := [xs (x3 + 1).toNatClampNeg, xs (x3 + 2).toNatClampNeg]) (rest := []) hx hb hml hown hts hK hN had hA hM (Nat.le_of_ble_eq_true rfl) (Nat.le_of_ble_eq_true rfl) ⟨(Nat.le_of_ble_eq_true rfl), (Nat.le_of_ble_eq_true rfl)⟩ z_mt81 rfl rfl ⟨(Nat.le_of_ble_eq_true rfl), (Nat.le_of_ble_eq_true rfl)⟩ (Nat.le_of_ble_eq_true rfl) (z_m2 (i := 96) rfl rfl) rfl rfl rfl e1 hl hP hS (by decide +kernel : decode code 289 = .ok (.invokevirtual 32, 3)) (by simp [Value.category]) (fun H locs hP hM hS => ?_)
  refine lv_aload_n hx hb (by decide +kernel : decode code 292 = .ok (.aload_n 2, 1)) rfl (lv_at hl 1 rfl) ?_
  refine lv_aload_n hx hb (by decide +kernel : decode code 293 = .ok (.aload_n 0, 1)) rfl (lv_at hl 3 rfl) ?_
  refine lv_iload_n hx hb (by decide +kernel : decode code 294 = .ok (.iload_n 3, 1)) rfl (lv_at hl 0 rfl) ?_
  refine lv_iconst (v := 1) hx hb (by decide +kernel : decode code 295 = .ok (.iconst 1, 1)) (by decide) ?_
  refine lv_iadd hx hb (by decide +kernel : decode code 296 = .ok (.iadd, 1)) ?_
  refine va_sld hx hb hX hbl hbA hS h1 (by decide +kernel : decode code 297 = .ok (.iaload, 1)) ?_
  refine lv_aload_n hx hb (by decide +kernel : decode code 298 = .ok (.aload_n 0, 1)) rfl (lv_at hl 3 rfl) ?_
  refine lv_iload_n hx hb (by decide +kernel : decode code 299 = .ok (.iload_n 3, 1)) rfl (lv_at hl 0 rfl) ?_
  refine lv_iconst (v := 2) hx hb (by decide +kernel : decode code 300 = .ok (.iconst 2, 1)) (by decide) ?_
  refine lv_iadd hx hb (by decide +kernel : decode code 301 = .ok (.iadd, 1)) ?_
  refine va_sld hx hb hX hbl hbA hS h2 (by decide +kernel : decode code 302 = .ok (.iaload, 1)) ?_
  refine z_lcall (k := 133) (o := 30) (vs := [xs (x3 + 1).toNatClampNeg, xs (x3 + 2).toNatClampNeg]) (rest := [.int (Int32.ofInt r)]) hx hb hml hown hts hK hN had hA hM (Nat.le_of_ble_eq_true rfl) (Nat.le_of_ble_eq_true rfl) ⟨(Nat.le_of_ble_eq_true rfl), (Nat.le_of_ble_eq_true rfl)⟩ z_mt133 rfl rfl ⟨(Nat.le_of_ble_eq_true rfl), (Nat.le_of_ble_eq_true rfl)⟩ (Nat.le_of_ble_eq_true rfl) (z_m4 (i := 21) rfl rfl) rfl rfl rfl e2 hl hP hS (by decide +kernel : decode code 303 = .ok (.invokevirtual 35, 3)) (by simp [Value.category]) (fun H locs hP hM hS => ?_)
  exact lv_icmp_eq (tgt := 694) hx hb (by decide +kernel : decode code 306 = .ok (.if_icmp .eq 388, 3)) (by decide) (fun _ => kk M2 H locs hR2 hM hP hS) (fun h => absurd rfl h)
set_option maxHeartbeats 4000000 in
set_option maxRecDepth 100000 in
theorem lc_5 {p : Program} {e : Env} {s : State} {m : MethodId} {below : List Frame} {meth : Method} {c : Code} {l : Launch} {b L : Nat} {xs : Nat → Int32} (C0 : lw_At p s m meth c b L xs) {D : va_G} {cA : Nat → ClassId} {ad : Nat → Nat} (E : lw_K s D cA ad) {M : z_M} (hR : w_R M) (hM : z_okM M) {x3 : Int32} (h1 : vp_in (x3 + 1) L) (h2 : vp_in (x3 + 2) L) (h3 : vp_in (x3 + 3) L) (h4 : vp_in (x3 + 4) L) {H : Heap} {locs : List Loc} (hP : va_P D z_cl (z_ws ad cA M) H) (hS : va_S (fun q : Nat => s.heap.size ≤ q) s.heap H locs) {ls : Array Slot} (hl : lv_has ls 4 [(3, .int x3), (2, .ref (ad (z_ix 0 30))), (1, .ref (ad (z_ix 0 21))), (0, .ref b)]) (kk : ∀ (M2 : z_M) (H1 : Heap) (locs1 : List Loc), w_R M2 → z_okM M2 → va_P D z_cl (z_ws ad cA M2) H1 → va_S (fun q : Nat => s.heap.size ≤ q) s.heap H1 locs1 → W p l e room_1 s m #[Value.ref b] below meth c H1 locs1 162 17458 (lw_Z below #[Value.ref b] s) (F0 m 694 ls [])) : W p l e room_1 s m #[Value.ref b] below meth c H locs 162 17458 (lw_Z below #[Value.ref b] s) (F0 m 311 ls []) := by
  obtain ⟨hx, hb, hr, hml, hown, htsL, hX, hbl, hlocks, hgv⟩ := C0
  have hts : ∀ w ∈ z_G, w.before #[Value.ref b] s = true := fun w hw => htsL w (List.mem_filter.mp hw).1
  obtain ⟨hK, hN, had, hA⟩ := E
  have hbA : ¬ (fun q : Nat => s.heap.size ≤ q) b := Nat.not_le.mpr hbl
  obtain ⟨r, M1, M2, e1, e2, hR2⟩ := c_add (xs (x3 + 1).toNatClampNeg).toInt (xs (x3 + 2).toNatClampNeg).toInt M hR
  refine lv_aload_n hx hb (by decide +kernel : decode code 311 = .ok (.aload_n 1, 1)) rfl (lv_at hl 2 rfl) ?_
  refine lv_aload_n hx hb (by decide +kernel : decode code 312 = .ok (.aload_n 0, 1)) rfl (lv_at hl 3 rfl) ?_
  refine lv_iload_n hx hb (by decide +kernel : decode code 313 = .ok (.iload_n 3, 1)) rfl (lv_at hl 0 rfl) ?_
  refine lv_iconst (v := 1) hx hb (by decide +kernel : decode code 314 = .ok (.iconst 1, 1)) (by decide) ?_
  refine lv_iadd hx hb (by decide +kernel : decode code 315 = .ok (.iadd, 1)) ?_
  refine va_sld hx hb hX hbl hbA hS h1 (by decide +kernel : decode code 316 = .ok (.iaload, 1)) ?_
  refine lv_aload_n hx hb (by decide +kernel : decode code 317 = .ok (.aload_n 0, 1)) rfl (lv_at hl 3 rfl) ?_
  refine lv_iload_n hx hb (by decide +kernel : decode code 318 = .ok (.iload_n 3, 1)) rfl (lv_at hl 0 rfl) ?_
  refine lv_iconst (v := 2) hx hb (by decide +kernel : decode code 319 = .ok (.iconst 2, 1)) (by decide) ?_
  refine lv_iadd hx hb (by decide +kernel : decode code 320 = .ok (.iadd, 1)) ?_
  refine va_sld hx hb hX hbl hbA hS h2 (by decide +kernel : decode code 321 = .ok (.iaload, 1)) ?_
  refine z_lcall (k := 61) (o := 21) (vs := [xs (x3 + 1).toNatClampNeg, xs (x3 + 2).toNatClampNeg]) (rest := []) hx hb hml hown hts hK hN had hA hM (Nat.le_of_ble_eq_true rfl) (Nat.le_of_ble_eq_true rfl) ⟨(Nat.le_of_ble_eq_true rfl), (Nat.le_of_ble_eq_true rfl)⟩ z_mt61 rfl rfl ⟨(Nat.le_of_ble_eq_true rfl), (Nat.le_of_ble_eq_true rfl)⟩ (Nat.le_of_ble_eq_true rfl) (z_m2 (i := 100) rfl rfl) rfl rfl rfl e1 hl hP hS (by decide +kernel : decode code 322 = .ok (.invokevirtual 36, 3)) (by simp [Value.category]) (fun H locs hP hM hS => ?_)
  refine lv_aload_n hx hb (by decide +kernel : decode code 325 = .ok (.aload_n 2, 1)) rfl (lv_at hl 1 rfl) ?_
  refine lv_aload_n hx hb (by decide +kernel : decode code 326 = .ok (.aload_n 0, 1)) rfl (lv_at hl 3 rfl) ?_
  refine lv_iload_n hx hb (by decide +kernel : decode code 327 = .ok (.iload_n 3, 1)) rfl (lv_at hl 0 rfl) ?_
  refine lv_iconst (v := 1) hx hb (by decide +kernel : decode code 328 = .ok (.iconst 1, 1)) (by decide) ?_
  refine lv_iadd hx hb (by decide +kernel : decode code 329 = .ok (.iadd, 1)) ?_
  refine va_sld hx hb hX hbl hbA hS h1 (by decide +kernel : decode code 330 = .ok (.iaload, 1)) ?_
  refine lv_aload_n hx hb (by decide +kernel : decode code 331 = .ok (.aload_n 0, 1)) rfl (lv_at hl 3 rfl) ?_
  refine lv_iload_n hx hb (by decide +kernel : decode code 332 = .ok (.iload_n 3, 1)) rfl (lv_at hl 0 rfl) ?_
  refine lv_iconst (v := 2) hx hb (by decide +kernel : decode code 333 = .ok (.iconst 2, 1)) (by decide) ?_
  refine lv_iadd hx hb (by decide +kernel : decode code 334 = .ok (.iadd, 1)) ?_
  refine va_sld hx hb hX hbl hbA hS h2 (by decide +kernel : decode code 335 = .ok (.iaload, 1)) ?_
  refine z_lcall (k := 87) (o := 30) (vs := [xs (x3 + 1).toNatClampNeg, xs (x3 + 2).toNatClampNeg]) (rest := [.int (Int32.ofInt r)]) hx hb hml hown hts hK hN had hA hM (Nat.le_of_ble_eq_true rfl) (Nat.le_of_ble_eq_true rfl) ⟨(Nat.le_of_ble_eq_true rfl), (Nat.le_of_ble_eq_true rfl)⟩ z_mt87 rfl rfl ⟨(Nat.le_of_ble_eq_true rfl), (Nat.le_of_ble_eq_true rfl)⟩ (Nat.le_of_ble_eq_true rfl) (z_m4 (i := 25) rfl rfl) rfl rfl rfl e2 hl hP hS (by decide +kernel : decode code 336 = .ok (.invokevirtual 39, 3)) (by simp [Value.category]) (fun H locs hP hM hS => ?_)
  exact lv_icmp_eq (tgt := 694) hx hb (by decide +kernel : decode code 339 = .ok (.if_icmp .eq 355, 3)) (by decide) (fun _ => kk M2 H locs hR2 hM hP hS) (fun h => absurd rfl h)
set_option maxHeartbeats 4000000 in
set_option maxRecDepth 100000 in
theorem lc_6 {p : Program} {e : Env} {s : State} {m : MethodId} {below : List Frame} {meth : Method} {c : Code} {l : Launch} {b L : Nat} {xs : Nat → Int32} (C0 : lw_At p s m meth c b L xs) {D : va_G} {cA : Nat → ClassId} {ad : Nat → Nat} (E : lw_K s D cA ad) {M : z_M} (hR : w_R M) (hM : z_okM M) {x3 : Int32} (h1 : vp_in (x3 + 1) L) (h2 : vp_in (x3 + 2) L) (h3 : vp_in (x3 + 3) L) (h4 : vp_in (x3 + 4) L) {H : Heap} {locs : List Loc} (hP : va_P D z_cl (z_ws ad cA M) H) (hS : va_S (fun q : Nat => s.heap.size ≤ q) s.heap H locs) {ls : Array Slot} (hl : lv_has ls 4 [(3, .int x3), (2, .ref (ad (z_ix 0 30))), (1, .ref (ad (z_ix 0 21))), (0, .ref b)]) (kk : ∀ (M2 : z_M) (H1 : Heap) (locs1 : List Loc), w_R M2 → z_okM M2 → va_P D z_cl (z_ws ad cA M2) H1 → va_S (fun q : Nat => s.heap.size ≤ q) s.heap H1 locs1 → W p l e room_1 s m #[Value.ref b] below meth c H1 locs1 162 17458 (lw_Z below #[Value.ref b] s) (F0 m 694 ls [])) : W p l e room_1 s m #[Value.ref b] below meth c H locs 162 17458 (lw_Z below #[Value.ref b] s) (F0 m 344 ls []) := by
  obtain ⟨hx, hb, hr, hml, hown, htsL, hX, hbl, hlocks, hgv⟩ := C0
  have hts : ∀ w ∈ z_G, w.before #[Value.ref b] s = true := fun w hw => htsL w (List.mem_filter.mp hw).1
  obtain ⟨hK, hN, had, hA⟩ := E
  have hbA : ¬ (fun q : Nat => s.heap.size ≤ q) b := Nat.not_le.mpr hbl
  obtain ⟨r, M1, M2, e1, e2, hR2⟩ := c_pass (xs (x3 + 1).toNatClampNeg).toInt M hR
  refine lv_aload_n hx hb (by decide +kernel : decode code 344 = .ok (.aload_n 1, 1)) rfl (lv_at hl 2 rfl) ?_
  refine lv_aload_n hx hb (by decide +kernel : decode code 345 = .ok (.aload_n 0, 1)) rfl (lv_at hl 3 rfl) ?_
  refine lv_iload_n hx hb (by decide +kernel : decode code 346 = .ok (.iload_n 3, 1)) rfl (lv_at hl 0 rfl) ?_
  refine lv_iconst (v := 1) hx hb (by decide +kernel : decode code 347 = .ok (.iconst 1, 1)) (by decide) ?_
  refine lv_iadd hx hb (by decide +kernel : decode code 348 = .ok (.iadd, 1)) ?_
  refine va_sld hx hb hX hbl hbA hS h1 (by decide +kernel : decode code 349 = .ok (.iaload, 1)) ?_
  refine z_lcall (k := 76) (o := 21) (vs := [xs (x3 + 1).toNatClampNeg]) (rest := []) hx hb hml hown hts hK hN had hA hM (Nat.le_of_ble_eq_true rfl) (Nat.le_of_ble_eq_true rfl) ⟨(Nat.le_of_ble_eq_true rfl), (Nat.le_of_ble_eq_true rfl)⟩ z_mt76 rfl rfl ⟨(Nat.le_of_ble_eq_true rfl), (Nat.le_of_ble_eq_true rfl)⟩ (Nat.le_of_ble_eq_true rfl) (z_m2 (i := 122) rfl rfl) rfl rfl rfl e1 hl hP hS (by decide +kernel : decode code 350 = .ok (.invokevirtual 40, 3)) (by simp [Value.category]) (fun H locs hP hM hS => ?_)
  refine lv_aload_n hx hb (by decide +kernel : decode code 353 = .ok (.aload_n 2, 1)) rfl (lv_at hl 1 rfl) ?_
  refine lv_aload_n hx hb (by decide +kernel : decode code 354 = .ok (.aload_n 0, 1)) rfl (lv_at hl 3 rfl) ?_
  refine lv_iload_n hx hb (by decide +kernel : decode code 355 = .ok (.iload_n 3, 1)) rfl (lv_at hl 0 rfl) ?_
  refine lv_iconst (v := 1) hx hb (by decide +kernel : decode code 356 = .ok (.iconst 1, 1)) (by decide) ?_
  refine lv_iadd hx hb (by decide +kernel : decode code 357 = .ok (.iadd, 1)) ?_
  refine va_sld hx hb hX hbl hbA hS h1 (by decide +kernel : decode code 358 = .ok (.iaload, 1)) ?_
  refine z_lcall (k := 123) (o := 30) (vs := [xs (x3 + 1).toNatClampNeg]) (rest := [.int (Int32.ofInt r)]) hx hb hml hown hts hK hN had hA hM (Nat.le_of_ble_eq_true rfl) (Nat.le_of_ble_eq_true rfl) ⟨(Nat.le_of_ble_eq_true rfl), (Nat.le_of_ble_eq_true rfl)⟩ z_mt123 rfl rfl ⟨(Nat.le_of_ble_eq_true rfl), (Nat.le_of_ble_eq_true rfl)⟩ (Nat.le_of_ble_eq_true rfl) (z_m4 (i := 48) rfl rfl) rfl rfl rfl e2 hl hP hS (by decide +kernel : decode code 359 = .ok (.invokevirtual 43, 3)) (by simp [Value.category]) (fun H locs hP hM hS => ?_)
  exact lv_icmp_eq (tgt := 694) hx hb (by decide +kernel : decode code 362 = .ok (.if_icmp .eq 332, 3)) (by decide) (fun _ => kk M2 H locs hR2 hM hP hS) (fun h => absurd rfl h)
set_option maxHeartbeats 4000000 in
set_option maxRecDepth 100000 in
theorem lc_7 {p : Program} {e : Env} {s : State} {m : MethodId} {below : List Frame} {meth : Method} {c : Code} {l : Launch} {b L : Nat} {xs : Nat → Int32} (C0 : lw_At p s m meth c b L xs) {D : va_G} {cA : Nat → ClassId} {ad : Nat → Nat} (E : lw_K s D cA ad) {M : z_M} (hR : w_R M) (hM : z_okM M) {x3 : Int32} (h1 : vp_in (x3 + 1) L) (h2 : vp_in (x3 + 2) L) (h3 : vp_in (x3 + 3) L) (h4 : vp_in (x3 + 4) L) {H : Heap} {locs : List Loc} (hP : va_P D z_cl (z_ws ad cA M) H) (hS : va_S (fun q : Nat => s.heap.size ≤ q) s.heap H locs) {ls : Array Slot} (hl : lv_has ls 4 [(3, .int x3), (2, .ref (ad (z_ix 0 30))), (1, .ref (ad (z_ix 0 21))), (0, .ref b)]) (kk : ∀ (M2 : z_M) (H1 : Heap) (locs1 : List Loc), w_R M2 → z_okM M2 → va_P D z_cl (z_ws ad cA M2) H1 → va_S (fun q : Nat => s.heap.size ≤ q) s.heap H1 locs1 → W p l e room_1 s m #[Value.ref b] below meth c H1 locs1 162 17458 (lw_Z below #[Value.ref b] s) (F0 m 694 ls [])) : W p l e room_1 s m #[Value.ref b] below meth c H locs 162 17458 (lw_Z below #[Value.ref b] s) (F0 m 367 ls []) := by
  obtain ⟨hx, hb, hr, hml, hown, htsL, hX, hbl, hlocks, hgv⟩ := C0
  have hts : ∀ w ∈ z_G, w.before #[Value.ref b] s = true := fun w hw => htsL w (List.mem_filter.mp hw).1
  obtain ⟨hK, hN, had, hA⟩ := E
  have hbA : ¬ (fun q : Nat => s.heap.size ≤ q) b := Nat.not_le.mpr hbl
  obtain ⟨r, M1, M2, e1, e2, hR2⟩ := c_mark M hR
  refine lv_aload_n hx hb (by decide +kernel : decode code 367 = .ok (.aload_n 1, 1)) rfl (lv_at hl 2 rfl) ?_
  refine z_lcall (k := 75) (o := 21) (vs := []) (rest := []) hx hb hml hown hts hK hN had hA hM (Nat.le_of_ble_eq_true rfl) (Nat.le_of_ble_eq_true rfl) ⟨(Nat.le_of_ble_eq_true rfl), (Nat.le_of_ble_eq_true rfl)⟩ z_mt75 rfl rfl ⟨(Nat.le_of_ble_eq_true rfl), (Nat.le_of_ble_eq_true rfl)⟩ (Nat.le_of_ble_eq_true rfl) (z_m3 (i := 13) rfl rfl) rfl rfl rfl e1 hl hP hS (by decide +kernel : decode code 368 = .ok (.invokevirtual 44, 3)) (by simp [Value.category]) (fun H locs hP hM hS => ?_)
  refine lv_aload_n hx hb (by decide +kernel : decode code 371 = .ok (.aload_n 2, 1)) rfl (lv_at hl 1 rfl) ?_
  refine z_lcall (k := 116) (o := 30) (vs := []) (rest := [.int (Int32.ofInt r)]) hx hb hml hown hts hK hN had hA hM (Nat.le_of_ble_eq_true rfl) (Nat.le_of_ble_eq_true rfl) ⟨(Nat.le_of_ble_eq_true rfl), (Nat.le_of_ble_eq_true rfl)⟩ z_mt116 rfl rfl ⟨(Nat.le_of_ble_eq_true rfl), (Nat.le_of_ble_eq_true rfl)⟩ (Nat.le_of_ble_eq_true rfl) (z_m4 (i := 100) rfl rfl) rfl rfl rfl e2 hl hP hS (by decide +kernel : decode code 372 = .ok (.invokevirtual 48, 3)) (by simp [Value.category]) (fun H locs hP hM hS => ?_)
  exact lv_icmp_eq (tgt := 694) hx hb (by decide +kernel : decode code 375 = .ok (.if_icmp .eq 319, 3)) (by decide) (fun _ => kk M2 H locs hR2 hM hP hS) (fun h => absurd rfl h)
set_option maxHeartbeats 4000000 in
set_option maxRecDepth 100000 in
theorem lc_8 {p : Program} {e : Env} {s : State} {m : MethodId} {below : List Frame} {meth : Method} {c : Code} {l : Launch} {b L : Nat} {xs : Nat → Int32} (C0 : lw_At p s m meth c b L xs) {D : va_G} {cA : Nat → ClassId} {ad : Nat → Nat} (E : lw_K s D cA ad) {M : z_M} (hR : w_R M) (hM : z_okM M) {x3 : Int32} (h1 : vp_in (x3 + 1) L) (h2 : vp_in (x3 + 2) L) (h3 : vp_in (x3 + 3) L) (h4 : vp_in (x3 + 4) L) {H : Heap} {locs : List Loc} (hP : va_P D z_cl (z_ws ad cA M) H) (hS : va_S (fun q : Nat => s.heap.size ≤ q) s.heap H locs) {ls : Array Slot} (hl : lv_has ls 4 [(3, .int x3), (2, .ref (ad (z_ix 0 30))), (1, .ref (ad (z_ix 0 21))), (0, .ref b)]) (kk : ∀ (M2 : z_M) (H1 : Heap) (locs1 : List Loc), w_R M2 → z_okM M2 → va_P D z_cl (z_ws ad cA M2) H1 → va_S (fun q : Nat => s.heap.size ≤ q) s.heap H1 locs1 → W p l e room_1 s m #[Value.ref b] below meth c H1 locs1 162 17458 (lw_Z below #[Value.ref b] s) (F0 m 694 ls [])) : W p l e room_1 s m #[Value.ref b] below meth c H locs 162 17458 (lw_Z below #[Value.ref b] s) (F0 m 380 ls []) := by
  obtain ⟨hx, hb, hr, hml, hown, htsL, hX, hbl, hlocks, hgv⟩ := C0
  have hts : ∀ w ∈ z_G, w.before #[Value.ref b] s = true := fun w hw => htsL w (List.mem_filter.mp hw).1
  obtain ⟨hK, hN, had, hA⟩ := E
  have hbA : ¬ (fun q : Nat => s.heap.size ≤ q) b := Nat.not_le.mpr hbl
  obtain ⟨r, M1, M2, e1, e2, hR2⟩ := c_type (v := (((xs (x3 + 1).toNatClampNeg).toUInt32 % 65536).toInt32).toInt) (i_char _) M hR
  refine lv_aload_n hx hb (by decide +kernel : decode code 380 = .ok (.aload_n 1, 1)) rfl (lv_at hl 2 rfl) ?_
  refine lv_aload_n hx hb (by decide +kernel : decode code 381 = .ok (.aload_n 0, 1)) rfl (lv_at hl 3 rfl) ?_
  refine lv_iload_n hx hb (by decide +kernel : decode code 382 = .ok (.iload_n 3, 1)) rfl (lv_at hl 0 rfl) ?_
  refine lv_iconst (v := 1) hx hb (by decide +kernel : decode code 383 = .ok (.iconst 1, 1)) (by decide) ?_
  refine lv_iadd hx hb (by decide +kernel : decode code 384 = .ok (.iadd, 1)) ?_
  refine va_sld hx hb hX hbl hbA hS h1 (by decide +kernel : decode code 385 = .ok (.iaload, 1)) ?_
  refine lv_i2c (v := ((xs (x3 + 1).toNatClampNeg).toUInt32 % 65536).toInt32) hx hb (by decide +kernel : decode code 386 = .ok (.i2c, 1)) rfl ?_
  refine z_lcall (k := 85) (o := 21) (vs := [((xs (x3 + 1).toNatClampNeg).toUInt32 % 65536).toInt32]) (rest := []) hx hb hml hown hts hK hN had hA hM (Nat.le_of_ble_eq_true rfl) (Nat.le_of_ble_eq_true rfl) ⟨(Nat.le_of_ble_eq_true rfl), (Nat.le_of_ble_eq_true rfl)⟩ z_mt85 rfl rfl ⟨(Nat.le_of_ble_eq_true rfl), (Nat.le_of_ble_eq_true rfl)⟩ (Nat.le_of_ble_eq_true rfl) (z_m3 (i := 21) rfl rfl) rfl rfl rfl e1 hl hP hS (by decide +kernel : decode code 387 = .ok (.invokevirtual 49, 3)) (by simp [Value.category]) (fun H locs hP hM hS => ?_)
  refine lv_aload_n hx hb (by decide +kernel : decode code 390 = .ok (.aload_n 2, 1)) rfl (lv_at hl 1 rfl) ?_
  refine lv_aload_n hx hb (by decide +kernel : decode code 391 = .ok (.aload_n 0, 1)) rfl (lv_at hl 3 rfl) ?_
  refine lv_iload_n hx hb (by decide +kernel : decode code 392 = .ok (.iload_n 3, 1)) rfl (lv_at hl 0 rfl) ?_
  refine lv_iconst (v := 1) hx hb (by decide +kernel : decode code 393 = .ok (.iconst 1, 1)) (by decide) ?_
  refine lv_iadd hx hb (by decide +kernel : decode code 394 = .ok (.iadd, 1)) ?_
  refine va_sld hx hb hX hbl hbA hS h1 (by decide +kernel : decode code 395 = .ok (.iaload, 1)) ?_
  refine lv_i2c (v := ((xs (x3 + 1).toNatClampNeg).toUInt32 % 65536).toInt32) hx hb (by decide +kernel : decode code 396 = .ok (.i2c, 1)) rfl ?_
  refine z_lcall (k := 138) (o := 30) (vs := [((xs (x3 + 1).toNatClampNeg).toUInt32 % 65536).toInt32]) (rest := [.int (Int32.ofInt r)]) hx hb hml hown hts hK hN had hA hM (Nat.le_of_ble_eq_true rfl) (Nat.le_of_ble_eq_true rfl) ⟨(Nat.le_of_ble_eq_true rfl), (Nat.le_of_ble_eq_true rfl)⟩ z_mt138 rfl rfl ⟨(Nat.le_of_ble_eq_true rfl), (Nat.le_of_ble_eq_true rfl)⟩ (Nat.le_of_ble_eq_true rfl) (z_m4 (i := 104) rfl rfl) rfl rfl rfl e2 hl hP hS (by decide +kernel : decode code 397 = .ok (.invokevirtual 53, 3)) (by simp [Value.category]) (fun H locs hP hM hS => ?_)
  exact lv_icmp_eq (tgt := 694) hx hb (by decide +kernel : decode code 400 = .ok (.if_icmp .eq 294, 3)) (by decide) (fun _ => kk M2 H locs hR2 hM hP hS) (fun h => absurd rfl h)
set_option maxHeartbeats 4000000 in
set_option maxRecDepth 100000 in
theorem lc_9 {p : Program} {e : Env} {s : State} {m : MethodId} {below : List Frame} {meth : Method} {c : Code} {l : Launch} {b L : Nat} {xs : Nat → Int32} (C0 : lw_At p s m meth c b L xs) {D : va_G} {cA : Nat → ClassId} {ad : Nat → Nat} (E : lw_K s D cA ad) {M : z_M} (hR : w_R M) (hM : z_okM M) {x3 : Int32} (h1 : vp_in (x3 + 1) L) (h2 : vp_in (x3 + 2) L) (h3 : vp_in (x3 + 3) L) (h4 : vp_in (x3 + 4) L) {H : Heap} {locs : List Loc} (hP : va_P D z_cl (z_ws ad cA M) H) (hS : va_S (fun q : Nat => s.heap.size ≤ q) s.heap H locs) {ls : Array Slot} (hl : lv_has ls 4 [(3, .int x3), (2, .ref (ad (z_ix 0 30))), (1, .ref (ad (z_ix 0 21))), (0, .ref b)]) (kk : ∀ (M2 : z_M) (H1 : Heap) (locs1 : List Loc), w_R M2 → z_okM M2 → va_P D z_cl (z_ws ad cA M2) H1 → va_S (fun q : Nat => s.heap.size ≤ q) s.heap H1 locs1 → W p l e room_1 s m #[Value.ref b] below meth c H1 locs1 162 17458 (lw_Z below #[Value.ref b] s) (F0 m 694 ls [])) : W p l e room_1 s m #[Value.ref b] below meth c H locs 162 17458 (lw_Z below #[Value.ref b] s) (F0 m 405 ls []) := by
  obtain ⟨hx, hb, hr, hml, hown, htsL, hX, hbl, hlocks, hgv⟩ := C0
  have hts : ∀ w ∈ z_G, w.before #[Value.ref b] s = true := fun w hw => htsL w (List.mem_filter.mp hw).1
  obtain ⟨hK, hN, had, hA⟩ := E
  have hbA : ¬ (fun q : Nat => s.heap.size ≤ q) b := Nat.not_le.mpr hbl
  obtain ⟨r, M1, M2, e1, e2, hR2⟩ := c_clear M hR
  refine lv_aload_n hx hb (by decide +kernel : decode code 405 = .ok (.aload_n 1, 1)) rfl (lv_at hl 2 rfl) ?_
  refine z_lcall (k := 68) (o := 21) (vs := []) (rest := []) hx hb hml hown hts hK hN had hA hM (Nat.le_of_ble_eq_true rfl) (Nat.le_of_ble_eq_true rfl) ⟨(Nat.le_of_ble_eq_true rfl), (Nat.le_of_ble_eq_true rfl)⟩ z_mt68 rfl rfl ⟨(Nat.le_of_ble_eq_true rfl), (Nat.le_of_ble_eq_true rfl)⟩ (Nat.le_of_ble_eq_true rfl) (z_m3 (i := 29) rfl rfl) rfl rfl rfl e1 hl hP hS (by decide +kernel : decode code 406 = .ok (.invokevirtual 54, 3)) (by simp [Value.category]) (fun H locs hP hM hS => ?_)
  refine lv_aload_n hx hb (by decide +kernel : decode code 409 = .ok (.aload_n 2, 1)) rfl (lv_at hl 1 rfl) ?_
  refine z_lcall (k := 99) (o := 30) (vs := []) (rest := [.int (Int32.ofInt r)]) hx hb hml hown hts hK hN had hA hM (Nat.le_of_ble_eq_true rfl) (Nat.le_of_ble_eq_true rfl) ⟨(Nat.le_of_ble_eq_true rfl), (Nat.le_of_ble_eq_true rfl)⟩ z_mt99 rfl rfl ⟨(Nat.le_of_ble_eq_true rfl), (Nat.le_of_ble_eq_true rfl)⟩ (Nat.le_of_ble_eq_true rfl) (z_m4 (i := 108) rfl rfl) rfl rfl rfl e2 hl hP hS (by decide +kernel : decode code 410 = .ok (.invokevirtual 57, 3)) (by simp [Value.category]) (fun H locs hP hM hS => ?_)
  exact lv_icmp_eq (tgt := 694) hx hb (by decide +kernel : decode code 413 = .ok (.if_icmp .eq 281, 3)) (by decide) (fun _ => kk M2 H locs hR2 hM hP hS) (fun h => absurd rfl h)
set_option maxHeartbeats 4000000 in
set_option maxRecDepth 100000 in
theorem lc_10 {p : Program} {e : Env} {s : State} {m : MethodId} {below : List Frame} {meth : Method} {c : Code} {l : Launch} {b L : Nat} {xs : Nat → Int32} (C0 : lw_At p s m meth c b L xs) {D : va_G} {cA : Nat → ClassId} {ad : Nat → Nat} (E : lw_K s D cA ad) {M : z_M} (hR : w_R M) (hM : z_okM M) {x3 : Int32} (h1 : vp_in (x3 + 1) L) (h2 : vp_in (x3 + 2) L) (h3 : vp_in (x3 + 3) L) (h4 : vp_in (x3 + 4) L) {H : Heap} {locs : List Loc} (hP : va_P D z_cl (z_ws ad cA M) H) (hS : va_S (fun q : Nat => s.heap.size ≤ q) s.heap H locs) {ls : Array Slot} (hl : lv_has ls 4 [(3, .int x3), (2, .ref (ad (z_ix 0 30))), (1, .ref (ad (z_ix 0 21))), (0, .ref b)]) (kk : ∀ (M2 : z_M) (H1 : Heap) (locs1 : List Loc), w_R M2 → z_okM M2 → va_P D z_cl (z_ws ad cA M2) H1 → va_S (fun q : Nat => s.heap.size ≤ q) s.heap H1 locs1 → W p l e room_1 s m #[Value.ref b] below meth c H1 locs1 162 17458 (lw_Z below #[Value.ref b] s) (F0 m 694 ls [])) : W p l e room_1 s m #[Value.ref b] below meth c H locs 162 17458 (lw_Z below #[Value.ref b] s) (F0 m 418 ls []) := by
  obtain ⟨hx, hb, hr, hml, hown, htsL, hX, hbl, hlocks, hgv⟩ := C0
  have hts : ∀ w ∈ z_G, w.before #[Value.ref b] s = true := fun w hw => htsL w (List.mem_filter.mp hw).1
  obtain ⟨hK, hN, had, hA⟩ := E
  have hbA : ¬ (fun q : Nat => s.heap.size ≤ q) b := Nat.not_le.mpr hbl
  obtain ⟨r, M1, M2, e1, e2, hR2⟩ := c_readJobs M hR
  refine lv_aload_n hx hb (by decide +kernel : decode code 418 = .ok (.aload_n 1, 1)) rfl (lv_at hl 2 rfl) ?_
  refine z_lcall (k := 78) (o := 21) (vs := []) (rest := []) hx hb hml hown hts hK hN had hA hM (Nat.le_of_ble_eq_true rfl) (Nat.le_of_ble_eq_true rfl) ⟨(Nat.le_of_ble_eq_true rfl), (Nat.le_of_ble_eq_true rfl)⟩ z_mt78 rfl rfl ⟨(Nat.le_of_ble_eq_true rfl), (Nat.le_of_ble_eq_true rfl)⟩ (Nat.le_of_ble_eq_true rfl) (z_m3 (i := 33) rfl rfl) rfl rfl rfl e1 hl hP hS (by decide +kernel : decode code 419 = .ok (.invokevirtual 58, 3)) (by simp [Value.category]) (fun H locs hP hM hS => ?_)
  refine lv_aload_n hx hb (by decide +kernel : decode code 422 = .ok (.aload_n 2, 1)) rfl (lv_at hl 1 rfl) ?_
  refine z_lcall (k := 125) (o := 30) (vs := []) (rest := [.int (Int32.ofInt r)]) hx hb hml hown hts hK hN had hA hM (Nat.le_of_ble_eq_true rfl) (Nat.le_of_ble_eq_true rfl) ⟨(Nat.le_of_ble_eq_true rfl), (Nat.le_of_ble_eq_true rfl)⟩ z_mt125 rfl rfl ⟨(Nat.le_of_ble_eq_true rfl), (Nat.le_of_ble_eq_true rfl)⟩ (Nat.le_of_ble_eq_true rfl) (z_m4 (i := 112) rfl rfl) rfl rfl rfl e2 hl hP hS (by decide +kernel : decode code 423 = .ok (.invokevirtual 61, 3)) (by simp [Value.category]) (fun H locs hP hM hS => ?_)
  exact lv_icmp_eq (tgt := 694) hx hb (by decide +kernel : decode code 426 = .ok (.if_icmp .eq 268, 3)) (by decide) (fun _ => kk M2 H locs hR2 hM hP hS) (fun h => absurd rfl h)
set_option maxHeartbeats 4000000 in
set_option maxRecDepth 100000 in
theorem lc_11 {p : Program} {e : Env} {s : State} {m : MethodId} {below : List Frame} {meth : Method} {c : Code} {l : Launch} {b L : Nat} {xs : Nat → Int32} (C0 : lw_At p s m meth c b L xs) {D : va_G} {cA : Nat → ClassId} {ad : Nat → Nat} (E : lw_K s D cA ad) {M : z_M} (hR : w_R M) (hM : z_okM M) {x3 : Int32} (h1 : vp_in (x3 + 1) L) (h2 : vp_in (x3 + 2) L) (h3 : vp_in (x3 + 3) L) (h4 : vp_in (x3 + 4) L) {H : Heap} {locs : List Loc} (hP : va_P D z_cl (z_ws ad cA M) H) (hS : va_S (fun q : Nat => s.heap.size ≤ q) s.heap H locs) {ls : Array Slot} (hl : lv_has ls 4 [(3, .int x3), (2, .ref (ad (z_ix 0 30))), (1, .ref (ad (z_ix 0 21))), (0, .ref b)]) (kk : ∀ (M2 : z_M) (H1 : Heap) (locs1 : List Loc), w_R M2 → z_okM M2 → va_P D z_cl (z_ws ad cA M2) H1 → va_S (fun q : Nat => s.heap.size ≤ q) s.heap H1 locs1 → W p l e room_1 s m #[Value.ref b] below meth c H1 locs1 162 17458 (lw_Z below #[Value.ref b] s) (F0 m 694 ls [])) : W p l e room_1 s m #[Value.ref b] below meth c H locs 162 17458 (lw_Z below #[Value.ref b] s) (F0 m 431 ls []) := by
  obtain ⟨hx, hb, hr, hml, hown, htsL, hX, hbl, hlocks, hgv⟩ := C0
  have hts : ∀ w ∈ z_G, w.before #[Value.ref b] s = true := fun w hw => htsL w (List.mem_filter.mp hw).1
  obtain ⟨hK, hN, had, hA⟩ := E
  have hbA : ¬ (fun q : Nat => s.heap.size ≤ q) b := Nat.not_le.mpr hbl
  obtain ⟨r, M1, M2, e1, e2, hR2⟩ := c_undo M hR
  refine lv_aload_n hx hb (by decide +kernel : decode code 431 = .ok (.aload_n 1, 1)) rfl (lv_at hl 2 rfl) ?_
  refine z_lcall (k := 86) (o := 21) (vs := []) (rest := []) hx hb hml hown hts hK hN had hA hM (Nat.le_of_ble_eq_true rfl) (Nat.le_of_ble_eq_true rfl) ⟨(Nat.le_of_ble_eq_true rfl), (Nat.le_of_ble_eq_true rfl)⟩ z_mt86 rfl rfl ⟨(Nat.le_of_ble_eq_true rfl), (Nat.le_of_ble_eq_true rfl)⟩ (Nat.le_of_ble_eq_true rfl) (z_m3 (i := 54) rfl rfl) rfl rfl rfl e1 hl hP hS (by decide +kernel : decode code 432 = .ok (.invokevirtual 62, 3)) (by simp [Value.category]) (fun H locs hP hM hS => ?_)
  refine lv_aload_n hx hb (by decide +kernel : decode code 435 = .ok (.aload_n 2, 1)) rfl (lv_at hl 1 rfl) ?_
  refine z_lcall (k := 139) (o := 30) (vs := []) (rest := [.int (Int32.ofInt r)]) hx hb hml hown hts hK hN had hA hM (Nat.le_of_ble_eq_true rfl) (Nat.le_of_ble_eq_true rfl) ⟨(Nat.le_of_ble_eq_true rfl), (Nat.le_of_ble_eq_true rfl)⟩ z_mt139 rfl rfl ⟨(Nat.le_of_ble_eq_true rfl), (Nat.le_of_ble_eq_true rfl)⟩ (Nat.le_of_ble_eq_true rfl) (z_m3 (i := 200) rfl rfl) rfl rfl rfl e2 hl hP hS (by decide +kernel : decode code 436 = .ok (.invokevirtual 65, 3)) (by simp [Value.category]) (fun H locs hP hM hS => ?_)
  exact lv_icmp_eq (tgt := 694) hx hb (by decide +kernel : decode code 439 = .ok (.if_icmp .eq 255, 3)) (by decide) (fun _ => kk M2 H locs hR2 hM hP hS) (fun h => absurd rfl h)
set_option maxHeartbeats 4000000 in
set_option maxRecDepth 100000 in
theorem lc_12 {p : Program} {e : Env} {s : State} {m : MethodId} {below : List Frame} {meth : Method} {c : Code} {l : Launch} {b L : Nat} {xs : Nat → Int32} (C0 : lw_At p s m meth c b L xs) {D : va_G} {cA : Nat → ClassId} {ad : Nat → Nat} (E : lw_K s D cA ad) {M : z_M} (hR : w_R M) (hM : z_okM M) {x3 : Int32} (h1 : vp_in (x3 + 1) L) (h2 : vp_in (x3 + 2) L) (h3 : vp_in (x3 + 3) L) (h4 : vp_in (x3 + 4) L) {H : Heap} {locs : List Loc} (hP : va_P D z_cl (z_ws ad cA M) H) (hS : va_S (fun q : Nat => s.heap.size ≤ q) s.heap H locs) {ls : Array Slot} (hl : lv_has ls 4 [(3, .int x3), (2, .ref (ad (z_ix 0 30))), (1, .ref (ad (z_ix 0 21))), (0, .ref b)]) (kk : ∀ (M2 : z_M) (H1 : Heap) (locs1 : List Loc), w_R M2 → z_okM M2 → va_P D z_cl (z_ws ad cA M2) H1 → va_S (fun q : Nat => s.heap.size ≤ q) s.heap H1 locs1 → W p l e room_1 s m #[Value.ref b] below meth c H1 locs1 162 17458 (lw_Z below #[Value.ref b] s) (F0 m 694 ls [])) : W p l e room_1 s m #[Value.ref b] below meth c H locs 162 17458 (lw_Z below #[Value.ref b] s) (F0 m 444 ls []) := by
  obtain ⟨hx, hb, hr, hml, hown, htsL, hX, hbl, hlocks, hgv⟩ := C0
  have hts : ∀ w ∈ z_G, w.before #[Value.ref b] s = true := fun w hw => htsL w (List.mem_filter.mp hw).1
  obtain ⟨hK, hN, had, hA⟩ := E
  have hbA : ¬ (fun q : Nat => s.heap.size ≤ q) b := Nat.not_le.mpr hbl
  obtain ⟨r, M1, M2, e1, e2, hR2⟩ := c_keep M hR
  refine lv_aload_n hx hb (by decide +kernel : decode code 444 = .ok (.aload_n 1, 1)) rfl (lv_at hl 2 rfl) ?_
  refine z_lcall (k := 74) (o := 21) (vs := []) (rest := []) hx hb hml hown hts hK hN had hA hM (Nat.le_of_ble_eq_true rfl) (Nat.le_of_ble_eq_true rfl) ⟨(Nat.le_of_ble_eq_true rfl), (Nat.le_of_ble_eq_true rfl)⟩ z_mt74 rfl rfl ⟨(Nat.le_of_ble_eq_true rfl), (Nat.le_of_ble_eq_true rfl)⟩ (Nat.le_of_ble_eq_true rfl) (z_m3 (i := 62) rfl rfl) rfl rfl rfl e1 hl hP hS (by decide +kernel : decode code 445 = .ok (.invokevirtual 66, 3)) (by simp [Value.category]) (fun H locs hP hM hS => ?_)
  refine lv_aload_n hx hb (by decide +kernel : decode code 448 = .ok (.aload_n 2, 1)) rfl (lv_at hl 1 rfl) ?_
  refine z_lcall (k := 114) (o := 30) (vs := []) (rest := [.int (Int32.ofInt r)]) hx hb hml hown hts hK hN had hA hM (Nat.le_of_ble_eq_true rfl) (Nat.le_of_ble_eq_true rfl) ⟨(Nat.le_of_ble_eq_true rfl), (Nat.le_of_ble_eq_true rfl)⟩ z_mt114 rfl rfl ⟨(Nat.le_of_ble_eq_true rfl), (Nat.le_of_ble_eq_true rfl)⟩ (Nat.le_of_ble_eq_true rfl) (z_m3 (i := 204) rfl rfl) rfl rfl rfl e2 hl hP hS (by decide +kernel : decode code 449 = .ok (.invokevirtual 69, 3)) (by simp [Value.category]) (fun H locs hP hM hS => ?_)
  exact lv_icmp_eq (tgt := 694) hx hb (by decide +kernel : decode code 452 = .ok (.if_icmp .eq 242, 3)) (by decide) (fun _ => kk M2 H locs hR2 hM hP hS) (fun h => absurd rfl h)
set_option maxHeartbeats 4000000 in
set_option maxRecDepth 100000 in
theorem lc_13 {p : Program} {e : Env} {s : State} {m : MethodId} {below : List Frame} {meth : Method} {c : Code} {l : Launch} {b L : Nat} {xs : Nat → Int32} (C0 : lw_At p s m meth c b L xs) {D : va_G} {cA : Nat → ClassId} {ad : Nat → Nat} (E : lw_K s D cA ad) {M : z_M} (hR : w_R M) (hM : z_okM M) {x3 : Int32} (h1 : vp_in (x3 + 1) L) (h2 : vp_in (x3 + 2) L) (h3 : vp_in (x3 + 3) L) (h4 : vp_in (x3 + 4) L) {H : Heap} {locs : List Loc} (hP : va_P D z_cl (z_ws ad cA M) H) (hS : va_S (fun q : Nat => s.heap.size ≤ q) s.heap H locs) {ls : Array Slot} (hl : lv_has ls 4 [(3, .int x3), (2, .ref (ad (z_ix 0 30))), (1, .ref (ad (z_ix 0 21))), (0, .ref b)]) (kk : ∀ (M2 : z_M) (H1 : Heap) (locs1 : List Loc), w_R M2 → z_okM M2 → va_P D z_cl (z_ws ad cA M2) H1 → va_S (fun q : Nat => s.heap.size ≤ q) s.heap H1 locs1 → W p l e room_1 s m #[Value.ref b] below meth c H1 locs1 162 17458 (lw_Z below #[Value.ref b] s) (F0 m 694 ls [])) : W p l e room_1 s m #[Value.ref b] below meth c H locs 162 17458 (lw_Z below #[Value.ref b] s) (F0 m 457 ls []) := by
  obtain ⟨hx, hb, hr, hml, hown, htsL, hX, hbl, hlocks, hgv⟩ := C0
  have hts : ∀ w ∈ z_G, w.before #[Value.ref b] s = true := fun w hw => htsL w (List.mem_filter.mp hw).1
  obtain ⟨hK, hN, had, hA⟩ := E
  have hbA : ¬ (fun q : Nat => s.heap.size ≤ q) b := Nat.not_le.mpr hbl
  obtain ⟨r, M1, M2, e1, e2, hR2⟩ := c_restore M hR
  refine lv_aload_n hx hb (by decide +kernel : decode code 457 = .ok (.aload_n 1, 1)) rfl (lv_at hl 2 rfl) ?_
  refine z_lcall (k := 79) (o := 21) (vs := []) (rest := []) hx hb hml hown hts hK hN had hA hM (Nat.le_of_ble_eq_true rfl) (Nat.le_of_ble_eq_true rfl) ⟨(Nat.le_of_ble_eq_true rfl), (Nat.le_of_ble_eq_true rfl)⟩ z_mt79 rfl rfl ⟨(Nat.le_of_ble_eq_true rfl), (Nat.le_of_ble_eq_true rfl)⟩ (Nat.le_of_ble_eq_true rfl) (z_m3 (i := 66) rfl rfl) rfl rfl rfl e1 hl hP hS (by decide +kernel : decode code 458 = .ok (.invokevirtual 70, 3)) (by simp [Value.category]) (fun H locs hP hM hS => ?_)
  refine lv_aload_n hx hb (by decide +kernel : decode code 461 = .ok (.aload_n 2, 1)) rfl (lv_at hl 1 rfl) ?_
  refine z_lcall (k := 128) (o := 30) (vs := []) (rest := [.int (Int32.ofInt r)]) hx hb hml hown hts hK hN had hA hM (Nat.le_of_ble_eq_true rfl) (Nat.le_of_ble_eq_true rfl) ⟨(Nat.le_of_ble_eq_true rfl), (Nat.le_of_ble_eq_true rfl)⟩ z_mt128 rfl rfl ⟨(Nat.le_of_ble_eq_true rfl), (Nat.le_of_ble_eq_true rfl)⟩ (Nat.le_of_ble_eq_true rfl) (z_m3 (i := 208) rfl rfl) rfl rfl rfl e2 hl hP hS (by decide +kernel : decode code 462 = .ok (.invokevirtual 73, 3)) (by simp [Value.category]) (fun H locs hP hM hS => ?_)
  exact lv_icmp_eq (tgt := 694) hx hb (by decide +kernel : decode code 465 = .ok (.if_icmp .eq 229, 3)) (by decide) (fun _ => kk M2 H locs hR2 hM hP hS) (fun h => absurd rfl h)
set_option maxHeartbeats 4000000 in
set_option maxRecDepth 100000 in
theorem lc_14 {p : Program} {e : Env} {s : State} {m : MethodId} {below : List Frame} {meth : Method} {c : Code} {l : Launch} {b L : Nat} {xs : Nat → Int32} (C0 : lw_At p s m meth c b L xs) {D : va_G} {cA : Nat → ClassId} {ad : Nat → Nat} (E : lw_K s D cA ad) {M : z_M} (hR : w_R M) (hM : z_okM M) {x3 : Int32} (h1 : vp_in (x3 + 1) L) (h2 : vp_in (x3 + 2) L) (h3 : vp_in (x3 + 3) L) (h4 : vp_in (x3 + 4) L) {H : Heap} {locs : List Loc} (hP : va_P D z_cl (z_ws ad cA M) H) (hS : va_S (fun q : Nat => s.heap.size ≤ q) s.heap H locs) {ls : Array Slot} (hl : lv_has ls 4 [(3, .int x3), (2, .ref (ad (z_ix 0 30))), (1, .ref (ad (z_ix 0 21))), (0, .ref b)]) (kk : ∀ (M2 : z_M) (H1 : Heap) (locs1 : List Loc), w_R M2 → z_okM M2 → va_P D z_cl (z_ws ad cA M2) H1 → va_S (fun q : Nat => s.heap.size ≤ q) s.heap H1 locs1 → W p l e room_1 s m #[Value.ref b] below meth c H1 locs1 162 17458 (lw_Z below #[Value.ref b] s) (F0 m 694 ls [])) : W p l e room_1 s m #[Value.ref b] below meth c H locs 162 17458 (lw_Z below #[Value.ref b] s) (F0 m 470 ls []) := by
  obtain ⟨hx, hb, hr, hml, hown, htsL, hX, hbl, hlocks, hgv⟩ := C0
  have hts : ∀ w ∈ z_G, w.before #[Value.ref b] s = true := fun w hw => htsL w (List.mem_filter.mp hw).1
  obtain ⟨hK, hN, had, hA⟩ := E
  have hbA : ¬ (fun q : Nat => s.heap.size ≤ q) b := Nat.not_le.mpr hbl
  obtain ⟨r, M1, M2, e1, e2, hR2⟩ := c_group (xs (x3 + 1).toNatClampNeg).toInt (xs (x3 + 2).toNatClampNeg).toInt M hR
  refine lv_aload_n hx hb (by decide +kernel : decode code 470 = .ok (.aload_n 1, 1)) rfl (lv_at hl 2 rfl) ?_
  refine lv_aload_n hx hb (by decide +kernel : decode code 471 = .ok (.aload_n 0, 1)) rfl (lv_at hl 3 rfl) ?_
  refine lv_iload_n hx hb (by decide +kernel : decode code 472 = .ok (.iload_n 3, 1)) rfl (lv_at hl 0 rfl) ?_
  refine lv_iconst (v := 1) hx hb (by decide +kernel : decode code 473 = .ok (.iconst 1, 1)) (by decide) ?_
  refine lv_iadd hx hb (by decide +kernel : decode code 474 = .ok (.iadd, 1)) ?_
  refine va_sld hx hb hX hbl hbA hS h1 (by decide +kernel : decode code 475 = .ok (.iaload, 1)) ?_
  refine lv_aload_n hx hb (by decide +kernel : decode code 476 = .ok (.aload_n 0, 1)) rfl (lv_at hl 3 rfl) ?_
  refine lv_iload_n hx hb (by decide +kernel : decode code 477 = .ok (.iload_n 3, 1)) rfl (lv_at hl 0 rfl) ?_
  refine lv_iconst (v := 2) hx hb (by decide +kernel : decode code 478 = .ok (.iconst 2, 1)) (by decide) ?_
  refine lv_iadd hx hb (by decide +kernel : decode code 479 = .ok (.iadd, 1)) ?_
  refine va_sld hx hb hX hbl hbA hS h2 (by decide +kernel : decode code 480 = .ok (.iaload, 1)) ?_
  refine z_lcall (k := 70) (o := 21) (vs := [xs (x3 + 1).toNatClampNeg, xs (x3 + 2).toNatClampNeg]) (rest := []) hx hb hml hown hts hK hN had hA hM (Nat.le_of_ble_eq_true rfl) (Nat.le_of_ble_eq_true rfl) ⟨(Nat.le_of_ble_eq_true rfl), (Nat.le_of_ble_eq_true rfl)⟩ z_mt70 rfl rfl ⟨(Nat.le_of_ble_eq_true rfl), (Nat.le_of_ble_eq_true rfl)⟩ (Nat.le_of_ble_eq_true rfl) (z_m3 (i := 70) rfl rfl) rfl rfl rfl e1 hl hP hS (by decide +kernel : decode code 481 = .ok (.invokevirtual 74, 3)) (by simp [Value.category]) (fun H locs hP hM hS => ?_)
  refine lv_aload_n hx hb (by decide +kernel : decode code 484 = .ok (.aload_n 2, 1)) rfl (lv_at hl 1 rfl) ?_
  refine lv_aload_n hx hb (by decide +kernel : decode code 485 = .ok (.aload_n 0, 1)) rfl (lv_at hl 3 rfl) ?_
  refine lv_iload_n hx hb (by decide +kernel : decode code 486 = .ok (.iload_n 3, 1)) rfl (lv_at hl 0 rfl) ?_
  refine lv_iconst (v := 1) hx hb (by decide +kernel : decode code 487 = .ok (.iconst 1, 1)) (by decide) ?_
  refine lv_iadd hx hb (by decide +kernel : decode code 488 = .ok (.iadd, 1)) ?_
  refine va_sld hx hb hX hbl hbA hS h1 (by decide +kernel : decode code 489 = .ok (.iaload, 1)) ?_
  refine lv_aload_n hx hb (by decide +kernel : decode code 490 = .ok (.aload_n 0, 1)) rfl (lv_at hl 3 rfl) ?_
  refine lv_iload_n hx hb (by decide +kernel : decode code 491 = .ok (.iload_n 3, 1)) rfl (lv_at hl 0 rfl) ?_
  refine lv_iconst (v := 2) hx hb (by decide +kernel : decode code 492 = .ok (.iconst 2, 1)) (by decide) ?_
  refine lv_iadd hx hb (by decide +kernel : decode code 493 = .ok (.iadd, 1)) ?_
  refine va_sld hx hb hX hbl hbA hS h2 (by decide +kernel : decode code 494 = .ok (.iaload, 1)) ?_
  refine z_lcall (k := 105) (o := 30) (vs := [xs (x3 + 1).toNatClampNeg, xs (x3 + 2).toNatClampNeg]) (rest := [.int (Int32.ofInt r)]) hx hb hml hown hts hK hN had hA hM (Nat.le_of_ble_eq_true rfl) (Nat.le_of_ble_eq_true rfl) ⟨(Nat.le_of_ble_eq_true rfl), (Nat.le_of_ble_eq_true rfl)⟩ z_mt105 rfl rfl ⟨(Nat.le_of_ble_eq_true rfl), (Nat.le_of_ble_eq_true rfl)⟩ (Nat.le_of_ble_eq_true rfl) (z_m4 (i := 132) rfl rfl) rfl rfl rfl e2 hl hP hS (by decide +kernel : decode code 495 = .ok (.invokevirtual 77, 3)) (by simp [Value.category]) (fun H locs hP hM hS => ?_)
  exact lv_icmp_eq (tgt := 694) hx hb (by decide +kernel : decode code 498 = .ok (.if_icmp .eq 196, 3)) (by decide) (fun _ => kk M2 H locs hR2 hM hP hS) (fun h => absurd rfl h)
set_option maxHeartbeats 4000000 in
set_option maxRecDepth 100000 in
theorem lc_15 {p : Program} {e : Env} {s : State} {m : MethodId} {below : List Frame} {meth : Method} {c : Code} {l : Launch} {b L : Nat} {xs : Nat → Int32} (C0 : lw_At p s m meth c b L xs) {D : va_G} {cA : Nat → ClassId} {ad : Nat → Nat} (E : lw_K s D cA ad) {M : z_M} (hR : w_R M) (hM : z_okM M) {x3 : Int32} (h1 : vp_in (x3 + 1) L) (h2 : vp_in (x3 + 2) L) (h3 : vp_in (x3 + 3) L) (h4 : vp_in (x3 + 4) L) {H : Heap} {locs : List Loc} (hP : va_P D z_cl (z_ws ad cA M) H) (hS : va_S (fun q : Nat => s.heap.size ≤ q) s.heap H locs) {ls : Array Slot} (hl : lv_has ls 4 [(3, .int x3), (2, .ref (ad (z_ix 0 30))), (1, .ref (ad (z_ix 0 21))), (0, .ref b)]) (kk : ∀ (M2 : z_M) (H1 : Heap) (locs1 : List Loc), w_R M2 → z_okM M2 → va_P D z_cl (z_ws ad cA M2) H1 → va_S (fun q : Nat => s.heap.size ≤ q) s.heap H1 locs1 → W p l e room_1 s m #[Value.ref b] below meth c H1 locs1 162 17458 (lw_Z below #[Value.ref b] s) (F0 m 694 ls [])) : W p l e room_1 s m #[Value.ref b] below meth c H locs 162 17458 (lw_Z below #[Value.ref b] s) (F0 m 503 ls []) := by
  obtain ⟨hx, hb, hr, hml, hown, htsL, hX, hbl, hlocks, hgv⟩ := C0
  have hts : ∀ w ∈ z_G, w.before #[Value.ref b] s = true := fun w hw => htsL w (List.mem_filter.mp hw).1
  obtain ⟨hK, hN, had, hA⟩ := E
  have hbA : ¬ (fun q : Nat => s.heap.size ≤ q) b := Nat.not_le.mpr hbl
  obtain ⟨r, M1, M2, e1, e2, hR2⟩ := c_classOf (xs (x3 + 1).toNatClampNeg).toInt (xs (x3 + 2).toNatClampNeg).toInt M hR
  refine lv_aload_n hx hb (by decide +kernel : decode code 503 = .ok (.aload_n 1, 1)) rfl (lv_at hl 2 rfl) ?_
  refine lv_aload_n hx hb (by decide +kernel : decode code 504 = .ok (.aload_n 0, 1)) rfl (lv_at hl 3 rfl) ?_
  refine lv_iload_n hx hb (by decide +kernel : decode code 505 = .ok (.iload_n 3, 1)) rfl (lv_at hl 0 rfl) ?_
  refine lv_iconst (v := 1) hx hb (by decide +kernel : decode code 506 = .ok (.iconst 1, 1)) (by decide) ?_
  refine lv_iadd hx hb (by decide +kernel : decode code 507 = .ok (.iadd, 1)) ?_
  refine va_sld hx hb hX hbl hbA hS h1 (by decide +kernel : decode code 508 = .ok (.iaload, 1)) ?_
  refine lv_aload_n hx hb (by decide +kernel : decode code 509 = .ok (.aload_n 0, 1)) rfl (lv_at hl 3 rfl) ?_
  refine lv_iload_n hx hb (by decide +kernel : decode code 510 = .ok (.iload_n 3, 1)) rfl (lv_at hl 0 rfl) ?_
  refine lv_iconst (v := 2) hx hb (by decide +kernel : decode code 511 = .ok (.iconst 2, 1)) (by decide) ?_
  refine lv_iadd hx hb (by decide +kernel : decode code 512 = .ok (.iadd, 1)) ?_
  refine va_sld hx hb hX hbl hbA hS h2 (by decide +kernel : decode code 513 = .ok (.iaload, 1)) ?_
  refine z_lcall (k := 67) (o := 21) (vs := [xs (x3 + 1).toNatClampNeg, xs (x3 + 2).toNatClampNeg]) (rest := []) hx hb hml hown hts hK hN had hA hM (Nat.le_of_ble_eq_true rfl) (Nat.le_of_ble_eq_true rfl) ⟨(Nat.le_of_ble_eq_true rfl), (Nat.le_of_ble_eq_true rfl)⟩ z_mt67 rfl rfl ⟨(Nat.le_of_ble_eq_true rfl), (Nat.le_of_ble_eq_true rfl)⟩ (Nat.le_of_ble_eq_true rfl) (z_m3 (i := 88) rfl rfl) rfl rfl rfl e1 hl hP hS (by decide +kernel : decode code 514 = .ok (.invokevirtual 78, 3)) (by simp [Value.category]) (fun H locs hP hM hS => ?_)
  refine lv_aload_n hx hb (by decide +kernel : decode code 517 = .ok (.aload_n 2, 1)) rfl (lv_at hl 1 rfl) ?_
  refine lv_aload_n hx hb (by decide +kernel : decode code 518 = .ok (.aload_n 0, 1)) rfl (lv_at hl 3 rfl) ?_
  refine lv_iload_n hx hb (by decide +kernel : decode code 519 = .ok (.iload_n 3, 1)) rfl (lv_at hl 0 rfl) ?_
  refine lv_iconst (v := 1) hx hb (by decide +kernel : decode code 520 = .ok (.iconst 1, 1)) (by decide) ?_
  refine lv_iadd hx hb (by decide +kernel : decode code 521 = .ok (.iadd, 1)) ?_
  refine va_sld hx hb hX hbl hbA hS h1 (by decide +kernel : decode code 522 = .ok (.iaload, 1)) ?_
  refine lv_aload_n hx hb (by decide +kernel : decode code 523 = .ok (.aload_n 0, 1)) rfl (lv_at hl 3 rfl) ?_
  refine lv_iload_n hx hb (by decide +kernel : decode code 524 = .ok (.iload_n 3, 1)) rfl (lv_at hl 0 rfl) ?_
  refine lv_iconst (v := 2) hx hb (by decide +kernel : decode code 525 = .ok (.iconst 2, 1)) (by decide) ?_
  refine lv_iadd hx hb (by decide +kernel : decode code 526 = .ok (.iadd, 1)) ?_
  refine va_sld hx hb hX hbl hbA hS h2 (by decide +kernel : decode code 527 = .ok (.iaload, 1)) ?_
  refine z_lcall (k := 98) (o := 30) (vs := [xs (x3 + 1).toNatClampNeg, xs (x3 + 2).toNatClampNeg]) (rest := [.int (Int32.ofInt r)]) hx hb hml hown hts hK hN had hA hM (Nat.le_of_ble_eq_true rfl) (Nat.le_of_ble_eq_true rfl) ⟨(Nat.le_of_ble_eq_true rfl), (Nat.le_of_ble_eq_true rfl)⟩ z_mt98 rfl rfl ⟨(Nat.le_of_ble_eq_true rfl), (Nat.le_of_ble_eq_true rfl)⟩ (Nat.le_of_ble_eq_true rfl) (z_m4 (i := 137) rfl rfl) rfl rfl rfl e2 hl hP hS (by decide +kernel : decode code 528 = .ok (.invokevirtual 81, 3)) (by simp [Value.category]) (fun H locs hP hM hS => ?_)
  exact lv_icmp_eq (tgt := 694) hx hb (by decide +kernel : decode code 531 = .ok (.if_icmp .eq 163, 3)) (by decide) (fun _ => kk M2 H locs hR2 hM hP hS) (fun h => absurd rfl h)
set_option maxHeartbeats 4000000 in
set_option maxRecDepth 100000 in
theorem lc_16 {p : Program} {e : Env} {s : State} {m : MethodId} {below : List Frame} {meth : Method} {c : Code} {l : Launch} {b L : Nat} {xs : Nat → Int32} (C0 : lw_At p s m meth c b L xs) {D : va_G} {cA : Nat → ClassId} {ad : Nat → Nat} (E : lw_K s D cA ad) {M : z_M} (hR : w_R M) (hM : z_okM M) {x3 : Int32} (h1 : vp_in (x3 + 1) L) (h2 : vp_in (x3 + 2) L) (h3 : vp_in (x3 + 3) L) (h4 : vp_in (x3 + 4) L) {H : Heap} {locs : List Loc} (hP : va_P D z_cl (z_ws ad cA M) H) (hS : va_S (fun q : Nat => s.heap.size ≤ q) s.heap H locs) {ls : Array Slot} (hl : lv_has ls 4 [(3, .int x3), (2, .ref (ad (z_ix 0 30))), (1, .ref (ad (z_ix 0 21))), (0, .ref b)]) (kk : ∀ (M2 : z_M) (H1 : Heap) (locs1 : List Loc), w_R M2 → z_okM M2 → va_P D z_cl (z_ws ad cA M2) H1 → va_S (fun q : Nat => s.heap.size ≤ q) s.heap H1 locs1 → W p l e room_1 s m #[Value.ref b] below meth c H1 locs1 162 17458 (lw_Z below #[Value.ref b] s) (F0 m 694 ls [])) : W p l e room_1 s m #[Value.ref b] below meth c H locs 162 17458 (lw_Z below #[Value.ref b] s) (F0 m 536 ls []) := by
  obtain ⟨hx, hb, hr, hml, hown, htsL, hX, hbl, hlocks, hgv⟩ := C0
  have hts : ∀ w ∈ z_G, w.before #[Value.ref b] s = true := fun w hw => htsL w (List.mem_filter.mp hw).1
  obtain ⟨hK, hN, had, hA⟩ := E
  have hbA : ¬ (fun q : Nat => s.heap.size ≤ q) b := Nat.not_le.mpr hbl
  obtain ⟨r, M1, M2, e1, e2, hR2⟩ := c_job (xs (x3 + 1).toNatClampNeg).toInt (xs (x3 + 2).toNatClampNeg).toInt M hR
  refine lv_aload_n hx hb (by decide +kernel : decode code 536 = .ok (.aload_n 1, 1)) rfl (lv_at hl 2 rfl) ?_
  refine lv_aload_n hx hb (by decide +kernel : decode code 537 = .ok (.aload_n 0, 1)) rfl (lv_at hl 3 rfl) ?_
  refine lv_iload_n hx hb (by decide +kernel : decode code 538 = .ok (.iload_n 3, 1)) rfl (lv_at hl 0 rfl) ?_
  refine lv_iconst (v := 1) hx hb (by decide +kernel : decode code 539 = .ok (.iconst 1, 1)) (by decide) ?_
  refine lv_iadd hx hb (by decide +kernel : decode code 540 = .ok (.iadd, 1)) ?_
  refine va_sld hx hb hX hbl hbA hS h1 (by decide +kernel : decode code 541 = .ok (.iaload, 1)) ?_
  refine lv_aload_n hx hb (by decide +kernel : decode code 542 = .ok (.aload_n 0, 1)) rfl (lv_at hl 3 rfl) ?_
  refine lv_iload_n hx hb (by decide +kernel : decode code 543 = .ok (.iload_n 3, 1)) rfl (lv_at hl 0 rfl) ?_
  refine lv_iconst (v := 2) hx hb (by decide +kernel : decode code 544 = .ok (.iconst 2, 1)) (by decide) ?_
  refine lv_iadd hx hb (by decide +kernel : decode code 545 = .ok (.iadd, 1)) ?_
  refine va_sld hx hb hX hbl hbA hS h2 (by decide +kernel : decode code 546 = .ok (.iaload, 1)) ?_
  refine z_lcall (k := 73) (o := 21) (vs := [xs (x3 + 1).toNatClampNeg, xs (x3 + 2).toNatClampNeg]) (rest := []) hx hb hml hown hts hK hN had hA hM (Nat.le_of_ble_eq_true rfl) (Nat.le_of_ble_eq_true rfl) ⟨(Nat.le_of_ble_eq_true rfl), (Nat.le_of_ble_eq_true rfl)⟩ z_mt73 rfl rfl ⟨(Nat.le_of_ble_eq_true rfl), (Nat.le_of_ble_eq_true rfl)⟩ (Nat.le_of_ble_eq_true rfl) (z_m3 (i := 106) rfl rfl) rfl rfl rfl e1 hl hP hS (by decide +kernel : decode code 547 = .ok (.invokevirtual 82, 3)) (by simp [Value.category]) (fun H locs hP hM hS => ?_)
  refine lv_aload_n hx hb (by decide +kernel : decode code 550 = .ok (.aload_n 2, 1)) rfl (lv_at hl 1 rfl) ?_
  refine lv_aload_n hx hb (by decide +kernel : decode code 551 = .ok (.aload_n 0, 1)) rfl (lv_at hl 3 rfl) ?_
  refine lv_iload_n hx hb (by decide +kernel : decode code 552 = .ok (.iload_n 3, 1)) rfl (lv_at hl 0 rfl) ?_
  refine lv_iconst (v := 1) hx hb (by decide +kernel : decode code 553 = .ok (.iconst 1, 1)) (by decide) ?_
  refine lv_iadd hx hb (by decide +kernel : decode code 554 = .ok (.iadd, 1)) ?_
  refine va_sld hx hb hX hbl hbA hS h1 (by decide +kernel : decode code 555 = .ok (.iaload, 1)) ?_
  refine lv_aload_n hx hb (by decide +kernel : decode code 556 = .ok (.aload_n 0, 1)) rfl (lv_at hl 3 rfl) ?_
  refine lv_iload_n hx hb (by decide +kernel : decode code 557 = .ok (.iload_n 3, 1)) rfl (lv_at hl 0 rfl) ?_
  refine lv_iconst (v := 2) hx hb (by decide +kernel : decode code 558 = .ok (.iconst 2, 1)) (by decide) ?_
  refine lv_iadd hx hb (by decide +kernel : decode code 559 = .ok (.iadd, 1)) ?_
  refine va_sld hx hb hX hbl hbA hS h2 (by decide +kernel : decode code 560 = .ok (.iaload, 1)) ?_
  refine z_lcall (k := 111) (o := 30) (vs := [xs (x3 + 1).toNatClampNeg, xs (x3 + 2).toNatClampNeg]) (rest := [.int (Int32.ofInt r)]) hx hb hml hown hts hK hN had hA hM (Nat.le_of_ble_eq_true rfl) (Nat.le_of_ble_eq_true rfl) ⟨(Nat.le_of_ble_eq_true rfl), (Nat.le_of_ble_eq_true rfl)⟩ z_mt111 rfl rfl ⟨(Nat.le_of_ble_eq_true rfl), (Nat.le_of_ble_eq_true rfl)⟩ (Nat.le_of_ble_eq_true rfl) (z_m4 (i := 141) rfl rfl) rfl rfl rfl e2 hl hP hS (by decide +kernel : decode code 561 = .ok (.invokevirtual 85, 3)) (by simp [Value.category]) (fun H locs hP hM hS => ?_)
  exact lv_icmp_eq (tgt := 694) hx hb (by decide +kernel : decode code 564 = .ok (.if_icmp .eq 130, 3)) (by decide) (fun _ => kk M2 H locs hR2 hM hP hS) (fun h => absurd rfl h)
set_option maxHeartbeats 4000000 in
set_option maxRecDepth 100000 in
theorem lc_17 {p : Program} {e : Env} {s : State} {m : MethodId} {below : List Frame} {meth : Method} {c : Code} {l : Launch} {b L : Nat} {xs : Nat → Int32} (C0 : lw_At p s m meth c b L xs) {D : va_G} {cA : Nat → ClassId} {ad : Nat → Nat} (E : lw_K s D cA ad) {M : z_M} (hR : w_R M) (hM : z_okM M) {x3 : Int32} (h1 : vp_in (x3 + 1) L) (h2 : vp_in (x3 + 2) L) (h3 : vp_in (x3 + 3) L) (h4 : vp_in (x3 + 4) L) {H : Heap} {locs : List Loc} (hP : va_P D z_cl (z_ws ad cA M) H) (hS : va_S (fun q : Nat => s.heap.size ≤ q) s.heap H locs) {ls : Array Slot} (hl : lv_has ls 4 [(3, .int x3), (2, .ref (ad (z_ix 0 30))), (1, .ref (ad (z_ix 0 21))), (0, .ref b)]) (kk : ∀ (M2 : z_M) (H1 : Heap) (locs1 : List Loc), w_R M2 → z_okM M2 → va_P D z_cl (z_ws ad cA M2) H1 → va_S (fun q : Nat => s.heap.size ≤ q) s.heap H1 locs1 → W p l e room_1 s m #[Value.ref b] below meth c H1 locs1 162 17458 (lw_Z below #[Value.ref b] s) (F0 m 694 ls [])) : W p l e room_1 s m #[Value.ref b] below meth c H locs 162 17458 (lw_Z below #[Value.ref b] s) (F0 m 569 ls []) := by
  obtain ⟨hx, hb, hr, hml, hown, htsL, hX, hbl, hlocks, hgv⟩ := C0
  have hts : ∀ w ∈ z_G, w.before #[Value.ref b] s = true := fun w hw => htsL w (List.mem_filter.mp hw).1
  obtain ⟨hK, hN, had, hA⟩ := E
  have hbA : ¬ (fun q : Nat => s.heap.size ≤ q) b := Nat.not_le.mpr hbl
  obtain ⟨r, M1, M2, e1, e2, hR2⟩ := c_served (xs (x3 + 1).toNatClampNeg).toInt M hR
  refine lv_aload_n hx hb (by decide +kernel : decode code 569 = .ok (.aload_n 1, 1)) rfl (lv_at hl 2 rfl) ?_
  refine lv_aload_n hx hb (by decide +kernel : decode code 570 = .ok (.aload_n 0, 1)) rfl (lv_at hl 3 rfl) ?_
  refine lv_iload_n hx hb (by decide +kernel : decode code 571 = .ok (.iload_n 3, 1)) rfl (lv_at hl 0 rfl) ?_
  refine lv_iconst (v := 1) hx hb (by decide +kernel : decode code 572 = .ok (.iconst 1, 1)) (by decide) ?_
  refine lv_iadd hx hb (by decide +kernel : decode code 573 = .ok (.iadd, 1)) ?_
  refine va_sld hx hb hX hbl hbA hS h1 (by decide +kernel : decode code 574 = .ok (.iaload, 1)) ?_
  refine z_lcall (k := 80) (o := 21) (vs := [xs (x3 + 1).toNatClampNeg]) (rest := []) hx hb hml hown hts hK hN had hA hM (Nat.le_of_ble_eq_true rfl) (Nat.le_of_ble_eq_true rfl) ⟨(Nat.le_of_ble_eq_true rfl), (Nat.le_of_ble_eq_true rfl)⟩ z_mt80 rfl rfl ⟨(Nat.le_of_ble_eq_true rfl), (Nat.le_of_ble_eq_true rfl)⟩ (Nat.le_of_ble_eq_true rfl) (z_m3 (i := 121) rfl rfl) rfl rfl rfl e1 hl hP hS (by decide +kernel : decode code 575 = .ok (.invokevirtual 86, 3)) (by simp [Value.category]) (fun H locs hP hM hS => ?_)
  refine lv_aload_n hx hb (by decide +kernel : decode code 578 = .ok (.aload_n 2, 1)) rfl (lv_at hl 1 rfl) ?_
  refine lv_aload_n hx hb (by decide +kernel : decode code 579 = .ok (.aload_n 0, 1)) rfl (lv_at hl 3 rfl) ?_
  refine lv_iload_n hx hb (by decide +kernel : decode code 580 = .ok (.iload_n 3, 1)) rfl (lv_at hl 0 rfl) ?_
  refine lv_iconst (v := 1) hx hb (by decide +kernel : decode code 581 = .ok (.iconst 1, 1)) (by decide) ?_
  refine lv_iadd hx hb (by decide +kernel : decode code 582 = .ok (.iadd, 1)) ?_
  refine va_sld hx hb hX hbl hbA hS h1 (by decide +kernel : decode code 583 = .ok (.iaload, 1)) ?_
  refine z_lcall (k := 131) (o := 30) (vs := [xs (x3 + 1).toNatClampNeg]) (rest := [.int (Int32.ofInt r)]) hx hb hml hown hts hK hN had hA hM (Nat.le_of_ble_eq_true rfl) (Nat.le_of_ble_eq_true rfl) ⟨(Nat.le_of_ble_eq_true rfl), (Nat.le_of_ble_eq_true rfl)⟩ z_mt131 rfl rfl ⟨(Nat.le_of_ble_eq_true rfl), (Nat.le_of_ble_eq_true rfl)⟩ (Nat.le_of_ble_eq_true rfl) (z_m4 (i := 149) rfl rfl) rfl rfl rfl e2 hl hP hS (by decide +kernel : decode code 584 = .ok (.invokevirtual 89, 3)) (by simp [Value.category]) (fun H locs hP hM hS => ?_)
  exact lv_icmp_eq (tgt := 694) hx hb (by decide +kernel : decode code 587 = .ok (.if_icmp .eq 107, 3)) (by decide) (fun _ => kk M2 H locs hR2 hM hP hS) (fun h => absurd rfl h)
set_option maxHeartbeats 4000000 in
set_option maxRecDepth 100000 in
theorem lc_18 {p : Program} {e : Env} {s : State} {m : MethodId} {below : List Frame} {meth : Method} {c : Code} {l : Launch} {b L : Nat} {xs : Nat → Int32} (C0 : lw_At p s m meth c b L xs) {D : va_G} {cA : Nat → ClassId} {ad : Nat → Nat} (E : lw_K s D cA ad) {M : z_M} (hR : w_R M) (hM : z_okM M) {x3 : Int32} (h1 : vp_in (x3 + 1) L) (h2 : vp_in (x3 + 2) L) (h3 : vp_in (x3 + 3) L) (h4 : vp_in (x3 + 4) L) {H : Heap} {locs : List Loc} (hP : va_P D z_cl (z_ws ad cA M) H) (hS : va_S (fun q : Nat => s.heap.size ≤ q) s.heap H locs) {ls : Array Slot} (hl : lv_has ls 4 [(3, .int x3), (2, .ref (ad (z_ix 0 30))), (1, .ref (ad (z_ix 0 21))), (0, .ref b)]) (kk : ∀ (M2 : z_M) (H1 : Heap) (locs1 : List Loc), w_R M2 → z_okM M2 → va_P D z_cl (z_ws ad cA M2) H1 → va_S (fun q : Nat => s.heap.size ≤ q) s.heap H1 locs1 → W p l e room_1 s m #[Value.ref b] below meth c H1 locs1 162 17458 (lw_Z below #[Value.ref b] s) (F0 m 694 ls [])) : W p l e room_1 s m #[Value.ref b] below meth c H locs 162 17458 (lw_Z below #[Value.ref b] s) (F0 m 592 ls []) := by
  obtain ⟨hx, hb, hr, hml, hown, htsL, hX, hbl, hlocks, hgv⟩ := C0
  have hts : ∀ w ∈ z_G, w.before #[Value.ref b] s = true := fun w hw => htsL w (List.mem_filter.mp hw).1
  obtain ⟨hK, hN, had, hA⟩ := E
  have hbA : ¬ (fun q : Nat => s.heap.size ≤ q) b := Nat.not_le.mpr hbl
  obtain ⟨r, M1, M2, e1, e2, hR2⟩ := c_beginsAt (xs (x3 + 1).toNatClampNeg).toInt M hR
  refine lv_aload_n hx hb (by decide +kernel : decode code 592 = .ok (.aload_n 1, 1)) rfl (lv_at hl 2 rfl) ?_
  refine lv_aload_n hx hb (by decide +kernel : decode code 593 = .ok (.aload_n 0, 1)) rfl (lv_at hl 3 rfl) ?_
  refine lv_iload_n hx hb (by decide +kernel : decode code 594 = .ok (.iload_n 3, 1)) rfl (lv_at hl 0 rfl) ?_
  refine lv_iconst (v := 1) hx hb (by decide +kernel : decode code 595 = .ok (.iconst 1, 1)) (by decide) ?_
  refine lv_iadd hx hb (by decide +kernel : decode code 596 = .ok (.iadd, 1)) ?_
  refine va_sld hx hb hX hbl hbA hS h1 (by decide +kernel : decode code 597 = .ok (.iaload, 1)) ?_
  refine z_lcall (k := 65) (o := 21) (vs := [xs (x3 + 1).toNatClampNeg]) (rest := []) hx hb hml hown hts hK hN had hA hM (Nat.le_of_ble_eq_true rfl) (Nat.le_of_ble_eq_true rfl) ⟨(Nat.le_of_ble_eq_true rfl), (Nat.le_of_ble_eq_true rfl)⟩ z_mt65 rfl rfl ⟨(Nat.le_of_ble_eq_true rfl), (Nat.le_of_ble_eq_true rfl)⟩ (Nat.le_of_ble_eq_true rfl) (z_m3 (i := 129) rfl rfl) rfl rfl rfl e1 hl hP hS (by decide +kernel : decode code 598 = .ok (.invokevirtual 90, 3)) (by simp [Value.category]) (fun H locs hP hM hS => ?_)
  refine lv_aload_n hx hb (by decide +kernel : decode code 601 = .ok (.aload_n 2, 1)) rfl (lv_at hl 1 rfl) ?_
  refine lv_aload_n hx hb (by decide +kernel : decode code 602 = .ok (.aload_n 0, 1)) rfl (lv_at hl 3 rfl) ?_
  refine lv_iload_n hx hb (by decide +kernel : decode code 603 = .ok (.iload_n 3, 1)) rfl (lv_at hl 0 rfl) ?_
  refine lv_iconst (v := 1) hx hb (by decide +kernel : decode code 604 = .ok (.iconst 1, 1)) (by decide) ?_
  refine lv_iadd hx hb (by decide +kernel : decode code 605 = .ok (.iadd, 1)) ?_
  refine va_sld hx hb hX hbl hbA hS h1 (by decide +kernel : decode code 606 = .ok (.iaload, 1)) ?_
  refine z_lcall (k := 92) (o := 30) (vs := [xs (x3 + 1).toNatClampNeg]) (rest := [.int (Int32.ofInt r)]) hx hb hml hown hts hK hN had hA hM (Nat.le_of_ble_eq_true rfl) (Nat.le_of_ble_eq_true rfl) ⟨(Nat.le_of_ble_eq_true rfl), (Nat.le_of_ble_eq_true rfl)⟩ z_mt92 rfl rfl ⟨(Nat.le_of_ble_eq_true rfl), (Nat.le_of_ble_eq_true rfl)⟩ (Nat.le_of_ble_eq_true rfl) (z_m4 (i := 157) rfl rfl) rfl rfl rfl e2 hl hP hS (by decide +kernel : decode code 607 = .ok (.invokevirtual 93, 3)) (by simp [Value.category]) (fun H locs hP hM hS => ?_)
  exact lv_icmp_eq (tgt := 694) hx hb (by decide +kernel : decode code 610 = .ok (.if_icmp .eq 84, 3)) (by decide) (fun _ => kk M2 H locs hR2 hM hP hS) (fun h => absurd rfl h)
set_option maxHeartbeats 4000000 in
set_option maxRecDepth 100000 in
theorem lc_19 {p : Program} {e : Env} {s : State} {m : MethodId} {below : List Frame} {meth : Method} {c : Code} {l : Launch} {b L : Nat} {xs : Nat → Int32} (C0 : lw_At p s m meth c b L xs) {D : va_G} {cA : Nat → ClassId} {ad : Nat → Nat} (E : lw_K s D cA ad) {M : z_M} (hR : w_R M) (hM : z_okM M) {x3 : Int32} (h1 : vp_in (x3 + 1) L) (h2 : vp_in (x3 + 2) L) (h3 : vp_in (x3 + 3) L) (h4 : vp_in (x3 + 4) L) {H : Heap} {locs : List Loc} (hP : va_P D z_cl (z_ws ad cA M) H) (hS : va_S (fun q : Nat => s.heap.size ≤ q) s.heap H locs) {ls : Array Slot} (hl : lv_has ls 4 [(3, .int x3), (2, .ref (ad (z_ix 0 30))), (1, .ref (ad (z_ix 0 21))), (0, .ref b)]) (kk : ∀ (M2 : z_M) (H1 : Heap) (locs1 : List Loc), w_R M2 → z_okM M2 → va_P D z_cl (z_ws ad cA M2) H1 → va_S (fun q : Nat => s.heap.size ≤ q) s.heap H1 locs1 → W p l e room_1 s m #[Value.ref b] below meth c H1 locs1 162 17458 (lw_Z below #[Value.ref b] s) (F0 m 694 ls [])) : W p l e room_1 s m #[Value.ref b] below meth c H locs 162 17458 (lw_Z below #[Value.ref b] s) (F0 m 615 ls []) := by
  obtain ⟨hx, hb, hr, hml, hown, htsL, hX, hbl, hlocks, hgv⟩ := C0
  have hts : ∀ w ∈ z_G, w.before #[Value.ref b] s = true := fun w hw => htsL w (List.mem_filter.mp hw).1
  obtain ⟨hK, hN, had, hA⟩ := E
  have hbA : ¬ (fun q : Nat => s.heap.size ≤ q) b := Nat.not_le.mpr hbl
  obtain ⟨r, M1, M2, e1, e2, hR2⟩ := c_bound (xs (x3 + 1).toNatClampNeg).toInt M hR
  refine lv_aload_n hx hb (by decide +kernel : decode code 615 = .ok (.aload_n 1, 1)) rfl (lv_at hl 2 rfl) ?_
  refine lv_aload_n hx hb (by decide +kernel : decode code 616 = .ok (.aload_n 0, 1)) rfl (lv_at hl 3 rfl) ?_
  refine lv_iload_n hx hb (by decide +kernel : decode code 617 = .ok (.iload_n 3, 1)) rfl (lv_at hl 0 rfl) ?_
  refine lv_iconst (v := 1) hx hb (by decide +kernel : decode code 618 = .ok (.iconst 1, 1)) (by decide) ?_
  refine lv_iadd hx hb (by decide +kernel : decode code 619 = .ok (.iadd, 1)) ?_
  refine va_sld hx hb hX hbl hbA hS h1 (by decide +kernel : decode code 620 = .ok (.iaload, 1)) ?_
  refine z_lcall (k := 66) (o := 21) (vs := [xs (x3 + 1).toNatClampNeg]) (rest := []) hx hb hml hown hts hK hN had hA hM (Nat.le_of_ble_eq_true rfl) (Nat.le_of_ble_eq_true rfl) ⟨(Nat.le_of_ble_eq_true rfl), (Nat.le_of_ble_eq_true rfl)⟩ z_mt66 rfl rfl ⟨(Nat.le_of_ble_eq_true rfl), (Nat.le_of_ble_eq_true rfl)⟩ (Nat.le_of_ble_eq_true rfl) (z_m3 (i := 134) rfl rfl) rfl rfl rfl e1 hl hP hS (by decide +kernel : decode code 621 = .ok (.invokevirtual 94, 3)) (by simp [Value.category]) (fun H locs hP hM hS => ?_)
  refine lv_aload_n hx hb (by decide +kernel : decode code 624 = .ok (.aload_n 2, 1)) rfl (lv_at hl 1 rfl) ?_
  refine lv_aload_n hx hb (by decide +kernel : decode code 625 = .ok (.aload_n 0, 1)) rfl (lv_at hl 3 rfl) ?_
  refine lv_iload_n hx hb (by decide +kernel : decode code 626 = .ok (.iload_n 3, 1)) rfl (lv_at hl 0 rfl) ?_
  refine lv_iconst (v := 1) hx hb (by decide +kernel : decode code 627 = .ok (.iconst 1, 1)) (by decide) ?_
  refine lv_iadd hx hb (by decide +kernel : decode code 628 = .ok (.iadd, 1)) ?_
  refine va_sld hx hb hX hbl hbA hS h1 (by decide +kernel : decode code 629 = .ok (.iaload, 1)) ?_
  refine z_lcall (k := 93) (o := 30) (vs := [xs (x3 + 1).toNatClampNeg]) (rest := [.int (Int32.ofInt r)]) hx hb hml hown hts hK hN had hA hM (Nat.le_of_ble_eq_true rfl) (Nat.le_of_ble_eq_true rfl) ⟨(Nat.le_of_ble_eq_true rfl), (Nat.le_of_ble_eq_true rfl)⟩ z_mt93 rfl rfl ⟨(Nat.le_of_ble_eq_true rfl), (Nat.le_of_ble_eq_true rfl)⟩ (Nat.le_of_ble_eq_true rfl) (z_m4 (i := 161) rfl rfl) rfl rfl rfl e2 hl hP hS (by decide +kernel : decode code 630 = .ok (.invokevirtual 97, 3)) (by simp [Value.category]) (fun H locs hP hM hS => ?_)
  exact lv_icmp_eq (tgt := 694) hx hb (by decide +kernel : decode code 633 = .ok (.if_icmp .eq 61, 3)) (by decide) (fun _ => kk M2 H locs hR2 hM hP hS) (fun h => absurd rfl h)
set_option maxHeartbeats 4000000 in
set_option maxRecDepth 100000 in
theorem lc_20 {p : Program} {e : Env} {s : State} {m : MethodId} {below : List Frame} {meth : Method} {c : Code} {l : Launch} {b L : Nat} {xs : Nat → Int32} (C0 : lw_At p s m meth c b L xs) {D : va_G} {cA : Nat → ClassId} {ad : Nat → Nat} (E : lw_K s D cA ad) {M : z_M} (hR : w_R M) (hM : z_okM M) {x3 : Int32} (h1 : vp_in (x3 + 1) L) (h2 : vp_in (x3 + 2) L) (h3 : vp_in (x3 + 3) L) (h4 : vp_in (x3 + 4) L) {H : Heap} {locs : List Loc} (hP : va_P D z_cl (z_ws ad cA M) H) (hS : va_S (fun q : Nat => s.heap.size ≤ q) s.heap H locs) {ls : Array Slot} (hl : lv_has ls 4 [(3, .int x3), (2, .ref (ad (z_ix 0 30))), (1, .ref (ad (z_ix 0 21))), (0, .ref b)]) (kk : ∀ (M2 : z_M) (H1 : Heap) (locs1 : List Loc), w_R M2 → z_okM M2 → va_P D z_cl (z_ws ad cA M2) H1 → va_S (fun q : Nat => s.heap.size ≤ q) s.heap H1 locs1 → W p l e room_1 s m #[Value.ref b] below meth c H1 locs1 162 17458 (lw_Z below #[Value.ref b] s) (F0 m 694 ls [])) : W p l e room_1 s m #[Value.ref b] below meth c H locs 162 17458 (lw_Z below #[Value.ref b] s) (F0 m 638 ls []) := by
  obtain ⟨hx, hb, hr, hml, hown, htsL, hX, hbl, hlocks, hgv⟩ := C0
  have hts : ∀ w ∈ z_G, w.before #[Value.ref b] s = true := fun w hw => htsL w (List.mem_filter.mp hw).1
  obtain ⟨hK, hN, had, hA⟩ := E
  have hbA : ¬ (fun q : Nat => s.heap.size ≤ q) b := Nat.not_le.mpr hbl
  obtain ⟨r, M1, M2, e1, e2, hR2⟩ := c_shares (xs (x3 + 1).toNatClampNeg).toInt (xs (x3 + 2).toNatClampNeg).toInt M hR
  refine lv_aload_n hx hb (by decide +kernel : decode code 638 = .ok (.aload_n 1, 1)) rfl (lv_at hl 2 rfl) ?_
  refine lv_aload_n hx hb (by decide +kernel : decode code 639 = .ok (.aload_n 0, 1)) rfl (lv_at hl 3 rfl) ?_
  refine lv_iload_n hx hb (by decide +kernel : decode code 640 = .ok (.iload_n 3, 1)) rfl (lv_at hl 0 rfl) ?_
  refine lv_iconst (v := 1) hx hb (by decide +kernel : decode code 641 = .ok (.iconst 1, 1)) (by decide) ?_
  refine lv_iadd hx hb (by decide +kernel : decode code 642 = .ok (.iadd, 1)) ?_
  refine va_sld hx hb hX hbl hbA hS h1 (by decide +kernel : decode code 643 = .ok (.iaload, 1)) ?_
  refine lv_aload_n hx hb (by decide +kernel : decode code 644 = .ok (.aload_n 0, 1)) rfl (lv_at hl 3 rfl) ?_
  refine lv_iload_n hx hb (by decide +kernel : decode code 645 = .ok (.iload_n 3, 1)) rfl (lv_at hl 0 rfl) ?_
  refine lv_iconst (v := 2) hx hb (by decide +kernel : decode code 646 = .ok (.iconst 2, 1)) (by decide) ?_
  refine lv_iadd hx hb (by decide +kernel : decode code 647 = .ok (.iadd, 1)) ?_
  refine va_sld hx hb hX hbl hbA hS h2 (by decide +kernel : decode code 648 = .ok (.iaload, 1)) ?_
  refine z_lcall (k := 84) (o := 21) (vs := [xs (x3 + 1).toNatClampNeg, xs (x3 + 2).toNatClampNeg]) (rest := []) hx hb hml hown hts hK hN had hA hM (Nat.le_of_ble_eq_true rfl) (Nat.le_of_ble_eq_true rfl) ⟨(Nat.le_of_ble_eq_true rfl), (Nat.le_of_ble_eq_true rfl)⟩ z_mt84 rfl rfl ⟨(Nat.le_of_ble_eq_true rfl), (Nat.le_of_ble_eq_true rfl)⟩ (Nat.le_of_ble_eq_true rfl) (z_m3 (i := 144) rfl rfl) rfl rfl rfl e1 hl hP hS (by decide +kernel : decode code 649 = .ok (.invokevirtual 98, 3)) (by simp [Value.category]) (fun H locs hP hM hS => ?_)
  refine lv_aload_n hx hb (by decide +kernel : decode code 652 = .ok (.aload_n 2, 1)) rfl (lv_at hl 1 rfl) ?_
  refine lv_aload_n hx hb (by decide +kernel : decode code 653 = .ok (.aload_n 0, 1)) rfl (lv_at hl 3 rfl) ?_
  refine lv_iload_n hx hb (by decide +kernel : decode code 654 = .ok (.iload_n 3, 1)) rfl (lv_at hl 0 rfl) ?_
  refine lv_iconst (v := 1) hx hb (by decide +kernel : decode code 655 = .ok (.iconst 1, 1)) (by decide) ?_
  refine lv_iadd hx hb (by decide +kernel : decode code 656 = .ok (.iadd, 1)) ?_
  refine va_sld hx hb hX hbl hbA hS h1 (by decide +kernel : decode code 657 = .ok (.iaload, 1)) ?_
  refine lv_aload_n hx hb (by decide +kernel : decode code 658 = .ok (.aload_n 0, 1)) rfl (lv_at hl 3 rfl) ?_
  refine lv_iload_n hx hb (by decide +kernel : decode code 659 = .ok (.iload_n 3, 1)) rfl (lv_at hl 0 rfl) ?_
  refine lv_iconst (v := 2) hx hb (by decide +kernel : decode code 660 = .ok (.iconst 2, 1)) (by decide) ?_
  refine lv_iadd hx hb (by decide +kernel : decode code 661 = .ok (.iadd, 1)) ?_
  refine va_sld hx hb hX hbl hbA hS h2 (by decide +kernel : decode code 662 = .ok (.iaload, 1)) ?_
  refine z_lcall (k := 136) (o := 30) (vs := [xs (x3 + 1).toNatClampNeg, xs (x3 + 2).toNatClampNeg]) (rest := [.int (Int32.ofInt r)]) hx hb hml hown hts hK hN had hA hM (Nat.le_of_ble_eq_true rfl) (Nat.le_of_ble_eq_true rfl) ⟨(Nat.le_of_ble_eq_true rfl), (Nat.le_of_ble_eq_true rfl)⟩ z_mt136 rfl rfl ⟨(Nat.le_of_ble_eq_true rfl), (Nat.le_of_ble_eq_true rfl)⟩ (Nat.le_of_ble_eq_true rfl) (z_m4 (i := 165) rfl rfl) rfl rfl rfl e2 hl hP hS (by decide +kernel : decode code 663 = .ok (.invokevirtual 101, 3)) (by simp [Value.category]) (fun H locs hP hM hS => ?_)
  exact lv_icmp_eq (tgt := 694) hx hb (by decide +kernel : decode code 666 = .ok (.if_icmp .eq 28, 3)) (by decide) (fun _ => kk M2 H locs hR2 hM hP hS) (fun h => absurd rfl h)
set_option maxHeartbeats 4000000 in
set_option maxRecDepth 100000 in
theorem lc_21 {p : Program} {e : Env} {s : State} {m : MethodId} {below : List Frame} {meth : Method} {c : Code} {l : Launch} {b L : Nat} {xs : Nat → Int32} (C0 : lw_At p s m meth c b L xs) {D : va_G} {cA : Nat → ClassId} {ad : Nat → Nat} (E : lw_K s D cA ad) {M : z_M} (hR : w_R M) (hM : z_okM M) {x3 : Int32} (h1 : vp_in (x3 + 1) L) (h2 : vp_in (x3 + 2) L) (h3 : vp_in (x3 + 3) L) (h4 : vp_in (x3 + 4) L) {H : Heap} {locs : List Loc} (hP : va_P D z_cl (z_ws ad cA M) H) (hS : va_S (fun q : Nat => s.heap.size ≤ q) s.heap H locs) {ls : Array Slot} (hl : lv_has ls 4 [(3, .int x3), (2, .ref (ad (z_ix 0 30))), (1, .ref (ad (z_ix 0 21))), (0, .ref b)]) (kk : ∀ (M2 : z_M) (H1 : Heap) (locs1 : List Loc), w_R M2 → z_okM M2 → va_P D z_cl (z_ws ad cA M2) H1 → va_S (fun q : Nat => s.heap.size ≤ q) s.heap H1 locs1 → W p l e room_1 s m #[Value.ref b] below meth c H1 locs1 162 17458 (lw_Z below #[Value.ref b] s) (F0 m 694 ls [])) : W p l e room_1 s m #[Value.ref b] below meth c H locs 162 17458 (lw_Z below #[Value.ref b] s) (F0 m 671 ls []) := by
  obtain ⟨hx, hb, hr, hml, hown, htsL, hX, hbl, hlocks, hgv⟩ := C0
  have hts : ∀ w ∈ z_G, w.before #[Value.ref b] s = true := fun w hw => htsL w (List.mem_filter.mp hw).1
  obtain ⟨hK, hN, had, hA⟩ := E
  have hbA : ¬ (fun q : Nat => s.heap.size ≤ q) b := Nat.not_le.mpr hbl
  obtain ⟨r, M1, M2, e1, e2, hR2⟩ := c_count (xs (x3 + 1).toNatClampNeg).toInt M hR
  refine lv_aload_n hx hb (by decide +kernel : decode code 671 = .ok (.aload_n 1, 1)) rfl (lv_at hl 2 rfl) ?_
  refine lv_aload_n hx hb (by decide +kernel : decode code 672 = .ok (.aload_n 0, 1)) rfl (lv_at hl 3 rfl) ?_
  refine lv_iload_n hx hb (by decide +kernel : decode code 673 = .ok (.iload_n 3, 1)) rfl (lv_at hl 0 rfl) ?_
  refine lv_iconst (v := 1) hx hb (by decide +kernel : decode code 674 = .ok (.iconst 1, 1)) (by decide) ?_
  refine lv_iadd hx hb (by decide +kernel : decode code 675 = .ok (.iadd, 1)) ?_
  refine va_sld hx hb hX hbl hbA hS h1 (by decide +kernel : decode code 676 = .ok (.iaload, 1)) ?_
  refine z_lcall (k := 69) (o := 21) (vs := [xs (x3 + 1).toNatClampNeg]) (rest := []) hx hb hml hown hts hK hN had hA hM (Nat.le_of_ble_eq_true rfl) (Nat.le_of_ble_eq_true rfl) ⟨(Nat.le_of_ble_eq_true rfl), (Nat.le_of_ble_eq_true rfl)⟩ z_mt69 rfl rfl ⟨(Nat.le_of_ble_eq_true rfl), (Nat.le_of_ble_eq_true rfl)⟩ (Nat.le_of_ble_eq_true rfl) (z_m3 (i := 149) rfl rfl) rfl rfl rfl e1 hl hP hS (by decide +kernel : decode code 677 = .ok (.invokevirtual 102, 3)) (by simp [Value.category]) (fun H locs hP hM hS => ?_)
  refine lv_aload_n hx hb (by decide +kernel : decode code 680 = .ok (.aload_n 2, 1)) rfl (lv_at hl 1 rfl) ?_
  refine lv_aload_n hx hb (by decide +kernel : decode code 681 = .ok (.aload_n 0, 1)) rfl (lv_at hl 3 rfl) ?_
  refine lv_iload_n hx hb (by decide +kernel : decode code 682 = .ok (.iload_n 3, 1)) rfl (lv_at hl 0 rfl) ?_
  refine lv_iconst (v := 1) hx hb (by decide +kernel : decode code 683 = .ok (.iconst 1, 1)) (by decide) ?_
  refine lv_iadd hx hb (by decide +kernel : decode code 684 = .ok (.iadd, 1)) ?_
  refine va_sld hx hb hX hbl hbA hS h1 (by decide +kernel : decode code 685 = .ok (.iaload, 1)) ?_
  refine z_lcall (k := 101) (o := 30) (vs := [xs (x3 + 1).toNatClampNeg]) (rest := [.int (Int32.ofInt r)]) hx hb hml hown hts hK hN had hA hM (Nat.le_of_ble_eq_true rfl) (Nat.le_of_ble_eq_true rfl) ⟨(Nat.le_of_ble_eq_true rfl), (Nat.le_of_ble_eq_true rfl)⟩ z_mt101 rfl rfl ⟨(Nat.le_of_ble_eq_true rfl), (Nat.le_of_ble_eq_true rfl)⟩ (Nat.le_of_ble_eq_true rfl) (z_m4 (i := 170) rfl rfl) rfl rfl rfl e2 hl hP hS (by decide +kernel : decode code 686 = .ok (.invokevirtual 105, 3)) (by simp [Value.category]) (fun H locs hP hM hS => ?_)
  exact lv_icmp_eq (tgt := 694) hx hb (by decide +kernel : decode code 689 = .ok (.if_icmp .eq 5, 3)) (by decide) (fun _ => kk M2 H locs hR2 hM hP hS) (fun h => absurd rfl h)
