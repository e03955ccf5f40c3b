-- ===== 43.law: one call of the script
set_option maxHeartbeats 8000000 in
set_option maxRecDepth 100000 in
/-- one call of the script -/
theorem law_step {p : Program} {l : Launch} {e : Env} {s : State} {m : MethodId} {below : List Frame} {meth : Method} {c : Code} {D : va_G} {cI cN cZ : ClassId} {ad kd : Nat → Nat} {b L i : Nat} {xs : Nat → Int32} (hx : p.tables.exec = Jvm.exec) (hb : c.code = c_L_law) (hml : c.maxLocals = 4) (hown : s.vm.findClass R_L = some m.cls) (hts : ∀ w ∈ gT, w.before #[Value.ref b] s = true) (hX : va_X b L xs s s.heap) (hbl : b < s.heap.size) (hL : L ≤ 2049) (hiL : i + 4 ≤ L) (hKx : va_K D vwCl (x_ty cI cN) s) (hKk : va_K D vwCl (k_ty cI cZ) s) {z y : x_S} (hI : r_I z) (hA : r_A z y) {H : Heap} {locs : List Loc} {ls : Array Slot} (hP : va_P D vwCl (x_w cI cN ad z ++ k_w cI cZ kd y) H) (hD : va_D (fun q : Nat => s.heap.size ≤ q) (x_w cI cN ad z ++ k_w cI cZ kd y)) (hS : va_S (fun q : Nat => s.heap.size ≤ q) s.heap H locs) (hl : lv_has ls 4 [(3, .int (nI i)), (2, .ref (kd 0)), (1, .ref (ad 0)), (0, .ref b)])
    (hnext : ∀ (z y : x_S) (H : Heap) (locs : List Loc) (ls : Array Slot), r_I z → r_A z y → va_P D vwCl (x_w cI cN ad z ++ k_w cI cZ kd y) H → va_D (fun q : Nat => s.heap.size ≤ q) (x_w cI cN ad z ++ k_w cI cZ kd y) → va_S (fun q : Nat => s.heap.size ≤ q) s.heap H locs → lv_has ls 4 [(3, .int (nI i)), (2, .ref (kd 0)), (1, .ref (ad 0)), (0, .ref b)] → W p l e room_1 s m #[Value.ref b] below meth c H locs 26 404 (lw_Z below #[Value.ref b] s) (F0 m 641 ls [])) :
    W p l e room_1 s m #[Value.ref b] below meth c H locs 26 404 (lw_Z below #[Value.ref b] s) (F0 m 36 ls []) := by
  have hAA : ∀ q : Nat, s.heap.size ≤ q → (fun q : Nat => s.heap.size ≤ q) q := fun _ h => h
  have hbA : ¬ (fun q : Nat => s.heap.size ≤ q) b := Nat.not_le.mpr hbl
  obtain ⟨ho, hup, ⟨s0, hs0, hs⟩, ⟨sz, hsz, hz, hcl⟩, hm, hsy⟩ := id hI
  obtain ⟨mm, hmm, em⟩ := hm s0 hs0
  have hqs : ¬ y 0 7 = 2 → y 0 7 = nI s0 := by
    intro q
    rw [hA.2.2.1] at q ⊢
    by_cases r : z 0 2 = 0
    · rw [if_pos r] at q; exact absurd rfl q
    · rw [if_neg r]; exact hs
  have hup01 : ∀ k, k < 2 → z (5 + k) 0 = 0 ∨ z (5 + k) 0 = 1 := fun k hk => by
    rcases hA.2.2.2.1 k hk with r | r
    · exact Or.inr r.1
    · exact Or.inl r.1
  obtain ⟨k, hk, hq⟩ : ∃ k : Nat, k < 2 ∧ (¬ x_findP z = 2 → x_findP z = nI k) := by
    by_cases q : x_findP z = 2
    · exact ⟨0, by decide, fun h => absurd q h⟩
    · obtain ⟨k, hk, ek⟩ := x_findE rfl q
      exact ⟨k, hk, fun _ => ek⟩
  refine lv_aload_n hx hb d_L_law_36 rfl (lv_at hl 3 rfl) ?_
  refine lv_iload_n hx hb d_L_law_37 rfl (lv_at hl 0 rfl) ?_
  refine va_sld hx hb hX hbl hbA hS (show vp_in (nI i) L from vp_in_nI (by omega) (by omega)) d_L_law_38 ?_
  refine x_top (show xs (nI i).toNatClampNeg = xs i by rw [nI_clamp (by omega)]) ?_
  refine lv_bipush (v := 31) hx hb d_L_law_39 (by decide) ?_
  refine lv_iand hx hb d_L_law_41 ?_
  refine lv_topi (fun w ew => ?_)
  rcases x_sw 17 w with hsw | ⟨jj, hjj, ejj⟩
  · refine lv_tableOut (tgt := 641) hx hb d_L_law_42 hsw (by decide) ?_
    have hne0 : ¬ w = 0 := by rintro rfl; revert hsw; decide
    have hne1 : ¬ w = 1 := by rintro rfl; revert hsw; decide
    have hne2 : ¬ w = 2 := by rintro rfl; revert hsw; decide
    have hne3 : ¬ w = 3 := by rintro rfl; revert hsw; decide
    have hne4 : ¬ w = 4 := by rintro rfl; revert hsw; decide
    have hne5 : ¬ w = 5 := by rintro rfl; revert hsw; decide
    have hne6 : ¬ w = 6 := by rintro rfl; revert hsw; decide
    have hne7 : ¬ w = 7 := by rintro rfl; revert hsw; decide
    have hne8 : ¬ w = 8 := by rintro rfl; revert hsw; decide
    have hne9 : ¬ w = 9 := by rintro rfl; revert hsw; decide
    have hne10 : ¬ w = 10 := by rintro rfl; revert hsw; decide
    have hne11 : ¬ w = 11 := by rintro rfl; revert hsw; decide
    have hne12 : ¬ w = 12 := by rintro rfl; revert hsw; decide
    have hne13 : ¬ w = 13 := by rintro rfl; revert hsw; decide
    have hne14 : ¬ w = 14 := by rintro rfl; revert hsw; decide
    have hne15 : ¬ w = 15 := by rintro rfl; revert hsw; decide
    have hne16 : ¬ w = 16 := by rintro rfl; revert hsw; decide
    exact hnext z y H locs ls hI hA hP hD hS (lv_sub hl [0, 1, 2, 3] rfl)
  · subst ejj
    match jj, hjj with
    | 0, _ =>
      refine lv_tableIn (off := 82) (tgt := 124) hx hb d_L_law_42 (by decide) (by decide) rfl (by decide) ?_
      refine lv_aload_n hx hb d_L_law_124 rfl (lv_at hl 2 rfl) ?_
      refine lv_aload_n hx hb d_L_law_125 rfl (lv_at hl 3 rfl) ?_
      refine lv_iload_n hx hb d_L_law_126 rfl (lv_at hl 0 rfl) ?_
      refine lv_iconst (v := 1) hx hb d_L_law_127 (by decide) ?_
      refine lv_iadd hx hb d_L_law_128 ?_
      refine x_top (show (nI i) + 1 = nI (i + 1) from x_nadd i 1) ?_
      refine va_sld hx hb hX hbl hbA hS (show vp_in (nI (i + 1)) L from vp_in_nI (by omega) (by omega)) d_L_law_129 ?_
      refine x_top (show xs (nI (i + 1)).toNatClampNeg = xs (i + 1) by rw [nI_clamp (by omega)]) ?_
      refine lv_aload_n hx hb d_L_law_130 rfl (lv_at hl 3 rfl) ?_
      refine lv_iload_n hx hb d_L_law_131 rfl (lv_at hl 0 rfl) ?_
      refine lv_iconst (v := 2) hx hb d_L_law_132 (by decide) ?_
      refine lv_iadd hx hb d_L_law_133 ?_
      refine x_top (show (nI i) + 2 = nI (i + 2) from x_nadd i 2) ?_
      refine va_sld hx hb hX hbl hbA hS (show vp_in (nI (i + 2)) L from vp_in_nI (by omega) (by omega)) d_L_law_134 ?_
      refine x_top (show xs (nI (i + 2)).toNatClampNeg = xs (i + 2) by rw [nI_clamp (by omega)]) ?_
      refine l_V (rest := []) (wc := x_w cI cN ad z) (wr := k_w cI cZ kd y) ⟨hx, hb, hml, hown, hts⟩ (c_M_stage_ok l D cI cN ad z  sz hsz hz (xs (i + 1)) (xs (i + 2))) gm_176 gm_177 gm_178 gm_28 gm_179 ⟨rfl, rfl⟩ hd_M_stage ⟨Nat.le_of_ble_eq_true rfl, Nat.le_of_ble_eq_true rfl⟩ hKx hP hD hS hAA [0, 1, 2, 3, 4, 5, 6, 7, 8, 9, 10, 11, 12, 13] [14, 15, 16, 17, 18, 19, 20, 21, 22, 23, 24, 25] rfl rfl rfl rfl rfl (by decide) (va_recv hKx hP (ci := 4) (q0 := 0) rfl rfl) rfl hl.1 rfl (Nat.le_of_ble_eq_true rfl) d_L_law_135 ⟨Nat.le_of_ble_eq_true rfl, Nat.le_of_ble_eq_true rfl⟩ (fun H locs hP hD hS => ?_)
      refine lv_aload_n hx hb d_L_law_138 rfl (lv_at hl 1 rfl) ?_
      refine lv_aload_n hx hb d_L_law_139 rfl (lv_at hl 3 rfl) ?_
      refine lv_iload_n hx hb d_L_law_140 rfl (lv_at hl 0 rfl) ?_
      refine lv_iconst (v := 1) hx hb d_L_law_141 (by decide) ?_
      refine lv_iadd hx hb d_L_law_142 ?_
      refine x_top (show (nI i) + 1 = nI (i + 1) from x_nadd i 1) ?_
      refine va_sld hx hb hX hbl hbA hS (show vp_in (nI (i + 1)) L from vp_in_nI (by omega) (by omega)) d_L_law_143 ?_
      refine x_top (show xs (nI (i + 1)).toNatClampNeg = xs (i + 1) by rw [nI_clamp (by omega)]) ?_
      refine lv_aload_n hx hb d_L_law_144 rfl (lv_at hl 3 rfl) ?_
      refine lv_iload_n hx hb d_L_law_145 rfl (lv_at hl 0 rfl) ?_
      refine lv_iconst (v := 2) hx hb d_L_law_146 (by decide) ?_
      refine lv_iadd hx hb d_L_law_147 ?_
      refine x_top (show (nI i) + 2 = nI (i + 2) from x_nadd i 2) ?_
      refine va_sld hx hb hX hbl hbA hS (show vp_in (nI (i + 2)) L from vp_in_nI (by omega) (by omega)) d_L_law_148 ?_
      refine x_top (show xs (nI (i + 2)).toNatClampNeg = xs (i + 2) by rw [nI_clamp (by omega)]) ?_
      refine l_V (rest := [.int ((x_stage z sz (xs (i + 1)) (xs (i + 2))).1)]) (wc := k_w cI cZ kd y) (wr := x_w cI cN ad (x_stage z sz (xs (i + 1)) (xs (i + 2))).2) ⟨hx, hb, hml, hown, hts⟩ (c_K_stage_ok l D cI cZ kd y  sz hsz ((hA.at (r_sh.lo (by decide) (by decide))).trans hz) (xs (i + 1)) (xs (i + 2))) gm_465 gm_466 gm_467 gm_34 gm_468 ⟨rfl, rfl⟩ hd_K_stage ⟨Nat.le_of_ble_eq_true rfl, Nat.le_of_ble_eq_true rfl⟩ hKk hP hD hS hAA [0, 1, 2, 3, 4, 5, 6, 7, 8, 9, 10, 11] [12, 13, 14, 15, 16, 17, 18, 19, 20, 21, 22, 23, 24, 25] rfl rfl rfl rfl rfl (by decide) (va_recv hKk hP (ci := 5) (q0 := 0) rfl rfl) rfl hl.1 rfl (Nat.le_of_ble_eq_true rfl) d_L_law_149 ⟨Nat.le_of_ble_eq_true rfl, Nat.le_of_ble_eq_true rfl⟩ (fun H locs hP hD hS => ?_)
      refine lv_icmp_eq (tgt := 641) hx hb d_L_law_152 (by decide) (fun c1 => ?_) (fun c1 => ?_)
      · exact hnext _ _ H locs ls (hI.stage hsz hz hcl) (r_stage hsz hA).2 hP hD hS (lv_sub hl [0, 1, 2, 3] rfl)
      · exact absurd (r_stage hsz hA).1 c1
    | 1, _ =>
      refine lv_tableIn (off := 115) (tgt := 157) hx hb d_L_law_42 (by decide) (by decide) rfl (by decide) ?_
      refine lv_aload_n hx hb d_L_law_157 rfl (lv_at hl 2 rfl) ?_
      refine lv_aload_n hx hb d_L_law_158 rfl (lv_at hl 3 rfl) ?_
      refine lv_iload_n hx hb d_L_law_159 rfl (lv_at hl 0 rfl) ?_
      refine lv_iconst (v := 1) hx hb d_L_law_160 (by decide) ?_
      refine lv_iadd hx hb d_L_law_161 ?_
      refine x_top (show (nI i) + 1 = nI (i + 1) from x_nadd i 1) ?_
      refine va_sld hx hb hX hbl hbA hS (show vp_in (nI (i + 1)) L from vp_in_nI (by omega) (by omega)) d_L_law_162 ?_
      refine x_top (show xs (nI (i + 1)).toNatClampNeg = xs (i + 1) by rw [nI_clamp (by omega)]) ?_
      refine lv_aload_n hx hb d_L_law_163 rfl (lv_at hl 3 rfl) ?_
      refine lv_iload_n hx hb d_L_law_164 rfl (lv_at hl 0 rfl) ?_
      refine lv_iconst (v := 2) hx hb d_L_law_165 (by decide) ?_
      refine lv_iadd hx hb d_L_law_166 ?_
      refine x_top (show (nI i) + 2 = nI (i + 2) from x_nadd i 2) ?_
      refine va_sld hx hb hX hbl hbA hS (show vp_in (nI (i + 2)) L from vp_in_nI (by omega) (by omega)) d_L_law_167 ?_
      refine x_top (show xs (nI (i + 2)).toNatClampNeg = xs (i + 2) by rw [nI_clamp (by omega)]) ?_
      refine l_V (rest := []) (wc := x_w cI cN ad z) (wr := k_w cI cZ kd y) ⟨hx, hb, hml, hown, hts⟩ (c_M_commit_ok l D cI cN ad z  sz hsz hz hcl (xs (i + 1)) (xs (i + 2))) gm_191 gm_192 gm_193 gm_28 gm_194 ⟨rfl, rfl⟩ hd_M_commit ⟨Nat.le_of_ble_eq_true rfl, Nat.le_of_ble_eq_true rfl⟩ hKx hP hD hS hAA [0, 1, 2, 3, 4, 5, 6, 7, 8, 9, 10, 11, 12, 13] [14, 15, 16, 17, 18, 19, 20, 21, 22, 23, 24, 25] rfl rfl rfl rfl rfl (by decide) (va_recv hKx hP (ci := 4) (q0 := 0) rfl rfl) rfl hl.1 rfl (Nat.le_of_ble_eq_true rfl) d_L_law_168 ⟨Nat.le_of_ble_eq_true rfl, Nat.le_of_ble_eq_true rfl⟩ (fun H locs hP hD hS => ?_)
      refine lv_aload_n hx hb d_L_law_171 rfl (lv_at hl 1 rfl) ?_
      refine lv_aload_n hx hb d_L_law_172 rfl (lv_at hl 3 rfl) ?_
      refine lv_iload_n hx hb d_L_law_173 rfl (lv_at hl 0 rfl) ?_
      refine lv_iconst (v := 1) hx hb d_L_law_174 (by decide) ?_
      refine lv_iadd hx hb d_L_law_175 ?_
      refine x_top (show (nI i) + 1 = nI (i + 1) from x_nadd i 1) ?_
      refine va_sld hx hb hX hbl hbA hS (show vp_in (nI (i + 1)) L from vp_in_nI (by omega) (by omega)) d_L_law_176 ?_
      refine x_top (show xs (nI (i + 1)).toNatClampNeg = xs (i + 1) by rw [nI_clamp (by omega)]) ?_
      refine lv_aload_n hx hb d_L_law_177 rfl (lv_at hl 3 rfl) ?_
      refine lv_iload_n hx hb d_L_law_178 rfl (lv_at hl 0 rfl) ?_
      refine lv_iconst (v := 2) hx hb d_L_law_179 (by decide) ?_
      refine lv_iadd hx hb d_L_law_180 ?_
      refine x_top (show (nI i) + 2 = nI (i + 2) from x_nadd i 2) ?_
      refine va_sld hx hb hX hbl hbA hS (show vp_in (nI (i + 2)) L from vp_in_nI (by omega) (by omega)) d_L_law_181 ?_
      refine x_top (show xs (nI (i + 2)).toNatClampNeg = xs (i + 2) by rw [nI_clamp (by omega)]) ?_
      refine l_V (rest := [.int ((x_commit z sz (xs (i + 1)) (xs (i + 2))).1)]) (wc := k_w cI cZ kd y) (wr := x_w cI cN ad (x_commit z sz (xs (i + 1)) (xs (i + 2))).2) ⟨hx, hb, hml, hown, hts⟩ (c_K_commit_ok l D cI cZ kd y  k hk (by rw [hA.2.1]; exact hq) sz hsz ((hA.at (r_sh.lo (by decide) (by decide))).trans hz) (fun j hj => by rw [hA.at (r := 3) (c := j) (r_sh.lo (by decide) (by decide))]; exact hcl j hj) (xs (i + 1)) (xs (i + 2))) gm_473 gm_474 gm_475 gm_34 gm_476 ⟨rfl, rfl⟩ hd_K_commit ⟨Nat.le_of_ble_eq_true rfl, Nat.le_of_ble_eq_true rfl⟩ hKk hP hD hS hAA [0, 1, 2, 3, 4, 5, 6, 7, 8, 9, 10, 11] [12, 13, 14, 15, 16, 17, 18, 19, 20, 21, 22, 23, 24, 25] rfl rfl rfl rfl rfl (by decide) (va_recv hKk hP (ci := 5) (q0 := 0) rfl rfl) rfl hl.1 rfl (Nat.le_of_ble_eq_true rfl) d_L_law_182 ⟨Nat.le_of_ble_eq_true rfl, Nat.le_of_ble_eq_true rfl⟩ (fun H locs hP hD hS => ?_)
      refine lv_icmp_eq (tgt := 641) hx hb d_L_law_185 (by decide) (fun c2 => ?_) (fun c2 => ?_)
      · exact hnext _ _ H locs ls (hI.commit hsz hcl) (r_commit hk hq ho hup hsz hcl hA).2 hP hD hS (lv_sub hl [0, 1, 2, 3] rfl)
      · exact absurd (r_commit hk hq ho hup hsz hcl hA).1 c2
    | 2, _ =>
      refine lv_tableIn (off := 148) (tgt := 190) hx hb d_L_law_42 (by decide) (by decide) rfl (by decide) ?_
      refine lv_aload_n hx hb d_L_law_190 rfl (lv_at hl 2 rfl) ?_
      refine lv_aload_n hx hb d_L_law_191 rfl (lv_at hl 3 rfl) ?_
      refine lv_iload_n hx hb d_L_law_192 rfl (lv_at hl 0 rfl) ?_
      refine lv_iconst (v := 1) hx hb d_L_law_193 (by decide) ?_
      refine lv_iadd hx hb d_L_law_194 ?_
      refine x_top (show (nI i) + 1 = nI (i + 1) from x_nadd i 1) ?_
      refine va_sld hx hb hX hbl hbA hS (show vp_in (nI (i + 1)) L from vp_in_nI (by omega) (by omega)) d_L_law_195 ?_
      refine x_top (show xs (nI (i + 1)).toNatClampNeg = xs (i + 1) by rw [nI_clamp (by omega)]) ?_
      refine l_V (rest := []) (wc := x_w cI cN ad z) (wr := k_w cI cZ kd y) ⟨hx, hb, hml, hown, hts⟩ (c_M_cell_ok l D cI cN ad z  (xs (i + 1))) gm_248 gm_249 gm_250 gm_28 gm_251 ⟨rfl, rfl⟩ hd_M_cell ⟨Nat.le_of_ble_eq_true rfl, Nat.le_of_ble_eq_true rfl⟩ hKx hP hD hS hAA [0, 1, 2, 3, 4, 5, 6, 7, 8, 9, 10, 11, 12, 13] [14, 15, 16, 17, 18, 19, 20, 21, 22, 23, 24, 25] rfl rfl rfl rfl rfl (by decide) (va_recv hKx hP (ci := 4) (q0 := 0) rfl rfl) rfl hl.1 rfl (Nat.le_of_ble_eq_true rfl) d_L_law_196 ⟨Nat.le_of_ble_eq_true rfl, Nat.le_of_ble_eq_true rfl⟩ (fun H locs hP hD hS => ?_)
      refine lv_aload_n hx hb d_L_law_199 rfl (lv_at hl 1 rfl) ?_
      refine lv_aload_n hx hb d_L_law_200 rfl (lv_at hl 3 rfl) ?_
      refine lv_iload_n hx hb d_L_law_201 rfl (lv_at hl 0 rfl) ?_
      refine lv_iconst (v := 1) hx hb d_L_law_202 (by decide) ?_
      refine lv_iadd hx hb d_L_law_203 ?_
      refine x_top (show (nI i) + 1 = nI (i + 1) from x_nadd i 1) ?_
      refine va_sld hx hb hX hbl hbA hS (show vp_in (nI (i + 1)) L from vp_in_nI (by omega) (by omega)) d_L_law_204 ?_
      refine x_top (show xs (nI (i + 1)).toNatClampNeg = xs (i + 1) by rw [nI_clamp (by omega)]) ?_
      refine l_V (rest := [.long (x_cell z (xs (i + 1)))]) (wc := k_w cI cZ kd y) (wr := x_w cI cN ad z) ⟨hx, hb, hml, hown, hts⟩ (c_K_cell_ok l D cI cZ kd y  k hk (by rw [hA.2.1]; exact hq) (xs (i + 1))) gm_521 gm_522 gm_523 gm_34 gm_524 ⟨rfl, rfl⟩ hd_K_cell ⟨Nat.le_of_ble_eq_true rfl, Nat.le_of_ble_eq_true rfl⟩ hKk hP hD hS hAA [0, 1, 2, 3, 4, 5, 6, 7, 8, 9, 10, 11] [12, 13, 14, 15, 16, 17, 18, 19, 20, 21, 22, 23, 24, 25] rfl rfl rfl rfl rfl (by decide) (va_recv hKk hP (ci := 5) (q0 := 0) rfl rfl) rfl hl.1 rfl (Nat.le_of_ble_eq_true rfl) d_L_law_205 ⟨Nat.le_of_ble_eq_true rfl, Nat.le_of_ble_eq_true rfl⟩ (fun H locs hP hD hS => ?_)
      refine W.lcmp hx hb d_L_law_208 ?_
      refine lv_if_eq (tgt := 641) hx hb d_L_law_209 (by decide) (fun c3 => ?_) (fun c3 => ?_)
      · exact hnext z y H locs ls hI hA hP hD hS (lv_sub hl [0, 1, 2, 3] rfl)
      · exact absurd ((lg_cmp_eq _ _).mpr (r_cell hq hk hA)) c3
    | 3, _ =>
      refine lv_tableIn (off := 172) (tgt := 214) hx hb d_L_law_42 (by decide) (by decide) rfl (by decide) ?_
      refine lv_aload_n hx hb d_L_law_214 rfl (lv_at hl 2 rfl) ?_
      refine lv_aload_n hx hb d_L_law_215 rfl (lv_at hl 3 rfl) ?_
      refine lv_iload_n hx hb d_L_law_216 rfl (lv_at hl 0 rfl) ?_
      refine lv_iconst (v := 1) hx hb d_L_law_217 (by decide) ?_
      refine lv_iadd hx hb d_L_law_218 ?_
      refine x_top (show (nI i) + 1 = nI (i + 1) from x_nadd i 1) ?_
      refine va_sld hx hb hX hbl hbA hS (show vp_in (nI (i + 1)) L from vp_in_nI (by omega) (by omega)) d_L_law_219 ?_
      refine x_top (show xs (nI (i + 1)).toNatClampNeg = xs (i + 1) by rw [nI_clamp (by omega)]) ?_
      refine lv_aload_n hx hb d_L_law_220 rfl (lv_at hl 3 rfl) ?_
      refine lv_iload_n hx hb d_L_law_221 rfl (lv_at hl 0 rfl) ?_
      refine lv_iconst (v := 2) hx hb d_L_law_222 (by decide) ?_
      refine lv_iadd hx hb d_L_law_223 ?_
      refine x_top (show (nI i) + 2 = nI (i + 2) from x_nadd i 2) ?_
      refine va_sld hx hb hX hbl hbA hS (show vp_in (nI (i + 2)) L from vp_in_nI (by omega) (by omega)) d_L_law_224 ?_
      refine x_top (show xs (nI (i + 2)).toNatClampNeg = xs (i + 2) by rw [nI_clamp (by omega)]) ?_
      refine l_V (rest := []) (wc := x_w cI cN ad z) (wr := k_w cI cZ kd y) ⟨hx, hb, hml, hown, hts⟩ (c_M_crash_ok l D cI cN ad z  (xs (i + 1)) (xs (i + 2))) gm_257 gm_258 gm_259 gm_28 gm_260 ⟨rfl, rfl⟩ hd_M_crash ⟨Nat.le_of_ble_eq_true rfl, Nat.le_of_ble_eq_true rfl⟩ hKx hP hD hS hAA [0, 1, 2, 3, 4, 5, 6, 7, 8, 9, 10, 11, 12, 13] [14, 15, 16, 17, 18, 19, 20, 21, 22, 23, 24, 25] rfl rfl rfl rfl rfl (by decide) (va_recv hKx hP (ci := 4) (q0 := 0) rfl rfl) rfl hl.1 rfl (Nat.le_of_ble_eq_true rfl) d_L_law_225 ⟨Nat.le_of_ble_eq_true rfl, Nat.le_of_ble_eq_true rfl⟩ (fun H locs hP hD hS => ?_)
      refine lv_aload_n hx hb d_L_law_228 rfl (lv_at hl 1 rfl) ?_
      refine lv_aload_n hx hb d_L_law_229 rfl (lv_at hl 3 rfl) ?_
      refine lv_iload_n hx hb d_L_law_230 rfl (lv_at hl 0 rfl) ?_
      refine lv_iconst (v := 1) hx hb d_L_law_231 (by decide) ?_
      refine lv_iadd hx hb d_L_law_232 ?_
      refine x_top (show (nI i) + 1 = nI (i + 1) from x_nadd i 1) ?_
      refine va_sld hx hb hX hbl hbA hS (show vp_in (nI (i + 1)) L from vp_in_nI (by omega) (by omega)) d_L_law_233 ?_
      refine x_top (show xs (nI (i + 1)).toNatClampNeg = xs (i + 1) by rw [nI_clamp (by omega)]) ?_
      refine lv_aload_n hx hb d_L_law_234 rfl (lv_at hl 3 rfl) ?_
      refine lv_iload_n hx hb d_L_law_235 rfl (lv_at hl 0 rfl) ?_
      refine lv_iconst (v := 2) hx hb d_L_law_236 (by decide) ?_
      refine lv_iadd hx hb d_L_law_237 ?_
      refine x_top (show (nI i) + 2 = nI (i + 2) from x_nadd i 2) ?_
      refine va_sld hx hb hX hbl hbA hS (show vp_in (nI (i + 2)) L from vp_in_nI (by omega) (by omega)) d_L_law_238 ?_
      refine x_top (show xs (nI (i + 2)).toNatClampNeg = xs (i + 2) by rw [nI_clamp (by omega)]) ?_
      refine l_V (rest := [.int ((x_crash z (xs (i + 1)) (xs (i + 2))).1)]) (wc := k_w cI cZ kd y) (wr := x_w cI cN ad (x_crash z (xs (i + 1)) (xs (i + 2))).2) ⟨hx, hb, hml, hown, hts⟩ (c_K_crash_ok l D cI cZ kd y  (xs (i + 1)) (xs (i + 2))) gm_526 gm_510 gm_511 gm_34 gm_512 ⟨rfl, rfl⟩ hd_K_crash ⟨Nat.le_of_ble_eq_true rfl, Nat.le_of_ble_eq_true rfl⟩ hKk hP hD hS hAA [0, 1, 2, 3, 4, 5, 6, 7, 8, 9, 10, 11] [12, 13, 14, 15, 16, 17, 18, 19, 20, 21, 22, 23, 24, 25] rfl rfl rfl rfl rfl (by decide) (va_recv hKk hP (ci := 5) (q0 := 0) rfl rfl) rfl hl.1 rfl (Nat.le_of_ble_eq_true rfl) d_L_law_239 ⟨Nat.le_of_ble_eq_true rfl, Nat.le_of_ble_eq_true rfl⟩ (fun H locs hP hD hS => ?_)
      refine lv_icmp_eq (tgt := 641) hx hb d_L_law_242 (by decide) (fun c4 => ?_) (fun c4 => ?_)
      · exact hnext _ _ H locs ls (hI.small.1 (xs (i + 1)) (xs (i + 2))) (r_crash ho hA).2 hP hD hS (lv_sub hl [0, 1, 2, 3] rfl)
      · exact absurd (r_crash ho hA).1 c4
    | 4, _ =>
      refine lv_tableIn (off := 205) (tgt := 247) hx hb d_L_law_42 (by decide) (by decide) rfl (by decide) ?_
      refine lv_aload_n hx hb d_L_law_247 rfl (lv_at hl 2 rfl) ?_
      refine lv_aload_n hx hb d_L_law_248 rfl (lv_at hl 3 rfl) ?_
      refine lv_iload_n hx hb d_L_law_249 rfl (lv_at hl 0 rfl) ?_
      refine lv_iconst (v := 1) hx hb d_L_law_250 (by decide) ?_
      refine lv_iadd hx hb d_L_law_251 ?_
      refine x_top (show (nI i) + 1 = nI (i + 1) from x_nadd i 1) ?_
      refine va_sld hx hb hX hbl hbA hS (show vp_in (nI (i + 1)) L from vp_in_nI (by omega) (by omega)) d_L_law_252 ?_
      refine x_top (show xs (nI (i + 1)).toNatClampNeg = xs (i + 1) by rw [nI_clamp (by omega)]) ?_
      refine l_V (rest := []) (wc := x_w cI cN ad z) (wr := k_w cI cZ kd y) ⟨hx, hb, hml, hown, hts⟩ (c_M_restart_ok l D cI cN ad z  (xs (i + 1))) gm_264 gm_265 gm_266 gm_28 gm_267 ⟨rfl, rfl⟩ hd_M_restart ⟨Nat.le_of_ble_eq_true rfl, Nat.le_of_ble_eq_true rfl⟩ hKx hP hD hS hAA [0, 1, 2, 3, 4, 5, 6, 7, 8, 9, 10, 11, 12, 13] [14, 15, 16, 17, 18, 19, 20, 21, 22, 23, 24, 25] rfl rfl rfl rfl rfl (by decide) (va_recv hKx hP (ci := 4) (q0 := 0) rfl rfl) rfl hl.1 rfl (Nat.le_of_ble_eq_true rfl) d_L_law_253 ⟨Nat.le_of_ble_eq_true rfl, Nat.le_of_ble_eq_true rfl⟩ (fun H locs hP hD hS => ?_)
      refine lv_aload_n hx hb d_L_law_256 rfl (lv_at hl 1 rfl) ?_
      refine lv_aload_n hx hb d_L_law_257 rfl (lv_at hl 3 rfl) ?_
      refine lv_iload_n hx hb d_L_law_258 rfl (lv_at hl 0 rfl) ?_
      refine lv_iconst (v := 1) hx hb d_L_law_259 (by decide) ?_
      refine lv_iadd hx hb d_L_law_260 ?_
      refine x_top (show (nI i) + 1 = nI (i + 1) from x_nadd i 1) ?_
      refine va_sld hx hb hX hbl hbA hS (show vp_in (nI (i + 1)) L from vp_in_nI (by omega) (by omega)) d_L_law_261 ?_
      refine x_top (show xs (nI (i + 1)).toNatClampNeg = xs (i + 1) by rw [nI_clamp (by omega)]) ?_
      refine l_V (rest := [.int ((x_restart z (xs (i + 1))).1)]) (wc := k_w cI cZ kd y) (wr := x_w cI cN ad (x_restart z (xs (i + 1))).2) ⟨hx, hb, hml, hown, hts⟩ (c_K_restart_ok l D cI cZ kd y  (xs (i + 1))) gm_527 gm_528 gm_529 gm_34 gm_530 ⟨rfl, rfl⟩ hd_K_restart ⟨Nat.le_of_ble_eq_true rfl, Nat.le_of_ble_eq_true rfl⟩ hKk hP hD hS hAA [0, 1, 2, 3, 4, 5, 6, 7, 8, 9, 10, 11] [12, 13, 14, 15, 16, 17, 18, 19, 20, 21, 22, 23, 24, 25] rfl rfl rfl rfl rfl (by decide) (va_recv hKk hP (ci := 5) (q0 := 0) rfl rfl) rfl hl.1 rfl (Nat.le_of_ble_eq_true rfl) d_L_law_262 ⟨Nat.le_of_ble_eq_true rfl, Nat.le_of_ble_eq_true rfl⟩ (fun H locs hP hD hS => ?_)
      refine lv_icmp_eq (tgt := 641) hx hb d_L_law_265 (by decide) (fun c5 => ?_) (fun c5 => ?_)
      · exact hnext _ _ H locs ls (hI.small.2.1 (xs (i + 1))) (r_restart hA).2 hP hD hS (lv_sub hl [0, 1, 2, 3] rfl)
      · exact absurd (r_restart hA).1 c5
    | 5, _ =>
      refine lv_tableIn (off := 228) (tgt := 270) hx hb d_L_law_42 (by decide) (by decide) rfl (by decide) ?_
      refine lv_aload_n hx hb d_L_law_270 rfl (lv_at hl 2 rfl) ?_
      refine lv_aload_n hx hb d_L_law_271 rfl (lv_at hl 3 rfl) ?_
      refine lv_iload_n hx hb d_L_law_272 rfl (lv_at hl 0 rfl) ?_
      refine lv_iconst (v := 1) hx hb d_L_law_273 (by decide) ?_
      refine lv_iadd hx hb d_L_law_274 ?_
      refine x_top (show (nI i) + 1 = nI (i + 1) from x_nadd i 1) ?_
      refine va_sld hx hb hX hbl hbA hS (show vp_in (nI (i + 1)) L from vp_in_nI (by omega) (by omega)) d_L_law_275 ?_
      refine x_top (show xs (nI (i + 1)).toNatClampNeg = xs (i + 1) by rw [nI_clamp (by omega)]) ?_
      refine l_V (rest := []) (wc := x_w cI cN ad z) (wr := k_w cI cZ kd y) ⟨hx, hb, hml, hown, hts⟩ (c_M_swap_ok l D cI cN ad z  (xs (i + 1))) gm_268 gm_269 gm_270 gm_28 gm_271 ⟨rfl, rfl⟩ hd_M_swap ⟨Nat.le_of_ble_eq_true rfl, Nat.le_of_ble_eq_true rfl⟩ hKx hP hD hS hAA [0, 1, 2, 3, 4, 5, 6, 7, 8, 9, 10, 11, 12, 13] [14, 15, 16, 17, 18, 19, 20, 21, 22, 23, 24, 25] rfl rfl rfl rfl rfl (by decide) (va_recv hKx hP (ci := 4) (q0 := 0) rfl rfl) rfl hl.1 rfl (Nat.le_of_ble_eq_true rfl) d_L_law_276 ⟨Nat.le_of_ble_eq_true rfl, Nat.le_of_ble_eq_true rfl⟩ (fun H locs hP hD hS => ?_)
      refine lv_aload_n hx hb d_L_law_279 rfl (lv_at hl 1 rfl) ?_
      refine lv_aload_n hx hb d_L_law_280 rfl (lv_at hl 3 rfl) ?_
      refine lv_iload_n hx hb d_L_law_281 rfl (lv_at hl 0 rfl) ?_
      refine lv_iconst (v := 1) hx hb d_L_law_282 (by decide) ?_
      refine lv_iadd hx hb d_L_law_283 ?_
      refine x_top (show (nI i) + 1 = nI (i + 1) from x_nadd i 1) ?_
      refine va_sld hx hb hX hbl hbA hS (show vp_in (nI (i + 1)) L from vp_in_nI (by omega) (by omega)) d_L_law_284 ?_
      refine x_top (show xs (nI (i + 1)).toNatClampNeg = xs (i + 1) by rw [nI_clamp (by omega)]) ?_
      refine l_V (rest := [.int ((x_swap z (xs (i + 1))).1)]) (wc := k_w cI cZ kd y) (wr := x_w cI cN ad (x_swap z (xs (i + 1))).2) ⟨hx, hb, hml, hown, hts⟩ (c_K_swap_ok l D cI cZ kd y  (xs (i + 1))) gm_531 gm_532 gm_533 gm_34 gm_534 ⟨rfl, rfl⟩ hd_K_swap ⟨Nat.le_of_ble_eq_true rfl, Nat.le_of_ble_eq_true rfl⟩ hKk hP hD hS hAA [0, 1, 2, 3, 4, 5, 6, 7, 8, 9, 10, 11] [12, 13, 14, 15, 16, 17, 18, 19, 20, 21, 22, 23, 24, 25] rfl rfl rfl rfl rfl (by decide) (va_recv hKk hP (ci := 5) (q0 := 0) rfl rfl) rfl hl.1 rfl (Nat.le_of_ble_eq_true rfl) d_L_law_285 ⟨Nat.le_of_ble_eq_true rfl, Nat.le_of_ble_eq_true rfl⟩ (fun H locs hP hD hS => ?_)
      refine lv_icmp_eq (tgt := 641) hx hb d_L_law_288 (by decide) (fun c6 => ?_) (fun c6 => ?_)
      · exact hnext _ _ H locs ls (hI.small.2.2.1 (xs (i + 1))) (r_swap hA).2 hP hD hS (lv_sub hl [0, 1, 2, 3] rfl)
      · exact absurd (r_swap hA).1 c6
    | 6, _ =>
      refine lv_tableIn (off := 251) (tgt := 293) hx hb d_L_law_42 (by decide) (by decide) rfl (by decide) ?_
      refine lv_aload_n hx hb d_L_law_293 rfl (lv_at hl 2 rfl) ?_
      refine lv_aload_n hx hb d_L_law_294 rfl (lv_at hl 3 rfl) ?_
      refine lv_iload_n hx hb d_L_law_295 rfl (lv_at hl 0 rfl) ?_
      refine lv_iconst (v := 1) hx hb d_L_law_296 (by decide) ?_
      refine lv_iadd hx hb d_L_law_297 ?_
      refine x_top (show (nI i) + 1 = nI (i + 1) from x_nadd i 1) ?_
      refine va_sld hx hb hX hbl hbA hS (show vp_in (nI (i + 1)) L from vp_in_nI (by omega) (by omega)) d_L_law_298 ?_
      refine x_top (show xs (nI (i + 1)).toNatClampNeg = xs (i + 1) by rw [nI_clamp (by omega)]) ?_
      refine lv_if_eq (tgt := 306) hx hb d_L_law_299 (by decide) (fun c7 => ?_) (fun c7 => ?_)
      · refine lv_iconst (v := 0) hx hb d_L_law_306 (by decide) ?_
        refine l_V (rest := []) (wc := x_w cI cN ad z) (wr := k_w cI cZ kd y) ⟨hx, hb, hml, hown, hts⟩ (c_M_line_ok l D cI cN ad z  0 (by decide)) gm_283 gm_284 gm_285 gm_28 gm_286 ⟨rfl, rfl⟩ hd_M_line ⟨Nat.le_of_ble_eq_true rfl, Nat.le_of_ble_eq_true rfl⟩ hKx hP hD hS hAA [0, 1, 2, 3, 4, 5, 6, 7, 8, 9, 10, 11, 12, 13] [14, 15, 16, 17, 18, 19, 20, 21, 22, 23, 24, 25] rfl rfl rfl rfl rfl (by decide) (va_recv hKx hP (ci := 4) (q0 := 0) rfl rfl) rfl hl.1 rfl (Nat.le_of_ble_eq_true rfl) d_L_law_307 ⟨Nat.le_of_ble_eq_true rfl, Nat.le_of_ble_eq_true rfl⟩ (fun H locs hP hD hS => ?_)
        refine lv_aload_n hx hb d_L_law_310 rfl (lv_at hl 1 rfl) ?_
        refine lv_aload_n hx hb d_L_law_311 rfl (lv_at hl 3 rfl) ?_
        refine lv_iload_n hx hb d_L_law_312 rfl (lv_at hl 0 rfl) ?_
        refine lv_iconst (v := 1) hx hb d_L_law_313 (by decide) ?_
        refine lv_iadd hx hb d_L_law_314 ?_
        refine x_top (show (nI i) + 1 = nI (i + 1) from x_nadd i 1) ?_
        refine va_sld hx hb hX hbl hbA hS (show vp_in (nI (i + 1)) L from vp_in_nI (by omega) (by omega)) d_L_law_315 ?_
        refine x_top (show xs (nI (i + 1)).toNatClampNeg = xs (i + 1) by rw [nI_clamp (by omega)]) ?_
        refine lv_if_eq (tgt := 323) hx hb d_L_law_316 (by decide) (fun c8 => ?_) (fun c8 => ?_)
        · refine lv_iconst (v := 0) hx hb d_L_law_323 (by decide) ?_
          refine l_V (rest := [.int ((x_line z 0).1)]) (wc := k_w cI cZ kd y) (wr := x_w cI cN ad (x_line z 0).2) ⟨hx, hb, hml, hown, hts⟩ (c_K_line_ok l D cI cZ kd y  0 (by decide)) gm_535 gm_536 gm_537 gm_34 gm_538 ⟨rfl, rfl⟩ hd_K_line ⟨Nat.le_of_ble_eq_true rfl, Nat.le_of_ble_eq_true rfl⟩ hKk hP hD hS hAA [0, 1, 2, 3, 4, 5, 6, 7, 8, 9, 10, 11] [12, 13, 14, 15, 16, 17, 18, 19, 20, 21, 22, 23, 24, 25] rfl rfl rfl rfl rfl (by decide) (va_recv hKk hP (ci := 5) (q0 := 0) rfl rfl) rfl hl.1 rfl (Nat.le_of_ble_eq_true rfl) d_L_law_324 ⟨Nat.le_of_ble_eq_true rfl, Nat.le_of_ble_eq_true rfl⟩ (fun H locs hP hD hS => ?_)
          refine lv_icmp_eq (tgt := 641) hx hb d_L_law_327 (by decide) (fun c9 => ?_) (fun c9 => ?_)
          · exact hnext _ _ H locs ls (hI.small.2.2.2.1 0) (r_line hA).2 hP hD hS (lv_sub hl [0, 1, 2, 3] rfl)
          · exact absurd (r_line hA).1 c9
        · exact absurd c7 c8
      · refine lv_iconst (v := 1) hx hb d_L_law_302 (by decide) ?_
        refine lv_goto (tgt := 307) hx hb d_L_law_303 (by decide) ?_
        refine l_V (rest := []) (wc := x_w cI cN ad z) (wr := k_w cI cZ kd y) ⟨hx, hb, hml, hown, hts⟩ (c_M_line_ok l D cI cN ad z  1 (by decide)) gm_283 gm_284 gm_285 gm_28 gm_286 ⟨rfl, rfl⟩ hd_M_line ⟨Nat.le_of_ble_eq_true rfl, Nat.le_of_ble_eq_true rfl⟩ hKx hP hD hS hAA [0, 1, 2, 3, 4, 5, 6, 7, 8, 9, 10, 11, 12, 13] [14, 15, 16, 17, 18, 19, 20, 21, 22, 23, 24, 25] rfl rfl rfl rfl rfl (by decide) (va_recv hKx hP (ci := 4) (q0 := 0) rfl rfl) rfl hl.1 rfl (Nat.le_of_ble_eq_true rfl) d_L_law_307 ⟨Nat.le_of_ble_eq_true rfl, Nat.le_of_ble_eq_true rfl⟩ (fun H locs hP hD hS => ?_)
        refine lv_aload_n hx hb d_L_law_310 rfl (lv_at hl 1 rfl) ?_
        refine lv_aload_n hx hb d_L_law_311 rfl (lv_at hl 3 rfl) ?_
        refine lv_iload_n hx hb d_L_law_312 rfl (lv_at hl 0 rfl) ?_
        refine lv_iconst (v := 1) hx hb d_L_law_313 (by decide) ?_
        refine lv_iadd hx hb d_L_law_314 ?_
        refine x_top (show (nI i) + 1 = nI (i + 1) from x_nadd i 1) ?_
        refine va_sld hx hb hX hbl hbA hS (show vp_in (nI (i + 1)) L from vp_in_nI (by omega) (by omega)) d_L_law_315 ?_
        refine x_top (show xs (nI (i + 1)).toNatClampNeg = xs (i + 1) by rw [nI_clamp (by omega)]) ?_
        refine lv_if_eq (tgt := 323) hx hb d_L_law_316 (by decide) (fun c10 => ?_) (fun c10 => ?_)
        · exact absurd c10 c7
        · refine lv_iconst (v := 1) hx hb d_L_law_319 (by decide) ?_
          refine lv_goto (tgt := 324) hx hb d_L_law_320 (by decide) ?_
          refine l_V (rest := [.int ((x_line z 1).1)]) (wc := k_w cI cZ kd y) (wr := x_w cI cN ad (x_line z 1).2) ⟨hx, hb, hml, hown, hts⟩ (c_K_line_ok l D cI cZ kd y  1 (by decide)) gm_535 gm_536 gm_537 gm_34 gm_538 ⟨rfl, rfl⟩ hd_K_line ⟨Nat.le_of_ble_eq_true rfl, Nat.le_of_ble_eq_true rfl⟩ hKk hP hD hS hAA [0, 1, 2, 3, 4, 5, 6, 7, 8, 9, 10, 11] [12, 13, 14, 15, 16, 17, 18, 19, 20, 21, 22, 23, 24, 25] rfl rfl rfl rfl rfl (by decide) (va_recv hKk hP (ci := 5) (q0 := 0) rfl rfl) rfl hl.1 rfl (Nat.le_of_ble_eq_true rfl) d_L_law_324 ⟨Nat.le_of_ble_eq_true rfl, Nat.le_of_ble_eq_true rfl⟩ (fun H locs hP hD hS => ?_)
          refine lv_icmp_eq (tgt := 641) hx hb d_L_law_327 (by decide) (fun c11 => ?_) (fun c11 => ?_)
          · exact hnext _ _ H locs ls (hI.small.2.2.2.1 1) (r_line hA).2 hP hD hS (lv_sub hl [0, 1, 2, 3] rfl)
          · exact absurd (r_line hA).1 c11
    | 7, _ =>
      refine lv_tableIn (off := 290) (tgt := 332) hx hb d_L_law_42 (by decide) (by decide) rfl (by decide) ?_
      refine lv_aload_n hx hb d_L_law_332 rfl (lv_at hl 2 rfl) ?_
      refine lv_aload_n hx hb d_L_law_333 rfl (lv_at hl 3 rfl) ?_
      refine lv_iload_n hx hb d_L_law_334 rfl (lv_at hl 0 rfl) ?_
      refine lv_iconst (v := 1) hx hb d_L_law_335 (by decide) ?_
      refine lv_iadd hx hb d_L_law_336 ?_
      refine x_top (show (nI i) + 1 = nI (i + 1) from x_nadd i 1) ?_
      refine va_sld hx hb hX hbl hbA hS (show vp_in (nI (i + 1)) L from vp_in_nI (by omega) (by omega)) d_L_law_337 ?_
      refine x_top (show xs (nI (i + 1)).toNatClampNeg = xs (i + 1) by rw [nI_clamp (by omega)]) ?_
      refine lv_aload_n hx hb d_L_law_338 rfl (lv_at hl 3 rfl) ?_
      refine lv_iload_n hx hb d_L_law_339 rfl (lv_at hl 0 rfl) ?_
      refine lv_iconst (v := 2) hx hb d_L_law_340 (by decide) ?_
      refine lv_iadd hx hb d_L_law_341 ?_
      refine x_top (show (nI i) + 2 = nI (i + 2) from x_nadd i 2) ?_
      refine va_sld hx hb hX hbl hbA hS (show vp_in (nI (i + 2)) L from vp_in_nI (by omega) (by omega)) d_L_law_342 ?_
      refine x_top (show xs (nI (i + 2)).toNatClampNeg = xs (i + 2) by rw [nI_clamp (by omega)]) ?_
      refine lv_if_eq (tgt := 350) hx hb d_L_law_343 (by decide) (fun c12 => ?_) (fun c12 => ?_)
      · refine lv_iconst (v := 0) hx hb d_L_law_350 (by decide) ?_
        refine l_V (rest := []) (wc := x_w cI cN ad z) (wr := k_w cI cZ kd y) ⟨hx, hb, hml, hown, hts⟩ (c_M_witnessLine_ok l D cI cN ad z  (xs (i + 1)) 0 (by decide)) gm_287 gm_288 gm_289 gm_28 gm_290 ⟨rfl, rfl⟩ hd_M_witnessLine ⟨Nat.le_of_ble_eq_true rfl, Nat.le_of_ble_eq_true rfl⟩ hKx hP hD hS hAA [0, 1, 2, 3, 4, 5, 6, 7, 8, 9, 10, 11, 12, 13] [14, 15, 16, 17, 18, 19, 20, 21, 22, 23, 24, 25] rfl rfl rfl rfl rfl (by decide) (va_recv hKx hP (ci := 4) (q0 := 0) rfl rfl) rfl hl.1 rfl (Nat.le_of_ble_eq_true rfl) d_L_law_351 ⟨Nat.le_of_ble_eq_true rfl, Nat.le_of_ble_eq_true rfl⟩ (fun H locs hP hD hS => ?_)
        refine lv_aload_n hx hb d_L_law_354 rfl (lv_at hl 1 rfl) ?_
        refine lv_aload_n hx hb d_L_law_355 rfl (lv_at hl 3 rfl) ?_
        refine lv_iload_n hx hb d_L_law_356 rfl (lv_at hl 0 rfl) ?_
        refine lv_iconst (v := 1) hx hb d_L_law_357 (by decide) ?_
        refine lv_iadd hx hb d_L_law_358 ?_
        refine x_top (show (nI i) + 1 = nI (i + 1) from x_nadd i 1) ?_
        refine va_sld hx hb hX hbl hbA hS (show vp_in (nI (i + 1)) L from vp_in_nI (by omega) (by omega)) d_L_law_359 ?_
        refine x_top (show xs (nI (i + 1)).toNatClampNeg = xs (i + 1) by rw [nI_clamp (by omega)]) ?_
        refine lv_aload_n hx hb d_L_law_360 rfl (lv_at hl 3 rfl) ?_
        refine lv_iload_n hx hb d_L_law_361 rfl (lv_at hl 0 rfl) ?_
        refine lv_iconst (v := 2) hx hb d_L_law_362 (by decide) ?_
        refine lv_iadd hx hb d_L_law_363 ?_
        refine x_top (show (nI i) + 2 = nI (i + 2) from x_nadd i 2) ?_
        refine va_sld hx hb hX hbl hbA hS (show vp_in (nI (i + 2)) L from vp_in_nI (by omega) (by omega)) d_L_law_364 ?_
        refine x_top (show xs (nI (i + 2)).toNatClampNeg = xs (i + 2) by rw [nI_clamp (by omega)]) ?_
        refine lv_if_eq (tgt := 372) hx hb d_L_law_365 (by decide) (fun c13 => ?_) (fun c13 => ?_)
        · refine lv_iconst (v := 0) hx hb d_L_law_372 (by decide) ?_
          refine l_V (rest := [.int ((x_wline z (xs (i + 1)) 0).1)]) (wc := k_w cI cZ kd y) (wr := x_w cI cN ad (x_wline z (xs (i + 1)) 0).2) ⟨hx, hb, hml, hown, hts⟩ (c_K_witnessLine_ok l D cI cZ kd y  (xs (i + 1)) 0) gm_539 gm_540 gm_541 gm_34 gm_542 ⟨rfl, rfl⟩ hd_K_witnessLine ⟨Nat.le_of_ble_eq_true rfl, Nat.le_of_ble_eq_true rfl⟩ hKk hP hD hS hAA [0, 1, 2, 3, 4, 5, 6, 7, 8, 9, 10, 11] [12, 13, 14, 15, 16, 17, 18, 19, 20, 21, 22, 23, 24, 25] rfl rfl rfl rfl rfl (by decide) (va_recv hKk hP (ci := 5) (q0 := 0) rfl rfl) rfl hl.1 rfl (Nat.le_of_ble_eq_true rfl) d_L_law_373 ⟨Nat.le_of_ble_eq_true rfl, Nat.le_of_ble_eq_true rfl⟩ (fun H locs hP hD hS => ?_)
          refine lv_icmp_eq (tgt := 641) hx hb d_L_law_376 (by decide) (fun c14 => ?_) (fun c14 => ?_)
          · exact hnext _ _ H locs ls (hI.small.2.2.2.2.1 (xs (i + 1)) 0) (r_wline (by decide) hA).2 hP hD hS (lv_sub hl [0, 1, 2, 3] rfl)
          · exact absurd (r_wline (by decide) hA).1 c14
        · exact absurd c12 c13
      · refine lv_iconst (v := 1) hx hb d_L_law_346 (by decide) ?_
        refine lv_goto (tgt := 351) hx hb d_L_law_347 (by decide) ?_
        refine l_V (rest := []) (wc := x_w cI cN ad z) (wr := k_w cI cZ kd y) ⟨hx, hb, hml, hown, hts⟩ (c_M_witnessLine_ok l D cI cN ad z  (xs (i + 1)) 1 (by decide)) gm_287 gm_288 gm_289 gm_28 gm_290 ⟨rfl, rfl⟩ hd_M_witnessLine ⟨Nat.le_of_ble_eq_true rfl, Nat.le_of_ble_eq_true rfl⟩ hKx hP hD hS hAA [0, 1, 2, 3, 4, 5, 6, 7, 8, 9, 10, 11, 12, 13] [14, 15, 16, 17, 18, 19, 20, 21, 22, 23, 24, 25] rfl rfl rfl rfl rfl (by decide) (va_recv hKx hP (ci := 4) (q0 := 0) rfl rfl) rfl hl.1 rfl (Nat.le_of_ble_eq_true rfl) d_L_law_351 ⟨Nat.le_of_ble_eq_true rfl, Nat.le_of_ble_eq_true rfl⟩ (fun H locs hP hD hS => ?_)
        refine lv_aload_n hx hb d_L_law_354 rfl (lv_at hl 1 rfl) ?_
        refine lv_aload_n hx hb d_L_law_355 rfl (lv_at hl 3 rfl) ?_
        refine lv_iload_n hx hb d_L_law_356 rfl (lv_at hl 0 rfl) ?_
        refine lv_iconst (v := 1) hx hb d_L_law_357 (by decide) ?_
        refine lv_iadd hx hb d_L_law_358 ?_
        refine x_top (show (nI i) + 1 = nI (i + 1) from x_nadd i 1) ?_
        refine va_sld hx hb hX hbl hbA hS (show vp_in (nI (i + 1)) L from vp_in_nI (by omega) (by omega)) d_L_law_359 ?_
        refine x_top (show xs (nI (i + 1)).toNatClampNeg = xs (i + 1) by rw [nI_clamp (by omega)]) ?_
        refine lv_aload_n hx hb d_L_law_360 rfl (lv_at hl 3 rfl) ?_
        refine lv_iload_n hx hb d_L_law_361 rfl (lv_at hl 0 rfl) ?_
        refine lv_iconst (v := 2) hx hb d_L_law_362 (by decide) ?_
        refine lv_iadd hx hb d_L_law_363 ?_
        refine x_top (show (nI i) + 2 = nI (i + 2) from x_nadd i 2) ?_
        refine va_sld hx hb hX hbl hbA hS (show vp_in (nI (i + 2)) L from vp_in_nI (by omega) (by omega)) d_L_law_364 ?_
        refine x_top (show xs (nI (i + 2)).toNatClampNeg = xs (i + 2) by rw [nI_clamp (by omega)]) ?_
        refine lv_if_eq (tgt := 372) hx hb d_L_law_365 (by decide) (fun c15 => ?_) (fun c15 => ?_)
        · exact absurd c15 c12
        · refine lv_iconst (v := 1) hx hb d_L_law_368 (by decide) ?_
          refine lv_goto (tgt := 373) hx hb d_L_law_369 (by decide) ?_
          refine l_V (rest := [.int ((x_wline z (xs (i + 1)) 1).1)]) (wc := k_w cI cZ kd y) (wr := x_w cI cN ad (x_wline z (xs (i + 1)) 1).2) ⟨hx, hb, hml, hown, hts⟩ (c_K_witnessLine_ok l D cI cZ kd y  (xs (i + 1)) 1) gm_539 gm_540 gm_541 gm_34 gm_542 ⟨rfl, rfl⟩ hd_K_witnessLine ⟨Nat.le_of_ble_eq_true rfl, Nat.le_of_ble_eq_true rfl⟩ hKk hP hD hS hAA [0, 1, 2, 3, 4, 5, 6, 7, 8, 9, 10, 11] [12, 13, 14, 15, 16, 17, 18, 19, 20, 21, 22, 23, 24, 25] rfl rfl rfl rfl rfl (by decide) (va_recv hKk hP (ci := 5) (q0 := 0) rfl rfl) rfl hl.1 rfl (Nat.le_of_ble_eq_true rfl) d_L_law_373 ⟨Nat.le_of_ble_eq_true rfl, Nat.le_of_ble_eq_true rfl⟩ (fun H locs hP hD hS => ?_)
          refine lv_icmp_eq (tgt := 641) hx hb d_L_law_376 (by decide) (fun c16 => ?_) (fun c16 => ?_)
          · exact hnext _ _ H locs ls (hI.small.2.2.2.2.1 (xs (i + 1)) 1) (r_wline (by decide) hA).2 hP hD hS (lv_sub hl [0, 1, 2, 3] rfl)
          · exact absurd (r_wline (by decide) hA).1 c16
    | 8, _ =>
      refine lv_tableIn (off := 339) (tgt := 381) hx hb d_L_law_42 (by decide) (by decide) rfl (by decide) ?_
      refine lv_aload_n hx hb d_L_law_381 rfl (lv_at hl 2 rfl) ?_
      refine l_V (rest := []) (wc := x_w cI cN ad z) (wr := k_w cI cZ kd y) ⟨hx, hb, hml, hown, hts⟩ (c_M_connect_ok l D cI cN ad z  ) gm_291 gm_292 gm_293 gm_28 gm_294 ⟨rfl, rfl⟩ hd_M_connect ⟨Nat.le_of_ble_eq_true rfl, Nat.le_of_ble_eq_true rfl⟩ hKx hP hD hS hAA [0, 1, 2, 3, 4, 5, 6, 7, 8, 9, 10, 11, 12, 13] [14, 15, 16, 17, 18, 19, 20, 21, 22, 23, 24, 25] rfl rfl rfl rfl rfl (by decide) (va_recv hKx hP (ci := 4) (q0 := 0) rfl rfl) rfl hl.1 rfl (Nat.le_of_ble_eq_true rfl) d_L_law_382 ⟨Nat.le_of_ble_eq_true rfl, Nat.le_of_ble_eq_true rfl⟩ (fun H locs hP hD hS => ?_)
      refine lv_aload_n hx hb d_L_law_385 rfl (lv_at hl 1 rfl) ?_
      refine l_V (rest := [.int ((x_connect z).1)]) (wc := k_w cI cZ kd y) (wr := x_w cI cN ad (x_connect z).2) ⟨hx, hb, hml, hown, hts⟩ (c_K_connect_ok l D cI cZ kd y  ) gm_543 gm_544 gm_545 gm_34 gm_546 ⟨rfl, rfl⟩ hd_K_connect ⟨Nat.le_of_ble_eq_true rfl, Nat.le_of_ble_eq_true rfl⟩ hKk hP hD hS hAA [0, 1, 2, 3, 4, 5, 6, 7, 8, 9, 10, 11] [12, 13, 14, 15, 16, 17, 18, 19, 20, 21, 22, 23, 24, 25] rfl rfl rfl rfl rfl (by decide) (va_recv hKk hP (ci := 5) (q0 := 0) rfl rfl) rfl hl.1 rfl (Nat.le_of_ble_eq_true rfl) d_L_law_386 ⟨Nat.le_of_ble_eq_true rfl, Nat.le_of_ble_eq_true rfl⟩ (fun H locs hP hD hS => ?_)
      refine lv_icmp_eq (tgt := 641) hx hb d_L_law_389 (by decide) (fun c17 => ?_) (fun c17 => ?_)
      · exact hnext _ _ H locs ls (hI.connect) (r_connect hA ho hm hsy).2 hP hD hS (lv_sub hl [0, 1, 2, 3] rfl)
      · exact absurd (r_connect hA ho hm hsy).1 c17
    | 9, _ =>
      refine lv_tableIn (off := 352) (tgt := 394) hx hb d_L_law_42 (by decide) (by decide) rfl (by decide) ?_
      refine lv_aload_n hx hb d_L_law_394 rfl (lv_at hl 2 rfl) ?_
      refine lv_aload_n hx hb d_L_law_395 rfl (lv_at hl 3 rfl) ?_
      refine lv_iload_n hx hb d_L_law_396 rfl (lv_at hl 0 rfl) ?_
      refine lv_iconst (v := 1) hx hb d_L_law_397 (by decide) ?_
      refine lv_iadd hx hb d_L_law_398 ?_
      refine x_top (show (nI i) + 1 = nI (i + 1) from x_nadd i 1) ?_
      refine va_sld hx hb hX hbl hbA hS (show vp_in (nI (i + 1)) L from vp_in_nI (by omega) (by omega)) d_L_law_399 ?_
      refine x_top (show xs (nI (i + 1)).toNatClampNeg = xs (i + 1) by rw [nI_clamp (by omega)]) ?_
      refine l_V (rest := []) (wc := x_w cI cN ad z) (wr := k_w cI cZ kd y) ⟨hx, hb, hml, hown, hts⟩ (c_M_resync_ok l D cI cN ad z  s0 hs0 hs mm hmm em (xs (i + 1))) gm_317 gm_318 gm_319 gm_28 gm_320 ⟨rfl, rfl⟩ hd_M_resync ⟨Nat.le_of_ble_eq_true rfl, Nat.le_of_ble_eq_true rfl⟩ hKx hP hD hS hAA [0, 1, 2, 3, 4, 5, 6, 7, 8, 9, 10, 11, 12, 13] [14, 15, 16, 17, 18, 19, 20, 21, 22, 23, 24, 25] rfl rfl rfl rfl rfl (by decide) (va_recv hKx hP (ci := 4) (q0 := 0) rfl rfl) rfl hl.1 rfl (Nat.le_of_ble_eq_true rfl) d_L_law_400 ⟨Nat.le_of_ble_eq_true rfl, Nat.le_of_ble_eq_true rfl⟩ (fun H locs hP hD hS => ?_)
      refine lv_aload_n hx hb d_L_law_403 rfl (lv_at hl 1 rfl) ?_
      refine lv_aload_n hx hb d_L_law_404 rfl (lv_at hl 3 rfl) ?_
      refine lv_iload_n hx hb d_L_law_405 rfl (lv_at hl 0 rfl) ?_
      refine lv_iconst (v := 1) hx hb d_L_law_406 (by decide) ?_
      refine lv_iadd hx hb d_L_law_407 ?_
      refine x_top (show (nI i) + 1 = nI (i + 1) from x_nadd i 1) ?_
      refine va_sld hx hb hX hbl hbA hS (show vp_in (nI (i + 1)) L from vp_in_nI (by omega) (by omega)) d_L_law_408 ?_
      refine x_top (show xs (nI (i + 1)).toNatClampNeg = xs (i + 1) by rw [nI_clamp (by omega)]) ?_
      refine l_V (rest := [.int ((x_resync z (xs (i + 1))).1)]) (wc := k_w cI cZ kd y) (wr := x_w cI cN ad (x_resync z (xs (i + 1))).2) ⟨hx, hb, hml, hown, hts⟩ (c_K_resync_ok l D cI cZ kd y  s0 hs0 hqs (xs (i + 1))) gm_551 gm_552 gm_553 gm_34 gm_554 ⟨rfl, rfl⟩ hd_K_resync ⟨Nat.le_of_ble_eq_true rfl, Nat.le_of_ble_eq_true rfl⟩ hKk hP hD hS hAA [0, 1, 2, 3, 4, 5, 6, 7, 8, 9, 10, 11] [12, 13, 14, 15, 16, 17, 18, 19, 20, 21, 22, 23, 24, 25] rfl rfl rfl rfl rfl (by decide) (va_recv hKk hP (ci := 5) (q0 := 0) rfl rfl) rfl hl.1 rfl (Nat.le_of_ble_eq_true rfl) d_L_law_409 ⟨Nat.le_of_ble_eq_true rfl, Nat.le_of_ble_eq_true rfl⟩ (fun H locs hP hD hS => ?_)
      refine lv_icmp_eq (tgt := 641) hx hb d_L_law_412 (by decide) (fun c18 => ?_) (fun c18 => ?_)
      · exact hnext _ _ H locs ls (hI.resync) (r_resync hs0 hs (hm s0 hs0) hA).2 hP hD hS (lv_sub hl [0, 1, 2, 3] rfl)
      · exact absurd (r_resync hs0 hs (hm s0 hs0) hA).1 c18
    | 10, _ =>
      refine lv_tableIn (off := 375) (tgt := 417) hx hb d_L_law_42 (by decide) (by decide) rfl (by decide) ?_
      refine lv_aload_n hx hb d_L_law_417 rfl (lv_at hl 2 rfl) ?_
      refine lv_aload_n hx hb d_L_law_418 rfl (lv_at hl 3 rfl) ?_
      refine lv_iload_n hx hb d_L_law_419 rfl (lv_at hl 0 rfl) ?_
      refine lv_iconst (v := 1) hx hb d_L_law_420 (by decide) ?_
      refine lv_iadd hx hb d_L_law_421 ?_
      refine x_top (show (nI i) + 1 = nI (i + 1) from x_nadd i 1) ?_
      refine va_sld hx hb hX hbl hbA hS (show vp_in (nI (i + 1)) L from vp_in_nI (by omega) (by omega)) d_L_law_422 ?_
      refine x_top (show xs (nI (i + 1)).toNatClampNeg = xs (i + 1) by rw [nI_clamp (by omega)]) ?_
      refine lv_aload_n hx hb d_L_law_423 rfl (lv_at hl 3 rfl) ?_
      refine lv_iload_n hx hb d_L_law_424 rfl (lv_at hl 0 rfl) ?_
      refine lv_iconst (v := 2) hx hb d_L_law_425 (by decide) ?_
      refine lv_iadd hx hb d_L_law_426 ?_
      refine x_top (show (nI i) + 2 = nI (i + 2) from x_nadd i 2) ?_
      refine va_sld hx hb hX hbl hbA hS (show vp_in (nI (i + 2)) L from vp_in_nI (by omega) (by omega)) d_L_law_427 ?_
      refine x_top (show xs (nI (i + 2)).toNatClampNeg = xs (i + 2) by rw [nI_clamp (by omega)]) ?_
      refine lv_if_eq (tgt := 435) hx hb d_L_law_428 (by decide) (fun c19 => ?_) (fun c19 => ?_)
      · refine lv_iconst (v := 0) hx hb d_L_law_435 (by decide) ?_
        refine l_V (rest := []) (wc := x_w cI cN ad z) (wr := k_w cI cZ kd y) ⟨hx, hb, hml, hown, hts⟩ (c_M_promote_ok l D cI cN ad z  (xs (i + 1)) 0) gm_329 gm_330 gm_331 gm_28 gm_332 ⟨rfl, rfl⟩ hd_M_promote ⟨Nat.le_of_ble_eq_true rfl, Nat.le_of_ble_eq_true rfl⟩ hKx hP hD hS hAA [0, 1, 2, 3, 4, 5, 6, 7, 8, 9, 10, 11, 12, 13] [14, 15, 16, 17, 18, 19, 20, 21, 22, 23, 24, 25] rfl rfl rfl rfl rfl (by decide) (va_recv hKx hP (ci := 4) (q0 := 0) rfl rfl) rfl hl.1 rfl (Nat.le_of_ble_eq_true rfl) d_L_law_436 ⟨Nat.le_of_ble_eq_true rfl, Nat.le_of_ble_eq_true rfl⟩ (fun H locs hP hD hS => ?_)
        refine lv_aload_n hx hb d_L_law_439 rfl (lv_at hl 1 rfl) ?_
        refine lv_aload_n hx hb d_L_law_440 rfl (lv_at hl 3 rfl) ?_
        refine lv_iload_n hx hb d_L_law_441 rfl (lv_at hl 0 rfl) ?_
        refine lv_iconst (v := 1) hx hb d_L_law_442 (by decide) ?_
        refine lv_iadd hx hb d_L_law_443 ?_
        refine x_top (show (nI i) + 1 = nI (i + 1) from x_nadd i 1) ?_
        refine va_sld hx hb hX hbl hbA hS (show vp_in (nI (i + 1)) L from vp_in_nI (by omega) (by omega)) d_L_law_444 ?_
        refine x_top (show xs (nI (i + 1)).toNatClampNeg = xs (i + 1) by rw [nI_clamp (by omega)]) ?_
        refine lv_aload_n hx hb d_L_law_445 rfl (lv_at hl 3 rfl) ?_
        refine lv_iload_n hx hb d_L_law_446 rfl (lv_at hl 0 rfl) ?_
        refine lv_iconst (v := 2) hx hb d_L_law_447 (by decide) ?_
        refine lv_iadd hx hb d_L_law_448 ?_
        refine x_top (show (nI i) + 2 = nI (i + 2) from x_nadd i 2) ?_
        refine va_sld hx hb hX hbl hbA hS (show vp_in (nI (i + 2)) L from vp_in_nI (by omega) (by omega)) d_L_law_449 ?_
        refine x_top (show xs (nI (i + 2)).toNatClampNeg = xs (i + 2) by rw [nI_clamp (by omega)]) ?_
        refine lv_if_eq (tgt := 457) hx hb d_L_law_450 (by decide) (fun c20 => ?_) (fun c20 => ?_)
        · refine lv_iconst (v := 0) hx hb d_L_law_457 (by decide) ?_
          refine l_V (rest := [.int ((x_promote z (xs (i + 1)) 0).1)]) (wc := k_w cI cZ kd y) (wr := x_w cI cN ad (x_promote z (xs (i + 1)) 0).2) ⟨hx, hb, hml, hown, hts⟩ (c_K_promote_ok l D cI cZ kd y  (xs (i + 1)) 0) gm_555 gm_556 gm_557 gm_34 gm_558 ⟨rfl, rfl⟩ hd_K_promote ⟨Nat.le_of_ble_eq_true rfl, Nat.le_of_ble_eq_true rfl⟩ hKk hP hD hS hAA [0, 1, 2, 3, 4, 5, 6, 7, 8, 9, 10, 11] [12, 13, 14, 15, 16, 17, 18, 19, 20, 21, 22, 23, 24, 25] rfl rfl rfl rfl rfl (by decide) (va_recv hKk hP (ci := 5) (q0 := 0) rfl rfl) rfl hl.1 rfl (Nat.le_of_ble_eq_true rfl) d_L_law_458 ⟨Nat.le_of_ble_eq_true rfl, Nat.le_of_ble_eq_true rfl⟩ (fun H locs hP hD hS => ?_)
          refine lv_icmp_eq (tgt := 641) hx hb d_L_law_461 (by decide) (fun c21 => ?_) (fun c21 => ?_)
          · exact hnext _ _ H locs ls (hI.promote hup01) (r_promote ho hA).2 hP hD hS (lv_sub hl [0, 1, 2, 3] rfl)
          · exact absurd (r_promote ho hA).1 c21
        · exact absurd c19 c20
      · refine lv_iconst (v := 1) hx hb d_L_law_431 (by decide) ?_
        refine lv_goto (tgt := 436) hx hb d_L_law_432 (by decide) ?_
        refine l_V (rest := []) (wc := x_w cI cN ad z) (wr := k_w cI cZ kd y) ⟨hx, hb, hml, hown, hts⟩ (c_M_promote_ok l D cI cN ad z  (xs (i + 1)) 1) gm_329 gm_330 gm_331 gm_28 gm_332 ⟨rfl, rfl⟩ hd_M_promote ⟨Nat.le_of_ble_eq_true rfl, Nat.le_of_ble_eq_true rfl⟩ hKx hP hD hS hAA [0, 1, 2, 3, 4, 5, 6, 7, 8, 9, 10, 11, 12, 13] [14, 15, 16, 17, 18, 19, 20, 21, 22, 23, 24, 25] rfl rfl rfl rfl rfl (by decide) (va_recv hKx hP (ci := 4) (q0 := 0) rfl rfl) rfl hl.1 rfl (Nat.le_of_ble_eq_true rfl) d_L_law_436 ⟨Nat.le_of_ble_eq_true rfl, Nat.le_of_ble_eq_true rfl⟩ (fun H locs hP hD hS => ?_)
        refine lv_aload_n hx hb d_L_law_439 rfl (lv_at hl 1 rfl) ?_
        refine lv_aload_n hx hb d_L_law_440 rfl (lv_at hl 3 rfl) ?_
        refine lv_iload_n hx hb d_L_law_441 rfl (lv_at hl 0 rfl) ?_
        refine lv_iconst (v := 1) hx hb d_L_law_442 (by decide) ?_
        refine lv_iadd hx hb d_L_law_443 ?_
        refine x_top (show (nI i) + 1 = nI (i + 1) from x_nadd i 1) ?_
        refine va_sld hx hb hX hbl hbA hS (show vp_in (nI (i + 1)) L from vp_in_nI (by omega) (by omega)) d_L_law_444 ?_
        refine x_top (show xs (nI (i + 1)).toNatClampNeg = xs (i + 1) by rw [nI_clamp (by omega)]) ?_
        refine lv_aload_n hx hb d_L_law_445 rfl (lv_at hl 3 rfl) ?_
        refine lv_iload_n hx hb d_L_law_446 rfl (lv_at hl 0 rfl) ?_
        refine lv_iconst (v := 2) hx hb d_L_law_447 (by decide) ?_
        refine lv_iadd hx hb d_L_law_448 ?_
        refine x_top (show (nI i) + 2 = nI (i + 2) from x_nadd i 2) ?_
        refine va_sld hx hb hX hbl hbA hS (show vp_in (nI (i + 2)) L from vp_in_nI (by omega) (by omega)) d_L_law_449 ?_
        refine x_top (show xs (nI (i + 2)).toNatClampNeg = xs (i + 2) by rw [nI_clamp (by omega)]) ?_
        refine lv_if_eq (tgt := 457) hx hb d_L_law_450 (by decide) (fun c22 => ?_) (fun c22 => ?_)
        · exact absurd c22 c19
        · refine lv_iconst (v := 1) hx hb d_L_law_453 (by decide) ?_
          refine lv_goto (tgt := 458) hx hb d_L_law_454 (by decide) ?_
          refine l_V (rest := [.int ((x_promote z (xs (i + 1)) 1).1)]) (wc := k_w cI cZ kd y) (wr := x_w cI cN ad (x_promote z (xs (i + 1)) 1).2) ⟨hx, hb, hml, hown, hts⟩ (c_K_promote_ok l D cI cZ kd y  (xs (i + 1)) 1) gm_555 gm_556 gm_557 gm_34 gm_558 ⟨rfl, rfl⟩ hd_K_promote ⟨Nat.le_of_ble_eq_true rfl, Nat.le_of_ble_eq_true rfl⟩ hKk hP hD hS hAA [0, 1, 2, 3, 4, 5, 6, 7, 8, 9, 10, 11] [12, 13, 14, 15, 16, 17, 18, 19, 20, 21, 22, 23, 24, 25] rfl rfl rfl rfl rfl (by decide) (va_recv hKk hP (ci := 5) (q0 := 0) rfl rfl) rfl hl.1 rfl (Nat.le_of_ble_eq_true rfl) d_L_law_458 ⟨Nat.le_of_ble_eq_true rfl, Nat.le_of_ble_eq_true rfl⟩ (fun H locs hP hD hS => ?_)
          refine lv_icmp_eq (tgt := 641) hx hb d_L_law_461 (by decide) (fun c23 => ?_) (fun c23 => ?_)
          · exact hnext _ _ H locs ls (hI.promote hup01) (r_promote ho hA).2 hP hD hS (lv_sub hl [0, 1, 2, 3] rfl)
          · exact absurd (r_promote ho hA).1 c23
    | 11, _ =>
      refine lv_tableIn (off := 424) (tgt := 466) hx hb d_L_law_42 (by decide) (by decide) rfl (by decide) ?_
      refine lv_aload_n hx hb d_L_law_466 rfl (lv_at hl 2 rfl) ?_
      refine lv_aload_n hx hb d_L_law_467 rfl (lv_at hl 3 rfl) ?_
      refine lv_iload_n hx hb d_L_law_468 rfl (lv_at hl 0 rfl) ?_
      refine lv_iconst (v := 1) hx hb d_L_law_469 (by decide) ?_
      refine lv_iadd hx hb d_L_law_470 ?_
      refine x_top (show (nI i) + 1 = nI (i + 1) from x_nadd i 1) ?_
      refine va_sld hx hb hX hbl hbA hS (show vp_in (nI (i + 1)) L from vp_in_nI (by omega) (by omega)) d_L_law_471 ?_
      refine x_top (show xs (nI (i + 1)).toNatClampNeg = xs (i + 1) by rw [nI_clamp (by omega)]) ?_
      refine l_V (rest := []) (wc := x_w cI cN ad z) (wr := k_w cI cZ kd y) ⟨hx, hb, hml, hown, hts⟩ (c_M_demote_ok l D cI cN ad z  (xs (i + 1))) gm_357 gm_358 gm_359 gm_28 gm_360 ⟨rfl, rfl⟩ hd_M_demote ⟨Nat.le_of_ble_eq_true rfl, Nat.le_of_ble_eq_true rfl⟩ hKx hP hD hS hAA [0, 1, 2, 3, 4, 5, 6, 7, 8, 9, 10, 11, 12, 13] [14, 15, 16, 17, 18, 19, 20, 21, 22, 23, 24, 25] rfl rfl rfl rfl rfl (by decide) (va_recv hKx hP (ci := 4) (q0 := 0) rfl rfl) rfl hl.1 rfl (Nat.le_of_ble_eq_true rfl) d_L_law_472 ⟨Nat.le_of_ble_eq_true rfl, Nat.le_of_ble_eq_true rfl⟩ (fun H locs hP hD hS => ?_)
      refine lv_aload_n hx hb d_L_law_475 rfl (lv_at hl 1 rfl) ?_
      refine lv_aload_n hx hb d_L_law_476 rfl (lv_at hl 3 rfl) ?_
      refine lv_iload_n hx hb d_L_law_477 rfl (lv_at hl 0 rfl) ?_
      refine lv_iconst (v := 1) hx hb d_L_law_478 (by decide) ?_
      refine lv_iadd hx hb d_L_law_479 ?_
      refine x_top (show (nI i) + 1 = nI (i + 1) from x_nadd i 1) ?_
      refine va_sld hx hb hX hbl hbA hS (show vp_in (nI (i + 1)) L from vp_in_nI (by omega) (by omega)) d_L_law_480 ?_
      refine x_top (show xs (nI (i + 1)).toNatClampNeg = xs (i + 1) by rw [nI_clamp (by omega)]) ?_
      refine l_V (rest := [.int ((x_demote z (xs (i + 1))).1)]) (wc := k_w cI cZ kd y) (wr := x_w cI cN ad (x_demote z (xs (i + 1))).2) ⟨hx, hb, hml, hown, hts⟩ (c_K_demote_ok l D cI cZ kd y  (xs (i + 1))) gm_559 gm_560 gm_561 gm_34 gm_562 ⟨rfl, rfl⟩ hd_K_demote ⟨Nat.le_of_ble_eq_true rfl, Nat.le_of_ble_eq_true rfl⟩ hKk hP hD hS hAA [0, 1, 2, 3, 4, 5, 6, 7, 8, 9, 10, 11] [12, 13, 14, 15, 16, 17, 18, 19, 20, 21, 22, 23, 24, 25] rfl rfl rfl rfl rfl (by decide) (va_recv hKk hP (ci := 5) (q0 := 0) rfl rfl) rfl hl.1 rfl (Nat.le_of_ble_eq_true rfl) d_L_law_481 ⟨Nat.le_of_ble_eq_true rfl, Nat.le_of_ble_eq_true rfl⟩ (fun H locs hP hD hS => ?_)
      refine lv_icmp_eq (tgt := 641) hx hb d_L_law_484 (by decide) (fun c24 => ?_) (fun c24 => ?_)
      · exact hnext _ _ H locs ls (hI.small.2.2.2.2.2.1 (xs (i + 1))) (r_demote ho hA).2 hP hD hS (lv_sub hl [0, 1, 2, 3] rfl)
      · exact absurd (r_demote ho hA).1 c24
    | 12, _ =>
      refine lv_tableIn (off := 447) (tgt := 489) hx hb d_L_law_42 (by decide) (by decide) rfl (by decide) ?_
      refine lv_aload_n hx hb d_L_law_489 rfl (lv_at hl 2 rfl) ?_
      refine l_V (rest := []) (wc := x_w cI cN ad z) (wr := k_w cI cZ kd y) ⟨hx, hb, hml, hown, hts⟩ (c_M_renew_ok l D cI cN ad z  ) gm_361 gm_362 gm_363 gm_28 gm_364 ⟨rfl, rfl⟩ hd_M_renew ⟨Nat.le_of_ble_eq_true rfl, Nat.le_of_ble_eq_true rfl⟩ hKx hP hD hS hAA [0, 1, 2, 3, 4, 5, 6, 7, 8, 9, 10, 11, 12, 13] [14, 15, 16, 17, 18, 19, 20, 21, 22, 23, 24, 25] rfl rfl rfl rfl rfl (by decide) (va_recv hKx hP (ci := 4) (q0 := 0) rfl rfl) rfl hl.1 rfl (Nat.le_of_ble_eq_true rfl) d_L_law_490 ⟨Nat.le_of_ble_eq_true rfl, Nat.le_of_ble_eq_true rfl⟩ (fun H locs hP hD hS => ?_)
      refine lv_aload_n hx hb d_L_law_493 rfl (lv_at hl 1 rfl) ?_
      refine l_V (rest := [.int ((x_rnw z).1)]) (wc := k_w cI cZ kd y) (wr := x_w cI cN ad (x_rnw z).2) ⟨hx, hb, hml, hown, hts⟩ (c_K_renew_ok l D cI cZ kd y  k hk (by rw [hA.2.1]; exact hq)) gm_563 gm_564 gm_565 gm_34 gm_566 ⟨rfl, rfl⟩ hd_K_renew ⟨Nat.le_of_ble_eq_true rfl, Nat.le_of_ble_eq_true rfl⟩ hKk hP hD hS hAA [0, 1, 2, 3, 4, 5, 6, 7, 8, 9, 10, 11] [12, 13, 14, 15, 16, 17, 18, 19, 20, 21, 22, 23, 24, 25] rfl rfl rfl rfl rfl (by decide) (va_recv hKk hP (ci := 5) (q0 := 0) rfl rfl) rfl hl.1 rfl (Nat.le_of_ble_eq_true rfl) d_L_law_494 ⟨Nat.le_of_ble_eq_true rfl, Nat.le_of_ble_eq_true rfl⟩ (fun H locs hP hD hS => ?_)
      refine lv_icmp_eq (tgt := 641) hx hb d_L_law_497 (by decide) (fun c25 => ?_) (fun c25 => ?_)
      · exact hnext _ _ H locs ls (hI.small.2.2.2.2.2.2.1) (r_rnw hq hk hA).2 hP hD hS (lv_sub hl [0, 1, 2, 3] rfl)
      · exact absurd (r_rnw hq hk hA).1 c25
    | 13, _ =>
      refine lv_tableIn (off := 460) (tgt := 502) hx hb d_L_law_42 (by decide) (by decide) rfl (by decide) ?_
      refine lv_aload_n hx hb d_L_law_502 rfl (lv_at hl 2 rfl) ?_
      refine lv_aload_n hx hb d_L_law_503 rfl (lv_at hl 3 rfl) ?_
      refine lv_iload_n hx hb d_L_law_504 rfl (lv_at hl 0 rfl) ?_
      refine lv_iconst (v := 1) hx hb d_L_law_505 (by decide) ?_
      refine lv_iadd hx hb d_L_law_506 ?_
      refine x_top (show (nI i) + 1 = nI (i + 1) from x_nadd i 1) ?_
      refine va_sld hx hb hX hbl hbA hS (show vp_in (nI (i + 1)) L from vp_in_nI (by omega) (by omega)) d_L_law_507 ?_
      refine x_top (show xs (nI (i + 1)).toNatClampNeg = xs (i + 1) by rw [nI_clamp (by omega)]) ?_
      refine l_V (rest := []) (wc := x_w cI cN ad z) (wr := k_w cI cZ kd y) ⟨hx, hb, hml, hown, hts⟩ (c_M_tick_ok l D cI cN ad z  (xs (i + 1))) gm_366 gm_367 gm_368 gm_28 gm_369 ⟨rfl, rfl⟩ hd_M_tick ⟨Nat.le_of_ble_eq_true rfl, Nat.le_of_ble_eq_true rfl⟩ hKx hP hD hS hAA [0, 1, 2, 3, 4, 5, 6, 7, 8, 9, 10, 11, 12, 13] [14, 15, 16, 17, 18, 19, 20, 21, 22, 23, 24, 25] rfl rfl rfl rfl rfl (by decide) (va_recv hKx hP (ci := 4) (q0 := 0) rfl rfl) rfl hl.1 rfl (Nat.le_of_ble_eq_true rfl) d_L_law_508 ⟨Nat.le_of_ble_eq_true rfl, Nat.le_of_ble_eq_true rfl⟩ (fun H locs hP hD hS => ?_)
      refine lv_aload_n hx hb d_L_law_511 rfl (lv_at hl 1 rfl) ?_
      refine lv_aload_n hx hb d_L_law_512 rfl (lv_at hl 3 rfl) ?_
      refine lv_iload_n hx hb d_L_law_513 rfl (lv_at hl 0 rfl) ?_
      refine lv_iconst (v := 1) hx hb d_L_law_514 (by decide) ?_
      refine lv_iadd hx hb d_L_law_515 ?_
      refine x_top (show (nI i) + 1 = nI (i + 1) from x_nadd i 1) ?_
      refine va_sld hx hb hX hbl hbA hS (show vp_in (nI (i + 1)) L from vp_in_nI (by omega) (by omega)) d_L_law_516 ?_
      refine x_top (show xs (nI (i + 1)).toNatClampNeg = xs (i + 1) by rw [nI_clamp (by omega)]) ?_
      refine l_V (rest := [.int ((x_tick z (xs (i + 1))).1)]) (wc := k_w cI cZ kd y) (wr := x_w cI cN ad (x_tick z (xs (i + 1))).2) ⟨hx, hb, hml, hown, hts⟩ (c_K_tick_ok l D cI cZ kd y  (xs (i + 1))) gm_567 gm_568 gm_569 gm_34 gm_570 ⟨rfl, rfl⟩ hd_K_tick ⟨Nat.le_of_ble_eq_true rfl, Nat.le_of_ble_eq_true rfl⟩ hKk hP hD hS hAA [0, 1, 2, 3, 4, 5, 6, 7, 8, 9, 10, 11] [12, 13, 14, 15, 16, 17, 18, 19, 20, 21, 22, 23, 24, 25] rfl rfl rfl rfl rfl (by decide) (va_recv hKk hP (ci := 5) (q0 := 0) rfl rfl) rfl hl.1 rfl (Nat.le_of_ble_eq_true rfl) d_L_law_517 ⟨Nat.le_of_ble_eq_true rfl, Nat.le_of_ble_eq_true rfl⟩ (fun H locs hP hD hS => ?_)
      refine lv_icmp_eq (tgt := 641) hx hb d_L_law_520 (by decide) (fun c26 => ?_) (fun c26 => ?_)
      · exact hnext _ _ H locs ls (hI.small.2.2.2.2.2.2.2 (xs (i + 1))) (r_tick ho hA).2 hP hD hS (lv_sub hl [0, 1, 2, 3] rfl)
      · exact absurd (r_tick ho hA).1 c26
    | 14, _ =>
      refine lv_tableIn (off := 483) (tgt := 525) hx hb d_L_law_42 (by decide) (by decide) rfl (by decide) ?_
      refine lv_aload_n hx hb d_L_law_525 rfl (lv_at hl 2 rfl) ?_
      refine lv_aload_n hx hb d_L_law_526 rfl (lv_at hl 3 rfl) ?_
      refine lv_iload_n hx hb d_L_law_527 rfl (lv_at hl 0 rfl) ?_
      refine lv_iconst (v := 1) hx hb d_L_law_528 (by decide) ?_
      refine lv_iadd hx hb d_L_law_529 ?_
      refine x_top (show (nI i) + 1 = nI (i + 1) from x_nadd i 1) ?_
      refine va_sld hx hb hX hbl hbA hS (show vp_in (nI (i + 1)) L from vp_in_nI (by omega) (by omega)) d_L_law_530 ?_
      refine x_top (show xs (nI (i + 1)).toNatClampNeg = xs (i + 1) by rw [nI_clamp (by omega)]) ?_
      refine lv_aload_n hx hb d_L_law_531 rfl (lv_at hl 3 rfl) ?_
      refine lv_iload_n hx hb d_L_law_532 rfl (lv_at hl 0 rfl) ?_
      refine lv_iconst (v := 2) hx hb d_L_law_533 (by decide) ?_
      refine lv_iadd hx hb d_L_law_534 ?_
      refine x_top (show (nI i) + 2 = nI (i + 2) from x_nadd i 2) ?_
      refine va_sld hx hb hX hbl hbA hS (show vp_in (nI (i + 2)) L from vp_in_nI (by omega) (by omega)) d_L_law_535 ?_
      refine x_top (show xs (nI (i + 2)).toNatClampNeg = xs (i + 2) by rw [nI_clamp (by omega)]) ?_
      refine lv_aload_n hx hb d_L_law_536 rfl (lv_at hl 3 rfl) ?_
      refine lv_iload_n hx hb d_L_law_537 rfl (lv_at hl 0 rfl) ?_
      refine lv_iconst (v := 3) hx hb d_L_law_538 (by decide) ?_
      refine lv_iadd hx hb d_L_law_539 ?_
      refine x_top (show (nI i) + 3 = nI (i + 3) from x_nadd i 3) ?_
      refine va_sld hx hb hX hbl hbA hS (show vp_in (nI (i + 3)) L from vp_in_nI (by omega) (by omega)) d_L_law_540 ?_
      refine x_top (show xs (nI (i + 3)).toNatClampNeg = xs (i + 3) by rw [nI_clamp (by omega)]) ?_
      refine lv_if_eq (tgt := 548) hx hb d_L_law_541 (by decide) (fun c27 => ?_) (fun c27 => ?_)
      · refine lv_iconst (v := 0) hx hb d_L_law_548 (by decide) ?_
        refine l_V (rest := []) (wc := x_w cI cN ad z) (wr := k_w cI cZ kd y) ⟨hx, hb, hml, hown, hts⟩ (c_M_block_ok l D cI cN ad z  (xs (i + 1)) (xs (i + 2)) 0) gm_371 gm_372 gm_373 gm_28 gm_374 ⟨rfl, rfl⟩ hd_M_block ⟨Nat.le_of_ble_eq_true rfl, Nat.le_of_ble_eq_true rfl⟩ hKx hP hD hS hAA [0, 1, 2, 3, 4, 5, 6, 7, 8, 9, 10, 11, 12, 13] [14, 15, 16, 17, 18, 19, 20, 21, 22, 23, 24, 25] rfl rfl rfl rfl rfl (by decide) (va_recv hKx hP (ci := 4) (q0 := 0) rfl rfl) rfl hl.1 rfl (Nat.le_of_ble_eq_true rfl) d_L_law_549 ⟨Nat.le_of_ble_eq_true rfl, Nat.le_of_ble_eq_true rfl⟩ (fun H locs hP hD hS => ?_)
        refine lv_aload_n hx hb d_L_law_552 rfl (lv_at hl 1 rfl) ?_
        refine lv_aload_n hx hb d_L_law_553 rfl (lv_at hl 3 rfl) ?_
        refine lv_iload_n hx hb d_L_law_554 rfl (lv_at hl 0 rfl) ?_
        refine lv_iconst (v := 1) hx hb d_L_law_555 (by decide) ?_
        refine lv_iadd hx hb d_L_law_556 ?_
        refine x_top (show (nI i) + 1 = nI (i + 1) from x_nadd i 1) ?_
        refine va_sld hx hb hX hbl hbA hS (show vp_in (nI (i + 1)) L from vp_in_nI (by omega) (by omega)) d_L_law_557 ?_
        refine x_top (show xs (nI (i + 1)).toNatClampNeg = xs (i + 1) by rw [nI_clamp (by omega)]) ?_
        refine lv_aload_n hx hb d_L_law_558 rfl (lv_at hl 3 rfl) ?_
        refine lv_iload_n hx hb d_L_law_559 rfl (lv_at hl 0 rfl) ?_
        refine lv_iconst (v := 2) hx hb d_L_law_560 (by decide) ?_
        refine lv_iadd hx hb d_L_law_561 ?_
        refine x_top (show (nI i) + 2 = nI (i + 2) from x_nadd i 2) ?_
        refine va_sld hx hb hX hbl hbA hS (show vp_in (nI (i + 2)) L from vp_in_nI (by omega) (by omega)) d_L_law_562 ?_
        refine x_top (show xs (nI (i + 2)).toNatClampNeg = xs (i + 2) by rw [nI_clamp (by omega)]) ?_
        refine lv_aload_n hx hb d_L_law_563 rfl (lv_at hl 3 rfl) ?_
        refine lv_iload_n hx hb d_L_law_564 rfl (lv_at hl 0 rfl) ?_
        refine lv_iconst (v := 3) hx hb d_L_law_565 (by decide) ?_
        refine lv_iadd hx hb d_L_law_566 ?_
        refine x_top (show (nI i) + 3 = nI (i + 3) from x_nadd i 3) ?_
        refine va_sld hx hb hX hbl hbA hS (show vp_in (nI (i + 3)) L from vp_in_nI (by omega) (by omega)) d_L_law_567 ?_
        refine x_top (show xs (nI (i + 3)).toNatClampNeg = xs (i + 3) by rw [nI_clamp (by omega)]) ?_
        refine lv_if_eq (tgt := 575) hx hb d_L_law_568 (by decide) (fun c28 => ?_) (fun c28 => ?_)
        · refine lv_iconst (v := 0) hx hb d_L_law_575 (by decide) ?_
          refine l_V (rest := [.long (x_block z (xs (i + 1)) (xs (i + 2)) 0)]) (wc := k_w cI cZ kd y) (wr := x_w cI cN ad z) ⟨hx, hb, hml, hown, hts⟩ (c_K_block_ok l D cI cZ kd y  (xs (i + 1)) (xs (i + 2)) 0) gm_571 gm_572 gm_573 gm_34 gm_574 ⟨rfl, rfl⟩ hd_K_block ⟨Nat.le_of_ble_eq_true rfl, Nat.le_of_ble_eq_true rfl⟩ hKk hP hD hS hAA [0, 1, 2, 3, 4, 5, 6, 7, 8, 9, 10, 11] [12, 13, 14, 15, 16, 17, 18, 19, 20, 21, 22, 23, 24, 25] rfl rfl rfl rfl rfl (by decide) (va_recv hKk hP (ci := 5) (q0 := 0) rfl rfl) rfl hl.1 rfl (Nat.le_of_ble_eq_true rfl) d_L_law_576 ⟨Nat.le_of_ble_eq_true rfl, Nat.le_of_ble_eq_true rfl⟩ (fun H locs hP hD hS => ?_)
          refine W.lcmp hx hb d_L_law_579 ?_
          refine lv_if_eq (tgt := 641) hx hb d_L_law_580 (by decide) (fun c29 => ?_) (fun c29 => ?_)
          · exact hnext z y H locs ls hI hA hP hD hS (lv_sub hl [0, 1, 2, 3] rfl)
          · exact absurd ((lg_cmp_eq _ _).mpr (r_block hA)) c29
        · exact absurd c27 c28
      · refine lv_iconst (v := 1) hx hb d_L_law_544 (by decide) ?_
        refine lv_goto (tgt := 549) hx hb d_L_law_545 (by decide) ?_
        refine l_V (rest := []) (wc := x_w cI cN ad z) (wr := k_w cI cZ kd y) ⟨hx, hb, hml, hown, hts⟩ (c_M_block_ok l D cI cN ad z  (xs (i + 1)) (xs (i + 2)) 1) gm_371 gm_372 gm_373 gm_28 gm_374 ⟨rfl, rfl⟩ hd_M_block ⟨Nat.le_of_ble_eq_true rfl, Nat.le_of_ble_eq_true rfl⟩ hKx hP hD hS hAA [0, 1, 2, 3, 4, 5, 6, 7, 8, 9, 10, 11, 12, 13] [14, 15, 16, 17, 18, 19, 20, 21, 22, 23, 24, 25] rfl rfl rfl rfl rfl (by decide) (va_recv hKx hP (ci := 4) (q0 := 0) rfl rfl) rfl hl.1 rfl (Nat.le_of_ble_eq_true rfl) d_L_law_549 ⟨Nat.le_of_ble_eq_true rfl, Nat.le_of_ble_eq_true rfl⟩ (fun H locs hP hD hS => ?_)
        refine lv_aload_n hx hb d_L_law_552 rfl (lv_at hl 1 rfl) ?_
        refine lv_aload_n hx hb d_L_law_553 rfl (lv_at hl 3 rfl) ?_
        refine lv_iload_n hx hb d_L_law_554 rfl (lv_at hl 0 rfl) ?_
        refine lv_iconst (v := 1) hx hb d_L_law_555 (by decide) ?_
        refine lv_iadd hx hb d_L_law_556 ?_
        refine x_top (show (nI i) + 1 = nI (i + 1) from x_nadd i 1) ?_
        refine va_sld hx hb hX hbl hbA hS (show vp_in (nI (i + 1)) L from vp_in_nI (by omega) (by omega)) d_L_law_557 ?_
        refine x_top (show xs (nI (i + 1)).toNatClampNeg = xs (i + 1) by rw [nI_clamp (by omega)]) ?_
        refine lv_aload_n hx hb d_L_law_558 rfl (lv_at hl 3 rfl) ?_
        refine lv_iload_n hx hb d_L_law_559 rfl (lv_at hl 0 rfl) ?_
        refine lv_iconst (v := 2) hx hb d_L_law_560 (by decide) ?_
        refine lv_iadd hx hb d_L_law_561 ?_
        refine x_top (show (nI i) + 2 = nI (i + 2) from x_nadd i 2) ?_
        refine va_sld hx hb hX hbl hbA hS (show vp_in (nI (i + 2)) L from vp_in_nI (by omega) (by omega)) d_L_law_562 ?_
        refine x_top (show xs (nI (i + 2)).toNatClampNeg = xs (i + 2) by rw [nI_clamp (by omega)]) ?_
        refine lv_aload_n hx hb d_L_law_563 rfl (lv_at hl 3 rfl) ?_
        refine lv_iload_n hx hb d_L_law_564 rfl (lv_at hl 0 rfl) ?_
        refine lv_iconst (v := 3) hx hb d_L_law_565 (by decide) ?_
        refine lv_iadd hx hb d_L_law_566 ?_
        refine x_top (show (nI i) + 3 = nI (i + 3) from x_nadd i 3) ?_
        refine va_sld hx hb hX hbl hbA hS (show vp_in (nI (i + 3)) L from vp_in_nI (by omega) (by omega)) d_L_law_567 ?_
        refine x_top (show xs (nI (i + 3)).toNatClampNeg = xs (i + 3) by rw [nI_clamp (by omega)]) ?_
        refine lv_if_eq (tgt := 575) hx hb d_L_law_568 (by decide) (fun c30 => ?_) (fun c30 => ?_)
        · exact absurd c30 c27
        · refine lv_iconst (v := 1) hx hb d_L_law_571 (by decide) ?_
          refine lv_goto (tgt := 576) hx hb d_L_law_572 (by decide) ?_
          refine l_V (rest := [.long (x_block z (xs (i + 1)) (xs (i + 2)) 1)]) (wc := k_w cI cZ kd y) (wr := x_w cI cN ad z) ⟨hx, hb, hml, hown, hts⟩ (c_K_block_ok l D cI cZ kd y  (xs (i + 1)) (xs (i + 2)) 1) gm_571 gm_572 gm_573 gm_34 gm_574 ⟨rfl, rfl⟩ hd_K_block ⟨Nat.le_of_ble_eq_true rfl, Nat.le_of_ble_eq_true rfl⟩ hKk hP hD hS hAA [0, 1, 2, 3, 4, 5, 6, 7, 8, 9, 10, 11] [12, 13, 14, 15, 16, 17, 18, 19, 20, 21, 22, 23, 24, 25] rfl rfl rfl rfl rfl (by decide) (va_recv hKk hP (ci := 5) (q0 := 0) rfl rfl) rfl hl.1 rfl (Nat.le_of_ble_eq_true rfl) d_L_law_576 ⟨Nat.le_of_ble_eq_true rfl, Nat.le_of_ble_eq_true rfl⟩ (fun H locs hP hD hS => ?_)
          refine W.lcmp hx hb d_L_law_579 ?_
          refine lv_if_eq (tgt := 641) hx hb d_L_law_580 (by decide) (fun c31 => ?_) (fun c31 => ?_)
          · exact hnext z y H locs ls hI hA hP hD hS (lv_sub hl [0, 1, 2, 3] rfl)
          · exact absurd ((lg_cmp_eq _ _).mpr (r_block hA)) c31
    | 15, _ =>
      refine lv_tableIn (off := 543) (tgt := 585) hx hb d_L_law_42 (by decide) (by decide) rfl (by decide) ?_
      refine lv_aload_n hx hb d_L_law_585 rfl (lv_at hl 2 rfl) ?_
      refine lv_aload_n hx hb d_L_law_586 rfl (lv_at hl 3 rfl) ?_
      refine lv_iload_n hx hb d_L_law_587 rfl (lv_at hl 0 rfl) ?_
      refine lv_iconst (v := 1) hx hb d_L_law_588 (by decide) ?_
      refine lv_iadd hx hb d_L_law_589 ?_
      refine x_top (show (nI i) + 1 = nI (i + 1) from x_nadd i 1) ?_
      refine va_sld hx hb hX hbl hbA hS (show vp_in (nI (i + 1)) L from vp_in_nI (by omega) (by omega)) d_L_law_590 ?_
      refine x_top (show xs (nI (i + 1)).toNatClampNeg = xs (i + 1) by rw [nI_clamp (by omega)]) ?_
      refine lv_aload_n hx hb d_L_law_591 rfl (lv_at hl 3 rfl) ?_
      refine lv_iload_n hx hb d_L_law_592 rfl (lv_at hl 0 rfl) ?_
      refine lv_iconst (v := 2) hx hb d_L_law_593 (by decide) ?_
      refine lv_iadd hx hb d_L_law_594 ?_
      refine x_top (show (nI i) + 2 = nI (i + 2) from x_nadd i 2) ?_
      refine va_sld hx hb hX hbl hbA hS (show vp_in (nI (i + 2)) L from vp_in_nI (by omega) (by omega)) d_L_law_595 ?_
      refine x_top (show xs (nI (i + 2)).toNatClampNeg = xs (i + 2) by rw [nI_clamp (by omega)]) ?_
      refine l_V (rest := []) (wc := x_w cI cN ad z) (wr := k_w cI cZ kd y) ⟨hx, hb, hml, hown, hts⟩ (c_M_node_ok l D cI cN ad z  (xs (i + 1)) (xs (i + 2))) gm_375 gm_376 gm_377 gm_28 gm_378 ⟨rfl, rfl⟩ hd_M_node ⟨Nat.le_of_ble_eq_true rfl, Nat.le_of_ble_eq_true rfl⟩ hKx hP hD hS hAA [0, 1, 2, 3, 4, 5, 6, 7, 8, 9, 10, 11, 12, 13] [14, 15, 16, 17, 18, 19, 20, 21, 22, 23, 24, 25] rfl rfl rfl rfl rfl (by decide) (va_recv hKx hP (ci := 4) (q0 := 0) rfl rfl) rfl hl.1 rfl (Nat.le_of_ble_eq_true rfl) d_L_law_596 ⟨Nat.le_of_ble_eq_true rfl, Nat.le_of_ble_eq_true rfl⟩ (fun H locs hP hD hS => ?_)
      refine lv_aload_n hx hb d_L_law_599 rfl (lv_at hl 1 rfl) ?_
      refine lv_aload_n hx hb d_L_law_600 rfl (lv_at hl 3 rfl) ?_
      refine lv_iload_n hx hb d_L_law_601 rfl (lv_at hl 0 rfl) ?_
      refine lv_iconst (v := 1) hx hb d_L_law_602 (by decide) ?_
      refine lv_iadd hx hb d_L_law_603 ?_
      refine x_top (show (nI i) + 1 = nI (i + 1) from x_nadd i 1) ?_
      refine va_sld hx hb hX hbl hbA hS (show vp_in (nI (i + 1)) L from vp_in_nI (by omega) (by omega)) d_L_law_604 ?_
      refine x_top (show xs (nI (i + 1)).toNatClampNeg = xs (i + 1) by rw [nI_clamp (by omega)]) ?_
      refine lv_aload_n hx hb d_L_law_605 rfl (lv_at hl 3 rfl) ?_
      refine lv_iload_n hx hb d_L_law_606 rfl (lv_at hl 0 rfl) ?_
      refine lv_iconst (v := 2) hx hb d_L_law_607 (by decide) ?_
      refine lv_iadd hx hb d_L_law_608 ?_
      refine x_top (show (nI i) + 2 = nI (i + 2) from x_nadd i 2) ?_
      refine va_sld hx hb hX hbl hbA hS (show vp_in (nI (i + 2)) L from vp_in_nI (by omega) (by omega)) d_L_law_609 ?_
      refine x_top (show xs (nI (i + 2)).toNatClampNeg = xs (i + 2) by rw [nI_clamp (by omega)]) ?_
      refine l_V (rest := [.int (x_node z (xs (i + 1)) (xs (i + 2)))]) (wc := k_w cI cZ kd y) (wr := x_w cI cN ad z) ⟨hx, hb, hml, hown, hts⟩ (c_K_node_ok l D cI cZ kd y  (xs (i + 1)) (xs (i + 2))) gm_575 gm_576 gm_577 gm_34 gm_578 ⟨rfl, rfl⟩ hd_K_node ⟨Nat.le_of_ble_eq_true rfl, Nat.le_of_ble_eq_true rfl⟩ hKk hP hD hS hAA [0, 1, 2, 3, 4, 5, 6, 7, 8, 9, 10, 11] [12, 13, 14, 15, 16, 17, 18, 19, 20, 21, 22, 23, 24, 25] rfl rfl rfl rfl rfl (by decide) (va_recv hKk hP (ci := 5) (q0 := 0) rfl rfl) rfl hl.1 rfl (Nat.le_of_ble_eq_true rfl) d_L_law_610 ⟨Nat.le_of_ble_eq_true rfl, Nat.le_of_ble_eq_true rfl⟩ (fun H locs hP hD hS => ?_)
      refine lv_icmp_eq (tgt := 641) hx hb d_L_law_613 (by decide) (fun c32 => ?_) (fun c32 => ?_)
      · exact hnext z y H locs ls hI hA hP hD hS (lv_sub hl [0, 1, 2, 3] rfl)
      · exact absurd (r_node ho hA) c32
    | 16, _ =>
      refine lv_tableIn (off := 576) (tgt := 618) hx hb d_L_law_42 (by decide) (by decide) rfl (by decide) ?_
      refine lv_aload_n hx hb d_L_law_618 rfl (lv_at hl 2 rfl) ?_
      refine lv_aload_n hx hb d_L_law_619 rfl (lv_at hl 3 rfl) ?_
      refine lv_iload_n hx hb d_L_law_620 rfl (lv_at hl 0 rfl) ?_
      refine lv_iconst (v := 1) hx hb d_L_law_621 (by decide) ?_
      refine lv_iadd hx hb d_L_law_622 ?_
      refine x_top (show (nI i) + 1 = nI (i + 1) from x_nadd i 1) ?_
      refine va_sld hx hb hX hbl hbA hS (show vp_in (nI (i + 1)) L from vp_in_nI (by omega) (by omega)) d_L_law_623 ?_
      refine x_top (show xs (nI (i + 1)).toNatClampNeg = xs (i + 1) by rw [nI_clamp (by omega)]) ?_
      refine l_V (rest := []) (wc := x_w cI cN ad z) (wr := k_w cI cZ kd y) ⟨hx, hb, hml, hown, hts⟩ (c_M_mirror_ok l D cI cN ad z  (xs (i + 1))) gm_387 gm_388 gm_389 gm_28 gm_390 ⟨rfl, rfl⟩ hd_M_mirror ⟨Nat.le_of_ble_eq_true rfl, Nat.le_of_ble_eq_true rfl⟩ hKx hP hD hS hAA [0, 1, 2, 3, 4, 5, 6, 7, 8, 9, 10, 11, 12, 13] [14, 15, 16, 17, 18, 19, 20, 21, 22, 23, 24, 25] rfl rfl rfl rfl rfl (by decide) (va_recv hKx hP (ci := 4) (q0 := 0) rfl rfl) rfl hl.1 rfl (Nat.le_of_ble_eq_true rfl) d_L_law_624 ⟨Nat.le_of_ble_eq_true rfl, Nat.le_of_ble_eq_true rfl⟩ (fun H locs hP hD hS => ?_)
      refine lv_aload_n hx hb d_L_law_627 rfl (lv_at hl 1 rfl) ?_
      refine lv_aload_n hx hb d_L_law_628 rfl (lv_at hl 3 rfl) ?_
      refine lv_iload_n hx hb d_L_law_629 rfl (lv_at hl 0 rfl) ?_
      refine lv_iconst (v := 1) hx hb d_L_law_630 (by decide) ?_
      refine lv_iadd hx hb d_L_law_631 ?_
      refine x_top (show (nI i) + 1 = nI (i + 1) from x_nadd i 1) ?_
      refine va_sld hx hb hX hbl hbA hS (show vp_in (nI (i + 1)) L from vp_in_nI (by omega) (by omega)) d_L_law_632 ?_
      refine x_top (show xs (nI (i + 1)).toNatClampNeg = xs (i + 1) by rw [nI_clamp (by omega)]) ?_
      refine l_V (rest := [.int (x_mirror z (xs (i + 1)))]) (wc := k_w cI cZ kd y) (wr := x_w cI cN ad z) ⟨hx, hb, hml, hown, hts⟩ (c_K_mirror_ok l D cI cZ kd y  (xs (i + 1))) gm_579 gm_580 gm_581 gm_34 gm_582 ⟨rfl, rfl⟩ hd_K_mirror ⟨Nat.le_of_ble_eq_true rfl, Nat.le_of_ble_eq_true rfl⟩ hKk hP hD hS hAA [0, 1, 2, 3, 4, 5, 6, 7, 8, 9, 10, 11] [12, 13, 14, 15, 16, 17, 18, 19, 20, 21, 22, 23, 24, 25] rfl rfl rfl rfl rfl (by decide) (va_recv hKk hP (ci := 5) (q0 := 0) rfl rfl) rfl hl.1 rfl (Nat.le_of_ble_eq_true rfl) d_L_law_633 ⟨Nat.le_of_ble_eq_true rfl, Nat.le_of_ble_eq_true rfl⟩ (fun H locs hP hD hS => ?_)
      refine lv_icmp_eq (tgt := 641) hx hb d_L_law_636 (by decide) (fun c33 => ?_) (fun c33 => ?_)
      · exact hnext z y H locs ls hI hA hP hD hS (lv_sub hl [0, 1, 2, 3] rfl)
      · exact absurd (r_mirror hA) c33
    | jj + 17, h => exact absurd h (by omega)
