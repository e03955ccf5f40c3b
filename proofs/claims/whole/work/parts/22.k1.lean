-- ===== 22.k1: the reference: leaves and the steps
set_option maxHeartbeats 4000000 in
set_option maxRecDepth 100000 in
theorem c_K_out_ok (l : Launch) (D : va_G) (cI cZ : ClassId) (kd : Nat → Nat) (z : x_S) (v n : Int32) : x_C l y_K_out c_K_out 3 (some .boolean) { frames := 0, cells := 0, slots := 0, locals := 0 } D (k_ty cI cZ) (k_w cI cZ kd z) [.ref (kd 0), .int v, .int n] (some (.int (k_out v n))) (k_w cI cZ kd z) := by
  refine x_C.of (by decide) (Nat.le_of_ble_eq_true rfl) ?_
  intro p e s m below meth c hx hb hr hml hts hown hlk A hA hK hS hP hD ls hl
  have hown : s.vm.findClass R_K = some m.cls := hown
  have hl : lv_has ls 3 [(0, .ref (kd 0)), (1, .int v), (2, .int n)] := hl
  refine lv_iload_n hx hb d_K_out_0 rfl (lv_at hl 1 rfl) ?_
  refine lv_if_lt (tgt := 9) hx hb d_K_out_1 (by decide) (fun c1 => ?_) (fun c1 => ?_)
  · refine lv_iconst (v := 1) hx hb d_K_out_9 (by decide) ?_
    refine lv_goto (tgt := 14) hx hb d_K_out_10 (by decide) ?_
    exact x_rz (by first | (simp only [k_out, if_pos c1]; done) | rfl | (simp only [k_out, if_pos c1]; rfl)) rfl hx hb hr hlk hP hD hS d_K_out_14
  · refine lv_iload_n hx hb d_K_out_4 rfl (lv_at hl 1 rfl) ?_
    refine lv_iload_n hx hb d_K_out_5 rfl (lv_at hl 2 rfl) ?_
    refine lv_icmp_lt (tgt := 13) hx hb d_K_out_6 (by decide) (fun c2 => ?_) (fun c2 => ?_)
    · refine lv_iconst (v := 0) hx hb d_K_out_13 (by decide) ?_
      exact x_rz (by first | (simp only [k_out, if_neg c1, if_pos c2]; done) | rfl | (simp only [k_out, if_neg c1, if_pos c2]; rfl)) rfl hx hb hr hlk hP hD hS d_K_out_14
    · refine lv_iconst (v := 1) hx hb d_K_out_9 (by decide) ?_
      refine lv_goto (tgt := 14) hx hb d_K_out_10 (by decide) ?_
      exact x_rz (by first | (simp only [k_out, if_neg c1, if_neg c2]; done) | rfl | (simp only [k_out, if_neg c1, if_neg c2]; rfl)) rfl hx hb hr hlk hP hD hS d_K_out_14
set_option maxHeartbeats 4000000 in
set_option maxRecDepth 100000 in
theorem c_K_holds_ok (l : Launch) (D : va_G) (cI cZ : ClassId) (kd : Nat → Nat) (z : x_S) (k : Nat) (hk : k < 2) (b : Nat) (hb32 : b < 32) : x_C l y_K_holds c_K_holds 3 (some .int) { frames := 0, cells := 0, slots := 0, locals := 0 } D (k_ty cI cZ) (k_w cI cZ kd z) [.ref (kd 0), .int (nI k), .int (nI b)] (some (.int (k_held z k b))) (k_w cI cZ kd z) := by
  refine x_C.of (by decide) (Nat.le_of_ble_eq_true rfl) ?_
  intro p e s m below meth c hx hb hr hml hts hown hlk A hA hK hS hP hD ls hl
  have hown : s.vm.findClass R_K = some m.cls := hown
  have hl : lv_has ls 3 [(0, .ref (kd 0)), (1, .int (nI k)), (2, .int (nI b))] := hl
  refine lv_aload_n hx hb d_K_holds_0 rfl (lv_at hl 0 rfl) ?_
  refine va_get (D := D) (ci := 5) (C := R_K) (T := T_K) (N := 21) hx hb hts in_K hown hK hP 0 k_h0 rfl 3 (by decide) (hts _ gm_403) (fun _ h9 => h9) rfl d_K_holds_1 ?_
  refine lv_iload_n hx hb d_K_holds_4 rfl (lv_at hl 1 rfl) ?_
  refine lv_bipush (v := 32) hx hb d_K_holds_5 (by decide) ?_
  refine lv_imul hx hb d_K_holds_7 ?_
  refine lv_iload_n hx hb d_K_holds_8 rfl (lv_at hl 2 rfl) ?_
  refine lv_iadd hx hb d_K_holds_9 ?_
  refine x_top (show ((nI k) * 32) + (nI b) = nI (32 * k + b) from k_ix) ?_
  refine va_zald (D := D) hx hb hK hP 3 1 k_h3 rfl (k_in64 hk hb32) d_K_holds_10 ?_
  refine x_top (k_b_at hk hb32) ?_
  refine lv_if_eq (tgt := 28) hx hb d_K_holds_11 (by decide) (fun c1 => ?_) (fun c1 => ?_)
  · refine lv_aload_n hx hb d_K_holds_28 rfl (lv_at hl 0 rfl) ?_
    refine va_get (D := D) (ci := 5) (C := R_K) (T := T_K) (N := 21) hx hb hts in_K hown hK hP 0 k_h0 rfl 1 (by decide) (hts _ gm_401) (fun _ h9 => h9) rfl d_K_holds_29 ?_
    refine lv_iload_n hx hb d_K_holds_32 rfl (lv_at hl 1 rfl) ?_
    refine lv_bipush (v := 32) hx hb d_K_holds_33 (by decide) ?_
    refine lv_imul hx hb d_K_holds_35 ?_
    refine lv_iload_n hx hb d_K_holds_36 rfl (lv_at hl 2 rfl) ?_
    refine lv_iadd hx hb d_K_holds_37 ?_
    refine x_top (show ((nI k) * 32) + (nI b) = nI (32 * k + b) from k_ix) ?_
    refine va_iald (D := D) hx hb hK hP 1 0 k_h1 rfl (k_in64 hk hb32) d_K_holds_38 ?_
    refine x_top (k_b_at hk hb32) ?_
    exact x_rp (by first | (simp only [k_held, if_pos c1]; done) | rfl | (simp only [k_held, if_pos c1]; rfl)) hx hb hr hlk hP hD hS d_K_holds_39
  · refine lv_aload_n hx hb d_K_holds_14 rfl (lv_at hl 0 rfl) ?_
    refine va_get (D := D) (ci := 5) (C := R_K) (T := T_K) (N := 21) hx hb hts in_K hown hK hP 0 k_h0 rfl 2 (by decide) (hts _ gm_402) (fun _ h9 => h9) rfl d_K_holds_15 ?_
    refine lv_iload_n hx hb d_K_holds_18 rfl (lv_at hl 1 rfl) ?_
    refine lv_bipush (v := 32) hx hb d_K_holds_19 (by decide) ?_
    refine lv_imul hx hb d_K_holds_21 ?_
    refine lv_iload_n hx hb d_K_holds_22 rfl (lv_at hl 2 rfl) ?_
    refine lv_iadd hx hb d_K_holds_23 ?_
    refine x_top (show ((nI k) * 32) + (nI b) = nI (32 * k + b) from k_ix) ?_
    refine va_iald (D := D) hx hb hK hP 2 0 k_h2 rfl (k_in64 hk hb32) d_K_holds_24 ?_
    refine x_top (k_b_at hk hb32) ?_
    refine lv_goto (tgt := 39) hx hb d_K_holds_25 (by decide) ?_
    exact x_rp (by first | (simp only [k_held, if_neg c1]; done) | rfl | (simp only [k_held, if_neg c1]; rfl)) hx hb hr hlk hP hD hS d_K_holds_39
set_option maxHeartbeats 4000000 in
set_option maxRecDepth 100000 in
theorem c_K_extentBit_ok (l : Launch) (D : va_G) (cI cZ : ClassId) (kd : Nat → Nat) (z : x_S) (b : Nat) : x_C l y_K_extentBit c_K_extentBit 2 (some .int) { frames := 0, cells := 0, slots := 0, locals := 0 } D (k_ty cI cZ) (k_w cI cZ kd z) [.ref (kd 0), .int (nI b)] (some (.int (k_ext b))) (k_w cI cZ kd z) := by
  refine x_C.of (by decide) (Nat.le_of_ble_eq_true rfl) ?_
  intro p e s m below meth c hx hb hr hml hts hown hlk A hA hK hS hP hD ls hl
  have hown : s.vm.findClass R_K = some m.cls := hown
  have hl : lv_has ls 2 [(0, .ref (kd 0)), (1, .int (nI b))] := hl
  refine lv_iconst (v := 1) hx hb d_K_extentBit_0 (by decide) ?_
  refine lv_iload_n hx hb d_K_extentBit_1 rfl (lv_at hl 1 rfl) ?_
  refine lv_iconst (v := 4) hx hb d_K_extentBit_2 (by decide) ?_
  refine lv_idiv hx hb d_K_extentBit_3 (by decide) ?_
  refine lv_ishl hx hb d_K_extentBit_4 ?_
  exact x_rp (by first | (simp only [k_ext]; done) | rfl | (simp only [k_ext]; rfl)) hx hb hr hlk hP hD hS d_K_extentBit_5
set_option maxHeartbeats 4000000 in
set_option maxRecDepth 100000 in
theorem c_K_disconnect_ok (l : Launch) (D : va_G) (cI cZ : ClassId) (kd : Nat → Nat) (z : x_S)  : x_C l y_K_disconnect c_K_disconnect 1 none { frames := 0, cells := 0, slots := 0, locals := 0 } D (k_ty cI cZ) (k_w cI cZ kd z) [.ref (kd 0)] (none) (k_w cI cZ kd (k_disc z)) := by
  refine x_C.of (by decide) (Nat.le_of_ble_eq_true rfl) ?_
  intro p e s m below meth c hx hb hr hml hts hown hlk A hA hK hS hP hD ls hl
  have hown : s.vm.findClass R_K = some m.cls := hown
  have hl : lv_has ls 1 [(0, .ref (kd 0))] := hl
  refine lv_aload_n hx hb d_K_disconnect_0 rfl (lv_at hl 0 rfl) ?_
  refine lv_iconst (v := 0) hx hb d_K_disconnect_1 (by decide) ?_
  refine va_put (D := D) (ci := 5) (v := .int 0) (ty := .boolean) (C := R_K) (T := T_K) (N := 21) hx hb hts in_K fy_K fy_K_ok n_K hown hK hP hD hS 0 k_h0 rfl 13 (by decide) (hts _ gm_413) (fun _ h9 => h9) rfl (by decide +kernel) rfl rfl (Nat.le_of_ble_eq_true rfl) d_K_disconnect_2 (fun H locs hP hD hS => ?_)
  obtain ⟨z1, ez1⟩ : ∃ zt_ : x_S, zt_ = x_up z 0 1 0 := ⟨_, rfl⟩
  have hP : va_P D vwCl (k_w cI cZ kd z1) H := by rw [ez1]; exact (k_s0_13 0) ▸ hP
  have hD : va_D A (k_w cI cZ kd z1) := by rw [ez1]; exact (k_s0_13 0) ▸ hD
  refine lv_aload_n hx hb d_K_disconnect_5 rfl (lv_at hl 0 rfl) ?_
  refine lv_iconst (v := 2) hx hb d_K_disconnect_6 (by decide) ?_
  refine va_put (D := D) (ci := 5) (v := .int 2) (ty := .int) (C := R_K) (T := T_K) (N := 21) hx hb hts in_K fy_K fy_K_ok n_K hown hK hP hD hS 0 k_h0 rfl 11 (by decide) (hts _ gm_411) (fun _ h9 => h9) rfl (by decide +kernel) rfl rfl (Nat.le_of_ble_eq_true rfl) d_K_disconnect_7 (fun H locs hP hD hS => ?_)
  obtain ⟨z2, ez2⟩ : ∃ zt_ : x_S, zt_ = x_up z1 0 7 2 := ⟨_, rfl⟩
  have hP : va_P D vwCl (k_w cI cZ kd z2) H := by rw [ez2]; exact (k_s0_11 2) ▸ hP
  have hD : va_D A (k_w cI cZ kd z2) := by rw [ez2]; exact (k_s0_11 2) ▸ hD
  exact x_rv (w := k_w cI cZ kd) (by subst ez1 ez2; first | (simp only [k_disc]; done) | rfl | (simp only [k_disc]; rfl)) hx hb hr hlk hP hD hS d_K_disconnect_10
set_option maxHeartbeats 4000000 in
set_option maxRecDepth 100000 in
theorem c_K_noPrimary_ok (l : Launch) (D : va_G) (cI cZ : ClassId) (kd : Nat → Nat) (z : x_S)  : x_C l y_K_noPrimary c_K_noPrimary 1 none { frames := 0, cells := 0, slots := 0, locals := 0 } D (k_ty cI cZ) (k_w cI cZ kd z) [.ref (kd 0)] (none) (k_w cI cZ kd (k_noP z)) := by
  refine x_C.of (by decide) (Nat.le_of_ble_eq_true rfl) ?_
  intro p e s m below meth c hx hb hr hml hts hown hlk A hA hK hS hP hD ls hl
  have hown : s.vm.findClass R_K = some m.cls := hown
  have hl : lv_has ls 1 [(0, .ref (kd 0))] := hl
  refine lv_aload_n hx hb d_K_noPrimary_0 rfl (lv_at hl 0 rfl) ?_
  refine lv_iconst (v := 2) hx hb d_K_noPrimary_1 (by decide) ?_
  refine va_put (D := D) (ci := 5) (v := .int 2) (ty := .int) (C := R_K) (T := T_K) (N := 21) hx hb hts in_K fy_K fy_K_ok n_K hown hK hP hD hS 0 k_h0 rfl 10 (by decide) (hts _ gm_410) (fun _ h9 => h9) rfl (by decide +kernel) rfl rfl (Nat.le_of_ble_eq_true rfl) d_K_noPrimary_2 (fun H locs hP hD hS => ?_)
  obtain ⟨z1, ez1⟩ : ∃ zt_ : x_S, zt_ = x_up z 0 6 2 := ⟨_, rfl⟩
  have hP : va_P D vwCl (k_w cI cZ kd z1) H := by rw [ez1]; exact (k_s0_10 2) ▸ hP
  have hD : va_D A (k_w cI cZ kd z1) := by rw [ez1]; exact (k_s0_10 2) ▸ hD
  refine lv_aload_n hx hb d_K_noPrimary_5 rfl (lv_at hl 0 rfl) ?_
  refine lv_iconst (v := 0) hx hb d_K_noPrimary_6 (by decide) ?_
  refine va_put (D := D) (ci := 5) (v := .int 0) (ty := .int) (C := R_K) (T := T_K) (N := 21) hx hb hts in_K fy_K fy_K_ok n_K hown hK hP hD hS 0 k_h0 rfl 18 (by decide) (hts _ gm_418) (fun _ h9 => h9) rfl (by decide +kernel) rfl rfl (Nat.le_of_ble_eq_true rfl) d_K_noPrimary_7 (fun H locs hP hD hS => ?_)
  obtain ⟨z2, ez2⟩ : ∃ zt_ : x_S, zt_ = x_up z1 2 0 0 := ⟨_, rfl⟩
  have hP : va_P D vwCl (k_w cI cZ kd z2) H := by rw [ez2]; exact (k_s0_18 0) ▸ hP
  have hD : va_D A (k_w cI cZ kd z2) := by rw [ez2]; exact (k_s0_18 0) ▸ hD
  exact x_rv (w := k_w cI cZ kd) (by subst ez1 ez2; first | (simp only [k_noP]; done) | rfl | (simp only [k_noP]; rfl)) hx hb hr hlk hP hD hS d_K_noPrimary_10
set_option maxHeartbeats 4000000 in
set_option maxRecDepth 100000 in
theorem c_K_goAlone_ok (l : Launch) (D : va_G) (cI cZ : ClassId) (kd : Nat → Nat) (z : x_S) (k : Nat) (hk : k < 2) : x_C l y_K_goAlone c_K_goAlone 2 none { frames := 0, cells := 0, slots := 0, locals := 0 } D (k_ty cI cZ) (k_w cI cZ kd z) [.ref (kd 0), .int (nI k)] (none) (k_w cI cZ kd (x_goAl z k)) := by
  refine x_C.of (by decide) (Nat.le_of_ble_eq_true rfl) ?_
  intro p e s m below meth c hx hb hr hml hts hown hlk A hA hK hS hP hD ls hl
  have hown : s.vm.findClass R_K = some m.cls := hown
  have hl : lv_has ls 2 [(0, .ref (kd 0)), (1, .int (nI k))] := hl
  refine lv_aload_n hx hb d_K_goAlone_0 rfl (lv_at hl 0 rfl) ?_
  refine lv_dup hx hb d_K_goAlone_1 rfl ?_
  refine va_get (D := D) (ci := 5) (C := R_K) (T := T_K) (N := 21) hx hb hts in_K hown hK hP 0 k_h0 rfl 15 (by decide) (hts _ gm_415) (fun _ h9 => h9) rfl d_K_goAlone_2 ?_
  refine lv_iconst (v := 1) hx hb d_K_goAlone_5 (by decide) ?_
  refine lv_iadd hx hb d_K_goAlone_6 ?_
  refine va_put (D := D) (ci := 5) (v := .int ((z 1 1) + 1)) (ty := .int) (C := R_K) (T := T_K) (N := 21) hx hb hts in_K fy_K fy_K_ok n_K hown hK hP hD hS 0 k_h0 rfl 15 (by decide) (hts _ gm_415) (fun _ h9 => h9) rfl (by decide +kernel) rfl rfl (Nat.le_of_ble_eq_true rfl) d_K_goAlone_7 (fun H locs hP hD hS => ?_)
  obtain ⟨z1, ez1⟩ : ∃ zt_ : x_S, zt_ = x_up z 1 1 ((z 1 1) + 1) := ⟨_, rfl⟩
  have hP : va_P D vwCl (k_w cI cZ kd z1) H := by rw [ez1]; exact (k_s0_15 ((z 1 1) + 1)) ▸ hP
  have hD : va_D A (k_w cI cZ kd z1) := by rw [ez1]; exact (k_s0_15 ((z 1 1) + 1)) ▸ hD
  refine lv_aload_n hx hb d_K_goAlone_10 rfl (lv_at hl 0 rfl) ?_
  refine va_get (D := D) (ci := 5) (C := R_K) (T := T_K) (N := 21) hx hb hts in_K hown hK hP 0 k_h0 rfl 8 (by decide) (hts _ gm_408) (fun _ h9 => h9) rfl d_K_goAlone_11 ?_
  refine lv_iload_n hx hb d_K_goAlone_14 rfl (lv_at hl 1 rfl) ?_
  refine lv_aload_n hx hb d_K_goAlone_15 rfl (lv_at hl 0 rfl) ?_
  refine va_get (D := D) (ci := 5) (C := R_K) (T := T_K) (N := 21) hx hb hts in_K hown hK hP 0 k_h0 rfl 7 (by decide) (hts _ gm_407) (fun _ h9 => h9) rfl d_K_goAlone_16 ?_
  refine lv_iload_n hx hb d_K_goAlone_19 rfl (lv_at hl 1 rfl) ?_
  refine va_iald (D := D) hx hb hK hP 7 0 k_h7 rfl (x_in2 hk) d_K_goAlone_20 ?_
  refine x_top (k_col_at hk) ?_
  refine va_iast (D := D) hx hb hK hP hD hS 8 0 k_h8 rfl (x_in2 (k := k) hk) d_K_goAlone_21 (fun H locs hP hD hS => ?_)
  obtain ⟨z2, ez2⟩ : ∃ zt_ : x_S, zt_ = x_up z1 (5 + k) 3 (z1 (5 + k) 2) := ⟨_, rfl⟩
  rw [x_cl (k := k) hk] at hP hD
  have hP : va_P D vwCl (k_w cI cZ kd z2) H := by rw [ez2]; exact (k_s8 (k := k) hk (z1 (5 + k) 2)) ▸ hP
  have hD : va_D A (k_w cI cZ kd z2) := by rw [ez2]; exact (k_s8 (k := k) hk (z1 (5 + k) 2)) ▸ hD
  refine lv_aload_n hx hb d_K_goAlone_22 rfl (lv_at hl 0 rfl) ?_
  refine va_get (D := D) (ci := 5) (C := R_K) (T := T_K) (N := 21) hx hb hts in_K hown hK hP 0 k_h0 rfl 7 (by decide) (hts _ gm_407) (fun _ h9 => h9) rfl d_K_goAlone_23 ?_
  refine lv_iload_n hx hb d_K_goAlone_26 rfl (lv_at hl 1 rfl) ?_
  refine lv_aload_n hx hb d_K_goAlone_27 rfl (lv_at hl 0 rfl) ?_
  refine va_get (D := D) (ci := 5) (C := R_K) (T := T_K) (N := 21) hx hb hts in_K hown hK hP 0 k_h0 rfl 15 (by decide) (hts _ gm_415) (fun _ h9 => h9) rfl d_K_goAlone_28 ?_
  refine va_iast (D := D) hx hb hK hP hD hS 7 0 k_h7 rfl (x_in2 (k := k) hk) d_K_goAlone_31 (fun H locs hP hD hS => ?_)
  obtain ⟨z3, ez3⟩ : ∃ zt_ : x_S, zt_ = x_up z2 (5 + k) 2 (z2 1 1) := ⟨_, rfl⟩
  rw [x_cl (k := k) hk] at hP hD
  have hP : va_P D vwCl (k_w cI cZ kd z3) H := by rw [ez3]; exact (k_s7 (k := k) hk (z2 1 1)) ▸ hP
  have hD : va_D A (k_w cI cZ kd z3) := by rw [ez3]; exact (k_s7 (k := k) hk (z2 1 1)) ▸ hD
  refine lv_aload_n hx hb d_K_goAlone_32 rfl (lv_at hl 0 rfl) ?_
  refine va_get (D := D) (ci := 5) (C := R_K) (T := T_K) (N := 21) hx hb hts in_K hown hK hP 0 k_h0 rfl 5 (by decide) (hts _ gm_405) (fun _ h9 => h9) rfl d_K_goAlone_33 ?_
  refine lv_iload_n hx hb d_K_goAlone_36 rfl (lv_at hl 1 rfl) ?_
  refine lv_iconst (v := 1) hx hb d_K_goAlone_37 (by decide) ?_
  refine va_zast (D := D) hx hb hK hP hD hS 5 1 k_h5 rfl (x_in2 (k := k) hk) d_K_goAlone_38 (fun H locs hP hD hS => ?_)
  obtain ⟨z4, ez4⟩ : ∃ zt_ : x_S, zt_ = x_up z3 (5 + k) 4 1 := ⟨_, rfl⟩
  rw [x_cl (k := k) hk] at hP hD
  have hP : va_P D vwCl (k_w cI cZ kd z4) H := by rw [ez4]; exact (k_s5 (k := k) hk 1) ▸ hP
  have hD : va_D A (k_w cI cZ kd z4) := by rw [ez4]; exact (k_s5 (k := k) hk 1) ▸ hD
  exact x_rv (w := k_w cI cZ kd) (by subst ez1 ez2 ez3 ez4; first | (simp only [x_goAl]; done) | rfl | (simp only [x_goAl]; rfl)) hx hb hr hlk hP hD hS d_K_goAlone_39
set_option maxHeartbeats 4000000 in
set_option maxRecDepth 100000 in
theorem c_K_keepIn_ok (l : Launch) (D : va_G) (cI cZ : ClassId) (kd : Nat → Nat) (z : x_S) (k : Nat) (hk : k < 2) (b : Nat) (hb32 : b < 32) (v : Int32) : x_C l y_K_keepIn c_K_keepIn 4 none { frames := 0, cells := 0, slots := 0, locals := 0 } D (k_ty cI cZ) (k_w cI cZ kd z) [.ref (kd 0), .int (nI k), .int (nI b), .int v] (none) (k_w cI cZ kd (k_keep z k b v)) := by
  refine x_C.of (by decide) (Nat.le_of_ble_eq_true rfl) ?_
  intro p e s m below meth c hx hb hr hml hts hown hlk A hA hK hS hP hD ls hl
  have hown : s.vm.findClass R_K = some m.cls := hown
  have hl : lv_has ls 4 [(0, .ref (kd 0)), (1, .int (nI k)), (2, .int (nI b)), (3, .int v)] := hl
  refine lv_aload_n hx hb d_K_keepIn_0 rfl (lv_at hl 0 rfl) ?_
  refine va_get (D := D) (ci := 5) (C := R_K) (T := T_K) (N := 21) hx hb hts in_K hown hK hP 0 k_h0 rfl 2 (by decide) (hts _ gm_402) (fun _ h9 => h9) rfl d_K_keepIn_1 ?_
  refine lv_iload_n hx hb d_K_keepIn_4 rfl (lv_at hl 1 rfl) ?_
  refine lv_bipush (v := 32) hx hb d_K_keepIn_5 (by decide) ?_
  refine lv_imul hx hb d_K_keepIn_7 ?_
  refine lv_iload_n hx hb d_K_keepIn_8 rfl (lv_at hl 2 rfl) ?_
  refine lv_iadd hx hb d_K_keepIn_9 ?_
  refine x_top (show ((nI k) * 32) + (nI b) = nI (32 * k + b) from k_ix) ?_
  refine lv_iload_n hx hb d_K_keepIn_10 rfl (lv_at hl 3 rfl) ?_
  refine va_iast (D := D) hx hb hK hP hD hS 2 0 k_h2 rfl (k_in64 hk hb32) d_K_keepIn_11 (fun H locs hP hD hS => ?_)
  obtain ⟨z1, ez1⟩ : ∃ zt_ : x_S, zt_ = x_up z (9 + k) b v := ⟨_, rfl⟩
  rw [k_cl64 hk hb32] at hP hD
  have hP : va_P D vwCl (k_w cI cZ kd z1) H := by rw [ez1]; exact (k_s2 hk hb32 v) ▸ hP
  have hD : va_D A (k_w cI cZ kd z1) := by rw [ez1]; exact (k_s2 hk hb32 v) ▸ hD
  refine lv_aload_n hx hb d_K_keepIn_12 rfl (lv_at hl 0 rfl) ?_
  refine va_get (D := D) (ci := 5) (C := R_K) (T := T_K) (N := 21) hx hb hts in_K hown hK hP 0 k_h0 rfl 3 (by decide) (hts _ gm_403) (fun _ h9 => h9) rfl d_K_keepIn_13 ?_
  refine lv_iload_n hx hb d_K_keepIn_16 rfl (lv_at hl 1 rfl) ?_
  refine lv_bipush (v := 32) hx hb d_K_keepIn_17 (by decide) ?_
  refine lv_imul hx hb d_K_keepIn_19 ?_
  refine lv_iload_n hx hb d_K_keepIn_20 rfl (lv_at hl 2 rfl) ?_
  refine lv_iadd hx hb d_K_keepIn_21 ?_
  refine x_top (show ((nI k) * 32) + (nI b) = nI (32 * k + b) from k_ix) ?_
  refine lv_iconst (v := 1) hx hb d_K_keepIn_22 (by decide) ?_
  refine va_zast (D := D) hx hb hK hP hD hS 3 1 k_h3 rfl (k_in64 hk hb32) d_K_keepIn_23 (fun H locs hP hD hS => ?_)
  obtain ⟨z2, ez2⟩ : ∃ zt_ : x_S, zt_ = x_up z1 (11 + k) b 1 := ⟨_, rfl⟩
  rw [k_cl64 hk hb32] at hP hD
  have hP : va_P D vwCl (k_w cI cZ kd z2) H := by rw [ez2]; exact (k_s3 hk hb32 1) ▸ hP
  have hD : va_D A (k_w cI cZ kd z2) := by rw [ez2]; exact (k_s3 hk hb32 1) ▸ hD
  exact x_rv (w := k_w cI cZ kd) (by subst ez1 ez2; first | (simp only [k_keep]; done) | rfl | (simp only [k_keep]; rfl)) hx hb hr hlk hP hD hS d_K_keepIn_24
set_option maxHeartbeats 4000000 in
set_option maxRecDepth 100000 in
theorem c_K_writeStep_ok (l : Launch) (D : va_G) (cI cZ : ClassId) (kd : Nat → Nat) (z : x_S) (k : Nat) (hk : k < 2) (hp : z 0 6 = nI k) (b : Nat) (hb32 : b < 32) (v : Int32) : x_C l y_K_writeStep c_K_writeStep 3 none { frames := 1, cells := 0, slots := 0, locals := 23 } D (k_ty cI cZ) (k_w cI cZ kd z) [.ref (kd 0), .int (nI b), .int v] (none) (k_w cI cZ kd (k_wr z k b v)) := by
  refine x_C.of (by decide) (Nat.le_of_ble_eq_true rfl) ?_
  intro p e s m below meth c hx hb hr hml hts hown hlk A hA hK hS hP hD ls hl
  have hown : s.vm.findClass R_K = some m.cls := hown
  have hl : lv_has ls 3 [(0, .ref (kd 0)), (1, .int (nI b)), (2, .int v)] := hl
  refine lv_aload_n hx hb d_K_writeStep_0 rfl (lv_at hl 0 rfl) ?_
  refine lv_aload_n hx hb d_K_writeStep_1 rfl (lv_at hl 0 rfl) ?_
  refine va_get (D := D) (ci := 5) (C := R_K) (T := T_K) (N := 21) hx hb hts in_K hown hK hP 0 k_h0 rfl 10 (by decide) (hts _ gm_410) (fun _ h9 => h9) rfl d_K_writeStep_2 ?_
  refine x_top (show z 0 6 = nI k by first | exact hp | (rw [k_keep_low (by decide)]; exact hp) | (rw [k_settle_low (by decide)]; exact hp)) ?_
  refine lv_iload_n hx hb d_K_writeStep_5 rfl (lv_at hl 1 rfl) ?_
  refine lv_iload_n hx hb d_K_writeStep_6 rfl (lv_at hl 2 rfl) ?_
  refine x_V (rest := []) ⟨hx, hb, hml, hown, hts⟩ (c_K_keepIn_ok l D cI cZ kd z k hk b hb32 v) gm_501 gm_503 gm_22 gm_34 gm_504 ⟨rfl, rfl⟩ hd_K_keepIn ⟨Nat.le_of_ble_eq_true rfl, Nat.le_of_ble_eq_true rfl⟩ hK hP hD hS hA (va_recv hK hP (ci := 5) (q0 := 0) rfl k_h0) rfl hl.1 rfl (Nat.le_of_ble_eq_true rfl) d_K_writeStep_7 ⟨Nat.le_of_ble_eq_true rfl, Nat.le_of_ble_eq_true rfl⟩ (fun H locs hP hD hS => ?_)
  obtain ⟨z1, ez1⟩ : ∃ zt_ : x_S, zt_ = k_keep z k b v := ⟨_, rfl⟩
  rw [← ez1] at hP hD
  refine lv_aload_n hx hb d_K_writeStep_10 rfl (lv_at hl 0 rfl) ?_
  refine va_get (D := D) (ci := 5) (C := R_K) (T := T_K) (N := 21) hx hb hts in_K hown hK hP 0 k_h0 rfl 13 (by decide) (hts _ gm_413) (fun _ h9 => h9) rfl d_K_writeStep_11 ?_
  refine lv_if_eq (tgt := 32) hx hb d_K_writeStep_14 (by decide) (fun c2 => ?_) (fun c2 => ?_)
  · refine lv_aload_n hx hb d_K_writeStep_32 rfl (lv_at hl 0 rfl) ?_
    refine va_get (D := D) (ci := 5) (C := R_K) (T := T_K) (N := 21) hx hb hts in_K hown hK hP 0 k_h0 rfl 9 (by decide) (hts _ gm_409) (fun _ h9 => h9) rfl d_K_writeStep_33 ?_
    refine lv_aload_n hx hb d_K_writeStep_36 rfl (lv_at hl 0 rfl) ?_
    refine va_get (D := D) (ci := 5) (C := R_K) (T := T_K) (N := 21) hx hb hts in_K hown hK hP 0 k_h0 rfl 10 (by decide) (hts _ gm_410) (fun _ h9 => h9) rfl d_K_writeStep_37 ?_
    refine x_top (show z1 0 6 = nI k by subst ez1; first | exact hp | (rw [k_keep_low (by decide)]; exact hp) | (rw [k_settle_low (by decide)]; exact hp)) ?_
    refine lv_dup2_11 hx hb d_K_writeStep_40 rfl rfl ?_
    refine va_iald (D := D) hx hb hK hP 9 0 k_h9 rfl (x_in2 hk) d_K_writeStep_41 ?_
    refine x_top (k_col_at hk) ?_
    refine lv_aload_n hx hb d_K_writeStep_42 rfl (lv_at hl 0 rfl) ?_
    refine lv_iload_n hx hb d_K_writeStep_43 rfl (lv_at hl 1 rfl) ?_
    refine x_V (rest := [.int (z1 (5 + k) 5), .int (nI k), .ref (kd 9)]) ⟨hx, hb, hml, hown, hts⟩ (c_K_extentBit_ok l D cI cZ kd z1 b) gm_505 gm_507 gm_23 gm_34 gm_508 ⟨rfl, rfl⟩ hd_K_extentBit ⟨Nat.le_of_ble_eq_true rfl, Nat.le_of_ble_eq_true rfl⟩ hK hP hD hS hA (va_recv hK hP (ci := 5) (q0 := 0) rfl k_h0) rfl hl.1 rfl (Nat.le_of_ble_eq_true rfl) d_K_writeStep_44 ⟨Nat.le_of_ble_eq_true rfl, Nat.le_of_ble_eq_true rfl⟩ (fun H locs hP hD hS => ?_)
    refine lv_topi (fun r3 er3 => ?_)
    refine lv_ior hx hb d_K_writeStep_47 ?_
    refine va_iast (D := D) hx hb hK hP hD hS 9 0 k_h9 rfl (x_in2 (k := k) hk) d_K_writeStep_48 (fun H locs hP hD hS => ?_)
    obtain ⟨z4, ez4⟩ : ∃ zt_ : x_S, zt_ = x_up z1 (5 + k) 5 ((z1 (5 + k) 5) ||| r3) := ⟨_, rfl⟩
    rw [x_cl (k := k) hk] at hP hD
    have hP : va_P D vwCl (k_w cI cZ kd z4) H := by rw [ez4]; exact (k_s9 (k := k) hk ((z1 (5 + k) 5) ||| r3)) ▸ hP
    have hD : va_D A (k_w cI cZ kd z4) := by rw [ez4]; exact (k_s9 (k := k) hk ((z1 (5 + k) 5) ||| r3)) ▸ hD
    exact x_rv (w := k_w cI cZ kd) (by subst ez1 er3 ez4; first | (simp only [k_wr, if_pos c2]; done) | rfl | (simp only [k_wr, if_pos c2]; rfl)) hx hb hr hlk hP hD hS d_K_writeStep_49
  · refine lv_aload_n hx hb d_K_writeStep_17 rfl (lv_at hl 0 rfl) ?_
    refine lv_iconst (v := 1) hx hb d_K_writeStep_18 (by decide) ?_
    refine lv_aload_n hx hb d_K_writeStep_19 rfl (lv_at hl 0 rfl) ?_
    refine va_get (D := D) (ci := 5) (C := R_K) (T := T_K) (N := 21) hx hb hts in_K hown hK hP 0 k_h0 rfl 10 (by decide) (hts _ gm_410) (fun _ h9 => h9) rfl d_K_writeStep_20 ?_
    refine x_top (show z1 0 6 = nI k by subst ez1; first | exact hp | (rw [k_keep_low (by decide)]; exact hp) | (rw [k_settle_low (by decide)]; exact hp)) ?_
    refine lv_isub hx hb d_K_writeStep_23 ?_
    refine x_top (x_1k hk) ?_
    refine lv_iload_n hx hb d_K_writeStep_24 rfl (lv_at hl 1 rfl) ?_
    refine lv_iload_n hx hb d_K_writeStep_25 rfl (lv_at hl 2 rfl) ?_
    refine x_V (rest := []) ⟨hx, hb, hml, hown, hts⟩ (c_K_keepIn_ok l D cI cZ kd z1 (1 - k) (x_1lt hk) b hb32 v) gm_501 gm_503 gm_22 gm_34 gm_504 ⟨rfl, rfl⟩ hd_K_keepIn ⟨Nat.le_of_ble_eq_true rfl, Nat.le_of_ble_eq_true rfl⟩ hK hP hD hS hA (va_recv hK hP (ci := 5) (q0 := 0) rfl k_h0) rfl hl.1 rfl (Nat.le_of_ble_eq_true rfl) d_K_writeStep_26 ⟨Nat.le_of_ble_eq_true rfl, Nat.le_of_ble_eq_true rfl⟩ (fun H locs hP hD hS => ?_)
    obtain ⟨z5, ez5⟩ : ∃ zt_ : x_S, zt_ = k_keep z1 (1 - k) b v := ⟨_, rfl⟩
    rw [← ez5] at hP hD
    refine lv_goto (tgt := 49) hx hb d_K_writeStep_29 (by decide) ?_
    exact x_rv (w := k_w cI cZ kd) (by subst ez1 ez5; first | (simp only [k_wr, if_neg c2]; done) | rfl | (simp only [k_wr, if_neg c2]; rfl)) hx hb hr hlk hP hD hS d_K_writeStep_49
set_option maxHeartbeats 4000000 in
set_option maxRecDepth 100000 in
theorem c_K_settle_ok (l : Launch) (D : va_G) (cI cZ : ClassId) (kd : Nat → Nat) (z : x_S) (k : Nat) (hk : k < 2) : x_C l y_K_settle c_K_settle 3 none { frames := 1, cells := 0, slots := 0, locals := 22 } D (k_ty cI cZ) (k_w cI cZ kd z) [.ref (kd 0), .int (nI k)] (none) (k_w cI cZ kd (k_settle z k)) := by
  refine x_C.of (by decide) (Nat.le_of_ble_eq_true rfl) ?_
  intro p e s m below meth c hx hb hr hml hts hown hlk A hA hK hS hP hD ls hl
  have hown : s.vm.findClass R_K = some m.cls := hown
  have hl : lv_has ls 3 [(0, .ref (kd 0)), (1, .int (nI k))] := hl
  have lp : ∀ (n i : Nat) (y : x_S) (H : Heap) (locs : List Loc) (ls : Array Slot), i + n = 32 → k_settle z k = k_setL k n i y → va_P D vwCl (k_w cI cZ kd y) H → va_D A (k_w cI cZ kd y) → va_S A s.heap H locs → lv_has ls 3 [(2, .int (nI i)), (0, .ref (kd 0)), (1, .int (nI k))] → W p l e { frames := 1, cells := 0, slots := 0, locals := 22 } s m [.ref (kd 0), .int (nI k)].toArray below meth c H locs 0 0 (MQ below (x_Q (none) D (k_w cI cZ kd (k_settle z k)) A) [.ref (kd 0), .int (nI k)].toArray s 0 0 A) (F0 m 2 ls []) := by
    intro n
    induction n with
    | zero =>
      intro i y  H locs ls hn hI hP hD hS hl
      refine lv_iload_n hx hb d_K_settle_2 rfl (lv_at hl 0 rfl) ?_
      refine lv_bipush (v := 32) hx hb d_K_settle_3 (by decide) ?_
      refine lv_icmp_ge (tgt := 43) hx hb d_K_settle_5 (by decide) (fun c1 => ?_) (fun c1 => ?_)
      · exact x_rv (w := k_w cI cZ kd) (by rw [hI]; rfl) hx hb hr hlk hP hD hS d_K_settle_43
      · exact absurd (show (32 : Int32) ≤ nI i from nI_le (a := 32) (by omega) (by omega)) c1
    | succ n ih =>
      intro i y  H locs ls hn hI hP hD hS hl
      have hi : i < 32 := by omega
      refine lv_iload_n hx hb d_K_settle_2 rfl (lv_at hl 0 rfl) ?_
      refine lv_bipush (v := 32) hx hb d_K_settle_3 (by decide) ?_
      refine lv_icmp_ge (tgt := 43) hx hb d_K_settle_5 (by decide) (fun c2 => ?_) (fun c2 => ?_)
      · exact absurd c2 (show ¬ (32 : Int32) ≤ nI i from nI_ge (b := 32) (by omega) (by decide))
      · refine lv_aload_n hx hb d_K_settle_8 rfl (lv_at hl 1 rfl) ?_
        refine va_get (D := D) (ci := 5) (C := R_K) (T := T_K) (N := 21) hx hb hts in_K hown hK hP 0 k_h0 rfl 1 (by decide) (hts _ gm_401) (fun _ h9 => h9) rfl d_K_settle_9 ?_
        refine lv_iload_n hx hb d_K_settle_12 rfl (lv_at hl 2 rfl) ?_
        refine lv_bipush (v := 32) hx hb d_K_settle_13 (by decide) ?_
        refine lv_imul hx hb d_K_settle_15 ?_
        refine lv_iload_n hx hb d_K_settle_16 rfl (lv_at hl 0 rfl) ?_
        refine lv_iadd hx hb d_K_settle_17 ?_
        refine x_top (show ((nI k) * 32) + (nI i) = nI (32 * k + i) from k_ix) ?_
        refine lv_aload_n hx hb d_K_settle_18 rfl (lv_at hl 1 rfl) ?_
        refine lv_iload_n hx hb d_K_settle_19 rfl (lv_at hl 2 rfl) ?_
        refine lv_iload_n hx hb d_K_settle_20 rfl (lv_at hl 0 rfl) ?_
        refine x_V (rest := [.int (nI (32 * k + i)), .ref (kd 1)]) ⟨hx, hb, hml, hown, hts⟩ (c_K_holds_ok l D cI cZ kd y k hk i hi) gm_493 gm_495 gm_20 gm_34 gm_496 ⟨rfl, rfl⟩ hd_K_holds ⟨Nat.le_of_ble_eq_true rfl, Nat.le_of_ble_eq_true rfl⟩ hK hP hD hS hA (va_recv hK hP (ci := 5) (q0 := 0) rfl k_h0) rfl hl.1 rfl (Nat.le_of_ble_eq_true rfl) d_K_settle_21 ⟨Nat.le_of_ble_eq_true rfl, Nat.le_of_ble_eq_true rfl⟩ (fun H locs hP hD hS => ?_)
        refine lv_topi (fun r3 er3 => ?_)
        refine va_iast (D := D) hx hb hK hP hD hS 1 0 k_h1 rfl (k_in64 hk hi) d_K_settle_24 (fun H locs hP hD hS => ?_)
        obtain ⟨z4, ez4⟩ : ∃ zt_ : x_S, zt_ = x_up y (7 + k) i r3 := ⟨_, rfl⟩
        rw [k_cl64 hk hi] at hP hD
        have hP : va_P D vwCl (k_w cI cZ kd z4) H := by rw [ez4]; exact (k_s1 hk hi r3) ▸ hP
        have hD : va_D A (k_w cI cZ kd z4) := by rw [ez4]; exact (k_s1 hk hi r3) ▸ hD
        refine lv_aload_n hx hb d_K_settle_25 rfl (lv_at hl 1 rfl) ?_
        refine va_get (D := D) (ci := 5) (C := R_K) (T := T_K) (N := 21) hx hb hts in_K hown hK hP 0 k_h0 rfl 3 (by decide) (hts _ gm_403) (fun _ h9 => h9) rfl d_K_settle_26 ?_
        refine lv_iload_n hx hb d_K_settle_29 rfl (lv_at hl 2 rfl) ?_
        refine lv_bipush (v := 32) hx hb d_K_settle_30 (by decide) ?_
        refine lv_imul hx hb d_K_settle_32 ?_
        refine lv_iload_n hx hb d_K_settle_33 rfl (lv_at hl 0 rfl) ?_
        refine lv_iadd hx hb d_K_settle_34 ?_
        refine x_top (show ((nI k) * 32) + (nI i) = nI (32 * k + i) from k_ix) ?_
        refine lv_iconst (v := 0) hx hb d_K_settle_35 (by decide) ?_
        refine va_zast (D := D) hx hb hK hP hD hS 3 1 k_h3 rfl (k_in64 hk hi) d_K_settle_36 (fun H locs hP hD hS => ?_)
        obtain ⟨z5, ez5⟩ : ∃ zt_ : x_S, zt_ = x_up z4 (11 + k) i 0 := ⟨_, rfl⟩
        rw [k_cl64 hk hi] at hP hD
        have hP : va_P D vwCl (k_w cI cZ kd z5) H := by rw [ez5]; exact (k_s3 hk hi 0) ▸ hP
        have hD : va_D A (k_w cI cZ kd z5) := by rw [ez5]; exact (k_s3 hk hi 0) ▸ hD
        refine lv_iinc (v := nI (i + 1)) (lv' := [(2, .int (nI (i + 1))), (0, .ref (kd 0)), (1, .int (nI k))]) hx hb d_K_settle_37 hl (k := 0) rfl (nI_1 _) (by decide) rfl (fun ls hl => ?_)
        refine lv_goto (tgt := 2) hx hb d_K_settle_40 (by decide) ?_
        exact ih (i + 1) z5 H locs ls (by omega) (by subst er3 ez4 ez5; rw [hI]; rfl) hP hD hS (lv_sub hl [0, 1, 2] rfl)
  refine lv_iconst (v := 0) hx hb d_K_settle_0 (by decide) ?_
  refine lv_istore_n (lv' := [(2, .int 0), (0, .ref (kd 0)), (1, .int (nI k))]) hx hb d_K_settle_1 rfl hl (by decide) rfl (fun ls hl => ?_)
  exact lp 32 0 z _ _ ls rfl rfl hP hD hS (lv_sub hl [0, 1, 2] rfl)
set_option maxHeartbeats 4000000 in
set_option maxRecDepth 100000 in
theorem c_K_flushStep_ok (l : Launch) (D : va_G) (cI cZ : ClassId) (kd : Nat → Nat) (z : x_S) (k : Nat) (hk : k < 2) (hp : z 0 6 = nI k) : x_C l y_K_flushStep c_K_flushStep 1 none { frames := 2, cells := 0, slots := 0, locals := 44 } D (k_ty cI cZ) (k_w cI cZ kd z) [.ref (kd 0)] (none) (k_w cI cZ kd (k_fl z k)) := by
  refine x_C.of (by decide) (Nat.le_of_ble_eq_true rfl) ?_
  intro p e s m below meth c hx hb hr hml hts hown hlk A hA hK hS hP hD ls hl
  have hown : s.vm.findClass R_K = some m.cls := hown
  have hl : lv_has ls 1 [(0, .ref (kd 0))] := hl
  refine lv_aload_n hx hb d_K_flushStep_0 rfl (lv_at hl 0 rfl) ?_
  refine va_get (D := D) (ci := 5) (C := R_K) (T := T_K) (N := 21) hx hb hts in_K hown hK hP 0 k_h0 rfl 13 (by decide) (hts _ gm_413) (fun _ h9 => h9) rfl d_K_flushStep_1 ?_
  refine lv_if_eq (tgt := 17) hx hb d_K_flushStep_4 (by decide) (fun c1 => ?_) (fun c1 => ?_)
  · refine lv_aload_n hx hb d_K_flushStep_17 rfl (lv_at hl 0 rfl) ?_
    refine lv_aload_n hx hb d_K_flushStep_18 rfl (lv_at hl 0 rfl) ?_
    refine va_get (D := D) (ci := 5) (C := R_K) (T := T_K) (N := 21) hx hb hts in_K hown hK hP 0 k_h0 rfl 10 (by decide) (hts _ gm_410) (fun _ h9 => h9) rfl d_K_flushStep_19 ?_
    refine x_top (show z 0 6 = nI k by first | exact hp | (rw [k_keep_low (by decide)]; exact hp) | (rw [k_settle_low (by decide)]; exact hp)) ?_
    refine x_V (rest := []) ⟨hx, hb, hml, hown, hts⟩ (c_K_settle_ok l D cI cZ kd z k hk) gm_489 gm_491 gm_19 gm_34 gm_492 ⟨rfl, rfl⟩ hd_K_settle ⟨Nat.le_of_ble_eq_true rfl, Nat.le_of_ble_eq_true rfl⟩ hK hP hD hS hA (va_recv hK hP (ci := 5) (q0 := 0) rfl k_h0) rfl hl.1 rfl (Nat.le_of_ble_eq_true rfl) d_K_flushStep_22 ⟨Nat.le_of_ble_eq_true rfl, Nat.le_of_ble_eq_true rfl⟩ (fun H locs hP hD hS => ?_)
    obtain ⟨z2, ez2⟩ : ∃ zt_ : x_S, zt_ = k_settle z k := ⟨_, rfl⟩
    rw [← ez2] at hP hD
    exact x_rv (w := k_w cI cZ kd) (by subst ez2; first | (simp only [k_fl, if_pos c1]; done) | rfl | (simp only [k_fl, if_pos c1]; rfl)) hx hb hr hlk hP hD hS d_K_flushStep_25
  · refine lv_aload_n hx hb d_K_flushStep_7 rfl (lv_at hl 0 rfl) ?_
    refine lv_iconst (v := 1) hx hb d_K_flushStep_8 (by decide) ?_
    refine lv_aload_n hx hb d_K_flushStep_9 rfl (lv_at hl 0 rfl) ?_
    refine va_get (D := D) (ci := 5) (C := R_K) (T := T_K) (N := 21) hx hb hts in_K hown hK hP 0 k_h0 rfl 10 (by decide) (hts _ gm_410) (fun _ h9 => h9) rfl d_K_flushStep_10 ?_
    refine x_top (show z 0 6 = nI k by first | exact hp | (rw [k_keep_low (by decide)]; exact hp) | (rw [k_settle_low (by decide)]; exact hp)) ?_
    refine lv_isub hx hb d_K_flushStep_13 ?_
    refine x_top (x_1k hk) ?_
    refine x_V (rest := []) ⟨hx, hb, hml, hown, hts⟩ (c_K_settle_ok l D cI cZ kd z (1 - k) (x_1lt hk)) gm_489 gm_491 gm_19 gm_34 gm_492 ⟨rfl, rfl⟩ hd_K_settle ⟨Nat.le_of_ble_eq_true rfl, Nat.le_of_ble_eq_true rfl⟩ hK hP hD hS hA (va_recv hK hP (ci := 5) (q0 := 0) rfl k_h0) rfl hl.1 rfl (Nat.le_of_ble_eq_true rfl) d_K_flushStep_14 ⟨Nat.le_of_ble_eq_true rfl, Nat.le_of_ble_eq_true rfl⟩ (fun H locs hP hD hS => ?_)
    obtain ⟨z3, ez3⟩ : ∃ zt_ : x_S, zt_ = k_settle z (1 - k) := ⟨_, rfl⟩
    rw [← ez3] at hP hD
    refine lv_aload_n hx hb d_K_flushStep_17 rfl (lv_at hl 0 rfl) ?_
    refine lv_aload_n hx hb d_K_flushStep_18 rfl (lv_at hl 0 rfl) ?_
    refine va_get (D := D) (ci := 5) (C := R_K) (T := T_K) (N := 21) hx hb hts in_K hown hK hP 0 k_h0 rfl 10 (by decide) (hts _ gm_410) (fun _ h9 => h9) rfl d_K_flushStep_19 ?_
    refine x_top (show z3 0 6 = nI k by subst ez3; first | exact hp | (rw [k_keep_low (by decide)]; exact hp) | (rw [k_settle_low (by decide)]; exact hp)) ?_
    refine x_V (rest := []) ⟨hx, hb, hml, hown, hts⟩ (c_K_settle_ok l D cI cZ kd z3 k hk) gm_489 gm_491 gm_19 gm_34 gm_492 ⟨rfl, rfl⟩ hd_K_settle ⟨Nat.le_of_ble_eq_true rfl, Nat.le_of_ble_eq_true rfl⟩ hK hP hD hS hA (va_recv hK hP (ci := 5) (q0 := 0) rfl k_h0) rfl hl.1 rfl (Nat.le_of_ble_eq_true rfl) d_K_flushStep_22 ⟨Nat.le_of_ble_eq_true rfl, Nat.le_of_ble_eq_true rfl⟩ (fun H locs hP hD hS => ?_)
    obtain ⟨z4, ez4⟩ : ∃ zt_ : x_S, zt_ = k_settle z3 k := ⟨_, rfl⟩
    rw [← ez4] at hP hD
    exact x_rv (w := k_w cI cZ kd) (by subst ez3 ez4; first | (simp only [k_fl, if_neg c1]; done) | rfl | (simp only [k_fl, if_neg c1]; rfl)) hx hb hr hlk hP hD hS d_K_flushStep_25
set_option maxHeartbeats 4000000 in
set_option maxRecDepth 100000 in
theorem c_K_step_ok (l : Launch) (D : va_G) (cI cZ : ClassId) (kd : Nat → Nat) (z : x_S) (k : Nat) (hk : k < 2) (hp : z 0 6 = nI k) (n : Nat) (hn : n ≤ 3) (hcell : ∀ i, i < n → ∃ b, b < 24 ∧ z 3 i = nI b) (t : Nat) (ht : t < 3 * n + 7) : x_C l y_K_step c_K_step 6 none { frames := 3, cells := 0, slots := 0, locals := 64 } D (k_ty cI cZ) (k_w cI cZ kd z) [.ref (kd 0), .int (nI t), .int (nI n)] (none) (k_w cI cZ kd (k_step z k n t)) := by
  refine x_C.of (by decide) (Nat.le_of_ble_eq_true rfl) ?_
  intro p e s m below meth c hx hb hr hml hts hown hlk A hA hK hS hP hD ls hl
  have hown : s.vm.findClass R_K = some m.cls := hown
  have hl : lv_has ls 6 [(0, .ref (kd 0)), (1, .int (nI t)), (2, .int (nI n))] := hl
  refine lv_iconst (v := 3) hx hb d_K_step_0 (by decide) ?_
  refine lv_iconst (v := 2) hx hb d_K_step_1 (by decide) ?_
  refine lv_iload_n hx hb d_K_step_2 rfl (lv_at hl 2 rfl) ?_
  refine lv_imul hx hb d_K_step_3 ?_
  refine lv_iadd hx hb d_K_step_4 ?_
  refine x_top (show 3 + (2 * (nI n)) = nI (3 + 2 * n) from x_n32 n) ?_
  refine lv_istore_n (lv' := [(3, .int (nI (3 + 2 * n))), (0, .ref (kd 0)), (1, .int (nI t)), (2, .int (nI n))]) hx hb d_K_step_5 rfl hl (by decide) rfl (fun ls hl => ?_)
  refine lv_iload_n hx hb d_K_step_6 rfl (lv_at hl 2 rfl) ?_
  refine lv_if_eq (tgt := 27) hx hb d_K_step_7 (by decide) (fun c1 => ?_) (fun c1 => ?_)
  · have c1 : t = 0 := (nI_eq (a := t) (b := 0) (by omega) (by omega)).mp c1
    refine lv_aload_n hx hb d_K_step_27 rfl (lv_at hl 1 rfl) ?_
    refine x_V (rest := []) ⟨hx, hb, hml, hown, hts⟩ (c_K_flushStep_ok l D cI cZ kd z k hk hp) gm_485 gm_487 gm_18 gm_34 gm_488 ⟨rfl, rfl⟩ hd_K_flushStep ⟨Nat.le_of_ble_eq_true rfl, Nat.le_of_ble_eq_true rfl⟩ hK hP hD hS hA (va_recv hK hP (ci := 5) (q0 := 0) rfl k_h0) rfl hl.1 rfl (Nat.le_of_ble_eq_true rfl) d_K_step_28 ⟨Nat.le_of_ble_eq_true rfl, Nat.le_of_ble_eq_true rfl⟩ (fun H locs hP hD hS => ?_)
    obtain ⟨z2, ez2⟩ : ∃ zt_ : x_S, zt_ = k_fl z k := ⟨_, rfl⟩
    rw [← ez2] at hP hD
    refine lv_goto (tgt := 178) hx hb d_K_step_31 (by decide) ?_
    exact x_rv (w := k_w cI cZ kd) (by subst ez2; first | (simp only [k_step, if_pos c1]; done) | rfl | (simp only [k_step, if_pos c1]; rfl)) hx hb hr hlk hP hD hS d_K_step_178
  · have c1 : ¬ t = 0 := fun h => c1 ((nI_eq (a := t) (b := 0) (by omega) (by omega)).mpr h)
    refine lv_iload_n hx hb d_K_step_10 rfl (lv_at hl 2 rfl) ?_
    refine lv_iconst (v := 2) hx hb d_K_step_11 (by decide) ?_
    refine lv_icmp_eq (tgt := 27) hx hb d_K_step_12 (by decide) (fun c3 => ?_) (fun c3 => ?_)
    · have c3 : t = 2 := (nI_eq (a := t) (b := 2) (by omega) (by omega)).mp c3
      refine lv_aload_n hx hb d_K_step_27 rfl (lv_at hl 1 rfl) ?_
      refine x_V (rest := []) ⟨hx, hb, hml, hown, hts⟩ (c_K_flushStep_ok l D cI cZ kd z k hk hp) gm_485 gm_487 gm_18 gm_34 gm_488 ⟨rfl, rfl⟩ hd_K_flushStep ⟨Nat.le_of_ble_eq_true rfl, Nat.le_of_ble_eq_true rfl⟩ hK hP hD hS hA (va_recv hK hP (ci := 5) (q0 := 0) rfl k_h0) rfl hl.1 rfl (Nat.le_of_ble_eq_true rfl) d_K_step_28 ⟨Nat.le_of_ble_eq_true rfl, Nat.le_of_ble_eq_true rfl⟩ (fun H locs hP hD hS => ?_)
      obtain ⟨z4, ez4⟩ : ∃ zt_ : x_S, zt_ = k_fl z k := ⟨_, rfl⟩
      rw [← ez4] at hP hD
      refine lv_goto (tgt := 178) hx hb d_K_step_31 (by decide) ?_
      exact x_rv (w := k_w cI cZ kd) (by subst ez4; first | (simp only [k_step, if_neg c1, if_pos c3]; done) | rfl | (simp only [k_step, if_neg c1, if_pos c3]; rfl)) hx hb hr hlk hP hD hS d_K_step_178
    · have c3 : ¬ t = 2 := fun h => c3 ((nI_eq (a := t) (b := 2) (by omega) (by omega)).mpr h)
      refine lv_iload_n hx hb d_K_step_15 rfl (lv_at hl 2 rfl) ?_
      refine lv_iload_n hx hb d_K_step_16 rfl (lv_at hl 0 rfl) ?_
      refine lv_icmp_eq (tgt := 27) hx hb d_K_step_17 (by decide) (fun c5 => ?_) (fun c5 => ?_)
      · have c5 : t = (3 + 2 * n) := (nI_eq (a := t) (b := 3 + 2 * n) (by omega) (by omega)).mp c5
        refine lv_aload_n hx hb d_K_step_27 rfl (lv_at hl 1 rfl) ?_
        refine x_V (rest := []) ⟨hx, hb, hml, hown, hts⟩ (c_K_flushStep_ok l D cI cZ kd z k hk hp) gm_485 gm_487 gm_18 gm_34 gm_488 ⟨rfl, rfl⟩ hd_K_flushStep ⟨Nat.le_of_ble_eq_true rfl, Nat.le_of_ble_eq_true rfl⟩ hK hP hD hS hA (va_recv hK hP (ci := 5) (q0 := 0) rfl k_h0) rfl hl.1 rfl (Nat.le_of_ble_eq_true rfl) d_K_step_28 ⟨Nat.le_of_ble_eq_true rfl, Nat.le_of_ble_eq_true rfl⟩ (fun H locs hP hD hS => ?_)
        obtain ⟨z6, ez6⟩ : ∃ zt_ : x_S, zt_ = k_fl z k := ⟨_, rfl⟩
        rw [← ez6] at hP hD
        refine lv_goto (tgt := 178) hx hb d_K_step_31 (by decide) ?_
        exact x_rv (w := k_w cI cZ kd) (by subst ez6; first | (simp only [k_step, if_neg c1, if_neg c3, if_pos c5]; done) | rfl | (simp only [k_step, if_neg c1, if_neg c3, if_pos c5]; rfl)) hx hb hr hlk hP hD hS d_K_step_178
      · have c5 : ¬ t = (3 + 2 * n) := fun h => c5 ((nI_eq (a := t) (b := 3 + 2 * n) (by omega) (by omega)).mpr h)
        refine lv_iload_n hx hb d_K_step_20 rfl (lv_at hl 2 rfl) ?_
        refine lv_iload_n hx hb d_K_step_21 rfl (lv_at hl 0 rfl) ?_
        refine lv_iconst (v := 2) hx hb d_K_step_22 (by decide) ?_
        refine lv_iadd hx hb d_K_step_23 ?_
        refine x_top (show (nI (3 + 2 * n)) + 2 = nI (3 + 2 * n + 2) from x_nadd (3 + 2 * n) 2) ?_
        refine lv_icmp_ne (tgt := 34) hx hb d_K_step_24 (by decide) (fun c7 => ?_) (fun c7 => ?_)
        · have c7 : ¬ t = (3 + 2 * n + 2) := fun h => c7 ((nI_eq (a := t) (b := 3 + 2 * n + 2) (by omega) (by omega)).mpr h)
          refine lv_iload_n hx hb d_K_step_34 rfl (lv_at hl 2 rfl) ?_
          refine lv_iconst (v := 1) hx hb d_K_step_35 (by decide) ?_
          refine lv_icmp_ne (tgt := 49) hx hb d_K_step_36 (by decide) (fun c8 => ?_) (fun c8 => ?_)
          · have c8 : ¬ t = 1 := fun h => c8 ((nI_eq (a := t) (b := 1) (by omega) (by omega)).mpr h)
            refine lv_iload_n hx hb d_K_step_49 rfl (lv_at hl 2 rfl) ?_
            refine lv_iload_n hx hb d_K_step_50 rfl (lv_at hl 0 rfl) ?_
            refine lv_iconst (v := 1) hx hb d_K_step_51 (by decide) ?_
            refine lv_iadd hx hb d_K_step_52 ?_
            refine x_top (show (nI (3 + 2 * n)) + 1 = nI (3 + 2 * n + 1) from x_nadd (3 + 2 * n) 1) ?_
            refine lv_icmp_ne (tgt := 66) hx hb d_K_step_53 (by decide) (fun c9 => ?_) (fun c9 => ?_)
            · have c9 : ¬ t = (3 + 2 * n + 1) := fun h => c9 ((nI_eq (a := t) (b := 3 + 2 * n + 1) (by omega) (by omega)).mpr h)
              refine lv_iload_n hx hb d_K_step_66 rfl (lv_at hl 2 rfl) ?_
              refine lv_iload_n hx hb d_K_step_67 rfl (lv_at hl 0 rfl) ?_
              refine lv_icmp_ge (tgt := 144) hx hb d_K_step_68 (by decide) (fun c10 => ?_) (fun c10 => ?_)
              · have c10 : (3 + 2 * n) ≤ t := (nI_leI (a := 3 + 2 * n) (b := t) (by omega) (by omega)).mp c10
                refine lv_iload_n hx hb d_K_step_144 rfl (lv_at hl 2 rfl) ?_
                refine lv_iload_n hx hb d_K_step_145 rfl (lv_at hl 0 rfl) ?_
                refine lv_iconst (v := 3) hx hb d_K_step_146 (by decide) ?_
                refine lv_iadd hx hb d_K_step_147 ?_
                refine lv_iload_n hx hb d_K_step_148 rfl (lv_at hl 3 rfl) ?_
                refine lv_iadd hx hb d_K_step_149 ?_
                refine x_top (show ((nI (3 + 2 * n)) + 3) + (nI n) = nI (3 + 2 * n + 3 + n) by rw [show nI (3 + 2 * n) + 3 = nI (3 + 2 * n + 3) from x_nadd (3 + 2 * n) 3]; exact x_nadd (3 + 2 * n + 3) n) ?_
                refine lv_icmp_ge (tgt := 178) hx hb d_K_step_150 (by decide) (fun c11 => ?_) (fun c11 => ?_)
                · have c11 : (3 + 2 * n + 3 + n) ≤ t := (nI_leI (a := 3 + 2 * n + 3 + n) (b := t) (by omega) (by omega)).mp c11
                  exact x_rv (w := k_w cI cZ kd) (by first | (simp only [k_step, if_neg c1, if_neg c3, if_neg c5, if_neg c7, if_neg c8, if_neg c9, if_pos c10, if_pos c11]; done) | rfl | (simp only [k_step, if_neg c1, if_neg c3, if_neg c5, if_neg c7, if_neg c8, if_neg c9, if_pos c10, if_pos c11]; rfl)) hx hb hr hlk hP hD hS d_K_step_178
                · have c11 : ¬ (3 + 2 * n + 3 + n) ≤ t := fun h => c11 ((nI_leI (a := 3 + 2 * n + 3 + n) (b := t) (by omega) (by omega)).mpr h)
                  refine lv_iload_n hx hb d_K_step_153 rfl (lv_at hl 2 rfl) ?_
                  refine lv_iload_n hx hb d_K_step_154 rfl (lv_at hl 0 rfl) ?_
                  refine lv_isub hx hb d_K_step_155 ?_
                  refine x_top (show (nI t) - (nI (3 + 2 * n)) = nI (t - (3 + 2 * n)) from pk_sub (by omega)) ?_
                  refine lv_iconst (v := 3) hx hb d_K_step_156 (by decide) ?_
                  refine lv_isub hx hb d_K_step_157 ?_
                  refine x_top (show (nI (t - (3 + 2 * n))) - 3 = nI (t - (3 + 2 * n) - 3) from pk_sub (b := 3) (by omega)) ?_
                  refine lv_istore (lv' := [(4, .int (nI (t - (3 + 2 * n) - 3))), (3, .int (nI (3 + 2 * n))), (0, .ref (kd 0)), (1, .int (nI t)), (2, .int (nI n))]) hx hb d_K_step_158 hl (by decide) rfl (fun ls hl => ?_)
                  refine lv_aload_n hx hb d_K_step_160 rfl (lv_at hl 2 rfl) ?_
                  refine lv_aload_n hx hb d_K_step_161 rfl (lv_at hl 2 rfl) ?_
                  refine va_get (D := D) (ci := 5) (C := R_K) (T := T_K) (N := 21) hx hb hts in_K hown hK hP 0 k_h0 rfl 19 (by decide) (hts _ gm_419) (fun _ h9 => h9) rfl d_K_step_162 ?_
                  refine lv_iload hx hb d_K_step_165 (lv_at hl 0 rfl) ?_
                  refine va_iald (D := D) hx hb hK hP 10 0 k_h10 rfl (x_in3 (by omega)) d_K_step_167 ?_
                  refine x_top (show z 3 (nI (t - (3 + 2 * n) - 3)).toNatClampNeg = z 3 (t - (3 + 2 * n) - 3) by rw [x_cl3 (by omega)]) ?_
                  obtain ⟨cc, hcc, ec⟩ := hcell (t - (3 + 2 * n) - 3) (by omega)
                  refine x_top ec ?_
                  refine lv_aload_n hx hb d_K_step_168 rfl (lv_at hl 2 rfl) ?_
                  refine va_get (D := D) (ci := 5) (C := R_K) (T := T_K) (N := 21) hx hb hts in_K hown hK hP 0 k_h0 rfl 20 (by decide) (hts _ gm_420) (fun _ h9 => h9) rfl d_K_step_169 ?_
                  refine lv_iload hx hb d_K_step_172 (lv_at hl 0 rfl) ?_
                  refine va_iald (D := D) hx hb hK hP 11 0 k_h11 rfl (x_in3 (by omega)) d_K_step_174 ?_
                  refine x_top (show z 4 (nI (t - (3 + 2 * n) - 3)).toNatClampNeg = z 4 (t - (3 + 2 * n) - 3) by rw [x_cl3 (by omega)]) ?_
                  refine x_V (rest := []) ⟨hx, hb, hml, hown, hts⟩ (c_K_writeStep_ok l D cI cZ kd z k hk hp cc (by omega) (z 4 (t - (3 + 2 * n) - 3))) gm_497 gm_499 gm_21 gm_34 gm_500 ⟨rfl, rfl⟩ hd_K_writeStep ⟨Nat.le_of_ble_eq_true rfl, Nat.le_of_ble_eq_true rfl⟩ hK hP hD hS hA (va_recv hK hP (ci := 5) (q0 := 0) rfl k_h0) rfl hl.1 rfl (Nat.le_of_ble_eq_true rfl) d_K_step_175 ⟨Nat.le_of_ble_eq_true rfl, Nat.le_of_ble_eq_true rfl⟩ (fun H locs hP hD hS => ?_)
                  obtain ⟨z12, ez12⟩ : ∃ zt_ : x_S, zt_ = k_wr z k cc (z 4 (t - (3 + 2 * n) - 3)) := ⟨_, rfl⟩
                  rw [← ez12] at hP hD
                  exact x_rv (w := k_w cI cZ kd) (by subst ez12; first | (simp only [k_step, if_neg c1, if_neg c3, if_neg c5, if_neg c7, if_neg c8, if_neg c9, if_pos c10, if_neg c11, ec, x_cl32 (show cc < 32 by omega)]; done) | rfl | (simp only [k_step, if_neg c1, if_neg c3, if_neg c5, if_neg c7, if_neg c8, if_neg c9, if_pos c10, if_neg c11, ec, x_cl32 (show cc < 32 by omega)]; rfl)) hx hb hr hlk hP hD hS d_K_step_178
              · have c10 : ¬ (3 + 2 * n) ≤ t := fun h => c10 ((nI_leI (a := 3 + 2 * n) (b := t) (by omega) (by omega)).mpr h)
                refine lv_iload_n hx hb d_K_step_71 rfl (lv_at hl 2 rfl) ?_
                refine lv_iconst (v := 3) hx hb d_K_step_72 (by decide) ?_
                refine lv_isub hx hb d_K_step_73 ?_
                refine x_top (show (nI t) - 3 = nI (t - 3) from pk_sub (b := 3) (by omega)) ?_
                refine lv_iconst (v := 2) hx hb d_K_step_74 (by decide) ?_
                refine lv_idiv hx hb d_K_step_75 (by decide) ?_
                refine x_top (show (nI (t - 3)) / 2 = nI ((t - 3) / 2) from pk_div (d := 2) (by omega) (by decide) (by decide)) ?_
                refine lv_istore (lv' := [(4, .int (nI ((t - 3) / 2))), (3, .int (nI (3 + 2 * n))), (0, .ref (kd 0)), (1, .int (nI t)), (2, .int (nI n))]) hx hb d_K_step_76 hl (by decide) rfl (fun ls hl => ?_)
                refine lv_iload_n hx hb d_K_step_78 rfl (lv_at hl 3 rfl) ?_
                refine lv_iconst (v := 3) hx hb d_K_step_79 (by decide) ?_
                refine lv_isub hx hb d_K_step_80 ?_
                refine x_top (show (nI t) - 3 = nI (t - 3) from pk_sub (b := 3) (by omega)) ?_
                refine lv_iconst (v := 1) hx hb d_K_step_81 (by decide) ?_
                refine lv_iand hx hb d_K_step_82 ?_
                refine x_top (show (nI (t - 3)) &&& 1 = nI ((t - 3) % 2) from k_and1 (by omega)) ?_
                refine lv_if_ne (tgt := 90) hx hb d_K_step_83 (by decide) (fun c13 => ?_) (fun c13 => ?_)
                · have c13 : ¬ ((t - 3) % 2) = 0 := fun h => c13 ((nI_eq (a := (t - 3) % 2) (b := 0) (by omega) (by omega)).mpr h)
                  refine lv_iconst (v := 0) hx hb d_K_step_90 (by decide) ?_
                  refine lv_istore (lv' := [(5, .int 0), (4, .int (nI ((t - 3) / 2))), (3, .int (nI (3 + 2 * n))), (0, .ref (kd 0)), (1, .int (nI t)), (2, .int (nI n))]) hx hb d_K_step_91 hl (by decide) rfl (fun ls hl => ?_)
                  refine lv_aload_n hx hb d_K_step_93 rfl (lv_at hl 3 rfl) ?_
                  refine lv_iload hx hb d_K_step_94 (lv_at hl 0 rfl) ?_
                  refine lv_if_eq (tgt := 109) hx hb d_K_step_96 (by decide) (fun c14 => ?_) (fun c14 => ?_)
                  · refine lv_bipush (v := 26) hx hb d_K_step_109 (by decide) ?_
                    refine lv_iconst (v := 2) hx hb d_K_step_111 (by decide) ?_
                    refine lv_iload hx hb d_K_step_112 (lv_at hl 1 rfl) ?_
                    refine lv_imul hx hb d_K_step_114 ?_
                    refine lv_iadd hx hb d_K_step_115 ?_
                    refine x_top (show 26 + (2 * (nI ((t - 3) / 2))) = nI (26 + 2 * ((t - 3) / 2)) by rw [show (2 : Int32) * nI ((t - 3) / 2) = nI (2 * ((t - 3) / 2)) from x_nmul 2 _]; exact x_nadd 26 _) ?_
                    refine lv_iload hx hb d_K_step_116 (lv_at hl 0 rfl) ?_
                    refine lv_if_eq (tgt := 131) hx hb d_K_step_118 (by decide) (fun c15 => ?_) (fun c15 => ?_)
                    · refine lv_aload_n hx hb d_K_step_131 rfl (lv_at hl 3 rfl) ?_
                      refine va_get (D := D) (ci := 5) (C := R_K) (T := T_K) (N := 21) hx hb hts in_K hown hK hP 0 k_h0 rfl 20 (by decide) (hts _ gm_420) (fun _ h9 => h9) rfl d_K_step_132 ?_
                      refine lv_iload hx hb d_K_step_135 (lv_at hl 1 rfl) ?_
                      refine va_iald (D := D) hx hb hK hP 11 0 k_h11 rfl (x_in3 (by omega)) d_K_step_137 ?_
                      refine x_top (show z 4 (nI ((t - 3) / 2)).toNatClampNeg = z 4 ((t - 3) / 2) by rw [x_cl3 (by omega)]) ?_
                      refine x_V (rest := []) ⟨hx, hb, hml, hown, hts⟩ (c_K_writeStep_ok l D cI cZ kd z k hk hp (26 + 2 * ((t - 3) / 2)) (by omega) (z 4 ((t - 3) / 2))) gm_497 gm_499 gm_21 gm_34 gm_500 ⟨rfl, rfl⟩ hd_K_writeStep ⟨Nat.le_of_ble_eq_true rfl, Nat.le_of_ble_eq_true rfl⟩ hK hP hD hS hA (va_recv hK hP (ci := 5) (q0 := 0) rfl k_h0) rfl hl.1 rfl (Nat.le_of_ble_eq_true rfl) d_K_step_138 ⟨Nat.le_of_ble_eq_true rfl, Nat.le_of_ble_eq_true rfl⟩ (fun H locs hP hD hS => ?_)
                      obtain ⟨z16, ez16⟩ : ∃ zt_ : x_S, zt_ = k_wr z k (26 + 2 * ((t - 3) / 2)) (z 4 ((t - 3) / 2)) := ⟨_, rfl⟩
                      rw [← ez16] at hP hD
                      refine lv_goto (tgt := 178) hx hb d_K_step_141 (by decide) ?_
                      exact x_rv (w := k_w cI cZ kd) (by subst ez16; first | (simp only [k_step, if_neg c1, if_neg c3, if_neg c5, if_neg c7, if_neg c8, if_neg c9, if_neg c10, if_neg c13]; done) | rfl | (simp only [k_step, if_neg c1, if_neg c3, if_neg c5, if_neg c7, if_neg c8, if_neg c9, if_neg c10, if_neg c13]; rfl)) hx hb hr hlk hP hD hS d_K_step_178
                    · exact (c15 (by decide)).elim
                  · exact (c14 (by decide)).elim
                · have c13 : ((t - 3) % 2) = 0 := (nI_eq (a := (t - 3) % 2) (b := 0) (by omega) (by omega)).mp c13
                  refine lv_iconst (v := 1) hx hb d_K_step_86 (by decide) ?_
                  refine lv_goto (tgt := 91) hx hb d_K_step_87 (by decide) ?_
                  refine lv_istore (lv' := [(5, .int 1), (4, .int (nI ((t - 3) / 2))), (3, .int (nI (3 + 2 * n))), (0, .ref (kd 0)), (1, .int (nI t)), (2, .int (nI n))]) hx hb d_K_step_91 hl (by decide) rfl (fun ls hl => ?_)
                  refine lv_aload_n hx hb d_K_step_93 rfl (lv_at hl 3 rfl) ?_
                  refine lv_iload hx hb d_K_step_94 (lv_at hl 0 rfl) ?_
                  refine lv_if_eq (tgt := 109) hx hb d_K_step_96 (by decide) (fun c17 => ?_) (fun c17 => ?_)
                  · exact absurd c17 (by decide)
                  · refine lv_bipush (v := 25) hx hb d_K_step_99 (by decide) ?_
                    refine lv_iconst (v := 2) hx hb d_K_step_101 (by decide) ?_
                    refine lv_iload hx hb d_K_step_102 (lv_at hl 1 rfl) ?_
                    refine lv_imul hx hb d_K_step_104 ?_
                    refine lv_iadd hx hb d_K_step_105 ?_
                    refine lv_goto (tgt := 116) hx hb d_K_step_106 (by decide) ?_
                    refine x_top (show 25 + (2 * (nI ((t - 3) / 2))) = nI (25 + 2 * ((t - 3) / 2)) by rw [show (2 : Int32) * nI ((t - 3) / 2) = nI (2 * ((t - 3) / 2)) from x_nmul 2 _]; exact x_nadd 25 _) ?_
                    refine lv_iload hx hb d_K_step_116 (lv_at hl 0 rfl) ?_
                    refine lv_if_eq (tgt := 131) hx hb d_K_step_118 (by decide) (fun c18 => ?_) (fun c18 => ?_)
                    · exact absurd c18 (by decide)
                    · refine lv_aload_n hx hb d_K_step_121 rfl (lv_at hl 3 rfl) ?_
                      refine va_get (D := D) (ci := 5) (C := R_K) (T := T_K) (N := 21) hx hb hts in_K hown hK hP 0 k_h0 rfl 19 (by decide) (hts _ gm_419) (fun _ h9 => h9) rfl d_K_step_122 ?_
                      refine lv_iload hx hb d_K_step_125 (lv_at hl 1 rfl) ?_
                      refine va_iald (D := D) hx hb hK hP 10 0 k_h10 rfl (x_in3 (by omega)) d_K_step_127 ?_
                      refine x_top (show z 3 (nI ((t - 3) / 2)).toNatClampNeg = z 3 ((t - 3) / 2) by rw [x_cl3 (by omega)]) ?_
                      refine lv_goto (tgt := 138) hx hb d_K_step_128 (by decide) ?_
                      refine x_V (rest := []) ⟨hx, hb, hml, hown, hts⟩ (c_K_writeStep_ok l D cI cZ kd z k hk hp (25 + 2 * ((t - 3) / 2)) (by omega) (z 3 ((t - 3) / 2))) gm_497 gm_499 gm_21 gm_34 gm_500 ⟨rfl, rfl⟩ hd_K_writeStep ⟨Nat.le_of_ble_eq_true rfl, Nat.le_of_ble_eq_true rfl⟩ hK hP hD hS hA (va_recv hK hP (ci := 5) (q0 := 0) rfl k_h0) rfl hl.1 rfl (Nat.le_of_ble_eq_true rfl) d_K_step_138 ⟨Nat.le_of_ble_eq_true rfl, Nat.le_of_ble_eq_true rfl⟩ (fun H locs hP hD hS => ?_)
                      obtain ⟨z19, ez19⟩ : ∃ zt_ : x_S, zt_ = k_wr z k (25 + 2 * ((t - 3) / 2)) (z 3 ((t - 3) / 2)) := ⟨_, rfl⟩
                      rw [← ez19] at hP hD
                      refine lv_goto (tgt := 178) hx hb d_K_step_141 (by decide) ?_
                      exact x_rv (w := k_w cI cZ kd) (by subst ez19; first | (simp only [k_step, if_neg c1, if_neg c3, if_neg c5, if_neg c7, if_neg c8, if_neg c9, if_neg c10, if_pos c13]; done) | rfl | (simp only [k_step, if_neg c1, if_neg c3, if_neg c5, if_neg c7, if_neg c8, if_neg c9, if_neg c10, if_pos c13]; rfl)) hx hb hr hlk hP hD hS d_K_step_178
            · have c9 : t = (3 + 2 * n + 1) := (nI_eq (a := t) (b := 3 + 2 * n + 1) (by omega) (by omega)).mp c9
              refine lv_aload_n hx hb d_K_step_56 rfl (lv_at hl 1 rfl) ?_
              refine lv_bipush (v := 24) hx hb d_K_step_57 (by decide) ?_
              refine x_top (show (24 : Int32) = nI 24 from rfl) ?_
              refine lv_iload_n hx hb d_K_step_59 rfl (lv_at hl 3 rfl) ?_
              refine x_V (rest := []) ⟨hx, hb, hml, hown, hts⟩ (c_K_writeStep_ok l D cI cZ kd z k hk hp 24 (by decide) (nI n)) gm_497 gm_499 gm_21 gm_34 gm_500 ⟨rfl, rfl⟩ hd_K_writeStep ⟨Nat.le_of_ble_eq_true rfl, Nat.le_of_ble_eq_true rfl⟩ hK hP hD hS hA (va_recv hK hP (ci := 5) (q0 := 0) rfl k_h0) rfl hl.1 rfl (Nat.le_of_ble_eq_true rfl) d_K_step_60 ⟨Nat.le_of_ble_eq_true rfl, Nat.le_of_ble_eq_true rfl⟩ (fun H locs hP hD hS => ?_)
              obtain ⟨z20, ez20⟩ : ∃ zt_ : x_S, zt_ = k_wr z k 24 (nI n) := ⟨_, rfl⟩
              rw [← ez20] at hP hD
              refine lv_goto (tgt := 178) hx hb d_K_step_63 (by decide) ?_
              exact x_rv (w := k_w cI cZ kd) (by subst ez20; first | (simp only [k_step, if_neg c1, if_neg c3, if_neg c5, if_neg c7, if_neg c8, if_pos c9]; done) | rfl | (simp only [k_step, if_neg c1, if_neg c3, if_neg c5, if_neg c7, if_neg c8, if_pos c9]; rfl)) hx hb hr hlk hP hD hS d_K_step_178
          · have c8 : t = 1 := (nI_eq (a := t) (b := 1) (by omega) (by omega)).mp c8
            refine lv_aload_n hx hb d_K_step_39 rfl (lv_at hl 1 rfl) ?_
            refine lv_bipush (v := 24) hx hb d_K_step_40 (by decide) ?_
            refine x_top (show (24 : Int32) = nI 24 from rfl) ?_
            refine lv_iconst (v := 0) hx hb d_K_step_42 (by decide) ?_
            refine x_V (rest := []) ⟨hx, hb, hml, hown, hts⟩ (c_K_writeStep_ok l D cI cZ kd z k hk hp 24 (by decide) 0) gm_497 gm_499 gm_21 gm_34 gm_500 ⟨rfl, rfl⟩ hd_K_writeStep ⟨Nat.le_of_ble_eq_true rfl, Nat.le_of_ble_eq_true rfl⟩ hK hP hD hS hA (va_recv hK hP (ci := 5) (q0 := 0) rfl k_h0) rfl hl.1 rfl (Nat.le_of_ble_eq_true rfl) d_K_step_43 ⟨Nat.le_of_ble_eq_true rfl, Nat.le_of_ble_eq_true rfl⟩ (fun H locs hP hD hS => ?_)
            obtain ⟨z21, ez21⟩ : ∃ zt_ : x_S, zt_ = k_wr z k 24 0 := ⟨_, rfl⟩
            rw [← ez21] at hP hD
            refine lv_goto (tgt := 178) hx hb d_K_step_46 (by decide) ?_
            exact x_rv (w := k_w cI cZ kd) (by subst ez21; first | (simp only [k_step, if_neg c1, if_neg c3, if_neg c5, if_neg c7, if_pos c8]; done) | rfl | (simp only [k_step, if_neg c1, if_neg c3, if_neg c5, if_neg c7, if_pos c8]; rfl)) hx hb hr hlk hP hD hS d_K_step_178
        · have c7 : t = (3 + 2 * n + 2) := (nI_eq (a := t) (b := 3 + 2 * n + 2) (by omega) (by omega)).mp c7
          refine lv_aload_n hx hb d_K_step_27 rfl (lv_at hl 1 rfl) ?_
          refine x_V (rest := []) ⟨hx, hb, hml, hown, hts⟩ (c_K_flushStep_ok l D cI cZ kd z k hk hp) gm_485 gm_487 gm_18 gm_34 gm_488 ⟨rfl, rfl⟩ hd_K_flushStep ⟨Nat.le_of_ble_eq_true rfl, Nat.le_of_ble_eq_true rfl⟩ hK hP hD hS hA (va_recv hK hP (ci := 5) (q0 := 0) rfl k_h0) rfl hl.1 rfl (Nat.le_of_ble_eq_true rfl) d_K_step_28 ⟨Nat.le_of_ble_eq_true rfl, Nat.le_of_ble_eq_true rfl⟩ (fun H locs hP hD hS => ?_)
          obtain ⟨z22, ez22⟩ : ∃ zt_ : x_S, zt_ = k_fl z k := ⟨_, rfl⟩
          rw [← ez22] at hP hD
          refine lv_goto (tgt := 178) hx hb d_K_step_31 (by decide) ?_
          exact x_rv (w := k_w cI cZ kd) (by subst ez22; first | (simp only [k_step, if_neg c1, if_neg c3, if_neg c5, if_pos c7]; done) | rfl | (simp only [k_step, if_neg c1, if_neg c3, if_neg c5, if_pos c7]; rfl)) hx hb hr hlk hP hD hS d_K_step_178
