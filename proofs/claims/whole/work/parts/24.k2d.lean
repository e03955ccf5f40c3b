-- ===== 24.k2d: the reference: public calls
set_option maxHeartbeats 4000000 in
set_option maxRecDepth 100000 in
theorem c_K_tick_ok (l : Launch) (D : va_G) (cI cZ : ClassId) (kd : Nat → Nat) (z : x_S) (b : Int32) : x_C l y_K_tick c_K_tick 2 (some .int) { frames := 1, cells := 0, slots := 0, locals := 20 } D (k_ty cI cZ) (k_w cI cZ kd z) [.ref (kd 0), .int b] (some (.int (k_tick z b).1)) (k_w cI cZ kd (k_tick z b).2) := by
  refine x_C.of (by decide) (Nat.le_of_ble_eq_true rfl) ?_
  intro p e s m below meth c hx hb hr hml hts hown hlk A hA hK hS hP hD ls hl
  have hown : s.vm.findClass R_K = some m.cls := hown
  have hl : lv_has ls 2 [(0, .ref (kd 0)), (1, .int b)] := hl
  refine lv_iload_n hx hb d_K_tick_0 rfl (lv_at hl 1 rfl) ?_
  refine lv_if_lt (tgt := 10) hx hb d_K_tick_1 (by decide) (fun c1 => ?_) (fun c1 => ?_)
  · refine lv_iconst (v := (-1)) hx hb d_K_tick_10 (by decide) ?_
    exact x_ri (w := k_w cI cZ kd) (by first | (simp only [k_tick, k_tickT, if_pos c1]; done) | (with_reducible rfl) | (simp only [k_tick, k_tickT, if_pos c1]; with_reducible rfl)) hx hb hr hlk hP hD hS d_K_tick_11
  · refine lv_iload_n hx hb d_K_tick_4 rfl (lv_at hl 1 rfl) ?_
    refine lv_bipush (v := 100) hx hb d_K_tick_5 (by decide) ?_
    refine lv_icmp_le (tgt := 12) hx hb d_K_tick_7 (by decide) (fun c2 => ?_) (fun c2 => ?_)
    · refine lv_aload_n hx hb d_K_tick_12 rfl (lv_at hl 0 rfl) ?_
      refine lv_dup hx hb d_K_tick_13 rfl ?_
      refine va_get (D := D) (ci := 5) (C := R_K) (T := T_K) (N := 21) hx hb hts in_K hown hK hP 0 k_h0 rfl 16 (by decide) (hts _ gm_416) (fun _ h9 => h9) rfl d_K_tick_14 ?_
      refine lv_iload_n hx hb d_K_tick_17 rfl (lv_at hl 1 rfl) ?_
      refine lv_iadd hx hb d_K_tick_18 ?_
      refine va_put (D := D) (ci := 5) (v := .int ((z 1 2) + b)) (ty := .int) (C := R_K) (T := T_K) (N := 21) hx hb hts in_K fy_K fy_K_ok n_K hown hK hP hD hS 0 k_h0 rfl 16 (by decide) (hts _ gm_416) (fun _ h9 => h9) rfl (by decide +kernel) rfl rfl (Nat.le_of_ble_eq_true rfl) d_K_tick_19 (fun H locs hP hD hS => ?_)
      obtain ⟨z3, ez3⟩ : ∃ zt_ : x_S, zt_ = x_up z 1 2 ((z 1 2) + b) := ⟨_, rfl⟩
      have hP : va_P D vwCl (k_w cI cZ kd z3) H := by rw [ez3]; exact (k_s0_16 ((z 1 2) + b)) ▸ hP
      have hD : va_D A (k_w cI cZ kd z3) := by rw [ez3]; exact (k_s0_16 ((z 1 2) + b)) ▸ hD
      refine lv_aload_n hx hb d_K_tick_22 rfl (lv_at hl 0 rfl) ?_
      refine va_get (D := D) (ci := 5) (C := R_K) (T := T_K) (N := 21) hx hb hts in_K hown hK hP 0 k_h0 rfl 12 (by decide) (hts _ gm_412) (fun _ h9 => h9) rfl d_K_tick_23 ?_
      refine lv_iconst (v := 2) hx hb d_K_tick_26 (by decide) ?_
      refine lv_icmp_eq (tgt := 41) hx hb d_K_tick_27 (by decide) (fun c4 => ?_) (fun c4 => ?_)
      · refine lv_aload_n hx hb d_K_tick_41 rfl (lv_at hl 0 rfl) ?_
        refine lv_iconst (v := 2) hx hb d_K_tick_42 (by decide) ?_
        refine va_put (D := D) (ci := 5) (v := .int 2) (ty := .int) (C := R_K) (T := T_K) (N := 21) hx hb hts in_K fy_K fy_K_ok n_K hown hK hP hD hS 0 k_h0 rfl 12 (by decide) (hts _ gm_412) (fun _ h9 => h9) rfl (by decide +kernel) rfl rfl (Nat.le_of_ble_eq_true rfl) d_K_tick_43 (fun H locs hP hD hS => ?_)
        obtain ⟨z5, ez5⟩ : ∃ zt_ : x_S, zt_ = x_up z3 1 3 2 := ⟨_, rfl⟩
        have hP : va_P D vwCl (k_w cI cZ kd z5) H := by rw [ez5]; exact (k_s0_12 2) ▸ hP
        have hD : va_D A (k_w cI cZ kd z5) := by rw [ez5]; exact (k_s0_12 2) ▸ hD
        refine lv_aload_n hx hb d_K_tick_46 rfl (lv_at hl 0 rfl) ?_
        refine va_get (D := D) (ci := 5) (C := R_K) (T := T_K) (N := 21) hx hb hts in_K hown hK hP 0 k_h0 rfl 10 (by decide) (hts _ gm_410) (fun _ h9 => h9) rfl d_K_tick_47 ?_
        refine lv_iconst (v := 2) hx hb d_K_tick_50 (by decide) ?_
        refine lv_icmp_eq (tgt := 58) hx hb d_K_tick_51 (by decide) (fun c6 => ?_) (fun c6 => ?_)
        · refine lv_aload_n hx hb d_K_tick_58 rfl (lv_at hl 0 rfl) ?_
          refine va_get (D := D) (ci := 5) (C := R_K) (T := T_K) (N := 21) hx hb hts in_K hown hK hP 0 k_h0 rfl 16 (by decide) (hts _ gm_416) (fun _ h9 => h9) rfl d_K_tick_59 ?_
          exact x_ri (w := k_w cI cZ kd) (by subst ez3 ez5; first | (simp only [k_tick, k_tickT, if_neg c1, if_pos c2, if_pos c4, if_pos c6]; done) | (with_reducible rfl) | (simp only [k_tick, k_tickT, if_neg c1, if_pos c2, if_pos c4, if_pos c6]; with_reducible rfl)) hx hb hr hlk hP hD hS d_K_tick_62
        · refine lv_aload_n hx hb d_K_tick_54 rfl (lv_at hl 0 rfl) ?_
          refine x_V (rest := []) ⟨hx, hb, hml, hown, hts⟩ (c_K_noPrimary_ok l D cI cZ kd z5) gm_513 gm_515 gm_24 gm_34 gm_516 ⟨rfl, rfl⟩ hd_K_noPrimary ⟨Nat.le_of_ble_eq_true rfl, Nat.le_of_ble_eq_true rfl⟩ hK hP hD hS hA (va_recv hK hP (ci := 5) (q0 := 0) rfl k_h0) rfl hl.1 rfl (Nat.le_of_ble_eq_true rfl) d_K_tick_55 ⟨Nat.le_of_ble_eq_true rfl, Nat.le_of_ble_eq_true rfl⟩ (fun H locs hP hD hS => ?_)
          obtain ⟨z7, ez7⟩ : ∃ zt_ : x_S, zt_ = k_noP z5 := ⟨_, rfl⟩
          rw [← ez7] at hP hD
          refine lv_aload_n hx hb d_K_tick_58 rfl (lv_at hl 0 rfl) ?_
          refine va_get (D := D) (ci := 5) (C := R_K) (T := T_K) (N := 21) hx hb hts in_K hown hK hP 0 k_h0 rfl 16 (by decide) (hts _ gm_416) (fun _ h9 => h9) rfl d_K_tick_59 ?_
          exact x_ri (w := k_w cI cZ kd) (by subst ez3 ez5 ez7; first | (simp only [k_tick, k_tickT, if_neg c1, if_pos c2, if_pos c4, if_neg c6]; done) | (with_reducible rfl) | (simp only [k_tick, k_tickT, if_neg c1, if_pos c2, if_pos c4, if_neg c6]; with_reducible rfl)) hx hb hr hlk hP hD hS d_K_tick_62
      · refine lv_aload_n hx hb d_K_tick_30 rfl (lv_at hl 0 rfl) ?_
        refine va_get (D := D) (ci := 5) (C := R_K) (T := T_K) (N := 21) hx hb hts in_K hown hK hP 0 k_h0 rfl 17 (by decide) (hts _ gm_417) (fun _ h9 => h9) rfl d_K_tick_31 ?_
        refine lv_aload_n hx hb d_K_tick_34 rfl (lv_at hl 0 rfl) ?_
        refine va_get (D := D) (ci := 5) (C := R_K) (T := T_K) (N := 21) hx hb hts in_K hown hK hP 0 k_h0 rfl 16 (by decide) (hts _ gm_416) (fun _ h9 => h9) rfl d_K_tick_35 ?_
        refine lv_icmp_gt (tgt := 58) hx hb d_K_tick_38 (by decide) (fun c8 => ?_) (fun c8 => ?_)
        · refine lv_aload_n hx hb d_K_tick_58 rfl (lv_at hl 0 rfl) ?_
          refine va_get (D := D) (ci := 5) (C := R_K) (T := T_K) (N := 21) hx hb hts in_K hown hK hP 0 k_h0 rfl 16 (by decide) (hts _ gm_416) (fun _ h9 => h9) rfl d_K_tick_59 ?_
          exact x_ri (w := k_w cI cZ kd) (by subst ez3; first | (simp only [k_tick, k_tickT, if_neg c1, if_pos c2, if_neg c4, if_pos c8]; done) | (with_reducible rfl) | (simp only [k_tick, k_tickT, if_neg c1, if_pos c2, if_neg c4, if_pos c8]; with_reducible rfl)) hx hb hr hlk hP hD hS d_K_tick_62
        · refine lv_aload_n hx hb d_K_tick_41 rfl (lv_at hl 0 rfl) ?_
          refine lv_iconst (v := 2) hx hb d_K_tick_42 (by decide) ?_
          refine va_put (D := D) (ci := 5) (v := .int 2) (ty := .int) (C := R_K) (T := T_K) (N := 21) hx hb hts in_K fy_K fy_K_ok n_K hown hK hP hD hS 0 k_h0 rfl 12 (by decide) (hts _ gm_412) (fun _ h9 => h9) rfl (by decide +kernel) rfl rfl (Nat.le_of_ble_eq_true rfl) d_K_tick_43 (fun H locs hP hD hS => ?_)
          obtain ⟨z9, ez9⟩ : ∃ zt_ : x_S, zt_ = x_up z3 1 3 2 := ⟨_, rfl⟩
          have hP : va_P D vwCl (k_w cI cZ kd z9) H := by rw [ez9]; exact (k_s0_12 2) ▸ hP
          have hD : va_D A (k_w cI cZ kd z9) := by rw [ez9]; exact (k_s0_12 2) ▸ hD
          refine lv_aload_n hx hb d_K_tick_46 rfl (lv_at hl 0 rfl) ?_
          refine va_get (D := D) (ci := 5) (C := R_K) (T := T_K) (N := 21) hx hb hts in_K hown hK hP 0 k_h0 rfl 10 (by decide) (hts _ gm_410) (fun _ h9 => h9) rfl d_K_tick_47 ?_
          refine lv_iconst (v := 2) hx hb d_K_tick_50 (by decide) ?_
          refine lv_icmp_eq (tgt := 58) hx hb d_K_tick_51 (by decide) (fun c10 => ?_) (fun c10 => ?_)
          · refine lv_aload_n hx hb d_K_tick_58 rfl (lv_at hl 0 rfl) ?_
            refine va_get (D := D) (ci := 5) (C := R_K) (T := T_K) (N := 21) hx hb hts in_K hown hK hP 0 k_h0 rfl 16 (by decide) (hts _ gm_416) (fun _ h9 => h9) rfl d_K_tick_59 ?_
            exact x_ri (w := k_w cI cZ kd) (by subst ez3 ez9; first | (simp only [k_tick, k_tickT, if_neg c1, if_pos c2, if_neg c4, if_neg c8, if_pos c10]; done) | (with_reducible rfl) | (simp only [k_tick, k_tickT, if_neg c1, if_pos c2, if_neg c4, if_neg c8, if_pos c10]; with_reducible rfl)) hx hb hr hlk hP hD hS d_K_tick_62
          · refine lv_aload_n hx hb d_K_tick_54 rfl (lv_at hl 0 rfl) ?_
            refine x_V (rest := []) ⟨hx, hb, hml, hown, hts⟩ (c_K_noPrimary_ok l D cI cZ kd z9) gm_513 gm_515 gm_24 gm_34 gm_516 ⟨rfl, rfl⟩ hd_K_noPrimary ⟨Nat.le_of_ble_eq_true rfl, Nat.le_of_ble_eq_true rfl⟩ hK hP hD hS hA (va_recv hK hP (ci := 5) (q0 := 0) rfl k_h0) rfl hl.1 rfl (Nat.le_of_ble_eq_true rfl) d_K_tick_55 ⟨Nat.le_of_ble_eq_true rfl, Nat.le_of_ble_eq_true rfl⟩ (fun H locs hP hD hS => ?_)
            obtain ⟨z11, ez11⟩ : ∃ zt_ : x_S, zt_ = k_noP z9 := ⟨_, rfl⟩
            rw [← ez11] at hP hD
            refine lv_aload_n hx hb d_K_tick_58 rfl (lv_at hl 0 rfl) ?_
            refine va_get (D := D) (ci := 5) (C := R_K) (T := T_K) (N := 21) hx hb hts in_K hown hK hP 0 k_h0 rfl 16 (by decide) (hts _ gm_416) (fun _ h9 => h9) rfl d_K_tick_59 ?_
            exact x_ri (w := k_w cI cZ kd) (by subst ez3 ez9 ez11; first | (simp only [k_tick, k_tickT, if_neg c1, if_pos c2, if_neg c4, if_neg c8, if_neg c10]; done) | (with_reducible rfl) | (simp only [k_tick, k_tickT, if_neg c1, if_pos c2, if_neg c4, if_neg c8, if_neg c10]; with_reducible rfl)) hx hb hr hlk hP hD hS d_K_tick_62
    · refine lv_iconst (v := (-1)) hx hb d_K_tick_10 (by decide) ?_
      exact x_ri (w := k_w cI cZ kd) (by first | (simp only [k_tick, k_tickT, if_neg c1, if_neg c2]; done) | (with_reducible rfl) | (simp only [k_tick, k_tickT, if_neg c1, if_neg c2]; with_reducible rfl)) hx hb hr hlk hP hD hS d_K_tick_11
set_option maxHeartbeats 4000000 in
set_option maxRecDepth 100000 in
theorem c_K_block_ok (l : Launch) (D : va_G) (cI cZ : ClassId) (kd : Nat → Nat) (z : x_S) (a b f : Int32) : x_C l y_K_block c_K_block 4 (some .long) { frames := 1, cells := 0, slots := 0, locals := 22 } D (k_ty cI cZ) (k_w cI cZ kd z) [.ref (kd 0), .int a, .int b, .int f] (some (.long (k_block z a b f))) (k_w cI cZ kd z) := by
  refine x_C.of (by decide) (Nat.le_of_ble_eq_true rfl) ?_
  intro p e s m below meth c hx hb hr hml hts hown hlk A hA hK hS hP hD ls hl
  have hown : s.vm.findClass R_K = some m.cls := hown
  have hl : lv_has ls 4 [(0, .ref (kd 0)), (1, .int a), (2, .int b), (3, .int f)] := hl
  refine lv_aload_n hx hb d_K_block_0 rfl (lv_at hl 0 rfl) ?_
  refine lv_iload_n hx hb d_K_block_1 rfl (lv_at hl 1 rfl) ?_
  refine lv_iconst (v := 2) hx hb d_K_block_2 (by decide) ?_
  refine x_V (rest := []) ⟨hx, hb, hml, hown, hts⟩ (c_K_out_ok l D cI cZ kd z a 2) gm_469 gm_471 gm_15 gm_34 gm_472 ⟨rfl, rfl⟩ hd_K_out ⟨Nat.le_of_ble_eq_true rfl, Nat.le_of_ble_eq_true rfl⟩ hK hP hD hS hA (va_recv hK hP (ci := 5) (q0 := 0) rfl k_h0) rfl hl.1 rfl (Nat.le_of_ble_eq_true rfl) d_K_block_3 ⟨Nat.le_of_ble_eq_true rfl, Nat.le_of_ble_eq_true rfl⟩ (fun H locs hP hD hS => ?_)
  refine lv_topi (fun r1 er1 => ?_)
  refine lv_if_ne (tgt := 19) hx hb d_K_block_6 (by decide) (fun c2 => ?_) (fun c2 => ?_)
  · refine lv_ldc2 (v := (-1000000000000)) hx hb hown (hts (.constantLong R_K 106 (-1000000000000)) gm_525) d_K_block_19 ?_
    exact x_rl (by subst er1; first | (simp only [k_block, if_neg c2]; done) | (with_reducible rfl) | (simp only [k_block, if_neg c2]; with_reducible rfl)) hx hb hr hlk hP hD hS d_K_block_22
  · obtain ⟨k, hk, ek⟩ := k_out2 (v := a) (by rw [← er1]; exact c2)
    subst ek
    refine lv_aload_n hx hb d_K_block_9 rfl (lv_at hl 0 rfl) ?_
    refine lv_iload_n hx hb d_K_block_10 rfl (lv_at hl 2 rfl) ?_
    refine lv_bipush (v := 32) hx hb d_K_block_11 (by decide) ?_
    refine x_V (rest := []) ⟨hx, hb, hml, hown, hts⟩ (c_K_out_ok l D cI cZ kd z b 32) gm_469 gm_471 gm_15 gm_34 gm_472 ⟨rfl, rfl⟩ hd_K_out ⟨Nat.le_of_ble_eq_true rfl, Nat.le_of_ble_eq_true rfl⟩ hK hP hD hS hA (va_recv hK hP (ci := 5) (q0 := 0) rfl k_h0) rfl hl.1 rfl (Nat.le_of_ble_eq_true rfl) d_K_block_13 ⟨Nat.le_of_ble_eq_true rfl, Nat.le_of_ble_eq_true rfl⟩ (fun H locs hP hD hS => ?_)
    refine lv_topi (fun r3 er3 => ?_)
    refine lv_if_eq (tgt := 23) hx hb d_K_block_16 (by decide) (fun c4 => ?_) (fun c4 => ?_)
    · obtain ⟨bb, hbb, ebb⟩ := k_out32 (v := b) (by rw [← er3]; exact c4)
      subst ebb
      refine lv_iload_n hx hb d_K_block_23 rfl (lv_at hl 3 rfl) ?_
      refine lv_if_eq (tgt := 42) hx hb d_K_block_24 (by decide) (fun c5 => ?_) (fun c5 => ?_)
      · refine lv_aload_n hx hb d_K_block_42 rfl (lv_at hl 0 rfl) ?_
        refine lv_iload_n hx hb d_K_block_43 rfl (lv_at hl 1 rfl) ?_
        refine lv_iload_n hx hb d_K_block_44 rfl (lv_at hl 2 rfl) ?_
        refine x_V (rest := []) ⟨hx, hb, hml, hown, hts⟩ (c_K_holds_ok l D cI cZ kd z k hk bb hbb) gm_493 gm_495 gm_20 gm_34 gm_496 ⟨rfl, rfl⟩ hd_K_holds ⟨Nat.le_of_ble_eq_true rfl, Nat.le_of_ble_eq_true rfl⟩ hK hP hD hS hA (va_recv hK hP (ci := 5) (q0 := 0) rfl k_h0) rfl hl.1 rfl (Nat.le_of_ble_eq_true rfl) d_K_block_45 ⟨Nat.le_of_ble_eq_true rfl, Nat.le_of_ble_eq_true rfl⟩ (fun H locs hP hD hS => ?_)
        refine lv_topi (fun r6 er6 => ?_)
        refine lv_i2l (v := r6.toInt64) hx hb d_K_block_48 rfl ?_
        exact x_rl (by subst er1 er3 er6; first | (simp only [k_block, if_pos c2, if_pos c4, if_pos c5, x_cl hk, x_cl32 (show bb < 32 by omega)]; done) | (with_reducible rfl) | (simp only [k_block, if_pos c2, if_pos c4, if_pos c5, x_cl hk, x_cl32 (show bb < 32 by omega)]; with_reducible rfl)) hx hb hr hlk hP hD hS d_K_block_49
      · refine lv_aload_n hx hb d_K_block_27 rfl (lv_at hl 0 rfl) ?_
        refine va_get (D := D) (ci := 5) (C := R_K) (T := T_K) (N := 21) hx hb hts in_K hown hK hP 0 k_h0 rfl 1 (by decide) (hts _ gm_401) (fun _ h9 => h9) rfl d_K_block_28 ?_
        refine lv_iload_n hx hb d_K_block_31 rfl (lv_at hl 1 rfl) ?_
        refine lv_bipush (v := 32) hx hb d_K_block_32 (by decide) ?_
        refine lv_imul hx hb d_K_block_34 ?_
        refine lv_iload_n hx hb d_K_block_35 rfl (lv_at hl 2 rfl) ?_
        refine lv_iadd hx hb d_K_block_36 ?_
        refine x_top (show ((nI k) * 32) + (nI bb) = nI (32 * k + bb) from k_ix) ?_
        refine va_iald (D := D) hx hb hK hP 1 0 k_h1 rfl (k_in64 hk hbb) d_K_block_37 ?_
        refine x_top (k_b_at hk hbb) ?_
        refine lv_i2l (v := (z (7 + k) bb).toInt64) hx hb d_K_block_38 rfl ?_
        refine lv_goto (tgt := 49) hx hb d_K_block_39 (by decide) ?_
        exact x_rl (by subst er1 er3; first | (simp only [k_block, if_pos c2, if_pos c4, if_neg c5, x_cl hk, x_cl32 (show bb < 32 by omega)]; done) | (with_reducible rfl) | (simp only [k_block, if_pos c2, if_pos c4, if_neg c5, x_cl hk, x_cl32 (show bb < 32 by omega)]; with_reducible rfl)) hx hb hr hlk hP hD hS d_K_block_49
    · refine lv_ldc2 (v := (-1000000000000)) hx hb hown (hts (.constantLong R_K 106 (-1000000000000)) gm_525) d_K_block_19 ?_
      exact x_rl (by subst er1 er3; first | (simp only [k_block, if_pos c2, if_neg c4, x_cl hk]; done) | (with_reducible rfl) | (simp only [k_block, if_pos c2, if_neg c4, x_cl hk]; with_reducible rfl)) hx hb hr hlk hP hD hS d_K_block_22
set_option maxHeartbeats 4000000 in
set_option maxRecDepth 100000 in
theorem c_K_mirror_ok (l : Launch) (D : va_G) (cI cZ : ClassId) (kd : Nat → Nat) (z : x_S) (w : Int32) : x_C l y_K_mirror c_K_mirror 2 (some .int) { frames := 0, cells := 0, slots := 0, locals := 0 } D (k_ty cI cZ) (k_w cI cZ kd z) [.ref (kd 0), .int w] (some (.int (k_mirror z w))) (k_w cI cZ kd z) := by
  refine x_C.of (by decide) (Nat.le_of_ble_eq_true rfl) ?_
  intro p e s m below meth c hx hb hr hml hts hown hlk A hA hK hS hP hD ls hl
  have hown : s.vm.findClass R_K = some m.cls := hown
  have hl : lv_has ls 2 [(0, .ref (kd 0)), (1, .int w)] := hl
  refine lv_iload_n hx hb d_K_mirror_0 rfl (lv_at hl 1 rfl) ?_
  rcases x_sw 7 w with hsw | ⟨jj, hjj, ejj⟩
  · refine lv_tableOut (tgt := 107) hx hb d_K_mirror_1 hsw (by decide) ?_
    have hne0 : ¬ w = 0 := by rintro rfl; revert hsw; decide
    have hne1 : ¬ w = 1 := by rintro rfl; revert hsw; decide
    have hne2 : ¬ w = 2 := by rintro rfl; revert hsw; decide
    have hne3 : ¬ w = 3 := by rintro rfl; revert hsw; decide
    have hne4 : ¬ w = 4 := by rintro rfl; revert hsw; decide
    have hne5 : ¬ w = 5 := by rintro rfl; revert hsw; decide
    have hne6 : ¬ w = 6 := by rintro rfl; revert hsw; decide
    refine lv_iconst (v := (-1)) hx hb d_K_mirror_107 (by decide) ?_
    exact x_rp (by first | (simp only [k_mirror, if_neg hne0, if_neg hne1, if_neg hne2, if_neg hne3, if_neg hne4, if_neg hne5, if_neg hne6]; done) | (with_reducible rfl) | (simp only [k_mirror, if_neg hne0, if_neg hne1, if_neg hne2, if_neg hne3, if_neg hne4, if_neg hne5, if_neg hne6]; with_reducible rfl)) hx hb hr hlk hP hD hS d_K_mirror_108
  · subst ejj
    match jj, hjj with
    | 0, _ =>
      refine lv_tableIn (off := 43) (tgt := 44) hx hb d_K_mirror_1 (by decide) (by decide) rfl (by decide) ?_
      refine lv_aload_n hx hb d_K_mirror_44 rfl (lv_at hl 0 rfl) ?_
      refine va_get (D := D) (ci := 5) (C := R_K) (T := T_K) (N := 21) hx hb hts in_K hown hK hP 0 k_h0 rfl 13 (by decide) (hts _ gm_413) (fun _ h9 => h9) rfl d_K_mirror_45 ?_
      refine lv_if_eq (tgt := 55) hx hb d_K_mirror_48 (by decide) (fun c1 => ?_) (fun c1 => ?_)
      · refine lv_iconst (v := 0) hx hb d_K_mirror_55 (by decide) ?_
        exact x_rp (by first | (simp only [k_mirror, if_pos (by decide : nI 0 = 0), if_pos c1]; done) | (with_reducible rfl) | (simp only [k_mirror, if_pos (by decide : nI 0 = 0), if_pos c1]; with_reducible rfl)) hx hb hr hlk hP hD hS d_K_mirror_56
      · refine lv_iconst (v := 1) hx hb d_K_mirror_51 (by decide) ?_
        refine lv_goto (tgt := 56) hx hb d_K_mirror_52 (by decide) ?_
        exact x_rp (by first | (simp only [k_mirror, if_pos (by decide : nI 0 = 0), if_neg c1]; done) | (with_reducible rfl) | (simp only [k_mirror, if_pos (by decide : nI 0 = 0), if_neg c1]; with_reducible rfl)) hx hb hr hlk hP hD hS d_K_mirror_56
    | 1, _ =>
      refine lv_tableIn (off := 56) (tgt := 57) hx hb d_K_mirror_1 (by decide) (by decide) rfl (by decide) ?_
      refine lv_aload_n hx hb d_K_mirror_57 rfl (lv_at hl 0 rfl) ?_
      refine va_get (D := D) (ci := 5) (C := R_K) (T := T_K) (N := 21) hx hb hts in_K hown hK hP 0 k_h0 rfl 11 (by decide) (hts _ gm_411) (fun _ h9 => h9) rfl d_K_mirror_58 ?_
      exact x_rp (by first | (simp only [k_mirror, if_neg (by decide : ¬ nI 1 = 0), if_pos (by decide : nI 1 = 1)]; done) | (with_reducible rfl) | (simp only [k_mirror, if_neg (by decide : ¬ nI 1 = 0), if_pos (by decide : nI 1 = 1)]; with_reducible rfl)) hx hb hr hlk hP hD hS d_K_mirror_61
    | 2, _ =>
      refine lv_tableIn (off := 61) (tgt := 62) hx hb d_K_mirror_1 (by decide) (by decide) rfl (by decide) ?_
      refine lv_aload_n hx hb d_K_mirror_62 rfl (lv_at hl 0 rfl) ?_
      refine va_get (D := D) (ci := 5) (C := R_K) (T := T_K) (N := 21) hx hb hts in_K hown hK hP 0 k_h0 rfl 15 (by decide) (hts _ gm_415) (fun _ h9 => h9) rfl d_K_mirror_63 ?_
      exact x_rp (by first | (simp only [k_mirror, if_neg (by decide : ¬ nI 2 = 0), if_neg (by decide : ¬ nI 2 = 1), if_pos (by decide : nI 2 = 2)]; done) | (with_reducible rfl) | (simp only [k_mirror, if_neg (by decide : ¬ nI 2 = 0), if_neg (by decide : ¬ nI 2 = 1), if_pos (by decide : nI 2 = 2)]; with_reducible rfl)) hx hb hr hlk hP hD hS d_K_mirror_66
    | 3, _ =>
      refine lv_tableIn (off := 66) (tgt := 67) hx hb d_K_mirror_1 (by decide) (by decide) rfl (by decide) ?_
      refine lv_aload_n hx hb d_K_mirror_67 rfl (lv_at hl 0 rfl) ?_
      refine va_get (D := D) (ci := 5) (C := R_K) (T := T_K) (N := 21) hx hb hts in_K hown hK hP 0 k_h0 rfl 12 (by decide) (hts _ gm_412) (fun _ h9 => h9) rfl d_K_mirror_68 ?_
      exact x_rp (by first | (simp only [k_mirror, if_neg (by decide : ¬ nI 3 = 0), if_neg (by decide : ¬ nI 3 = 1), if_neg (by decide : ¬ nI 3 = 2), if_pos (by decide : nI 3 = 3)]; done) | (with_reducible rfl) | (simp only [k_mirror, if_neg (by decide : ¬ nI 3 = 0), if_neg (by decide : ¬ nI 3 = 1), if_neg (by decide : ¬ nI 3 = 2), if_pos (by decide : nI 3 = 3)]; with_reducible rfl)) hx hb hr hlk hP hD hS d_K_mirror_71
    | 4, _ =>
      refine lv_tableIn (off := 71) (tgt := 72) hx hb d_K_mirror_1 (by decide) (by decide) rfl (by decide) ?_
      refine lv_aload_n hx hb d_K_mirror_72 rfl (lv_at hl 0 rfl) ?_
      refine va_get (D := D) (ci := 5) (C := R_K) (T := T_K) (N := 21) hx hb hts in_K hown hK hP 0 k_h0 rfl 12 (by decide) (hts _ gm_412) (fun _ h9 => h9) rfl d_K_mirror_73 ?_
      refine lv_iconst (v := 2) hx hb d_K_mirror_76 (by decide) ?_
      refine lv_icmp_ne (tgt := 84) hx hb d_K_mirror_77 (by decide) (fun c2 => ?_) (fun c2 => ?_)
      · refine lv_aload_n hx hb d_K_mirror_84 rfl (lv_at hl 0 rfl) ?_
        refine va_get (D := D) (ci := 5) (C := R_K) (T := T_K) (N := 21) hx hb hts in_K hown hK hP 0 k_h0 rfl 17 (by decide) (hts _ gm_417) (fun _ h9 => h9) rfl d_K_mirror_85 ?_
        exact x_rp (by first | (simp only [k_mirror, if_neg (by decide : ¬ nI 4 = 0), if_neg (by decide : ¬ nI 4 = 1), if_neg (by decide : ¬ nI 4 = 2), if_neg (by decide : ¬ nI 4 = 3), if_pos (by decide : nI 4 = 4), if_neg c2]; done) | (with_reducible rfl) | (simp only [k_mirror, if_neg (by decide : ¬ nI 4 = 0), if_neg (by decide : ¬ nI 4 = 1), if_neg (by decide : ¬ nI 4 = 2), if_neg (by decide : ¬ nI 4 = 3), if_pos (by decide : nI 4 = 4), if_neg c2]; with_reducible rfl)) hx hb hr hlk hP hD hS d_K_mirror_88
      · refine lv_iconst (v := 0) hx hb d_K_mirror_80 (by decide) ?_
        refine lv_goto (tgt := 88) hx hb d_K_mirror_81 (by decide) ?_
        exact x_rp (by first | (simp only [k_mirror, if_neg (by decide : ¬ nI 4 = 0), if_neg (by decide : ¬ nI 4 = 1), if_neg (by decide : ¬ nI 4 = 2), if_neg (by decide : ¬ nI 4 = 3), if_pos (by decide : nI 4 = 4), if_pos c2]; done) | (with_reducible rfl) | (simp only [k_mirror, if_neg (by decide : ¬ nI 4 = 0), if_neg (by decide : ¬ nI 4 = 1), if_neg (by decide : ¬ nI 4 = 2), if_neg (by decide : ¬ nI 4 = 3), if_pos (by decide : nI 4 = 4), if_pos c2]; with_reducible rfl)) hx hb hr hlk hP hD hS d_K_mirror_88
    | 5, _ =>
      refine lv_tableIn (off := 88) (tgt := 89) hx hb d_K_mirror_1 (by decide) (by decide) rfl (by decide) ?_
      refine lv_aload_n hx hb d_K_mirror_89 rfl (lv_at hl 0 rfl) ?_
      refine va_get (D := D) (ci := 5) (C := R_K) (T := T_K) (N := 21) hx hb hts in_K hown hK hP 0 k_h0 rfl 18 (by decide) (hts _ gm_418) (fun _ h9 => h9) rfl d_K_mirror_90 ?_
      exact x_rp (by first | (simp only [k_mirror, if_neg (by decide : ¬ nI 5 = 0), if_neg (by decide : ¬ nI 5 = 1), if_neg (by decide : ¬ nI 5 = 2), if_neg (by decide : ¬ nI 5 = 3), if_neg (by decide : ¬ nI 5 = 4), if_pos (by decide : nI 5 = 5)]; done) | (with_reducible rfl) | (simp only [k_mirror, if_neg (by decide : ¬ nI 5 = 0), if_neg (by decide : ¬ nI 5 = 1), if_neg (by decide : ¬ nI 5 = 2), if_neg (by decide : ¬ nI 5 = 3), if_neg (by decide : ¬ nI 5 = 4), if_pos (by decide : nI 5 = 5)]; with_reducible rfl)) hx hb hr hlk hP hD hS d_K_mirror_93
    | 6, _ =>
      refine lv_tableIn (off := 93) (tgt := 94) hx hb d_K_mirror_1 (by decide) (by decide) rfl (by decide) ?_
      refine lv_aload_n hx hb d_K_mirror_94 rfl (lv_at hl 0 rfl) ?_
      refine va_get (D := D) (ci := 5) (C := R_K) (T := T_K) (N := 21) hx hb hts in_K hown hK hP 0 k_h0 rfl 14 (by decide) (hts _ gm_414) (fun _ h9 => h9) rfl d_K_mirror_95 ?_
      refine lv_if_eq (tgt := 105) hx hb d_K_mirror_98 (by decide) (fun c3 => ?_) (fun c3 => ?_)
      · refine lv_iconst (v := 0) hx hb d_K_mirror_105 (by decide) ?_
        exact x_rp (by first | (simp only [k_mirror, if_neg (by decide : ¬ nI 6 = 0), if_neg (by decide : ¬ nI 6 = 1), if_neg (by decide : ¬ nI 6 = 2), if_neg (by decide : ¬ nI 6 = 3), if_neg (by decide : ¬ nI 6 = 4), if_neg (by decide : ¬ nI 6 = 5), if_pos (by decide : nI 6 = 6), if_pos c3]; done) | (with_reducible rfl) | (simp only [k_mirror, if_neg (by decide : ¬ nI 6 = 0), if_neg (by decide : ¬ nI 6 = 1), if_neg (by decide : ¬ nI 6 = 2), if_neg (by decide : ¬ nI 6 = 3), if_neg (by decide : ¬ nI 6 = 4), if_neg (by decide : ¬ nI 6 = 5), if_pos (by decide : nI 6 = 6), if_pos c3]; with_reducible rfl)) hx hb hr hlk hP hD hS d_K_mirror_106
      · refine lv_iconst (v := 1) hx hb d_K_mirror_101 (by decide) ?_
        refine lv_goto (tgt := 106) hx hb d_K_mirror_102 (by decide) ?_
        exact x_rp (by first | (simp only [k_mirror, if_neg (by decide : ¬ nI 6 = 0), if_neg (by decide : ¬ nI 6 = 1), if_neg (by decide : ¬ nI 6 = 2), if_neg (by decide : ¬ nI 6 = 3), if_neg (by decide : ¬ nI 6 = 4), if_neg (by decide : ¬ nI 6 = 5), if_pos (by decide : nI 6 = 6), if_neg c3]; done) | (with_reducible rfl) | (simp only [k_mirror, if_neg (by decide : ¬ nI 6 = 0), if_neg (by decide : ¬ nI 6 = 1), if_neg (by decide : ¬ nI 6 = 2), if_neg (by decide : ¬ nI 6 = 3), if_neg (by decide : ¬ nI 6 = 4), if_neg (by decide : ¬ nI 6 = 5), if_pos (by decide : nI 6 = 6), if_neg c3]; with_reducible rfl)) hx hb hr hlk hP hD hS d_K_mirror_106
    | jj + 7, h => exact absurd h (by omega)
