-- ===== 24.k2a: the reference: public calls
set_option maxHeartbeats 4000000 in
set_option maxRecDepth 100000 in
theorem c_K_stage_ok (l : Launch) (D : va_G) (cI cZ : ClassId) (kd : Nat → Nat) (z : x_S) (n : Nat) (hn : n ≤ 3) (hz : z 2 0 = nI n) (a v : Int32) : x_C l y_K_stage c_K_stage 3 (some .int) { frames := 1, cells := 0, slots := 0, locals := 22 } D (k_ty cI cZ) (k_w cI cZ kd z) [.ref (kd 0), .int a, .int v] (some (.int (k_stage z n a v).1)) (k_w cI cZ kd (k_stage z n a v).2) := by
  refine x_C.of (by decide) (Nat.le_of_ble_eq_true rfl) ?_
  intro p e s m below meth c hx hb hr hml hts hown hlk A hA hK hS hP hD ls hl
  have hown : s.vm.findClass R_K = some m.cls := hown
  have hl : lv_has ls 3 [(0, .ref (kd 0)), (1, .int a), (2, .int v)] := hl
  refine lv_aload_n hx hb d_K_stage_0 rfl (lv_at hl 0 rfl) ?_
  refine lv_iload_n hx hb d_K_stage_1 rfl (lv_at hl 1 rfl) ?_
  refine lv_bipush (v := 24) hx hb d_K_stage_2 (by decide) ?_
  refine x_V (rest := []) ⟨hx, hb, hml, hown, hts⟩ (c_K_out_ok l D cI cZ kd z a 24) gm_469 gm_471 gm_15 gm_34 gm_472 ⟨rfl, rfl⟩ hd_K_out ⟨Nat.le_of_ble_eq_true rfl, Nat.le_of_ble_eq_true rfl⟩ hK hP hD hS hA (va_recv hK hP (ci := 5) (q0 := 0) rfl k_h0) rfl hl.1 rfl (Nat.le_of_ble_eq_true rfl) d_K_stage_4 ⟨Nat.le_of_ble_eq_true rfl, Nat.le_of_ble_eq_true rfl⟩ (fun H locs hP hD hS => ?_)
  refine lv_topi (fun r1 er1 => ?_)
  refine lv_if_ne (tgt := 18) hx hb d_K_stage_7 (by decide) (fun c2 => ?_) (fun c2 => ?_)
  · refine lv_iconst (v := (-1)) hx hb d_K_stage_18 (by decide) ?_
    exact x_ri (w := k_w cI cZ kd) (by subst er1; first | (simp only [k_stage, if_neg c2]; done) | (with_reducible rfl) | (simp only [k_stage, if_neg c2]; with_reducible rfl)) hx hb hr hlk hP hD hS d_K_stage_19
  · refine lv_aload_n hx hb d_K_stage_10 rfl (lv_at hl 0 rfl) ?_
    refine va_get (D := D) (ci := 5) (C := R_K) (T := T_K) (N := 21) hx hb hts in_K hown hK hP 0 k_h0 rfl 10 (by decide) (hts _ gm_410) (fun _ h9 => h9) rfl d_K_stage_11 ?_
    refine lv_iconst (v := 2) hx hb d_K_stage_14 (by decide) ?_
    refine lv_icmp_ne (tgt := 20) hx hb d_K_stage_15 (by decide) (fun c3 => ?_) (fun c3 => ?_)
    · refine lv_aload_n hx hb d_K_stage_20 rfl (lv_at hl 0 rfl) ?_
      refine va_get (D := D) (ci := 5) (C := R_K) (T := T_K) (N := 21) hx hb hts in_K hown hK hP 0 k_h0 rfl 18 (by decide) (hts _ gm_418) (fun _ h9 => h9) rfl d_K_stage_21 ?_
      refine x_top (show z 2 0 = nI n by subst er1; exact hz) ?_
      refine lv_iconst (v := 3) hx hb d_K_stage_24 (by decide) ?_
      refine lv_icmp_ne (tgt := 31) hx hb d_K_stage_25 (by decide) (fun c4 => ?_) (fun c4 => ?_)
      · have c4 : ¬ n = 3 := fun h => c4 ((nI_eq (a := n) (b := 3) (by omega) (by omega)).mpr h)
        refine lv_aload_n hx hb d_K_stage_31 rfl (lv_at hl 0 rfl) ?_
        refine va_get (D := D) (ci := 5) (C := R_K) (T := T_K) (N := 21) hx hb hts in_K hown hK hP 0 k_h0 rfl 19 (by decide) (hts _ gm_419) (fun _ h9 => h9) rfl d_K_stage_32 ?_
        refine lv_aload_n hx hb d_K_stage_35 rfl (lv_at hl 0 rfl) ?_
        refine va_get (D := D) (ci := 5) (C := R_K) (T := T_K) (N := 21) hx hb hts in_K hown hK hP 0 k_h0 rfl 18 (by decide) (hts _ gm_418) (fun _ h9 => h9) rfl d_K_stage_36 ?_
        refine x_top (show z 2 0 = nI n by subst er1; exact hz) ?_
        refine lv_iload_n hx hb d_K_stage_39 rfl (lv_at hl 1 rfl) ?_
        refine va_iast (D := D) hx hb hK hP hD hS 10 0 k_h10 rfl (x_in3 (by omega)) d_K_stage_40 (fun H locs hP hD hS => ?_)
        obtain ⟨z5, ez5⟩ : ∃ zt_ : x_S, zt_ = x_up z 3 n a := ⟨_, rfl⟩
        rw [x_cl3 (by omega)] at hP hD
        have hP : va_P D vwCl (k_w cI cZ kd z5) H := by rw [ez5]; exact (k_s10 n a) ▸ hP
        have hD : va_D A (k_w cI cZ kd z5) := by rw [ez5]; exact (k_s10 n a) ▸ hD
        refine lv_aload_n hx hb d_K_stage_41 rfl (lv_at hl 0 rfl) ?_
        refine va_get (D := D) (ci := 5) (C := R_K) (T := T_K) (N := 21) hx hb hts in_K hown hK hP 0 k_h0 rfl 20 (by decide) (hts _ gm_420) (fun _ h9 => h9) rfl d_K_stage_42 ?_
        refine lv_aload_n hx hb d_K_stage_45 rfl (lv_at hl 0 rfl) ?_
        refine va_get (D := D) (ci := 5) (C := R_K) (T := T_K) (N := 21) hx hb hts in_K hown hK hP 0 k_h0 rfl 18 (by decide) (hts _ gm_418) (fun _ h9 => h9) rfl d_K_stage_46 ?_
        refine x_top (show z5 2 0 = nI n by subst er1 ez5; exact hz) ?_
        refine lv_iload_n hx hb d_K_stage_49 rfl (lv_at hl 2 rfl) ?_
        refine va_iast (D := D) hx hb hK hP hD hS 11 0 k_h11 rfl (x_in3 (by omega)) d_K_stage_50 (fun H locs hP hD hS => ?_)
        obtain ⟨z6, ez6⟩ : ∃ zt_ : x_S, zt_ = x_up z5 4 n v := ⟨_, rfl⟩
        rw [x_cl3 (by omega)] at hP hD
        have hP : va_P D vwCl (k_w cI cZ kd z6) H := by rw [ez6]; exact (k_s11 n v) ▸ hP
        have hD : va_D A (k_w cI cZ kd z6) := by rw [ez6]; exact (k_s11 n v) ▸ hD
        refine lv_aload_n hx hb d_K_stage_51 rfl (lv_at hl 0 rfl) ?_
        refine lv_dup hx hb d_K_stage_52 rfl ?_
        refine va_get (D := D) (ci := 5) (C := R_K) (T := T_K) (N := 21) hx hb hts in_K hown hK hP 0 k_h0 rfl 18 (by decide) (hts _ gm_418) (fun _ h9 => h9) rfl d_K_stage_53 ?_
        refine x_top (show z6 2 0 = nI n by subst er1 ez5 ez6; exact hz) ?_
        refine lv_iconst (v := 1) hx hb d_K_stage_56 (by decide) ?_
        refine lv_iadd hx hb d_K_stage_57 ?_
        refine va_put (D := D) (ci := 5) (v := .int ((nI n) + 1)) (ty := .int) (C := R_K) (T := T_K) (N := 21) hx hb hts in_K fy_K fy_K_ok n_K hown hK hP hD hS 0 k_h0 rfl 18 (by decide) (hts _ gm_418) (fun _ h9 => h9) rfl (by decide +kernel) rfl rfl (Nat.le_of_ble_eq_true rfl) d_K_stage_58 (fun H locs hP hD hS => ?_)
        obtain ⟨z7, ez7⟩ : ∃ zt_ : x_S, zt_ = x_up z6 2 0 ((nI n) + 1) := ⟨_, rfl⟩
        have hP : va_P D vwCl (k_w cI cZ kd z7) H := by rw [ez7]; exact (k_s0_18 ((nI n) + 1)) ▸ hP
        have hD : va_D A (k_w cI cZ kd z7) := by rw [ez7]; exact (k_s0_18 ((nI n) + 1)) ▸ hD
        refine lv_aload_n hx hb d_K_stage_61 rfl (lv_at hl 0 rfl) ?_
        refine va_get (D := D) (ci := 5) (C := R_K) (T := T_K) (N := 21) hx hb hts in_K hown hK hP 0 k_h0 rfl 18 (by decide) (hts _ gm_418) (fun _ h9 => h9) rfl d_K_stage_62 ?_
        exact x_ri (w := k_w cI cZ kd) (by subst er1 ez5 ez6 ez7; first | (simp only [k_stage, if_pos c2, if_neg c3, if_neg c4]; done) | (with_reducible rfl) | (simp only [k_stage, if_pos c2, if_neg c3, if_neg c4]; with_reducible rfl)) hx hb hr hlk hP hD hS d_K_stage_65
      · have c4 : n = 3 := (nI_eq (a := n) (b := 3) (by omega) (by omega)).mp c4
        refine lv_bipush (v := (-2)) hx hb d_K_stage_28 (by decide) ?_
        exact x_ri (w := k_w cI cZ kd) (by subst er1; first | (simp only [k_stage, if_pos c2, if_neg c3, if_pos c4]; done) | (with_reducible rfl) | (simp only [k_stage, if_pos c2, if_neg c3, if_pos c4]; with_reducible rfl)) hx hb hr hlk hP hD hS d_K_stage_30
    · refine lv_iconst (v := (-1)) hx hb d_K_stage_18 (by decide) ?_
      exact x_ri (w := k_w cI cZ kd) (by subst er1; first | (simp only [k_stage, if_pos c2, if_pos c3]; done) | (with_reducible rfl) | (simp only [k_stage, if_pos c2, if_pos c3]; with_reducible rfl)) hx hb hr hlk hP hD hS d_K_stage_19
set_option maxHeartbeats 4000000 in
set_option maxRecDepth 100000 in
theorem c_K_cell_ok (l : Launch) (D : va_G) (cI cZ : ClassId) (kd : Nat → Nat) (z : x_S) (k : Nat) (hk : k < 2) (hq : ¬ z 0 6 = 2 → z 0 6 = nI k) (a : Int32) : x_C l y_K_cell c_K_cell 2 (some .long) { frames := 1, cells := 0, slots := 0, locals := 22 } D (k_ty cI cZ) (k_w cI cZ kd z) [.ref (kd 0), .int a] (some (.long (k_cell z k a))) (k_w cI cZ kd z) := by
  refine x_C.of (by decide) (Nat.le_of_ble_eq_true rfl) ?_
  intro p e s m below meth c hx hb hr hml hts hown hlk A hA hK hS hP hD ls hl
  have hown : s.vm.findClass R_K = some m.cls := hown
  have hl : lv_has ls 2 [(0, .ref (kd 0)), (1, .int a)] := hl
  refine lv_aload_n hx hb d_K_cell_0 rfl (lv_at hl 0 rfl) ?_
  refine lv_iload_n hx hb d_K_cell_1 rfl (lv_at hl 1 rfl) ?_
  refine lv_bipush (v := 24) hx hb d_K_cell_2 (by decide) ?_
  refine x_V (rest := []) ⟨hx, hb, hml, hown, hts⟩ (c_K_out_ok l D cI cZ kd z a 24) gm_469 gm_471 gm_15 gm_34 gm_472 ⟨rfl, rfl⟩ hd_K_out ⟨Nat.le_of_ble_eq_true rfl, Nat.le_of_ble_eq_true rfl⟩ hK hP hD hS hA (va_recv hK hP (ci := 5) (q0 := 0) rfl k_h0) rfl hl.1 rfl (Nat.le_of_ble_eq_true rfl) d_K_cell_4 ⟨Nat.le_of_ble_eq_true rfl, Nat.le_of_ble_eq_true rfl⟩ (fun H locs hP hD hS => ?_)
  refine lv_topi (fun r1 er1 => ?_)
  refine lv_if_ne (tgt := 18) hx hb d_K_cell_7 (by decide) (fun c2 => ?_) (fun c2 => ?_)
  · refine lv_ldc2 (v := (-1000000000000)) hx hb hown (hts (.constantLong R_K 106 (-1000000000000)) gm_525) d_K_cell_18 ?_
    refine lv_goto (tgt := 34) hx hb d_K_cell_21 (by decide) ?_
    exact x_rl (by subst er1; first | (simp only [k_cell, if_neg c2]; done) | (with_reducible rfl) | (simp only [k_cell, if_neg c2]; with_reducible rfl)) hx hb hr hlk hP hD hS d_K_cell_34
  · obtain ⟨bb, hbb, ebb⟩ := k_out24 (v := a) (by rw [← er1]; exact c2)
    subst ebb
    refine lv_aload_n hx hb d_K_cell_10 rfl (lv_at hl 0 rfl) ?_
    refine va_get (D := D) (ci := 5) (C := R_K) (T := T_K) (N := 21) hx hb hts in_K hown hK hP 0 k_h0 rfl 10 (by decide) (hts _ gm_410) (fun _ h9 => h9) rfl d_K_cell_11 ?_
    refine lv_iconst (v := 2) hx hb d_K_cell_14 (by decide) ?_
    refine lv_icmp_ne (tgt := 24) hx hb d_K_cell_15 (by decide) (fun c3 => ?_) (fun c3 => ?_)
    · have hp := hq c3
      refine lv_aload_n hx hb d_K_cell_24 rfl (lv_at hl 0 rfl) ?_
      refine lv_aload_n hx hb d_K_cell_25 rfl (lv_at hl 0 rfl) ?_
      refine va_get (D := D) (ci := 5) (C := R_K) (T := T_K) (N := 21) hx hb hts in_K hown hK hP 0 k_h0 rfl 10 (by decide) (hts _ gm_410) (fun _ h9 => h9) rfl d_K_cell_26 ?_
      refine x_top (show z 0 6 = nI k by subst er1; first | exact hp | (rw [k_keep_low (by decide)]; exact hp) | (rw [k_settle_low (by decide)]; exact hp)) ?_
      refine lv_iload_n hx hb d_K_cell_29 rfl (lv_at hl 1 rfl) ?_
      refine x_V (rest := []) ⟨hx, hb, hml, hown, hts⟩ (c_K_holds_ok l D cI cZ kd z k hk bb (by omega)) gm_493 gm_495 gm_20 gm_34 gm_496 ⟨rfl, rfl⟩ hd_K_holds ⟨Nat.le_of_ble_eq_true rfl, Nat.le_of_ble_eq_true rfl⟩ hK hP hD hS hA (va_recv hK hP (ci := 5) (q0 := 0) rfl k_h0) rfl hl.1 rfl (Nat.le_of_ble_eq_true rfl) d_K_cell_30 ⟨Nat.le_of_ble_eq_true rfl, Nat.le_of_ble_eq_true rfl⟩ (fun H locs hP hD hS => ?_)
      refine lv_topi (fun r4 er4 => ?_)
      refine lv_i2l (v := r4.toInt64) hx hb d_K_cell_33 rfl ?_
      exact x_rl (by subst er1 er4; first | (simp only [k_cell, if_pos c2, if_neg c3, x_cl32 (show bb < 32 by omega)]; done) | (with_reducible rfl) | (simp only [k_cell, if_pos c2, if_neg c3, x_cl32 (show bb < 32 by omega)]; with_reducible rfl)) hx hb hr hlk hP hD hS d_K_cell_34
    · refine lv_ldc2 (v := (-1000000000000)) hx hb hown (hts (.constantLong R_K 106 (-1000000000000)) gm_525) d_K_cell_18 ?_
      refine lv_goto (tgt := 34) hx hb d_K_cell_21 (by decide) ?_
      exact x_rl (by subst er1; first | (simp only [k_cell, if_pos c2, if_pos c3, x_cl32 (show bb < 32 by omega)]; done) | (with_reducible rfl) | (simp only [k_cell, if_pos c2, if_pos c3, x_cl32 (show bb < 32 by omega)]; with_reducible rfl)) hx hb hr hlk hP hD hS d_K_cell_34
set_option maxHeartbeats 4000000 in
set_option maxRecDepth 100000 in
theorem c_K_crash_ok (l : Launch) (D : va_G) (cI cZ : ClassId) (kd : Nat → Nat) (z : x_S) (a keep : Int32) : x_C l y_K_crash c_K_crash 4 (some .int) { frames := 1, cells := 0, slots := 0, locals := 22 } D (k_ty cI cZ) (k_w cI cZ kd z) [.ref (kd 0), .int a, .int keep] (some (.int (k_crash z a keep).1)) (k_w cI cZ kd (k_crash z a keep).2) := by
  refine x_C.of (by decide) (Nat.le_of_ble_eq_true rfl) ?_
  intro p e s m below meth c hx hb hr hml hts hown hlk A hA hK hS hP hD ls hl
  have hown : s.vm.findClass R_K = some m.cls := hown
  have hl : lv_has ls 4 [(0, .ref (kd 0)), (1, .int a), (2, .int keep)] := hl
  have lpo : ∀ (k : Nat) (hk : k < 2), a = nI k → k_crash z a keep = (0, k_crT (k_crL k keep 32 0 z) k) → ∀ (H : Heap) (locs : List Loc) (ls : Array Slot), va_P D vwCl (k_w cI cZ kd z) H → va_D A (k_w cI cZ kd z) → va_S A s.heap H locs → lv_has ls 4 [(3, .int (nI 0)), (0, .ref (kd 0)), (1, .int (nI k)), (2, .int keep)] → W p l e { frames := 1, cells := 0, slots := 0, locals := 22 } s m [.ref (kd 0), .int a, .int keep].toArray below meth c H locs 0 0 (MQ below (x_Q (some (.int (k_crash z a keep).1)) D (k_w cI cZ kd (k_crash z a keep).2) A) [.ref (kd 0), .int a, .int keep].toArray s 0 0 A) (F0 m 22 ls []) := by
    intro k hk ek hG
    have lp : ∀ (n i : Nat) (y : x_S) (H : Heap) (locs : List Loc) (ls : Array Slot), i + n = 32 → k_crash z a keep = (0, k_crT (k_crL k keep n i y) k) → va_P D vwCl (k_w cI cZ kd y) H → va_D A (k_w cI cZ kd y) → va_S A s.heap H locs → lv_has ls 4 [(3, .int (nI i)), (0, .ref (kd 0)), (1, .int (nI k)), (2, .int keep)] → W p l e { frames := 1, cells := 0, slots := 0, locals := 22 } s m [.ref (kd 0), .int a, .int keep].toArray below meth c H locs 0 0 (MQ below (x_Q (some (.int (k_crash z a keep).1)) D (k_w cI cZ kd (k_crash z a keep).2) A) [.ref (kd 0), .int a, .int keep].toArray s 0 0 A) (F0 m 22 ls []) := by
      intro n
      induction n with
      | zero =>
        intro i y  H locs ls hn hI hP hD hS hl
        refine lv_iload_n hx hb d_K_crash_22 rfl (lv_at hl 0 rfl) ?_
        refine lv_bipush (v := 32) hx hb d_K_crash_23 (by decide) ?_
        refine lv_icmp_ge (tgt := 128) hx hb d_K_crash_25 (by decide) (fun c1 => ?_) (fun c1 => ?_)
        · refine lv_aload_n hx hb d_K_crash_128 rfl (lv_at hl 1 rfl) ?_
          refine va_get (D := D) (ci := 5) (C := R_K) (T := T_K) (N := 21) hx hb hts in_K hown hK hP 0 k_h0 rfl 4 (by decide) (hts _ gm_404) (fun _ h9 => h9) rfl d_K_crash_129 ?_
          refine lv_iload_n hx hb d_K_crash_132 rfl (lv_at hl 2 rfl) ?_
          refine lv_iconst (v := 1) hx hb d_K_crash_133 (by decide) ?_
          refine va_zast (D := D) hx hb hK hP hD hS 4 1 k_h4 rfl (x_in2 (k := k) hk) d_K_crash_134 (fun H locs hP hD hS => ?_)
          obtain ⟨z2, ez2⟩ : ∃ zt_ : x_S, zt_ = x_up y (5 + k) 0 1 := ⟨_, rfl⟩
          rw [x_cl (k := k) hk] at hP hD
          have hP : va_P D vwCl (k_w cI cZ kd z2) H := by rw [ez2]; exact (k_s4 (k := k) hk 1) ▸ hP
          have hD : va_D A (k_w cI cZ kd z2) := by rw [ez2]; exact (k_s4 (k := k) hk 1) ▸ hD
          refine lv_aload_n hx hb d_K_crash_135 rfl (lv_at hl 1 rfl) ?_
          refine va_get (D := D) (ci := 5) (C := R_K) (T := T_K) (N := 21) hx hb hts in_K hown hK hP 0 k_h0 rfl 10 (by decide) (hts _ gm_410) (fun _ h9 => h9) rfl d_K_crash_136 ?_
          refine lv_iload_n hx hb d_K_crash_139 rfl (lv_at hl 2 rfl) ?_
          refine lv_icmp_ne (tgt := 147) hx hb d_K_crash_140 (by decide) (fun c3 => ?_) (fun c3 => ?_)
          · refine lv_aload_n hx hb d_K_crash_147 rfl (lv_at hl 1 rfl) ?_
            refine x_V (rest := []) ⟨hx, hb, hml, hown, hts⟩ (c_K_disconnect_ok l D cI cZ kd z2) gm_517 gm_519 gm_25 gm_34 gm_520 ⟨rfl, rfl⟩ hd_K_disconnect ⟨Nat.le_of_ble_eq_true rfl, Nat.le_of_ble_eq_true rfl⟩ hK hP hD hS hA (va_recv hK hP (ci := 5) (q0 := 0) rfl k_h0) rfl hl.1 rfl (Nat.le_of_ble_eq_true rfl) d_K_crash_148 ⟨Nat.le_of_ble_eq_true rfl, Nat.le_of_ble_eq_true rfl⟩ (fun H locs hP hD hS => ?_)
            obtain ⟨z4, ez4⟩ : ∃ zt_ : x_S, zt_ = k_disc z2 := ⟨_, rfl⟩
            rw [← ez4] at hP hD
            refine lv_iconst (v := 0) hx hb d_K_crash_151 (by decide) ?_
            exact x_ri (w := k_w cI cZ kd) (by subst ez2 ez4; rw [hI]; simp only [k_crL]; simp only [k_crT, if_pos c1, if_neg c3]) hx hb hr hlk hP hD hS d_K_crash_152
          · refine lv_aload_n hx hb d_K_crash_143 rfl (lv_at hl 1 rfl) ?_
            refine x_V (rest := []) ⟨hx, hb, hml, hown, hts⟩ (c_K_noPrimary_ok l D cI cZ kd z2) gm_513 gm_515 gm_24 gm_34 gm_516 ⟨rfl, rfl⟩ hd_K_noPrimary ⟨Nat.le_of_ble_eq_true rfl, Nat.le_of_ble_eq_true rfl⟩ hK hP hD hS hA (va_recv hK hP (ci := 5) (q0 := 0) rfl k_h0) rfl hl.1 rfl (Nat.le_of_ble_eq_true rfl) d_K_crash_144 ⟨Nat.le_of_ble_eq_true rfl, Nat.le_of_ble_eq_true rfl⟩ (fun H locs hP hD hS => ?_)
            obtain ⟨z5, ez5⟩ : ∃ zt_ : x_S, zt_ = k_noP z2 := ⟨_, rfl⟩
            rw [← ez5] at hP hD
            refine lv_aload_n hx hb d_K_crash_147 rfl (lv_at hl 1 rfl) ?_
            refine x_V (rest := []) ⟨hx, hb, hml, hown, hts⟩ (c_K_disconnect_ok l D cI cZ kd z5) gm_517 gm_519 gm_25 gm_34 gm_520 ⟨rfl, rfl⟩ hd_K_disconnect ⟨Nat.le_of_ble_eq_true rfl, Nat.le_of_ble_eq_true rfl⟩ hK hP hD hS hA (va_recv hK hP (ci := 5) (q0 := 0) rfl k_h0) rfl hl.1 rfl (Nat.le_of_ble_eq_true rfl) d_K_crash_148 ⟨Nat.le_of_ble_eq_true rfl, Nat.le_of_ble_eq_true rfl⟩ (fun H locs hP hD hS => ?_)
            obtain ⟨z6, ez6⟩ : ∃ zt_ : x_S, zt_ = k_disc z5 := ⟨_, rfl⟩
            rw [← ez6] at hP hD
            refine lv_iconst (v := 0) hx hb d_K_crash_151 (by decide) ?_
            exact x_ri (w := k_w cI cZ kd) (by subst ez2 ez5 ez6; rw [hI]; simp only [k_crL]; simp only [k_crT, if_pos c1, if_pos c3]) hx hb hr hlk hP hD hS d_K_crash_152
        · exact absurd (show (32 : Int32) ≤ nI i from nI_le (a := 32) (by omega) (by omega)) c1
      | succ n ih =>
        intro i y  H locs ls hn hI hP hD hS hl
        have hi : i < 32 := by omega
        refine lv_iload_n hx hb d_K_crash_22 rfl (lv_at hl 0 rfl) ?_
        refine lv_bipush (v := 32) hx hb d_K_crash_23 (by decide) ?_
        refine lv_icmp_ge (tgt := 128) hx hb d_K_crash_25 (by decide) (fun c7 => ?_) (fun c7 => ?_)
        · exact absurd c7 (show ¬ (32 : Int32) ≤ nI i from nI_ge (b := 32) (by omega) (by decide))
        · refine lv_aload_n hx hb d_K_crash_28 rfl (lv_at hl 1 rfl) ?_
          refine va_get (D := D) (ci := 5) (C := R_K) (T := T_K) (N := 21) hx hb hts in_K hown hK hP 0 k_h0 rfl 3 (by decide) (hts _ gm_403) (fun _ h9 => h9) rfl d_K_crash_29 ?_
          refine lv_iload_n hx hb d_K_crash_32 rfl (lv_at hl 2 rfl) ?_
          refine lv_bipush (v := 32) hx hb d_K_crash_33 (by decide) ?_
          refine lv_imul hx hb d_K_crash_35 ?_
          refine lv_iload_n hx hb d_K_crash_36 rfl (lv_at hl 0 rfl) ?_
          refine lv_iadd hx hb d_K_crash_37 ?_
          refine x_top (show ((nI k) * 32) + (nI i) = nI (32 * k + i) from k_ix) ?_
          refine va_zald (D := D) hx hb hK hP 3 1 k_h3 rfl (k_in64 hk hi) d_K_crash_38 ?_
          refine x_top (k_b_at hk hi) ?_
          refine lv_if_eq (tgt := 122) hx hb d_K_crash_39 (by decide) (fun c8 => ?_) (fun c8 => ?_)
          · refine lv_iinc (v := nI (i + 1)) (lv' := [(3, .int (nI (i + 1))), (0, .ref (kd 0)), (1, .int (nI k)), (2, .int keep)]) hx hb d_K_crash_122 hl (k := 0) rfl (nI_1 _) (by decide) rfl (fun ls hl => ?_)
            refine lv_goto (tgt := 22) hx hb d_K_crash_125 (by decide) ?_
            exact ih (i + 1) y H locs ls (by omega) (by rw [hI]; simp only [k_crL, k_crB, k_cr2, if_neg c7, if_pos c8]) hP hD hS (lv_sub hl [0, 1, 2, 3] rfl)
          · refine lv_aload_n hx hb d_K_crash_42 rfl (lv_at hl 1 rfl) ?_
            refine va_get (D := D) (ci := 5) (C := R_K) (T := T_K) (N := 21) hx hb hts in_K hown hK hP 0 k_h0 rfl 9 (by decide) (hts _ gm_409) (fun _ h9 => h9) rfl d_K_crash_43 ?_
            refine lv_iload_n hx hb d_K_crash_46 rfl (lv_at hl 2 rfl) ?_
            refine lv_dup2_11 hx hb d_K_crash_47 rfl rfl ?_
            refine va_iald (D := D) hx hb hK hP 9 0 k_h9 rfl (x_in2 hk) d_K_crash_48 ?_
            refine x_top (k_col_at hk) ?_
            refine lv_aload_n hx hb d_K_crash_49 rfl (lv_at hl 1 rfl) ?_
            refine lv_iload_n hx hb d_K_crash_50 rfl (lv_at hl 0 rfl) ?_
            refine x_V (rest := [.int (y (5 + k) 5), .int (nI k), .ref (kd 9)]) ⟨hx, hb, hml, hown, hts⟩ (c_K_extentBit_ok l D cI cZ kd y i) gm_505 gm_507 gm_23 gm_34 gm_508 ⟨rfl, rfl⟩ hd_K_extentBit ⟨Nat.le_of_ble_eq_true rfl, Nat.le_of_ble_eq_true rfl⟩ hK hP hD hS hA (va_recv hK hP (ci := 5) (q0 := 0) rfl k_h0) rfl hl.1 rfl (Nat.le_of_ble_eq_true rfl) d_K_crash_51 ⟨Nat.le_of_ble_eq_true rfl, Nat.le_of_ble_eq_true rfl⟩ (fun H locs hP hD hS => ?_)
            refine lv_topi (fun r9 er9 => ?_)
            refine lv_ior hx hb d_K_crash_54 ?_
            refine va_iast (D := D) hx hb hK hP hD hS 9 0 k_h9 rfl (x_in2 (k := k) hk) d_K_crash_55 (fun H locs hP hD hS => ?_)
            obtain ⟨z10, ez10⟩ : ∃ zt_ : x_S, zt_ = x_up y (5 + k) 5 ((y (5 + k) 5) ||| r9) := ⟨_, rfl⟩
            rw [x_cl (k := k) hk] at hP hD
            have hP : va_P D vwCl (k_w cI cZ kd z10) H := by rw [ez10]; exact (k_s9 (k := k) hk ((y (5 + k) 5) ||| r9)) ▸ hP
            have hD : va_D A (k_w cI cZ kd z10) := by rw [ez10]; exact (k_s9 (k := k) hk ((y (5 + k) 5) ||| r9)) ▸ hD
            refine lv_aload_n hx hb d_K_crash_56 rfl (lv_at hl 1 rfl) ?_
            refine va_get (D := D) (ci := 5) (C := R_K) (T := T_K) (N := 21) hx hb hts in_K hown hK hP 0 k_h0 rfl 13 (by decide) (hts _ gm_413) (fun _ h9 => h9) rfl d_K_crash_57 ?_
            refine lv_if_eq (tgt := 79) hx hb d_K_crash_60 (by decide) (fun c11 => ?_) (fun c11 => ?_)
            · refine lv_iload_n hx hb d_K_crash_79 rfl (lv_at hl 3 rfl) ?_
              refine lv_iload_n hx hb d_K_crash_80 rfl (lv_at hl 0 rfl) ?_
              refine lv_iushr (v := x_sh keep (nI i)) hx hb d_K_crash_81 rfl ?_
              refine lv_iconst (v := 1) hx hb d_K_crash_82 (by decide) ?_
              refine lv_iand hx hb d_K_crash_83 ?_
              refine lv_iconst (v := 1) hx hb d_K_crash_84 (by decide) ?_
              refine lv_icmp_ne (tgt := 110) hx hb d_K_crash_85 (by decide) (fun c12 => ?_) (fun c12 => ?_)
              · refine lv_aload_n hx hb d_K_crash_110 rfl (lv_at hl 1 rfl) ?_
                refine va_get (D := D) (ci := 5) (C := R_K) (T := T_K) (N := 21) hx hb hts in_K hown hK hP 0 k_h0 rfl 3 (by decide) (hts _ gm_403) (fun _ h9 => h9) rfl d_K_crash_111 ?_
                refine lv_iload_n hx hb d_K_crash_114 rfl (lv_at hl 2 rfl) ?_
                refine lv_bipush (v := 32) hx hb d_K_crash_115 (by decide) ?_
                refine lv_imul hx hb d_K_crash_117 ?_
                refine lv_iload_n hx hb d_K_crash_118 rfl (lv_at hl 0 rfl) ?_
                refine lv_iadd hx hb d_K_crash_119 ?_
                refine x_top (show ((nI k) * 32) + (nI i) = nI (32 * k + i) from k_ix) ?_
                refine lv_iconst (v := 0) hx hb d_K_crash_120 (by decide) ?_
                refine va_zast (D := D) hx hb hK hP hD hS 3 1 k_h3 rfl (k_in64 hk hi) d_K_crash_121 (fun H locs hP hD hS => ?_)
                obtain ⟨z13, ez13⟩ : ∃ zt_ : x_S, zt_ = x_up z10 (11 + k) i 0 := ⟨_, rfl⟩
                rw [k_cl64 hk hi] at hP hD
                have hP : va_P D vwCl (k_w cI cZ kd z13) H := by rw [ez13]; exact (k_s3 hk hi 0) ▸ hP
                have hD : va_D A (k_w cI cZ kd z13) := by rw [ez13]; exact (k_s3 hk hi 0) ▸ hD
                refine lv_iinc (v := nI (i + 1)) (lv' := [(3, .int (nI (i + 1))), (0, .ref (kd 0)), (1, .int (nI k)), (2, .int keep)]) hx hb d_K_crash_122 hl (k := 0) rfl (nI_1 _) (by decide) rfl (fun ls hl => ?_)
                refine lv_goto (tgt := 22) hx hb d_K_crash_125 (by decide) ?_
                exact ih (i + 1) z13 H locs ls (by omega) (by subst er9 ez10 ez13; rw [hI]; simp only [k_crL, k_crB, k_cr2, if_neg c7, if_neg c8, if_pos c11, if_neg c12]) hP hD hS (lv_sub hl [0, 1, 2, 3] rfl)
              · refine lv_aload_n hx hb d_K_crash_88 rfl (lv_at hl 1 rfl) ?_
                refine va_get (D := D) (ci := 5) (C := R_K) (T := T_K) (N := 21) hx hb hts in_K hown hK hP 0 k_h0 rfl 1 (by decide) (hts _ gm_401) (fun _ h9 => h9) rfl d_K_crash_89 ?_
                refine lv_iload_n hx hb d_K_crash_92 rfl (lv_at hl 2 rfl) ?_
                refine lv_bipush (v := 32) hx hb d_K_crash_93 (by decide) ?_
                refine lv_imul hx hb d_K_crash_95 ?_
                refine lv_iload_n hx hb d_K_crash_96 rfl (lv_at hl 0 rfl) ?_
                refine lv_iadd hx hb d_K_crash_97 ?_
                refine x_top (show ((nI k) * 32) + (nI i) = nI (32 * k + i) from k_ix) ?_
                refine lv_aload_n hx hb d_K_crash_98 rfl (lv_at hl 1 rfl) ?_
                refine va_get (D := D) (ci := 5) (C := R_K) (T := T_K) (N := 21) hx hb hts in_K hown hK hP 0 k_h0 rfl 2 (by decide) (hts _ gm_402) (fun _ h9 => h9) rfl d_K_crash_99 ?_
                refine lv_iload_n hx hb d_K_crash_102 rfl (lv_at hl 2 rfl) ?_
                refine lv_bipush (v := 32) hx hb d_K_crash_103 (by decide) ?_
                refine lv_imul hx hb d_K_crash_105 ?_
                refine lv_iload_n hx hb d_K_crash_106 rfl (lv_at hl 0 rfl) ?_
                refine lv_iadd hx hb d_K_crash_107 ?_
                refine x_top (show ((nI k) * 32) + (nI i) = nI (32 * k + i) from k_ix) ?_
                refine va_iald (D := D) hx hb hK hP 2 0 k_h2 rfl (k_in64 hk hi) d_K_crash_108 ?_
                refine x_top (k_b_at hk hi) ?_
                refine va_iast (D := D) hx hb hK hP hD hS 1 0 k_h1 rfl (k_in64 hk hi) d_K_crash_109 (fun H locs hP hD hS => ?_)
                obtain ⟨z14, ez14⟩ : ∃ zt_ : x_S, zt_ = x_up z10 (7 + k) i (z10 (9 + k) i) := ⟨_, rfl⟩
                rw [k_cl64 hk hi] at hP hD
                have hP : va_P D vwCl (k_w cI cZ kd z14) H := by rw [ez14]; exact (k_s1 hk hi (z10 (9 + k) i)) ▸ hP
                have hD : va_D A (k_w cI cZ kd z14) := by rw [ez14]; exact (k_s1 hk hi (z10 (9 + k) i)) ▸ hD
                refine lv_aload_n hx hb d_K_crash_110 rfl (lv_at hl 1 rfl) ?_
                refine va_get (D := D) (ci := 5) (C := R_K) (T := T_K) (N := 21) hx hb hts in_K hown hK hP 0 k_h0 rfl 3 (by decide) (hts _ gm_403) (fun _ h9 => h9) rfl d_K_crash_111 ?_
                refine lv_iload_n hx hb d_K_crash_114 rfl (lv_at hl 2 rfl) ?_
                refine lv_bipush (v := 32) hx hb d_K_crash_115 (by decide) ?_
                refine lv_imul hx hb d_K_crash_117 ?_
                refine lv_iload_n hx hb d_K_crash_118 rfl (lv_at hl 0 rfl) ?_
                refine lv_iadd hx hb d_K_crash_119 ?_
                refine x_top (show ((nI k) * 32) + (nI i) = nI (32 * k + i) from k_ix) ?_
                refine lv_iconst (v := 0) hx hb d_K_crash_120 (by decide) ?_
                refine va_zast (D := D) hx hb hK hP hD hS 3 1 k_h3 rfl (k_in64 hk hi) d_K_crash_121 (fun H locs hP hD hS => ?_)
                obtain ⟨z15, ez15⟩ : ∃ zt_ : x_S, zt_ = x_up z14 (11 + k) i 0 := ⟨_, rfl⟩
                rw [k_cl64 hk hi] at hP hD
                have hP : va_P D vwCl (k_w cI cZ kd z15) H := by rw [ez15]; exact (k_s3 hk hi 0) ▸ hP
                have hD : va_D A (k_w cI cZ kd z15) := by rw [ez15]; exact (k_s3 hk hi 0) ▸ hD
                refine lv_iinc (v := nI (i + 1)) (lv' := [(3, .int (nI (i + 1))), (0, .ref (kd 0)), (1, .int (nI k)), (2, .int keep)]) hx hb d_K_crash_122 hl (k := 0) rfl (nI_1 _) (by decide) rfl (fun ls hl => ?_)
                refine lv_goto (tgt := 22) hx hb d_K_crash_125 (by decide) ?_
                exact ih (i + 1) z15 H locs ls (by omega) (by subst er9 ez10 ez14 ez15; rw [hI]; simp only [k_crL, k_crB, k_cr2, if_neg c7, if_neg c8, if_pos c11, if_pos c12]) hP hD hS (lv_sub hl [0, 1, 2, 3] rfl)
            · refine lv_aload_n hx hb d_K_crash_63 rfl (lv_at hl 1 rfl) ?_
              refine va_get (D := D) (ci := 5) (C := R_K) (T := T_K) (N := 21) hx hb hts in_K hown hK hP 0 k_h0 rfl 9 (by decide) (hts _ gm_409) (fun _ h9 => h9) rfl d_K_crash_64 ?_
              refine lv_iconst (v := 1) hx hb d_K_crash_67 (by decide) ?_
              refine lv_iload_n hx hb d_K_crash_68 rfl (lv_at hl 2 rfl) ?_
              refine lv_isub hx hb d_K_crash_69 ?_
              refine x_top (x_1k hk) ?_
              refine lv_dup2_11 hx hb d_K_crash_70 rfl rfl ?_
              refine va_iald (D := D) hx hb hK hP 9 0 k_h9 rfl (x_in2 (x_1lt hk)) d_K_crash_71 ?_
              refine x_top (k_col_at (x_1lt hk)) ?_
              refine lv_aload_n hx hb d_K_crash_72 rfl (lv_at hl 1 rfl) ?_
              refine lv_iload_n hx hb d_K_crash_73 rfl (lv_at hl 0 rfl) ?_
              refine x_V (rest := [.int (z10 (5 + (1 - k)) 5), .int (nI (1 - k)), .ref (kd 9)]) ⟨hx, hb, hml, hown, hts⟩ (c_K_extentBit_ok l D cI cZ kd z10 i) gm_505 gm_507 gm_23 gm_34 gm_508 ⟨rfl, rfl⟩ hd_K_extentBit ⟨Nat.le_of_ble_eq_true rfl, Nat.le_of_ble_eq_true rfl⟩ hK hP hD hS hA (va_recv hK hP (ci := 5) (q0 := 0) rfl k_h0) rfl hl.1 rfl (Nat.le_of_ble_eq_true rfl) d_K_crash_74 ⟨Nat.le_of_ble_eq_true rfl, Nat.le_of_ble_eq_true rfl⟩ (fun H locs hP hD hS => ?_)
              refine lv_topi (fun r16 er16 => ?_)
              refine lv_ior hx hb d_K_crash_77 ?_
              refine va_iast (D := D) hx hb hK hP hD hS 9 0 k_h9 rfl (x_in2 (k := 1 - k) (x_1lt hk)) d_K_crash_78 (fun H locs hP hD hS => ?_)
              obtain ⟨z17, ez17⟩ : ∃ zt_ : x_S, zt_ = x_up z10 (5 + (1 - k)) 5 ((z10 (5 + (1 - k)) 5) ||| r16) := ⟨_, rfl⟩
              rw [x_cl (k := 1 - k) (x_1lt hk)] at hP hD
              have hP : va_P D vwCl (k_w cI cZ kd z17) H := by rw [ez17]; exact (k_s9 (k := 1 - k) (x_1lt hk) ((z10 (5 + (1 - k)) 5) ||| r16)) ▸ hP
              have hD : va_D A (k_w cI cZ kd z17) := by rw [ez17]; exact (k_s9 (k := 1 - k) (x_1lt hk) ((z10 (5 + (1 - k)) 5) ||| r16)) ▸ hD
              refine lv_iload_n hx hb d_K_crash_79 rfl (lv_at hl 3 rfl) ?_
              refine lv_iload_n hx hb d_K_crash_80 rfl (lv_at hl 0 rfl) ?_
              refine lv_iushr (v := x_sh keep (nI i)) hx hb d_K_crash_81 rfl ?_
              refine lv_iconst (v := 1) hx hb d_K_crash_82 (by decide) ?_
              refine lv_iand hx hb d_K_crash_83 ?_
              refine lv_iconst (v := 1) hx hb d_K_crash_84 (by decide) ?_
              refine lv_icmp_ne (tgt := 110) hx hb d_K_crash_85 (by decide) (fun c18 => ?_) (fun c18 => ?_)
              · refine lv_aload_n hx hb d_K_crash_110 rfl (lv_at hl 1 rfl) ?_
                refine va_get (D := D) (ci := 5) (C := R_K) (T := T_K) (N := 21) hx hb hts in_K hown hK hP 0 k_h0 rfl 3 (by decide) (hts _ gm_403) (fun _ h9 => h9) rfl d_K_crash_111 ?_
                refine lv_iload_n hx hb d_K_crash_114 rfl (lv_at hl 2 rfl) ?_
                refine lv_bipush (v := 32) hx hb d_K_crash_115 (by decide) ?_
                refine lv_imul hx hb d_K_crash_117 ?_
                refine lv_iload_n hx hb d_K_crash_118 rfl (lv_at hl 0 rfl) ?_
                refine lv_iadd hx hb d_K_crash_119 ?_
                refine x_top (show ((nI k) * 32) + (nI i) = nI (32 * k + i) from k_ix) ?_
                refine lv_iconst (v := 0) hx hb d_K_crash_120 (by decide) ?_
                refine va_zast (D := D) hx hb hK hP hD hS 3 1 k_h3 rfl (k_in64 hk hi) d_K_crash_121 (fun H locs hP hD hS => ?_)
                obtain ⟨z19, ez19⟩ : ∃ zt_ : x_S, zt_ = x_up z17 (11 + k) i 0 := ⟨_, rfl⟩
                rw [k_cl64 hk hi] at hP hD
                have hP : va_P D vwCl (k_w cI cZ kd z19) H := by rw [ez19]; exact (k_s3 hk hi 0) ▸ hP
                have hD : va_D A (k_w cI cZ kd z19) := by rw [ez19]; exact (k_s3 hk hi 0) ▸ hD
                refine lv_iinc (v := nI (i + 1)) (lv' := [(3, .int (nI (i + 1))), (0, .ref (kd 0)), (1, .int (nI k)), (2, .int keep)]) hx hb d_K_crash_122 hl (k := 0) rfl (nI_1 _) (by decide) rfl (fun ls hl => ?_)
                refine lv_goto (tgt := 22) hx hb d_K_crash_125 (by decide) ?_
                exact ih (i + 1) z19 H locs ls (by omega) (by subst er9 ez10 er16 ez17 ez19; rw [hI]; simp only [k_crL, k_crB, k_cr2, if_neg c7, if_neg c8, if_neg c11, if_neg c18]) hP hD hS (lv_sub hl [0, 1, 2, 3] rfl)
              · refine lv_aload_n hx hb d_K_crash_88 rfl (lv_at hl 1 rfl) ?_
                refine va_get (D := D) (ci := 5) (C := R_K) (T := T_K) (N := 21) hx hb hts in_K hown hK hP 0 k_h0 rfl 1 (by decide) (hts _ gm_401) (fun _ h9 => h9) rfl d_K_crash_89 ?_
                refine lv_iload_n hx hb d_K_crash_92 rfl (lv_at hl 2 rfl) ?_
                refine lv_bipush (v := 32) hx hb d_K_crash_93 (by decide) ?_
                refine lv_imul hx hb d_K_crash_95 ?_
                refine lv_iload_n hx hb d_K_crash_96 rfl (lv_at hl 0 rfl) ?_
                refine lv_iadd hx hb d_K_crash_97 ?_
                refine x_top (show ((nI k) * 32) + (nI i) = nI (32 * k + i) from k_ix) ?_
                refine lv_aload_n hx hb d_K_crash_98 rfl (lv_at hl 1 rfl) ?_
                refine va_get (D := D) (ci := 5) (C := R_K) (T := T_K) (N := 21) hx hb hts in_K hown hK hP 0 k_h0 rfl 2 (by decide) (hts _ gm_402) (fun _ h9 => h9) rfl d_K_crash_99 ?_
                refine lv_iload_n hx hb d_K_crash_102 rfl (lv_at hl 2 rfl) ?_
                refine lv_bipush (v := 32) hx hb d_K_crash_103 (by decide) ?_
                refine lv_imul hx hb d_K_crash_105 ?_
                refine lv_iload_n hx hb d_K_crash_106 rfl (lv_at hl 0 rfl) ?_
                refine lv_iadd hx hb d_K_crash_107 ?_
                refine x_top (show ((nI k) * 32) + (nI i) = nI (32 * k + i) from k_ix) ?_
                refine va_iald (D := D) hx hb hK hP 2 0 k_h2 rfl (k_in64 hk hi) d_K_crash_108 ?_
                refine x_top (k_b_at hk hi) ?_
                refine va_iast (D := D) hx hb hK hP hD hS 1 0 k_h1 rfl (k_in64 hk hi) d_K_crash_109 (fun H locs hP hD hS => ?_)
                obtain ⟨z20, ez20⟩ : ∃ zt_ : x_S, zt_ = x_up z17 (7 + k) i (z17 (9 + k) i) := ⟨_, rfl⟩
                rw [k_cl64 hk hi] at hP hD
                have hP : va_P D vwCl (k_w cI cZ kd z20) H := by rw [ez20]; exact (k_s1 hk hi (z17 (9 + k) i)) ▸ hP
                have hD : va_D A (k_w cI cZ kd z20) := by rw [ez20]; exact (k_s1 hk hi (z17 (9 + k) i)) ▸ hD
                refine lv_aload_n hx hb d_K_crash_110 rfl (lv_at hl 1 rfl) ?_
                refine va_get (D := D) (ci := 5) (C := R_K) (T := T_K) (N := 21) hx hb hts in_K hown hK hP 0 k_h0 rfl 3 (by decide) (hts _ gm_403) (fun _ h9 => h9) rfl d_K_crash_111 ?_
                refine lv_iload_n hx hb d_K_crash_114 rfl (lv_at hl 2 rfl) ?_
                refine lv_bipush (v := 32) hx hb d_K_crash_115 (by decide) ?_
                refine lv_imul hx hb d_K_crash_117 ?_
                refine lv_iload_n hx hb d_K_crash_118 rfl (lv_at hl 0 rfl) ?_
                refine lv_iadd hx hb d_K_crash_119 ?_
                refine x_top (show ((nI k) * 32) + (nI i) = nI (32 * k + i) from k_ix) ?_
                refine lv_iconst (v := 0) hx hb d_K_crash_120 (by decide) ?_
                refine va_zast (D := D) hx hb hK hP hD hS 3 1 k_h3 rfl (k_in64 hk hi) d_K_crash_121 (fun H locs hP hD hS => ?_)
                obtain ⟨z21, ez21⟩ : ∃ zt_ : x_S, zt_ = x_up z20 (11 + k) i 0 := ⟨_, rfl⟩
                rw [k_cl64 hk hi] at hP hD
                have hP : va_P D vwCl (k_w cI cZ kd z21) H := by rw [ez21]; exact (k_s3 hk hi 0) ▸ hP
                have hD : va_D A (k_w cI cZ kd z21) := by rw [ez21]; exact (k_s3 hk hi 0) ▸ hD
                refine lv_iinc (v := nI (i + 1)) (lv' := [(3, .int (nI (i + 1))), (0, .ref (kd 0)), (1, .int (nI k)), (2, .int keep)]) hx hb d_K_crash_122 hl (k := 0) rfl (nI_1 _) (by decide) rfl (fun ls hl => ?_)
                refine lv_goto (tgt := 22) hx hb d_K_crash_125 (by decide) ?_
                exact ih (i + 1) z21 H locs ls (by omega) (by subst er9 ez10 er16 ez17 ez20 ez21; rw [hI]; simp only [k_crL, k_crB, k_cr2, if_neg c7, if_neg c8, if_neg c11, if_pos c18]) hP hD hS (lv_sub hl [0, 1, 2, 3] rfl)
    intro H locs ls hP hD hS hl
    exact lp 32 0 z H locs ls rfl hG hP hD hS hl
  refine lv_aload_n hx hb d_K_crash_0 rfl (lv_at hl 0 rfl) ?_
  refine lv_iload_n hx hb d_K_crash_1 rfl (lv_at hl 1 rfl) ?_
  refine lv_iconst (v := 2) hx hb d_K_crash_2 (by decide) ?_
  refine x_V (rest := []) ⟨hx, hb, hml, hown, hts⟩ (c_K_out_ok l D cI cZ kd z a 2) gm_469 gm_471 gm_15 gm_34 gm_472 ⟨rfl, rfl⟩ hd_K_out ⟨Nat.le_of_ble_eq_true rfl, Nat.le_of_ble_eq_true rfl⟩ hK hP hD hS hA (va_recv hK hP (ci := 5) (q0 := 0) rfl k_h0) rfl hl.1 rfl (Nat.le_of_ble_eq_true rfl) d_K_crash_3 ⟨Nat.le_of_ble_eq_true rfl, Nat.le_of_ble_eq_true rfl⟩ (fun H locs hP hD hS => ?_)
  refine lv_topi (fun r22 er22 => ?_)
  refine lv_if_ne (tgt := 18) hx hb d_K_crash_6 (by decide) (fun c23 => ?_) (fun c23 => ?_)
  · refine lv_iconst (v := (-1)) hx hb d_K_crash_18 (by decide) ?_
    exact x_ri (w := k_w cI cZ kd) (by subst er22; first | (simp only [k_crash, if_neg c23]; done) | (with_reducible rfl) | (simp only [k_crash, if_neg c23]; with_reducible rfl)) hx hb hr hlk hP hD hS d_K_crash_19
  · obtain ⟨k, hk, ek⟩ := k_out2 (v := a) (by rw [← er22]; exact c23)
    subst ek
    refine lv_aload_n hx hb d_K_crash_9 rfl (lv_at hl 0 rfl) ?_
    refine va_get (D := D) (ci := 5) (C := R_K) (T := T_K) (N := 21) hx hb hts in_K hown hK hP 0 k_h0 rfl 4 (by decide) (hts _ gm_404) (fun _ h9 => h9) rfl d_K_crash_10 ?_
    refine lv_iload_n hx hb d_K_crash_13 rfl (lv_at hl 1 rfl) ?_
    refine va_zald (D := D) hx hb hK hP 4 1 k_h4 rfl (x_in2 hk) d_K_crash_14 ?_
    refine x_top (k_col_at hk) ?_
    refine lv_if_eq (tgt := 20) hx hb d_K_crash_15 (by decide) (fun c24 => ?_) (fun c24 => ?_)
    · refine lv_iconst (v := 0) hx hb d_K_crash_20 (by decide) ?_
      refine lv_istore_n (lv' := [(3, .int 0), (0, .ref (kd 0)), (1, .int (nI k)), (2, .int keep)]) hx hb d_K_crash_21 rfl hl (by decide) rfl (fun ls hl => ?_)
      exact lpo k hk rfl (by subst er22; simp only [k_crash, if_pos c23, if_pos c24, x_cl hk]) _ _ ls hP hD hS (lv_sub hl [0, 1, 2, 3] rfl)
    · refine lv_iconst (v := (-1)) hx hb d_K_crash_18 (by decide) ?_
      exact x_ri (w := k_w cI cZ kd) (by subst er22; first | (simp only [k_crash, if_pos c23, if_neg c24, x_cl hk]; done) | (with_reducible rfl) | (simp only [k_crash, if_pos c23, if_neg c24, x_cl hk]; with_reducible rfl)) hx hb hr hlk hP hD hS d_K_crash_19
set_option maxHeartbeats 4000000 in
set_option maxRecDepth 100000 in
theorem c_K_restart_ok (l : Launch) (D : va_G) (cI cZ : ClassId) (kd : Nat → Nat) (z : x_S) (a : Int32) : x_C l y_K_restart c_K_restart 2 (some .int) { frames := 1, cells := 0, slots := 0, locals := 22 } D (k_ty cI cZ) (k_w cI cZ kd z) [.ref (kd 0), .int a] (some (.int (k_restart z a).1)) (k_w cI cZ kd (k_restart z a).2) := by
  refine x_C.of (by decide) (Nat.le_of_ble_eq_true rfl) ?_
  intro p e s m below meth c hx hb hr hml hts hown hlk A hA hK hS hP hD ls hl
  have hown : s.vm.findClass R_K = some m.cls := hown
  have hl : lv_has ls 2 [(0, .ref (kd 0)), (1, .int a)] := hl
  refine lv_aload_n hx hb d_K_restart_0 rfl (lv_at hl 0 rfl) ?_
  refine lv_iload_n hx hb d_K_restart_1 rfl (lv_at hl 1 rfl) ?_
  refine lv_iconst (v := 2) hx hb d_K_restart_2 (by decide) ?_
  refine x_V (rest := []) ⟨hx, hb, hml, hown, hts⟩ (c_K_out_ok l D cI cZ kd z a 2) gm_469 gm_471 gm_15 gm_34 gm_472 ⟨rfl, rfl⟩ hd_K_out ⟨Nat.le_of_ble_eq_true rfl, Nat.le_of_ble_eq_true rfl⟩ hK hP hD hS hA (va_recv hK hP (ci := 5) (q0 := 0) rfl k_h0) rfl hl.1 rfl (Nat.le_of_ble_eq_true rfl) d_K_restart_3 ⟨Nat.le_of_ble_eq_true rfl, Nat.le_of_ble_eq_true rfl⟩ (fun H locs hP hD hS => ?_)
  refine lv_topi (fun r1 er1 => ?_)
  refine lv_if_ne (tgt := 18) hx hb d_K_restart_6 (by decide) (fun c2 => ?_) (fun c2 => ?_)
  · refine lv_iconst (v := (-1)) hx hb d_K_restart_18 (by decide) ?_
    exact x_ri (w := k_w cI cZ kd) (by subst er1; first | (simp only [k_restart, if_neg c2]; done) | (with_reducible rfl) | (simp only [k_restart, if_neg c2]; with_reducible rfl)) hx hb hr hlk hP hD hS d_K_restart_19
  · obtain ⟨k, hk, ek⟩ := k_out2 (v := a) (by rw [← er1]; exact c2)
    subst ek
    refine lv_aload_n hx hb d_K_restart_9 rfl (lv_at hl 0 rfl) ?_
    refine va_get (D := D) (ci := 5) (C := R_K) (T := T_K) (N := 21) hx hb hts in_K hown hK hP 0 k_h0 rfl 4 (by decide) (hts _ gm_404) (fun _ h9 => h9) rfl d_K_restart_10 ?_
    refine lv_iload_n hx hb d_K_restart_13 rfl (lv_at hl 1 rfl) ?_
    refine va_zald (D := D) hx hb hK hP 4 1 k_h4 rfl (x_in2 hk) d_K_restart_14 ?_
    refine x_top (k_col_at hk) ?_
    refine lv_if_ne (tgt := 20) hx hb d_K_restart_15 (by decide) (fun c3 => ?_) (fun c3 => ?_)
    · refine lv_aload_n hx hb d_K_restart_20 rfl (lv_at hl 0 rfl) ?_
      refine va_get (D := D) (ci := 5) (C := R_K) (T := T_K) (N := 21) hx hb hts in_K hown hK hP 0 k_h0 rfl 4 (by decide) (hts _ gm_404) (fun _ h9 => h9) rfl d_K_restart_21 ?_
      refine lv_iload_n hx hb d_K_restart_24 rfl (lv_at hl 1 rfl) ?_
      refine lv_iconst (v := 0) hx hb d_K_restart_25 (by decide) ?_
      refine va_zast (D := D) hx hb hK hP hD hS 4 1 k_h4 rfl (x_in2 (k := k) hk) d_K_restart_26 (fun H locs hP hD hS => ?_)
      obtain ⟨z4, ez4⟩ : ∃ zt_ : x_S, zt_ = x_up z (5 + k) 0 0 := ⟨_, rfl⟩
      rw [x_cl (k := k) hk] at hP hD
      have hP : va_P D vwCl (k_w cI cZ kd z4) H := by rw [ez4]; exact (k_s4 (k := k) hk 0) ▸ hP
      have hD : va_D A (k_w cI cZ kd z4) := by rw [ez4]; exact (k_s4 (k := k) hk 0) ▸ hD
      refine lv_iconst (v := 0) hx hb d_K_restart_27 (by decide) ?_
      exact x_ri (w := k_w cI cZ kd) (by subst er1 ez4; first | (simp only [k_restart, if_pos c2, if_neg c3, x_cl hk]; done) | (with_reducible rfl) | (simp only [k_restart, if_pos c2, if_neg c3, x_cl hk]; with_reducible rfl)) hx hb hr hlk hP hD hS d_K_restart_28
    · refine lv_iconst (v := (-1)) hx hb d_K_restart_18 (by decide) ?_
      exact x_ri (w := k_w cI cZ kd) (by subst er1; first | (simp only [k_restart, if_pos c2, if_pos c3, x_cl hk]; done) | (with_reducible rfl) | (simp only [k_restart, if_pos c2, if_pos c3, x_cl hk]; with_reducible rfl)) hx hb hr hlk hP hD hS d_K_restart_19
