-- ===== 13.x5: the public calls
set_option maxHeartbeats 4000000 in
set_option maxRecDepth 100000 in
theorem c_M_stage_ok (l : Launch) (D : va_G) (cI cN : ClassId) (ad : Nat → Nat) (z : x_S) (n : Nat) (hn : n ≤ 3) (hz : z 2 0 = nI n) (a v : Int32) : x_C l y_M_stage c_M_stage 3 (some .int) { frames := 1, cells := 0, slots := 0, locals := 22 } D (x_ty cI cN) (x_w cI cN ad z) [.ref (ad 0), .int a, .int v] (some (.int (x_stage z n a v).1)) (x_w cI cN ad (x_stage z n a v).2) := by
  refine x_C.of (by decide) (Nat.le_of_ble_eq_true rfl) ?_
  intro p e s m below meth c hx hb hr hml hts hown hlk A hA hK hS hP hD ls hl
  have hown : s.vm.findClass R_M = some m.cls := hown
  have hl : lv_has ls 3 [(0, .ref (ad 0)), (1, .int a), (2, .int v)] := hl
  refine lv_iload_n hx hb d_M_stage_0 rfl (lv_at hl 1 rfl) ?_
  refine x_T (rest := []) ⟨hx, hb, hml, hown, hts⟩ (c_M_isCell_ok l D cI cN ad z a) gm_180 gm_181 gm_28 gm_182 ⟨rfl, rfl⟩ hd_M_isCell ⟨Nat.le_of_ble_eq_true rfl, Nat.le_of_ble_eq_true rfl⟩ hK hP hD hS hA rfl hl.1 rfl (Nat.le_of_ble_eq_true rfl) d_M_stage_1 ⟨Nat.le_of_ble_eq_true rfl, Nat.le_of_ble_eq_true rfl⟩ (fun H locs hP hD hS => ?_)
  refine lv_topi (fun r1 er1 => ?_)
  refine lv_if_eq (tgt := 15) hx hb d_M_stage_4 (by decide) (fun c2 => ?_) (fun c2 => ?_)
  · refine lv_iconst (v := (-1)) hx hb d_M_stage_15 (by decide) ?_
    exact x_ri (w := x_w cI cN ad) (by subst er1; first | (simp only [x_stage, if_pos c2]; done) | rfl | (simp only [x_stage, if_pos c2]; rfl)) hx hb hr hlk hP hD hS d_M_stage_16
  · refine lv_aload_n hx hb d_M_stage_7 rfl (lv_at hl 0 rfl) ?_
    refine x_V (rest := []) ⟨hx, hb, hml, hown, hts⟩ (c_M_findPrimary_ok l D cI cN ad z) gm_183 gm_185 gm_0 gm_28 gm_186 ⟨rfl, rfl⟩ hd_M_findPrimary ⟨Nat.le_of_ble_eq_true rfl, Nat.le_of_ble_eq_true rfl⟩ hK hP hD hS hA (va_recv hK hP (ci := 4) (q0 := 0) rfl x_hM) rfl hl.1 rfl (Nat.le_of_ble_eq_true rfl) d_M_stage_8 ⟨Nat.le_of_ble_eq_true rfl, Nat.le_of_ble_eq_true rfl⟩ (fun H locs hP hD hS => ?_)
    refine lv_topi (fun r3 er3 => ?_)
    refine lv_iconst (v := 2) hx hb d_M_stage_11 (by decide) ?_
    refine lv_icmp_ne (tgt := 17) hx hb d_M_stage_12 (by decide) (fun c4 => ?_) (fun c4 => ?_)
    · refine lv_aload_n hx hb d_M_stage_17 rfl (lv_at hl 0 rfl) ?_
      refine va_get (D := D) (ci := 4) (C := R_M) (T := T_M) (N := 7) hx hb hts in_M hown hK hP 0 x_hM rfl 2 (by decide) (hts _ gm_156) (fun _ h9 => h9) rfl d_M_stage_18 ?_
      refine va_get (D := D) (ci := 0) (C := R_B) (T := T_B) (N := 3) hx hb hts in_B hown hK hP 3 x_hB rfl 2 (by decide) (hts _ gm_58) (fun _ h9 => h9) rfl d_M_stage_21 ?_
      refine x_top (show z 2 0 = nI n by subst er1 er3; exact hz) ?_
      refine lv_iconst (v := 3) hx hb d_M_stage_24 (by decide) ?_
      refine lv_icmp_ne (tgt := 31) hx hb d_M_stage_25 (by decide) (fun c5 => ?_) (fun c5 => ?_)
      · have c5 : ¬ n = 3 := fun h => c5 ((nI_eq (a := n) (b := 3) (by omega) (by omega)).mpr h)
        refine lv_aload_n hx hb d_M_stage_31 rfl (lv_at hl 0 rfl) ?_
        refine va_get (D := D) (ci := 4) (C := R_M) (T := T_M) (N := 7) hx hb hts in_M hown hK hP 0 x_hM rfl 2 (by decide) (hts _ gm_156) (fun _ h9 => h9) rfl d_M_stage_32 ?_
        refine lv_iload_n hx hb d_M_stage_35 rfl (lv_at hl 1 rfl) ?_
        refine lv_iload_n hx hb d_M_stage_36 rfl (lv_at hl 2 rfl) ?_
        refine x_V (rest := []) ⟨hx, hb, hml, hown, hts⟩ (c_B_append_ok l D cI cN ad z n hn hz a v) gm_187 gm_188 gm_189 gm_29 gm_190 ⟨rfl, rfl⟩ hd_B_append ⟨Nat.le_of_ble_eq_true rfl, Nat.le_of_ble_eq_true rfl⟩ hK hP hD hS hA (va_recv hK hP (ci := 0) (q0 := 3) rfl x_hB) rfl hl.1 rfl (Nat.le_of_ble_eq_true rfl) d_M_stage_37 ⟨Nat.le_of_ble_eq_true rfl, Nat.le_of_ble_eq_true rfl⟩ (fun H locs hP hD hS => ?_)
        obtain ⟨z6, ez6⟩ : ∃ zt_ : x_S, zt_ = x_app z n a v := ⟨_, rfl⟩
        rw [← ez6] at hP hD
        refine lv_aload_n hx hb d_M_stage_40 rfl (lv_at hl 0 rfl) ?_
        refine va_get (D := D) (ci := 4) (C := R_M) (T := T_M) (N := 7) hx hb hts in_M hown hK hP 0 x_hM rfl 2 (by decide) (hts _ gm_156) (fun _ h9 => h9) rfl d_M_stage_41 ?_
        refine va_get (D := D) (ci := 0) (C := R_B) (T := T_B) (N := 3) hx hb hts in_B hown hK hP 3 x_hB rfl 2 (by decide) (hts _ gm_58) (fun _ h9 => h9) rfl d_M_stage_44 ?_
        exact x_ri (w := x_w cI cN ad) (by subst er1 er3 ez6; first | (simp only [x_stage, if_neg c2, if_neg c4, if_neg c5]; done) | rfl | (simp only [x_stage, if_neg c2, if_neg c4, if_neg c5]; rfl)) hx hb hr hlk hP hD hS d_M_stage_47
      · have c5 : n = 3 := (nI_eq (a := n) (b := 3) (by omega) (by omega)).mp c5
        refine lv_bipush (v := (-2)) hx hb d_M_stage_28 (by decide) ?_
        exact x_ri (w := x_w cI cN ad) (by subst er1 er3; first | (simp only [x_stage, if_neg c2, if_neg c4, if_pos c5]; done) | rfl | (simp only [x_stage, if_neg c2, if_neg c4, if_pos c5]; rfl)) hx hb hr hlk hP hD hS d_M_stage_30
    · refine lv_iconst (v := (-1)) hx hb d_M_stage_15 (by decide) ?_
      exact x_ri (w := x_w cI cN ad) (by subst er1 er3; first | (simp only [x_stage, if_neg c2, if_pos c4]; done) | rfl | (simp only [x_stage, if_neg c2, if_pos c4]; rfl)) hx hb hr hlk hP hD hS d_M_stage_16
set_option maxHeartbeats 4000000 in
set_option maxRecDepth 100000 in
theorem c_M_cell_ok (l : Launch) (D : va_G) (cI cN : ClassId) (ad : Nat → Nat) (z : x_S) (a : Int32) : x_C l y_M_cell c_M_cell 3 (some .long) { frames := 2, cells := 0, slots := 0, locals := 42 } D (x_ty cI cN) (x_w cI cN ad z) [.ref (ad 0), .int a] (some (.long (x_cell z a))) (x_w cI cN ad z) := by
  refine x_C.of (by decide) (Nat.le_of_ble_eq_true rfl) ?_
  intro p e s m below meth c hx hb hr hml hts hown hlk A hA hK hS hP hD ls hl
  have hown : s.vm.findClass R_M = some m.cls := hown
  have hl : lv_has ls 3 [(0, .ref (ad 0)), (1, .int a)] := hl
  refine lv_aload_n hx hb d_M_cell_0 rfl (lv_at hl 0 rfl) ?_
  refine x_V (rest := []) ⟨hx, hb, hml, hown, hts⟩ (c_M_findPrimary_ok l D cI cN ad z) gm_183 gm_185 gm_0 gm_28 gm_186 ⟨rfl, rfl⟩ hd_M_findPrimary ⟨Nat.le_of_ble_eq_true rfl, Nat.le_of_ble_eq_true rfl⟩ hK hP hD hS hA (va_recv hK hP (ci := 4) (q0 := 0) rfl x_hM) rfl hl.1 rfl (Nat.le_of_ble_eq_true rfl) d_M_cell_1 ⟨Nat.le_of_ble_eq_true rfl, Nat.le_of_ble_eq_true rfl⟩ (fun H locs hP hD hS => ?_)
  refine lv_topi (fun r1 er1 => ?_)
  refine lv_istore_n (lv' := [(2, .int r1), (0, .ref (ad 0)), (1, .int a)]) hx hb d_M_cell_4 rfl hl (by decide) rfl (fun ls hl => ?_)
  refine lv_iload_n hx hb d_M_cell_5 rfl (lv_at hl 2 rfl) ?_
  refine x_T (rest := []) ⟨hx, hb, hml, hown, hts⟩ (c_M_isCell_ok l D cI cN ad z a) gm_180 gm_181 gm_28 gm_182 ⟨rfl, rfl⟩ hd_M_isCell ⟨Nat.le_of_ble_eq_true rfl, Nat.le_of_ble_eq_true rfl⟩ hK hP hD hS hA rfl hl.1 rfl (Nat.le_of_ble_eq_true rfl) d_M_cell_6 ⟨Nat.le_of_ble_eq_true rfl, Nat.le_of_ble_eq_true rfl⟩ (fun H locs hP hD hS => ?_)
  refine lv_topi (fun r2 er2 => ?_)
  refine lv_if_eq (tgt := 17) hx hb d_M_cell_9 (by decide) (fun c3 => ?_) (fun c3 => ?_)
  · refine lv_ldc2 (v := (-1000000000000)) hx hb hown (hts (.constantLong R_M 85 (-1000000000000)) gm_252) d_M_cell_17 ?_
    exact x_rl (by subst er1 er2; first | (simp only [x_cell, if_pos c3]; done) | rfl | (simp only [x_cell, if_pos c3]; rfl)) hx hb hr hlk hP hD hS d_M_cell_20
  · obtain ⟨bb, hbb, eb⟩ := x_cellE (c := a) (by rw [← er2]; exact c3)
    subst eb
    refine lv_iload_n hx hb d_M_cell_12 rfl (lv_at hl 0 rfl) ?_
    refine lv_iconst (v := 2) hx hb d_M_cell_13 (by decide) ?_
    refine lv_icmp_ne (tgt := 21) hx hb d_M_cell_14 (by decide) (fun c4 => ?_) (fun c4 => ?_)
    · obtain ⟨k, hk, ek⟩ := x_findE er1 c4
      subst ek
      refine lv_aload_n hx hb d_M_cell_21 rfl (lv_at hl 1 rfl) ?_
      refine va_get (D := D) (ci := 4) (C := R_M) (T := T_M) (N := 7) hx hb hts in_M hown hK hP 0 x_hM rfl 0 (by decide) (hts _ gm_154) (fun _ h9 => h9) rfl d_M_cell_22 ?_
      refine lv_iload_n hx hb d_M_cell_25 rfl (lv_at hl 0 rfl) ?_
      refine va_aldq (D := D) hx hb hK hP 1 1 x_hA rfl (x_in2 hk) d_M_cell_26 ?_
      refine x_topv (x_nf_at hk) ?_
      refine va_get (D := D) (ci := 2) (C := R_N) (T := T_N) (N := 8) hx hb hts in_N hown hK hP (6 + k) (x_hN hk) rfl 0 (by decide) (hts _ gm_90) (fun _ h9 => h9) rfl d_M_cell_27 ?_
      refine lv_iload_n hx hb d_M_cell_30 rfl (lv_at hl 2 rfl) ?_
      refine x_V (rest := []) ⟨hx, hb, hml, hown, hts⟩ (c_D_held_ok l D cI cN ad z k hk bb (by omega)) gm_253 gm_254 gm_255 gm_31 gm_256 ⟨rfl, rfl⟩ hd_D_held ⟨Nat.le_of_ble_eq_true rfl, Nat.le_of_ble_eq_true rfl⟩ hK hP hD hS hA (va_recv hK hP (ci := 1) (q0 := (8 + k)) rfl (x_hD hk)) rfl hl.1 rfl (Nat.le_of_ble_eq_true rfl) d_M_cell_31 ⟨Nat.le_of_ble_eq_true rfl, Nat.le_of_ble_eq_true rfl⟩ (fun H locs hP hD hS => ?_)
      refine lv_topi (fun r5 er5 => ?_)
      refine lv_i2l (v := r5.toInt64) hx hb d_M_cell_34 rfl ?_
      exact x_rl (by subst er2 er5; first | (simp only [x_cell, if_neg c3, if_neg c4, x_cl32 (show bb < 32 by omega), ← er1, x_cl hk]; done) | rfl | (simp only [x_cell, if_neg c3, if_neg c4, x_cl32 (show bb < 32 by omega), ← er1, x_cl hk]; rfl)) hx hb hr hlk hP hD hS d_M_cell_35
    · refine lv_ldc2 (v := (-1000000000000)) hx hb hown (hts (.constantLong R_M 85 (-1000000000000)) gm_252) d_M_cell_17 ?_
      exact x_rl (by subst er1 er2; first | (simp only [x_cell, if_neg c3, if_pos c4, x_cl32 (show bb < 32 by omega)]; done) | rfl | (simp only [x_cell, if_neg c3, if_pos c4, x_cl32 (show bb < 32 by omega)]; rfl)) hx hb hr hlk hP hD hS d_M_cell_20
set_option maxHeartbeats 4000000 in
set_option maxRecDepth 100000 in
theorem c_M_crash_ok (l : Launch) (D : va_G) (cI cN : ClassId) (ad : Nat → Nat) (z : x_S) (a keep : Int32) : x_C l y_M_crash c_M_crash 3 (some .int) { frames := 3, cells := 0, slots := 0, locals := 66 } D (x_ty cI cN) (x_w cI cN ad z) [.ref (ad 0), .int a, .int keep] (some (.int (x_crash z a keep).1)) (x_w cI cN ad (x_crash z a keep).2) := by
  refine x_C.of (by decide) (Nat.le_of_ble_eq_true rfl) ?_
  intro p e s m below meth c hx hb hr hml hts hown hlk A hA hK hS hP hD ls hl
  have hown : s.vm.findClass R_M = some m.cls := hown
  have hl : lv_has ls 3 [(0, .ref (ad 0)), (1, .int a), (2, .int keep)] := hl
  refine lv_iload_n hx hb d_M_crash_0 rfl (lv_at hl 1 rfl) ?_
  refine x_T (rest := []) ⟨hx, hb, hml, hown, hts⟩ (c_M_isNode_ok l D cI cN ad z a) gm_261 gm_262 gm_28 gm_263 ⟨rfl, rfl⟩ hd_M_isNode ⟨Nat.le_of_ble_eq_true rfl, Nat.le_of_ble_eq_true rfl⟩ hK hP hD hS hA rfl hl.1 rfl (Nat.le_of_ble_eq_true rfl) d_M_crash_1 ⟨Nat.le_of_ble_eq_true rfl, Nat.le_of_ble_eq_true rfl⟩ (fun H locs hP hD hS => ?_)
  refine lv_topi (fun r1 er1 => ?_)
  refine lv_if_eq (tgt := 19) hx hb d_M_crash_4 (by decide) (fun c2 => ?_) (fun c2 => ?_)
  · refine lv_iconst (v := (-1)) hx hb d_M_crash_19 (by decide) ?_
    exact x_ri (w := x_w cI cN ad) (by subst er1; first | (simp only [x_crash, if_pos c2]; done) | rfl | (simp only [x_crash, if_pos c2]; rfl)) hx hb hr hlk hP hD hS d_M_crash_20
  · obtain ⟨k, hk, ek⟩ := x_nodeE (c := a) (by rw [← er1]; exact c2)
    subst ek
    refine lv_aload_n hx hb d_M_crash_7 rfl (lv_at hl 0 rfl) ?_
    refine va_get (D := D) (ci := 4) (C := R_M) (T := T_M) (N := 7) hx hb hts in_M hown hK hP 0 x_hM rfl 0 (by decide) (hts _ gm_154) (fun _ h9 => h9) rfl d_M_crash_8 ?_
    refine lv_iload_n hx hb d_M_crash_11 rfl (lv_at hl 1 rfl) ?_
    refine va_aldq (D := D) hx hb hK hP 1 1 x_hA rfl (x_in2 hk) d_M_crash_12 ?_
    refine x_topv (x_nf_at hk) ?_
    refine va_get (D := D) (ci := 2) (C := R_N) (T := T_N) (N := 8) hx hb hts in_N hown hK hP (6 + k) (x_hN hk) rfl 1 (by decide) (hts _ gm_92) (fun _ h9 => h9) rfl d_M_crash_13 ?_
    refine lv_if_ne (tgt := 21) hx hb d_M_crash_16 (by decide) (fun c3 => ?_) (fun c3 => ?_)
    · refine lv_aload_n hx hb d_M_crash_21 rfl (lv_at hl 0 rfl) ?_
      refine lv_iload_n hx hb d_M_crash_22 rfl (lv_at hl 1 rfl) ?_
      refine lv_iload_n hx hb d_M_crash_23 rfl (lv_at hl 2 rfl) ?_
      refine x_V (rest := []) ⟨hx, hb, hml, hown, hts⟩ (c_M_bringDown_ok l D cI cN ad z k hk keep) gm_231 gm_233 gm_6 gm_28 gm_234 ⟨rfl, rfl⟩ hd_M_bringDown ⟨Nat.le_of_ble_eq_true rfl, Nat.le_of_ble_eq_true rfl⟩ hK hP hD hS hA (va_recv hK hP (ci := 4) (q0 := 0) rfl x_hM) rfl hl.1 rfl (Nat.le_of_ble_eq_true rfl) d_M_crash_24 ⟨Nat.le_of_ble_eq_true rfl, Nat.le_of_ble_eq_true rfl⟩ (fun H locs hP hD hS => ?_)
      obtain ⟨z4, ez4⟩ : ∃ zt_ : x_S, zt_ = x_bring z k keep := ⟨_, rfl⟩
      rw [← ez4] at hP hD
      refine lv_iconst (v := 0) hx hb d_M_crash_27 (by decide) ?_
      exact x_ri (w := x_w cI cN ad) (by subst er1 ez4; first | (simp only [x_crash, if_neg c2, if_neg c3, x_cl hk]; done) | rfl | (simp only [x_crash, if_neg c2, if_neg c3, x_cl hk]; rfl)) hx hb hr hlk hP hD hS d_M_crash_28
    · refine lv_iconst (v := (-1)) hx hb d_M_crash_19 (by decide) ?_
      exact x_ri (w := x_w cI cN ad) (by subst er1; first | (simp only [x_crash, if_neg c2, if_pos c3, x_cl hk]; done) | rfl | (simp only [x_crash, if_neg c2, if_pos c3, x_cl hk]; rfl)) hx hb hr hlk hP hD hS d_M_crash_20
set_option maxHeartbeats 4000000 in
set_option maxRecDepth 100000 in
theorem c_M_restart_ok (l : Launch) (D : va_G) (cI cN : ClassId) (ad : Nat → Nat) (z : x_S) (a : Int32) : x_C l y_M_restart c_M_restart 2 (some .int) { frames := 1, cells := 0, slots := 0, locals := 20 } D (x_ty cI cN) (x_w cI cN ad z) [.ref (ad 0), .int a] (some (.int (x_restart z a).1)) (x_w cI cN ad (x_restart z a).2) := by
  refine x_C.of (by decide) (Nat.le_of_ble_eq_true rfl) ?_
  intro p e s m below meth c hx hb hr hml hts hown hlk A hA hK hS hP hD ls hl
  have hown : s.vm.findClass R_M = some m.cls := hown
  have hl : lv_has ls 2 [(0, .ref (ad 0)), (1, .int a)] := hl
  refine lv_iload_n hx hb d_M_restart_0 rfl (lv_at hl 1 rfl) ?_
  refine x_T (rest := []) ⟨hx, hb, hml, hown, hts⟩ (c_M_isNode_ok l D cI cN ad z a) gm_261 gm_262 gm_28 gm_263 ⟨rfl, rfl⟩ hd_M_isNode ⟨Nat.le_of_ble_eq_true rfl, Nat.le_of_ble_eq_true rfl⟩ hK hP hD hS hA rfl hl.1 rfl (Nat.le_of_ble_eq_true rfl) d_M_restart_1 ⟨Nat.le_of_ble_eq_true rfl, Nat.le_of_ble_eq_true rfl⟩ (fun H locs hP hD hS => ?_)
  refine lv_topi (fun r1 er1 => ?_)
  refine lv_if_eq (tgt := 19) hx hb d_M_restart_4 (by decide) (fun c2 => ?_) (fun c2 => ?_)
  · refine lv_iconst (v := (-1)) hx hb d_M_restart_19 (by decide) ?_
    exact x_ri (w := x_w cI cN ad) (by subst er1; first | (simp only [x_restart, if_pos c2]; done) | rfl | (simp only [x_restart, if_pos c2]; rfl)) hx hb hr hlk hP hD hS d_M_restart_20
  · obtain ⟨k, hk, ek⟩ := x_nodeE (c := a) (by rw [← er1]; exact c2)
    subst ek
    refine lv_aload_n hx hb d_M_restart_7 rfl (lv_at hl 0 rfl) ?_
    refine va_get (D := D) (ci := 4) (C := R_M) (T := T_M) (N := 7) hx hb hts in_M hown hK hP 0 x_hM rfl 0 (by decide) (hts _ gm_154) (fun _ h9 => h9) rfl d_M_restart_8 ?_
    refine lv_iload_n hx hb d_M_restart_11 rfl (lv_at hl 1 rfl) ?_
    refine va_aldq (D := D) hx hb hK hP 1 1 x_hA rfl (x_in2 hk) d_M_restart_12 ?_
    refine x_topv (x_nf_at hk) ?_
    refine va_get (D := D) (ci := 2) (C := R_N) (T := T_N) (N := 8) hx hb hts in_N hown hK hP (6 + k) (x_hN hk) rfl 1 (by decide) (hts _ gm_92) (fun _ h9 => h9) rfl d_M_restart_13 ?_
    refine lv_if_eq (tgt := 21) hx hb d_M_restart_16 (by decide) (fun c3 => ?_) (fun c3 => ?_)
    · refine lv_aload_n hx hb d_M_restart_21 rfl (lv_at hl 0 rfl) ?_
      refine va_get (D := D) (ci := 4) (C := R_M) (T := T_M) (N := 7) hx hb hts in_M hown hK hP 0 x_hM rfl 0 (by decide) (hts _ gm_154) (fun _ h9 => h9) rfl d_M_restart_22 ?_
      refine lv_iload_n hx hb d_M_restart_25 rfl (lv_at hl 1 rfl) ?_
      refine va_aldq (D := D) hx hb hK hP 1 1 x_hA rfl (x_in2 hk) d_M_restart_26 ?_
      refine x_topv (x_nf_at hk) ?_
      refine lv_iconst (v := 1) hx hb d_M_restart_27 (by decide) ?_
      refine va_put (D := D) (ci := 2) (v := .int 1) (ty := .boolean) (C := R_N) (T := T_N) (N := 8) hx hb hts in_N fy_N fy_N_ok n_N hown hK hP hD hS (6 + k) (x_hN hk) rfl 1 (by decide) (hts _ gm_92) (fun _ h9 => h9) rfl (by decide +kernel) rfl rfl (Nat.le_of_ble_eq_true rfl) d_M_restart_28 (fun H locs hP hD hS => ?_)
      obtain ⟨z4, ez4⟩ : ∃ zt_ : x_S, zt_ = x_up z (5 + k) 0 1 := ⟨_, rfl⟩
      have hP : va_P D vwCl (x_w cI cN ad z4) H := by rw [ez4, ← x_sN (i := 0) hk (by decide) 1]; exact hP
      have hD : va_D A (x_w cI cN ad z4) := by rw [ez4, ← x_sN (i := 0) hk (by decide) 1]; exact hD
      refine lv_iconst (v := 0) hx hb d_M_restart_31 (by decide) ?_
      exact x_ri (w := x_w cI cN ad) (by subst er1 ez4; first | (simp only [x_restart, if_neg c2, if_pos c3, x_cl hk]; done) | rfl | (simp only [x_restart, if_neg c2, if_pos c3, x_cl hk]; rfl)) hx hb hr hlk hP hD hS d_M_restart_32
    · refine lv_iconst (v := (-1)) hx hb d_M_restart_19 (by decide) ?_
      exact x_ri (w := x_w cI cN ad) (by subst er1; first | (simp only [x_restart, if_neg c2, if_neg c3, x_cl hk]; done) | rfl | (simp only [x_restart, if_neg c2, if_neg c3, x_cl hk]; rfl)) hx hb hr hlk hP hD hS d_M_restart_20
set_option maxHeartbeats 4000000 in
set_option maxRecDepth 100000 in
theorem c_M_swap_ok (l : Launch) (D : va_G) (cI cN : ClassId) (ad : Nat → Nat) (z : x_S) (a : Int32) : x_C l y_M_swap c_M_swap 2 (some .int) { frames := 3, cells := 0, slots := 0, locals := 63 } D (x_ty cI cN) (x_w cI cN ad z) [.ref (ad 0), .int a] (some (.int (x_swap z a).1)) (x_w cI cN ad (x_swap z a).2) := by
  refine x_C.of (by decide) (Nat.le_of_ble_eq_true rfl) ?_
  intro p e s m below meth c hx hb hr hml hts hown hlk A hA hK hS hP hD ls hl
  have hown : s.vm.findClass R_M = some m.cls := hown
  have hl : lv_has ls 2 [(0, .ref (ad 0)), (1, .int a)] := hl
  refine lv_iload_n hx hb d_M_swap_0 rfl (lv_at hl 1 rfl) ?_
  refine x_T (rest := []) ⟨hx, hb, hml, hown, hts⟩ (c_M_isNode_ok l D cI cN ad z a) gm_261 gm_262 gm_28 gm_263 ⟨rfl, rfl⟩ hd_M_isNode ⟨Nat.le_of_ble_eq_true rfl, Nat.le_of_ble_eq_true rfl⟩ hK hP hD hS hA rfl hl.1 rfl (Nat.le_of_ble_eq_true rfl) d_M_swap_1 ⟨Nat.le_of_ble_eq_true rfl, Nat.le_of_ble_eq_true rfl⟩ (fun H locs hP hD hS => ?_)
  refine lv_topi (fun r1 er1 => ?_)
  refine lv_if_eq (tgt := 19) hx hb d_M_swap_4 (by decide) (fun c2 => ?_) (fun c2 => ?_)
  · refine lv_iconst (v := (-1)) hx hb d_M_swap_19 (by decide) ?_
    exact x_ri (w := x_w cI cN ad) (by subst er1; first | (simp only [x_swap, if_pos c2]; done) | rfl | (simp only [x_swap, if_pos c2]; rfl)) hx hb hr hlk hP hD hS d_M_swap_20
  · obtain ⟨k, hk, ek⟩ := x_nodeE (c := a) (by rw [← er1]; exact c2)
    subst ek
    refine lv_aload_n hx hb d_M_swap_7 rfl (lv_at hl 0 rfl) ?_
    refine va_get (D := D) (ci := 4) (C := R_M) (T := T_M) (N := 7) hx hb hts in_M hown hK hP 0 x_hM rfl 0 (by decide) (hts _ gm_154) (fun _ h9 => h9) rfl d_M_swap_8 ?_
    refine lv_iload_n hx hb d_M_swap_11 rfl (lv_at hl 1 rfl) ?_
    refine va_aldq (D := D) hx hb hK hP 1 1 x_hA rfl (x_in2 hk) d_M_swap_12 ?_
    refine x_topv (x_nf_at hk) ?_
    refine va_get (D := D) (ci := 2) (C := R_N) (T := T_N) (N := 8) hx hb hts in_N hown hK hP (6 + k) (x_hN hk) rfl 1 (by decide) (hts _ gm_92) (fun _ h9 => h9) rfl d_M_swap_13 ?_
    refine lv_if_eq (tgt := 21) hx hb d_M_swap_16 (by decide) (fun c3 => ?_) (fun c3 => ?_)
    · refine lv_aload_n hx hb d_M_swap_21 rfl (lv_at hl 0 rfl) ?_
      refine va_get (D := D) (ci := 4) (C := R_M) (T := T_M) (N := 7) hx hb hts in_M hown hK hP 0 x_hM rfl 0 (by decide) (hts _ gm_154) (fun _ h9 => h9) rfl d_M_swap_22 ?_
      refine lv_iload_n hx hb d_M_swap_25 rfl (lv_at hl 1 rfl) ?_
      refine va_aldq (D := D) hx hb hK hP 1 1 x_hA rfl (x_in2 hk) d_M_swap_26 ?_
      refine x_topv (x_nf_at hk) ?_
      refine x_V (rest := []) ⟨hx, hb, hml, hown, hts⟩ (c_N_renewDisk_ok l D cI cN ad z k hk) gm_272 gm_273 gm_274 gm_30 gm_275 ⟨rfl, rfl⟩ hd_N_renewDisk ⟨Nat.le_of_ble_eq_true rfl, Nat.le_of_ble_eq_true rfl⟩ hK hP hD hS hA (va_recv hK hP (ci := 2) (q0 := (6 + k)) rfl (x_hN hk)) rfl hl.1 rfl (Nat.le_of_ble_eq_true rfl) d_M_swap_27 ⟨Nat.le_of_ble_eq_true rfl, Nat.le_of_ble_eq_true rfl⟩ (fun H locs hP hD hS => ?_)
      obtain ⟨z4, ez4⟩ : ∃ zt_ : x_S, zt_ = x_renew z k := ⟨_, rfl⟩
      rw [← ez4] at hP hD
      refine lv_iconst (v := 0) hx hb d_M_swap_30 (by decide) ?_
      exact x_ri (w := x_w cI cN ad) (by subst er1 ez4; first | (simp only [x_swap, if_neg c2, if_pos c3, x_cl hk]; done) | rfl | (simp only [x_swap, if_neg c2, if_pos c3, x_cl hk]; rfl)) hx hb hr hlk hP hD hS d_M_swap_31
    · refine lv_iconst (v := (-1)) hx hb d_M_swap_19 (by decide) ?_
      exact x_ri (w := x_w cI cN ad) (by subst er1; first | (simp only [x_swap, if_neg c2, if_neg c3, x_cl hk]; done) | rfl | (simp only [x_swap, if_neg c2, if_neg c3, x_cl hk]; rfl)) hx hb hr hlk hP hD hS d_M_swap_20
set_option maxHeartbeats 4000000 in
set_option maxRecDepth 100000 in
theorem c_M_line_ok (l : Launch) (D : va_G) (cI cN : ClassId) (ad : Nat → Nat) (z : x_S) (u : Int32) (hu : u = 0 ∨ u = 1) : x_C l y_M_line c_M_line 2 (some .int) { frames := 1, cells := 0, slots := 0, locals := 20 } D (x_ty cI cN) (x_w cI cN ad z) [.ref (ad 0), .int u] (some (.int (x_line z u).1)) (x_w cI cN ad (x_line z u).2) := by
  refine x_C.of (by decide) (Nat.le_of_ble_eq_true rfl) ?_
  intro p e s m below meth c hx hb hr hml hts hown hlk A hA hK hS hP hD ls hl
  have hown : s.vm.findClass R_M = some m.cls := hown
  have hl : lv_has ls 2 [(0, .ref (ad 0)), (1, .int u)] := hl
  refine lv_aload_n hx hb d_M_line_0 rfl (lv_at hl 0 rfl) ?_
  refine lv_iload_n hx hb d_M_line_1 rfl (lv_at hl 1 rfl) ?_
  refine va_put (D := D) (ci := 4) (v := .int u) (ty := .boolean) (C := R_M) (T := T_M) (N := 7) hx hb hts in_M fy_M fy_M_ok n_M hown hK hP hD hS 0 x_hM rfl 3 (by decide) (hts _ gm_157) (fun _ h9 => h9) rfl (by decide +kernel) (x_nb hu) (x_fb hu) (Nat.le_of_ble_eq_true rfl) d_M_line_2 (fun H locs hP hD hS => ?_)
  obtain ⟨z1, ez1⟩ : ∃ zt_ : x_S, zt_ = x_up z 0 0 u := ⟨_, rfl⟩
  have hP : va_P D vwCl (x_w cI cN ad z1) H := by rw [ez1, ← x_sM (i := 0) (by decide) u]; exact hP
  have hD : va_D A (x_w cI cN ad z1) := by rw [ez1, ← x_sM (i := 0) (by decide) u]; exact hD
  refine lv_iload_n hx hb d_M_line_5 rfl (lv_at hl 1 rfl) ?_
  refine lv_if_ne (tgt := 13) hx hb d_M_line_6 (by decide) (fun c2 => ?_) (fun c2 => ?_)
  · refine lv_iconst (v := 0) hx hb d_M_line_13 (by decide) ?_
    exact x_ri (w := x_w cI cN ad) (by subst ez1; first | (simp only [x_line, if_neg c2]; done) | rfl | (simp only [x_line, if_neg c2]; rfl)) hx hb hr hlk hP hD hS d_M_line_14
  · refine lv_aload_n hx hb d_M_line_9 rfl (lv_at hl 0 rfl) ?_
    refine x_V (rest := []) ⟨hx, hb, hml, hown, hts⟩ (c_M_disconnect_ok l D cI cN ad z1) gm_244 gm_246 gm_8 gm_28 gm_247 ⟨rfl, rfl⟩ hd_M_disconnect ⟨Nat.le_of_ble_eq_true rfl, Nat.le_of_ble_eq_true rfl⟩ hK hP hD hS hA (va_recv hK hP (ci := 4) (q0 := 0) rfl x_hM) rfl hl.1 rfl (Nat.le_of_ble_eq_true rfl) d_M_line_10 ⟨Nat.le_of_ble_eq_true rfl, Nat.le_of_ble_eq_true rfl⟩ (fun H locs hP hD hS => ?_)
    obtain ⟨z3, ez3⟩ : ∃ zt_ : x_S, zt_ = x_disc z1 := ⟨_, rfl⟩
    rw [← ez3] at hP hD
    refine lv_iconst (v := 0) hx hb d_M_line_13 (by decide) ?_
    exact x_ri (w := x_w cI cN ad) (by subst ez1 ez3; first | (simp only [x_line, if_pos c2]; done) | rfl | (simp only [x_line, if_pos c2]; rfl)) hx hb hr hlk hP hD hS d_M_line_14
set_option maxHeartbeats 4000000 in
set_option maxRecDepth 100000 in
theorem c_M_witnessLine_ok (l : Launch) (D : va_G) (cI cN : ClassId) (ad : Nat → Nat) (z : x_S) (a u : Int32) (hu : u = 0 ∨ u = 1) : x_C l y_M_witnessLine c_M_witnessLine 3 (some .int) { frames := 1, cells := 0, slots := 0, locals := 20 } D (x_ty cI cN) (x_w cI cN ad z) [.ref (ad 0), .int a, .int u] (some (.int (x_wline z a u).1)) (x_w cI cN ad (x_wline z a u).2) := by
  refine x_C.of (by decide) (Nat.le_of_ble_eq_true rfl) ?_
  intro p e s m below meth c hx hb hr hml hts hown hlk A hA hK hS hP hD ls hl
  have hown : s.vm.findClass R_M = some m.cls := hown
  have hl : lv_has ls 3 [(0, .ref (ad 0)), (1, .int a), (2, .int u)] := hl
  refine lv_iload_n hx hb d_M_witnessLine_0 rfl (lv_at hl 1 rfl) ?_
  refine x_T (rest := []) ⟨hx, hb, hml, hown, hts⟩ (c_M_isNode_ok l D cI cN ad z a) gm_261 gm_262 gm_28 gm_263 ⟨rfl, rfl⟩ hd_M_isNode ⟨Nat.le_of_ble_eq_true rfl, Nat.le_of_ble_eq_true rfl⟩ hK hP hD hS hA rfl hl.1 rfl (Nat.le_of_ble_eq_true rfl) d_M_witnessLine_1 ⟨Nat.le_of_ble_eq_true rfl, Nat.le_of_ble_eq_true rfl⟩ (fun H locs hP hD hS => ?_)
  refine lv_topi (fun r1 er1 => ?_)
  refine lv_if_ne (tgt := 9) hx hb d_M_witnessLine_4 (by decide) (fun c2 => ?_) (fun c2 => ?_)
  · obtain ⟨k, hk, ek⟩ := x_nodeE (c := a) (by rw [← er1]; exact c2)
    subst ek
    refine lv_aload_n hx hb d_M_witnessLine_9 rfl (lv_at hl 0 rfl) ?_
    refine va_get (D := D) (ci := 4) (C := R_M) (T := T_M) (N := 7) hx hb hts in_M hown hK hP 0 x_hM rfl 0 (by decide) (hts _ gm_154) (fun _ h9 => h9) rfl d_M_witnessLine_10 ?_
    refine lv_iload_n hx hb d_M_witnessLine_13 rfl (lv_at hl 1 rfl) ?_
    refine va_aldq (D := D) hx hb hK hP 1 1 x_hA rfl (x_in2 hk) d_M_witnessLine_14 ?_
    refine x_topv (x_nf_at hk) ?_
    refine lv_iload_n hx hb d_M_witnessLine_15 rfl (lv_at hl 2 rfl) ?_
    refine va_put (D := D) (ci := 2) (v := .int u) (ty := .boolean) (C := R_N) (T := T_N) (N := 8) hx hb hts in_N fy_N fy_N_ok n_N hown hK hP hD hS (6 + k) (x_hN hk) rfl 7 (by decide) (hts _ gm_104) (fun _ h9 => h9) rfl (by decide +kernel) (x_nb hu) (x_fb hu) (Nat.le_of_ble_eq_true rfl) d_M_witnessLine_16 (fun H locs hP hD hS => ?_)
    obtain ⟨z3, ez3⟩ : ∃ zt_ : x_S, zt_ = x_up z (5 + k) 6 u := ⟨_, rfl⟩
    have hP : va_P D vwCl (x_w cI cN ad z3) H := by rw [ez3, ← x_sN (i := 6) hk (by decide) u]; exact hP
    have hD : va_D A (x_w cI cN ad z3) := by rw [ez3, ← x_sN (i := 6) hk (by decide) u]; exact hD
    refine lv_iconst (v := 0) hx hb d_M_witnessLine_19 (by decide) ?_
    exact x_ri (w := x_w cI cN ad) (by subst er1 ez3; first | (simp only [x_wline, if_neg c2, x_cl hk]; done) | rfl | (simp only [x_wline, if_neg c2, x_cl hk]; rfl)) hx hb hr hlk hP hD hS d_M_witnessLine_20
  · refine lv_iconst (v := (-1)) hx hb d_M_witnessLine_7 (by decide) ?_
    exact x_ri (w := x_w cI cN ad) (by subst er1; first | (simp only [x_wline, if_pos c2]; done) | rfl | (simp only [x_wline, if_pos c2]; rfl)) hx hb hr hlk hP hD hS d_M_witnessLine_8
set_option maxHeartbeats 4000000 in
set_option maxRecDepth 100000 in
theorem c_M_demote_ok (l : Launch) (D : va_G) (cI cN : ClassId) (ad : Nat → Nat) (z : x_S) (a : Int32) : x_C l y_M_demote c_M_demote 2 (some .int) { frames := 1, cells := 0, slots := 0, locals := 21 } D (x_ty cI cN) (x_w cI cN ad z) [.ref (ad 0), .int a] (some (.int (x_demote z a).1)) (x_w cI cN ad (x_demote z a).2) := by
  refine x_C.of (by decide) (Nat.le_of_ble_eq_true rfl) ?_
  intro p e s m below meth c hx hb hr hml hts hown hlk A hA hK hS hP hD ls hl
  have hown : s.vm.findClass R_M = some m.cls := hown
  have hl : lv_has ls 2 [(0, .ref (ad 0)), (1, .int a)] := hl
  refine lv_iload_n hx hb d_M_demote_0 rfl (lv_at hl 1 rfl) ?_
  refine x_T (rest := []) ⟨hx, hb, hml, hown, hts⟩ (c_M_isNode_ok l D cI cN ad z a) gm_261 gm_262 gm_28 gm_263 ⟨rfl, rfl⟩ hd_M_isNode ⟨Nat.le_of_ble_eq_true rfl, Nat.le_of_ble_eq_true rfl⟩ hK hP hD hS hA rfl hl.1 rfl (Nat.le_of_ble_eq_true rfl) d_M_demote_1 ⟨Nat.le_of_ble_eq_true rfl, Nat.le_of_ble_eq_true rfl⟩ (fun H locs hP hD hS => ?_)
  refine lv_topi (fun r1 er1 => ?_)
  refine lv_if_eq (tgt := 19) hx hb d_M_demote_4 (by decide) (fun c2 => ?_) (fun c2 => ?_)
  · refine lv_iconst (v := (-1)) hx hb d_M_demote_19 (by decide) ?_
    exact x_ri (w := x_w cI cN ad) (by subst er1; first | (simp only [x_demote, if_pos c2]; done) | rfl | (simp only [x_demote, if_pos c2]; rfl)) hx hb hr hlk hP hD hS d_M_demote_20
  · obtain ⟨k, hk, ek⟩ := x_nodeE (c := a) (by rw [← er1]; exact c2)
    subst ek
    refine lv_aload_n hx hb d_M_demote_7 rfl (lv_at hl 0 rfl) ?_
    refine va_get (D := D) (ci := 4) (C := R_M) (T := T_M) (N := 7) hx hb hts in_M hown hK hP 0 x_hM rfl 0 (by decide) (hts _ gm_154) (fun _ h9 => h9) rfl d_M_demote_8 ?_
    refine lv_iload_n hx hb d_M_demote_11 rfl (lv_at hl 1 rfl) ?_
    refine va_aldq (D := D) hx hb hK hP 1 1 x_hA rfl (x_in2 hk) d_M_demote_12 ?_
    refine x_topv (x_nf_at hk) ?_
    refine va_get (D := D) (ci := 2) (C := R_N) (T := T_N) (N := 8) hx hb hts in_N hown hK hP (6 + k) (x_hN hk) rfl 2 (by decide) (hts _ gm_94) (fun _ h9 => h9) rfl d_M_demote_13 ?_
    refine lv_if_ne (tgt := 21) hx hb d_M_demote_16 (by decide) (fun c3 => ?_) (fun c3 => ?_)
    · refine lv_aload_n hx hb d_M_demote_21 rfl (lv_at hl 0 rfl) ?_
      refine lv_iload_n hx hb d_M_demote_22 rfl (lv_at hl 1 rfl) ?_
      refine x_V (rest := []) ⟨hx, hb, hml, hown, hts⟩ (c_M_makeSecondary_ok l D cI cN ad z k hk) gm_240 gm_242 gm_7 gm_28 gm_243 ⟨rfl, rfl⟩ hd_M_makeSecondary ⟨Nat.le_of_ble_eq_true rfl, Nat.le_of_ble_eq_true rfl⟩ hK hP hD hS hA (va_recv hK hP (ci := 4) (q0 := 0) rfl x_hM) rfl hl.1 rfl (Nat.le_of_ble_eq_true rfl) d_M_demote_23 ⟨Nat.le_of_ble_eq_true rfl, Nat.le_of_ble_eq_true rfl⟩ (fun H locs hP hD hS => ?_)
      obtain ⟨z4, ez4⟩ : ∃ zt_ : x_S, zt_ = x_sec z k := ⟨_, rfl⟩
      rw [← ez4] at hP hD
      refine lv_aload_n hx hb d_M_demote_26 rfl (lv_at hl 0 rfl) ?_
      refine va_get (D := D) (ci := 4) (C := R_M) (T := T_M) (N := 7) hx hb hts in_M hown hK hP 0 x_hM rfl 1 (by decide) (hts _ gm_155) (fun _ h9 => h9) rfl d_M_demote_27 ?_
      refine va_get (D := D) (ci := 3) (C := R_T) (T := T_T) (N := 5) hx hb hts in_T hown hK hP 2 x_hT rfl 3 (by decide) (hts _ gm_140) (fun _ h9 => h9) rfl d_M_demote_30 ?_
      refine lv_iload_n hx hb d_M_demote_33 rfl (lv_at hl 1 rfl) ?_
      refine lv_icmp_ne (tgt := 45) hx hb d_M_demote_34 (by decide) (fun c5 => ?_) (fun c5 => ?_)
      · refine lv_iconst (v := 0) hx hb d_M_demote_45 (by decide) ?_
        exact x_ri (w := x_w cI cN ad) (by subst er1 ez4; first | (simp only [x_demote, if_neg c2, if_neg c3, if_neg c5, x_cl hk]; done) | rfl | (simp only [x_demote, if_neg c2, if_neg c3, if_neg c5, x_cl hk]; rfl)) hx hb hr hlk hP hD hS d_M_demote_46
      · refine lv_aload_n hx hb d_M_demote_37 rfl (lv_at hl 0 rfl) ?_
        refine va_get (D := D) (ci := 4) (C := R_M) (T := T_M) (N := 7) hx hb hts in_M hown hK hP 0 x_hM rfl 1 (by decide) (hts _ gm_155) (fun _ h9 => h9) rfl d_M_demote_38 ?_
        refine lv_iconst (v := 2) hx hb d_M_demote_41 (by decide) ?_
        refine va_put (D := D) (ci := 3) (v := .int 2) (ty := .int) (C := R_T) (T := T_T) (N := 5) hx hb hts in_T fy_T fy_T_ok n_T hown hK hP hD hS 2 x_hT rfl 3 (by decide) (hts _ gm_140) (fun _ h9 => h9) rfl (by decide +kernel) rfl rfl (Nat.le_of_ble_eq_true rfl) d_M_demote_42 (fun H locs hP hD hS => ?_)
        obtain ⟨z6, ez6⟩ : ∃ zt_ : x_S, zt_ = x_up z4 1 3 2 := ⟨_, rfl⟩
        have hP : va_P D vwCl (x_w cI cN ad z6) H := by rw [ez6, ← x_sT (i := 3) (by decide) 2]; exact hP
        have hD : va_D A (x_w cI cN ad z6) := by rw [ez6, ← x_sT (i := 3) (by decide) 2]; exact hD
        refine lv_iconst (v := 0) hx hb d_M_demote_45 (by decide) ?_
        exact x_ri (w := x_w cI cN ad) (by subst er1 ez4 ez6; first | (simp only [x_demote, if_neg c2, if_neg c3, if_pos c5, x_cl hk]; done) | rfl | (simp only [x_demote, if_neg c2, if_neg c3, if_pos c5, x_cl hk]; rfl)) hx hb hr hlk hP hD hS d_M_demote_46
    · refine lv_iconst (v := (-1)) hx hb d_M_demote_19 (by decide) ?_
      exact x_ri (w := x_w cI cN ad) (by subst er1; first | (simp only [x_demote, if_neg c2, if_pos c3, x_cl hk]; done) | rfl | (simp only [x_demote, if_neg c2, if_pos c3, x_cl hk]; rfl)) hx hb hr hlk hP hD hS d_M_demote_20
set_option maxHeartbeats 4000000 in
set_option maxRecDepth 100000 in
theorem c_M_renew_ok (l : Launch) (D : va_G) (cI cN : ClassId) (ad : Nat → Nat) (z : x_S)  : x_C l y_M_renew c_M_renew 2 (some .int) { frames := 1, cells := 0, slots := 0, locals := 20 } D (x_ty cI cN) (x_w cI cN ad z) [.ref (ad 0)] (some (.int (x_rnw z).1)) (x_w cI cN ad (x_rnw z).2) := by
  refine x_C.of (by decide) (Nat.le_of_ble_eq_true rfl) ?_
  intro p e s m below meth c hx hb hr hml hts hown hlk A hA hK hS hP hD ls hl
  have hown : s.vm.findClass R_M = some m.cls := hown
  have hl : lv_has ls 2 [(0, .ref (ad 0))] := hl
  refine lv_aload_n hx hb d_M_renew_0 rfl (lv_at hl 0 rfl) ?_
  refine x_V (rest := []) ⟨hx, hb, hml, hown, hts⟩ (c_M_findPrimary_ok l D cI cN ad z) gm_183 gm_185 gm_0 gm_28 gm_186 ⟨rfl, rfl⟩ hd_M_findPrimary ⟨Nat.le_of_ble_eq_true rfl, Nat.le_of_ble_eq_true rfl⟩ hK hP hD hS hA (va_recv hK hP (ci := 4) (q0 := 0) rfl x_hM) rfl hl.1 rfl (Nat.le_of_ble_eq_true rfl) d_M_renew_1 ⟨Nat.le_of_ble_eq_true rfl, Nat.le_of_ble_eq_true rfl⟩ (fun H locs hP hD hS => ?_)
  refine lv_topi (fun r1 er1 => ?_)
  refine lv_istore_n (lv' := [(1, .int r1), (0, .ref (ad 0))]) hx hb d_M_renew_4 rfl hl (by decide) rfl (fun ls hl => ?_)
  refine lv_iload_n hx hb d_M_renew_5 rfl (lv_at hl 0 rfl) ?_
  refine lv_iconst (v := 2) hx hb d_M_renew_6 (by decide) ?_
  refine lv_icmp_eq (tgt := 22) hx hb d_M_renew_7 (by decide) (fun c2 => ?_) (fun c2 => ?_)
  · refine lv_iconst (v := (-1)) hx hb d_M_renew_22 (by decide) ?_
    exact x_ri (w := x_w cI cN ad) (by subst er1; first | (simp only [x_rnw, if_pos c2]; done) | rfl | (simp only [x_rnw, if_pos c2]; rfl)) hx hb hr hlk hP hD hS d_M_renew_23
  · obtain ⟨k, hk, ek⟩ := x_findE er1 c2
    subst ek
    refine lv_aload_n hx hb d_M_renew_10 rfl (lv_at hl 1 rfl) ?_
    refine va_get (D := D) (ci := 4) (C := R_M) (T := T_M) (N := 7) hx hb hts in_M hown hK hP 0 x_hM rfl 0 (by decide) (hts _ gm_154) (fun _ h9 => h9) rfl d_M_renew_11 ?_
    refine lv_iload_n hx hb d_M_renew_14 rfl (lv_at hl 0 rfl) ?_
    refine va_aldq (D := D) hx hb hK hP 1 1 x_hA rfl (x_in2 hk) d_M_renew_15 ?_
    refine x_topv (x_nf_at hk) ?_
    refine va_get (D := D) (ci := 2) (C := R_N) (T := T_N) (N := 8) hx hb hts in_N hown hK hP (6 + k) (x_hN hk) rfl 7 (by decide) (hts _ gm_104) (fun _ h9 => h9) rfl d_M_renew_16 ?_
    refine lv_if_ne (tgt := 24) hx hb d_M_renew_19 (by decide) (fun c3 => ?_) (fun c3 => ?_)
    · refine lv_aload_n hx hb d_M_renew_24 rfl (lv_at hl 1 rfl) ?_
      refine va_get (D := D) (ci := 4) (C := R_M) (T := T_M) (N := 7) hx hb hts in_M hown hK hP 0 x_hM rfl 1 (by decide) (hts _ gm_155) (fun _ h9 => h9) rfl d_M_renew_25 ?_
      refine x_V (rest := []) ⟨hx, hb, hml, hown, hts⟩ (c_T_extendLease_ok l D cI cN ad z) gm_365 gm_350 gm_351 gm_32 gm_352 ⟨rfl, rfl⟩ hd_T_extendLease ⟨Nat.le_of_ble_eq_true rfl, Nat.le_of_ble_eq_true rfl⟩ hK hP hD hS hA (va_recv hK hP (ci := 3) (q0 := 2) rfl x_hT) rfl hl.1 rfl (Nat.le_of_ble_eq_true rfl) d_M_renew_28 ⟨Nat.le_of_ble_eq_true rfl, Nat.le_of_ble_eq_true rfl⟩ (fun H locs hP hD hS => ?_)
      obtain ⟨z4, ez4⟩ : ∃ zt_ : x_S, zt_ = x_ext z := ⟨_, rfl⟩
      rw [← ez4] at hP hD
      refine lv_aload_n hx hb d_M_renew_31 rfl (lv_at hl 1 rfl) ?_
      refine va_get (D := D) (ci := 4) (C := R_M) (T := T_M) (N := 7) hx hb hts in_M hown hK hP 0 x_hM rfl 1 (by decide) (hts _ gm_155) (fun _ h9 => h9) rfl d_M_renew_32 ?_
      refine va_get (D := D) (ci := 3) (C := R_T) (T := T_T) (N := 5) hx hb hts in_T hown hK hP 2 x_hT rfl 4 (by decide) (hts _ gm_142) (fun _ h9 => h9) rfl d_M_renew_35 ?_
      exact x_ri (w := x_w cI cN ad) (by subst ez4; first | (simp only [x_rnw, if_neg c2, if_neg c3, ← er1, x_cl hk]; done) | rfl | (simp only [x_rnw, if_neg c2, if_neg c3, ← er1, x_cl hk]; rfl)) hx hb hr hlk hP hD hS d_M_renew_38
    · refine lv_iconst (v := (-1)) hx hb d_M_renew_22 (by decide) ?_
      exact x_ri (w := x_w cI cN ad) (by first | (simp only [x_rnw, if_neg c2, if_pos c3, ← er1, x_cl hk]; done) | rfl | (simp only [x_rnw, if_neg c2, if_pos c3, ← er1, x_cl hk]; rfl)) hx hb hr hlk hP hD hS d_M_renew_23
set_option maxHeartbeats 4000000 in
set_option maxRecDepth 100000 in
theorem c_M_tick_ok (l : Launch) (D : va_G) (cI cN : ClassId) (ad : Nat → Nat) (z : x_S) (b : Int32) : x_C l y_M_tick c_M_tick 2 (some .int) { frames := 1, cells := 0, slots := 0, locals := 21 } D (x_ty cI cN) (x_w cI cN ad z) [.ref (ad 0), .int b] (some (.int (x_tick z b).1)) (x_w cI cN ad (x_tick z b).2) := by
  refine x_C.of (by decide) (Nat.le_of_ble_eq_true rfl) ?_
  intro p e s m below meth c hx hb hr hml hts hown hlk A hA hK hS hP hD ls hl
  have hown : s.vm.findClass R_M = some m.cls := hown
  have hl : lv_has ls 2 [(0, .ref (ad 0)), (1, .int b)] := hl
  refine lv_iload_n hx hb d_M_tick_0 rfl (lv_at hl 1 rfl) ?_
  refine lv_if_lt (tgt := 10) hx hb d_M_tick_1 (by decide) (fun c1 => ?_) (fun c1 => ?_)
  · refine lv_iconst (v := (-1)) hx hb d_M_tick_10 (by decide) ?_
    exact x_ri (w := x_w cI cN ad) (by first | (simp only [x_tick, if_pos c1]; done) | rfl | (simp only [x_tick, if_pos c1]; rfl)) hx hb hr hlk hP hD hS d_M_tick_11
  · refine lv_iload_n hx hb d_M_tick_4 rfl (lv_at hl 1 rfl) ?_
    refine lv_bipush (v := 100) hx hb d_M_tick_5 (by decide) ?_
    refine lv_icmp_le (tgt := 12) hx hb d_M_tick_7 (by decide) (fun c2 => ?_) (fun c2 => ?_)
    · refine lv_aload_n hx hb d_M_tick_12 rfl (lv_at hl 0 rfl) ?_
      refine va_get (D := D) (ci := 4) (C := R_M) (T := T_M) (N := 7) hx hb hts in_M hown hK hP 0 x_hM rfl 1 (by decide) (hts _ gm_155) (fun _ h9 => h9) rfl d_M_tick_13 ?_
      refine lv_dup hx hb d_M_tick_16 rfl ?_
      refine va_get (D := D) (ci := 3) (C := R_T) (T := T_T) (N := 5) hx hb hts in_T hown hK hP 2 x_hT rfl 2 (by decide) (hts _ gm_138) (fun _ h9 => h9) rfl d_M_tick_17 ?_
      refine lv_iload_n hx hb d_M_tick_20 rfl (lv_at hl 1 rfl) ?_
      refine lv_iadd hx hb d_M_tick_21 ?_
      refine va_put (D := D) (ci := 3) (v := .int ((z 1 2) + b)) (ty := .int) (C := R_T) (T := T_T) (N := 5) hx hb hts in_T fy_T fy_T_ok n_T hown hK hP hD hS 2 x_hT rfl 2 (by decide) (hts _ gm_138) (fun _ h9 => h9) rfl (by decide +kernel) rfl rfl (Nat.le_of_ble_eq_true rfl) d_M_tick_22 (fun H locs hP hD hS => ?_)
      obtain ⟨z3, ez3⟩ : ∃ zt_ : x_S, zt_ = x_up z 1 2 ((z 1 2) + b) := ⟨_, rfl⟩
      have hP : va_P D vwCl (x_w cI cN ad z3) H := by rw [ez3, ← x_sT (i := 2) (by decide) ((z 1 2) + b)]; exact hP
      have hD : va_D A (x_w cI cN ad z3) := by rw [ez3, ← x_sT (i := 2) (by decide) ((z 1 2) + b)]; exact hD
      refine lv_aload_n hx hb d_M_tick_25 rfl (lv_at hl 0 rfl) ?_
      refine va_get (D := D) (ci := 4) (C := R_M) (T := T_M) (N := 7) hx hb hts in_M hown hK hP 0 x_hM rfl 1 (by decide) (hts _ gm_155) (fun _ h9 => h9) rfl d_M_tick_26 ?_
      refine x_V (rest := []) ⟨hx, hb, hml, hown, hts⟩ (c_T_isRunning_ok l D cI cN ad z3) gm_370 gm_342 gm_343 gm_32 gm_344 ⟨rfl, rfl⟩ hd_T_isRunning ⟨Nat.le_of_ble_eq_true rfl, Nat.le_of_ble_eq_true rfl⟩ hK hP hD hS hA (va_recv hK hP (ci := 3) (q0 := 2) rfl x_hT) rfl hl.1 rfl (Nat.le_of_ble_eq_true rfl) d_M_tick_29 ⟨Nat.le_of_ble_eq_true rfl, Nat.le_of_ble_eq_true rfl⟩ (fun H locs hP hD hS => ?_)
      refine lv_topi (fun r4 er4 => ?_)
      refine lv_if_ne (tgt := 53) hx hb d_M_tick_32 (by decide) (fun c5 => ?_) (fun c5 => ?_)
      · refine lv_aload_n hx hb d_M_tick_53 rfl (lv_at hl 0 rfl) ?_
        refine va_get (D := D) (ci := 4) (C := R_M) (T := T_M) (N := 7) hx hb hts in_M hown hK hP 0 x_hM rfl 1 (by decide) (hts _ gm_155) (fun _ h9 => h9) rfl d_M_tick_54 ?_
        refine va_get (D := D) (ci := 3) (C := R_T) (T := T_T) (N := 5) hx hb hts in_T hown hK hP 2 x_hT rfl 2 (by decide) (hts _ gm_138) (fun _ h9 => h9) rfl d_M_tick_57 ?_
        exact x_ri (w := x_w cI cN ad) (by subst ez3 er4; first | (simp only [x_tick, if_neg c1, if_pos c2, if_neg c5]; done) | rfl | (simp only [x_tick, if_neg c1, if_pos c2, if_neg c5]; rfl)) hx hb hr hlk hP hD hS d_M_tick_60
      · refine lv_aload_n hx hb d_M_tick_35 rfl (lv_at hl 0 rfl) ?_
        refine va_get (D := D) (ci := 4) (C := R_M) (T := T_M) (N := 7) hx hb hts in_M hown hK hP 0 x_hM rfl 1 (by decide) (hts _ gm_155) (fun _ h9 => h9) rfl d_M_tick_36 ?_
        refine lv_iconst (v := 2) hx hb d_M_tick_39 (by decide) ?_
        refine va_put (D := D) (ci := 3) (v := .int 2) (ty := .int) (C := R_T) (T := T_T) (N := 5) hx hb hts in_T fy_T fy_T_ok n_T hown hK hP hD hS 2 x_hT rfl 3 (by decide) (hts _ gm_140) (fun _ h9 => h9) rfl (by decide +kernel) rfl rfl (Nat.le_of_ble_eq_true rfl) d_M_tick_40 (fun H locs hP hD hS => ?_)
        obtain ⟨z6, ez6⟩ : ∃ zt_ : x_S, zt_ = x_up z3 1 3 2 := ⟨_, rfl⟩
        have hP : va_P D vwCl (x_w cI cN ad z6) H := by rw [ez6, ← x_sT (i := 3) (by decide) 2]; exact hP
        have hD : va_D A (x_w cI cN ad z6) := by rw [ez6, ← x_sT (i := 3) (by decide) 2]; exact hD
        refine lv_aload_n hx hb d_M_tick_43 rfl (lv_at hl 0 rfl) ?_
        refine lv_iconst (v := 0) hx hb d_M_tick_44 (by decide) ?_
        refine x_top (show (0 : Int32) = nI 0 from rfl) ?_
        refine x_V (rest := []) ⟨hx, hb, hml, hown, hts⟩ (c_M_makeSecondary_ok l D cI cN ad z6 0 (by decide)) gm_240 gm_242 gm_7 gm_28 gm_243 ⟨rfl, rfl⟩ hd_M_makeSecondary ⟨Nat.le_of_ble_eq_true rfl, Nat.le_of_ble_eq_true rfl⟩ hK hP hD hS hA (va_recv hK hP (ci := 4) (q0 := 0) rfl x_hM) rfl hl.1 rfl (Nat.le_of_ble_eq_true rfl) d_M_tick_45 ⟨Nat.le_of_ble_eq_true rfl, Nat.le_of_ble_eq_true rfl⟩ (fun H locs hP hD hS => ?_)
        obtain ⟨z7, ez7⟩ : ∃ zt_ : x_S, zt_ = x_sec z6 0 := ⟨_, rfl⟩
        rw [← ez7] at hP hD
        refine lv_aload_n hx hb d_M_tick_48 rfl (lv_at hl 0 rfl) ?_
        refine lv_iconst (v := 1) hx hb d_M_tick_49 (by decide) ?_
        refine x_top (show (1 : Int32) = nI 1 from rfl) ?_
        refine x_V (rest := []) ⟨hx, hb, hml, hown, hts⟩ (c_M_makeSecondary_ok l D cI cN ad z7 1 (by decide)) gm_240 gm_242 gm_7 gm_28 gm_243 ⟨rfl, rfl⟩ hd_M_makeSecondary ⟨Nat.le_of_ble_eq_true rfl, Nat.le_of_ble_eq_true rfl⟩ hK hP hD hS hA (va_recv hK hP (ci := 4) (q0 := 0) rfl x_hM) rfl hl.1 rfl (Nat.le_of_ble_eq_true rfl) d_M_tick_50 ⟨Nat.le_of_ble_eq_true rfl, Nat.le_of_ble_eq_true rfl⟩ (fun H locs hP hD hS => ?_)
        obtain ⟨z8, ez8⟩ : ∃ zt_ : x_S, zt_ = x_sec z7 1 := ⟨_, rfl⟩
        rw [← ez8] at hP hD
        refine lv_aload_n hx hb d_M_tick_53 rfl (lv_at hl 0 rfl) ?_
        refine va_get (D := D) (ci := 4) (C := R_M) (T := T_M) (N := 7) hx hb hts in_M hown hK hP 0 x_hM rfl 1 (by decide) (hts _ gm_155) (fun _ h9 => h9) rfl d_M_tick_54 ?_
        refine va_get (D := D) (ci := 3) (C := R_T) (T := T_T) (N := 5) hx hb hts in_T hown hK hP 2 x_hT rfl 2 (by decide) (hts _ gm_138) (fun _ h9 => h9) rfl d_M_tick_57 ?_
        exact x_ri (w := x_w cI cN ad) (by subst ez3 er4 ez6 ez7 ez8; first | (simp only [x_tick, if_neg c1, if_pos c2, if_pos c5]; done) | rfl | (simp only [x_tick, if_neg c1, if_pos c2, if_pos c5]; rfl)) hx hb hr hlk hP hD hS d_M_tick_60
    · refine lv_iconst (v := (-1)) hx hb d_M_tick_10 (by decide) ?_
      exact x_ri (w := x_w cI cN ad) (by first | (simp only [x_tick, if_neg c1, if_neg c2]; done) | rfl | (simp only [x_tick, if_neg c1, if_neg c2]; rfl)) hx hb hr hlk hP hD hS d_M_tick_11
set_option maxHeartbeats 4000000 in
set_option maxRecDepth 100000 in
theorem c_M_block_ok (l : Launch) (D : va_G) (cI cN : ClassId) (ad : Nat → Nat) (z : x_S) (a b f : Int32) : x_C l y_M_block c_M_block 5 (some .long) { frames := 2, cells := 0, slots := 0, locals := 42 } D (x_ty cI cN) (x_w cI cN ad z) [.ref (ad 0), .int a, .int b, .int f] (some (.long (x_block z a b f))) (x_w cI cN ad z) := by
  refine x_C.of (by decide) (Nat.le_of_ble_eq_true rfl) ?_
  intro p e s m below meth c hx hb hr hml hts hown hlk A hA hK hS hP hD ls hl
  have hown : s.vm.findClass R_M = some m.cls := hown
  have hl : lv_has ls 5 [(0, .ref (ad 0)), (1, .int a), (2, .int b), (3, .int f)] := hl
  refine lv_iload_n hx hb d_M_block_0 rfl (lv_at hl 1 rfl) ?_
  refine x_T (rest := []) ⟨hx, hb, hml, hown, hts⟩ (c_M_isNode_ok l D cI cN ad z a) gm_261 gm_262 gm_28 gm_263 ⟨rfl, rfl⟩ hd_M_isNode ⟨Nat.le_of_ble_eq_true rfl, Nat.le_of_ble_eq_true rfl⟩ hK hP hD hS hA rfl hl.1 rfl (Nat.le_of_ble_eq_true rfl) d_M_block_1 ⟨Nat.le_of_ble_eq_true rfl, Nat.le_of_ble_eq_true rfl⟩ (fun H locs hP hD hS => ?_)
  refine lv_topi (fun r1 er1 => ?_)
  refine lv_if_eq (tgt := 17) hx hb d_M_block_4 (by decide) (fun c2 => ?_) (fun c2 => ?_)
  · refine lv_ldc2 (v := (-1000000000000)) hx hb hown (hts (.constantLong R_M 85 (-1000000000000)) gm_252) d_M_block_17 ?_
    exact x_rl (by subst er1; first | (simp only [x_block, if_pos c2]; done) | rfl | (simp only [x_block, if_pos c2]; rfl)) hx hb hr hlk hP hD hS d_M_block_20
  · obtain ⟨k, hk, ek⟩ := x_nodeE (c := a) (by rw [← er1]; exact c2)
    subst ek
    refine lv_iload_n hx hb d_M_block_7 rfl (lv_at hl 2 rfl) ?_
    refine lv_if_lt (tgt := 17) hx hb d_M_block_8 (by decide) (fun c3 => ?_) (fun c3 => ?_)
    · refine lv_ldc2 (v := (-1000000000000)) hx hb hown (hts (.constantLong R_M 85 (-1000000000000)) gm_252) d_M_block_17 ?_
      exact x_rl (by subst er1; first | (simp only [x_block, if_neg c2, if_pos c3, x_cl hk]; done) | rfl | (simp only [x_block, if_neg c2, if_pos c3, x_cl hk]; rfl)) hx hb hr hlk hP hD hS d_M_block_20
    · refine lv_iload_n hx hb d_M_block_11 rfl (lv_at hl 2 rfl) ?_
      refine lv_bipush (v := 32) hx hb d_M_block_12 (by decide) ?_
      refine lv_icmp_lt (tgt := 21) hx hb d_M_block_14 (by decide) (fun c4 => ?_) (fun c4 => ?_)
      · obtain ⟨bb, hbb, eb⟩ := x_b32E c3 c4
        subst eb
        refine lv_aload_n hx hb d_M_block_21 rfl (lv_at hl 0 rfl) ?_
        refine va_get (D := D) (ci := 4) (C := R_M) (T := T_M) (N := 7) hx hb hts in_M hown hK hP 0 x_hM rfl 0 (by decide) (hts _ gm_154) (fun _ h9 => h9) rfl d_M_block_22 ?_
        refine lv_iload_n hx hb d_M_block_25 rfl (lv_at hl 1 rfl) ?_
        refine va_aldq (D := D) hx hb hK hP 1 1 x_hA rfl (x_in2 hk) d_M_block_26 ?_
        refine x_topv (x_nf_at hk) ?_
        refine va_get (D := D) (ci := 2) (C := R_N) (T := T_N) (N := 8) hx hb hts in_N hown hK hP (6 + k) (x_hN hk) rfl 0 (by decide) (hts _ gm_90) (fun _ h9 => h9) rfl d_M_block_27 ?_
        refine lv_astore (lv' := [(4, .ref (ad (8 + k))), (0, .ref (ad 0)), (1, .int (nI k)), (2, .int (nI bb)), (3, .int f)]) hx hb d_M_block_30 hl (by decide) rfl (fun ls hl => ?_)
        refine lv_iload_n hx hb d_M_block_32 rfl (lv_at hl 4 rfl) ?_
        refine lv_if_eq (tgt := 47) hx hb d_M_block_33 (by decide) (fun c5 => ?_) (fun c5 => ?_)
        · refine lv_aload hx hb d_M_block_47 (lv_at hl 0 rfl) ?_
          refine lv_iload_n hx hb d_M_block_49 rfl (lv_at hl 3 rfl) ?_
          refine x_V (rest := []) ⟨hx, hb, hml, hown, hts⟩ (c_D_held_ok l D cI cN ad z k hk bb hbb) gm_253 gm_254 gm_255 gm_31 gm_256 ⟨rfl, rfl⟩ hd_D_held ⟨Nat.le_of_ble_eq_true rfl, Nat.le_of_ble_eq_true rfl⟩ hK hP hD hS hA (va_recv hK hP (ci := 1) (q0 := (8 + k)) rfl (x_hD hk)) rfl hl.1 rfl (Nat.le_of_ble_eq_true rfl) d_M_block_50 ⟨Nat.le_of_ble_eq_true rfl, Nat.le_of_ble_eq_true rfl⟩ (fun H locs hP hD hS => ?_)
          refine lv_topi (fun r6 er6 => ?_)
          refine lv_i2l (v := r6.toInt64) hx hb d_M_block_53 rfl ?_
          exact x_rl (by subst er1 er6; first | (simp only [x_block, if_neg c2, if_neg c3, if_pos c4, if_pos c5, x_cl hk, x_cl32 hbb]; done) | rfl | (simp only [x_block, if_neg c2, if_neg c3, if_pos c4, if_pos c5, x_cl hk, x_cl32 hbb]; rfl)) hx hb hr hlk hP hD hS d_M_block_54
        · refine lv_aload hx hb d_M_block_36 (lv_at hl 0 rfl) ?_
          refine va_get (D := D) (ci := 1) (C := R_D) (T := T_D) (N := 3) hx hb hts in_D hown hK hP (8 + k) (x_hD hk) rfl 0 (by decide) (hts _ gm_79) (fun _ h9 => h9) rfl d_M_block_38 ?_
          refine lv_iload_n hx hb d_M_block_41 rfl (lv_at hl 3 rfl) ?_
          refine va_iald (D := D) hx hb hK hP (10 + k) 0 (x_hS hk) rfl (x_in32 hbb) d_M_block_42 ?_
          refine x_top (show z (7 + k) (nI bb).toNatClampNeg = z (7 + k) bb by rw [x_cl32 hbb]) ?_
          refine lv_i2l (v := (z (7 + k) bb).toInt64) hx hb d_M_block_43 rfl ?_
          refine lv_goto (tgt := 54) hx hb d_M_block_44 (by decide) ?_
          exact x_rl (by subst er1; first | (simp only [x_block, if_neg c2, if_neg c3, if_pos c4, if_neg c5, x_cl hk, x_cl32 hbb]; done) | rfl | (simp only [x_block, if_neg c2, if_neg c3, if_pos c4, if_neg c5, x_cl hk, x_cl32 hbb]; rfl)) hx hb hr hlk hP hD hS d_M_block_54
      · refine lv_ldc2 (v := (-1000000000000)) hx hb hown (hts (.constantLong R_M 85 (-1000000000000)) gm_252) d_M_block_17 ?_
        exact x_rl (by subst er1; first | (simp only [x_block, if_neg c2, if_neg c3, if_neg c4, x_cl hk]; done) | rfl | (simp only [x_block, if_neg c2, if_neg c3, if_neg c4, x_cl hk]; rfl)) hx hb hr hlk hP hD hS d_M_block_20
set_option maxHeartbeats 4000000 in
set_option maxRecDepth 100000 in
theorem c_M_node_ok (l : Launch) (D : va_G) (cI cN : ClassId) (ad : Nat → Nat) (z : x_S) (a w : Int32) : x_C l y_M_node c_M_node 4 (some .int) { frames := 2, cells := 0, slots := 0, locals := 40 } D (x_ty cI cN) (x_w cI cN ad z) [.ref (ad 0), .int a, .int w] (some (.int (x_node z a w))) (x_w cI cN ad z) := by
  refine x_C.of (by decide) (Nat.le_of_ble_eq_true rfl) ?_
  intro p e s m below meth c hx hb hr hml hts hown hlk A hA hK hS hP hD ls hl
  have hown : s.vm.findClass R_M = some m.cls := hown
  have hl : lv_has ls 4 [(0, .ref (ad 0)), (1, .int a), (2, .int w)] := hl
  refine lv_iload_n hx hb d_M_node_0 rfl (lv_at hl 1 rfl) ?_
  refine x_T (rest := []) ⟨hx, hb, hml, hown, hts⟩ (c_M_isNode_ok l D cI cN ad z a) gm_261 gm_262 gm_28 gm_263 ⟨rfl, rfl⟩ hd_M_isNode ⟨Nat.le_of_ble_eq_true rfl, Nat.le_of_ble_eq_true rfl⟩ hK hP hD hS hA rfl hl.1 rfl (Nat.le_of_ble_eq_true rfl) d_M_node_1 ⟨Nat.le_of_ble_eq_true rfl, Nat.le_of_ble_eq_true rfl⟩ (fun H locs hP hD hS => ?_)
  refine lv_topi (fun r1 er1 => ?_)
  refine lv_if_ne (tgt := 9) hx hb d_M_node_4 (by decide) (fun c2 => ?_) (fun c2 => ?_)
  · obtain ⟨k, hk, ek⟩ := x_nodeE (c := a) (by rw [← er1]; exact c2)
    subst ek
    refine lv_aload_n hx hb d_M_node_9 rfl (lv_at hl 0 rfl) ?_
    refine va_get (D := D) (ci := 4) (C := R_M) (T := T_M) (N := 7) hx hb hts in_M hown hK hP 0 x_hM rfl 0 (by decide) (hts _ gm_154) (fun _ h9 => h9) rfl d_M_node_10 ?_
    refine lv_iload_n hx hb d_M_node_13 rfl (lv_at hl 1 rfl) ?_
    refine va_aldq (D := D) hx hb hK hP 1 1 x_hA rfl (x_in2 hk) d_M_node_14 ?_
    refine x_topv (x_nf_at hk) ?_
    refine lv_astore_n (lv' := [(3, .ref (ad (6 + k))), (0, .ref (ad 0)), (1, .int (nI k)), (2, .int w)]) hx hb d_M_node_15 rfl hl (by decide) rfl (fun ls hl => ?_)
    refine lv_iload_n hx hb d_M_node_16 rfl (lv_at hl 3 rfl) ?_
    rcases x_sw 8 w with hsw | ⟨jj, hjj, ejj⟩
    · refine lv_tableOut (tgt := 119) hx hb d_M_node_17 hsw (by decide) ?_
      have hne0 : ¬ w = 0 := by rintro rfl; revert hsw; decide
      have hne1 : ¬ w = 1 := by rintro rfl; revert hsw; decide
      have hne2 : ¬ w = 2 := by rintro rfl; revert hsw; decide
      have hne3 : ¬ w = 3 := by rintro rfl; revert hsw; decide
      have hne4 : ¬ w = 4 := by rintro rfl; revert hsw; decide
      have hne5 : ¬ w = 5 := by rintro rfl; revert hsw; decide
      have hne6 : ¬ w = 6 := by rintro rfl; revert hsw; decide
      have hne7 : ¬ w = 7 := by rintro rfl; revert hsw; decide
      refine lv_iconst (v := (-1)) hx hb d_M_node_119 (by decide) ?_
      exact x_rp (by subst er1; first | (simp only [x_node, if_neg c2, if_neg hne0, if_neg hne1, if_neg hne2, if_neg hne3, if_neg hne4, if_neg hne5, if_neg hne6, if_neg hne7, x_cl hk]; done) | rfl | (simp only [x_node, if_neg c2, if_neg hne0, if_neg hne1, if_neg hne2, if_neg hne3, if_neg hne4, if_neg hne5, if_neg hne6, if_neg hne7, x_cl hk]; rfl)) hx hb hr hlk hP hD hS d_M_node_120
    · subst ejj
      match jj, hjj with
      | 0, _ =>
        refine lv_tableIn (off := 47) (tgt := 64) hx hb d_M_node_17 (by decide) (by decide) rfl (by decide) ?_
        refine lv_aload_n hx hb d_M_node_64 rfl (lv_at hl 0 rfl) ?_
        refine va_get (D := D) (ci := 2) (C := R_N) (T := T_N) (N := 8) hx hb hts in_N hown hK hP (6 + k) (x_hN hk) rfl 1 (by decide) (hts _ gm_92) (fun _ h9 => h9) rfl d_M_node_65 ?_
        refine x_T (rest := []) ⟨hx, hb, hml, hown, hts⟩ (c_M_asNumber_ok l D cI cN ad z (z (5 + k) 0)) gm_379 gm_380 gm_28 gm_381 ⟨rfl, rfl⟩ hd_M_asNumber ⟨Nat.le_of_ble_eq_true rfl, Nat.le_of_ble_eq_true rfl⟩ hK hP hD hS hA rfl hl.1 rfl (Nat.le_of_ble_eq_true rfl) d_M_node_68 ⟨Nat.le_of_ble_eq_true rfl, Nat.le_of_ble_eq_true rfl⟩ (fun H locs hP hD hS => ?_)
        refine lv_topi (fun r3 er3 => ?_)
        exact x_rp (by subst er1 er3; first | (simp only [x_node, if_neg c2, if_pos (by decide : nI 0 = 0), x_cl hk]; done) | rfl | (simp only [x_node, if_neg c2, if_pos (by decide : nI 0 = 0), x_cl hk]; rfl)) hx hb hr hlk hP hD hS d_M_node_71
      | 1, _ =>
        refine lv_tableIn (off := 55) (tgt := 72) hx hb d_M_node_17 (by decide) (by decide) rfl (by decide) ?_
        refine lv_aload_n hx hb d_M_node_72 rfl (lv_at hl 0 rfl) ?_
        refine va_get (D := D) (ci := 2) (C := R_N) (T := T_N) (N := 8) hx hb hts in_N hown hK hP (6 + k) (x_hN hk) rfl 2 (by decide) (hts _ gm_94) (fun _ h9 => h9) rfl d_M_node_73 ?_
        refine x_T (rest := []) ⟨hx, hb, hml, hown, hts⟩ (c_M_asNumber_ok l D cI cN ad z (z (5 + k) 1)) gm_379 gm_380 gm_28 gm_381 ⟨rfl, rfl⟩ hd_M_asNumber ⟨Nat.le_of_ble_eq_true rfl, Nat.le_of_ble_eq_true rfl⟩ hK hP hD hS hA rfl hl.1 rfl (Nat.le_of_ble_eq_true rfl) d_M_node_76 ⟨Nat.le_of_ble_eq_true rfl, Nat.le_of_ble_eq_true rfl⟩ (fun H locs hP hD hS => ?_)
        refine lv_topi (fun r4 er4 => ?_)
        exact x_rp (by subst er1 er4; first | (simp only [x_node, if_neg c2, if_neg (by decide : ¬ nI 1 = 0), if_pos (by decide : nI 1 = 1), x_cl hk]; done) | rfl | (simp only [x_node, if_neg c2, if_neg (by decide : ¬ nI 1 = 0), if_pos (by decide : nI 1 = 1), x_cl hk]; rfl)) hx hb hr hlk hP hD hS d_M_node_79
      | 2, _ =>
        refine lv_tableIn (off := 63) (tgt := 80) hx hb d_M_node_17 (by decide) (by decide) rfl (by decide) ?_
        refine lv_aload_n hx hb d_M_node_80 rfl (lv_at hl 0 rfl) ?_
        refine va_get (D := D) (ci := 2) (C := R_N) (T := T_N) (N := 8) hx hb hts in_N hown hK hP (6 + k) (x_hN hk) rfl 3 (by decide) (hts _ gm_96) (fun _ h9 => h9) rfl d_M_node_81 ?_
        exact x_rp (by subst er1; first | (simp only [x_node, if_neg c2, if_neg (by decide : ¬ nI 2 = 0), if_neg (by decide : ¬ nI 2 = 1), if_pos (by decide : nI 2 = 2), x_cl hk]; done) | rfl | (simp only [x_node, if_neg c2, if_neg (by decide : ¬ nI 2 = 0), if_neg (by decide : ¬ nI 2 = 1), if_pos (by decide : nI 2 = 2), x_cl hk]; rfl)) hx hb hr hlk hP hD hS d_M_node_84
      | 3, _ =>
        refine lv_tableIn (off := 68) (tgt := 85) hx hb d_M_node_17 (by decide) (by decide) rfl (by decide) ?_
        refine lv_aload_n hx hb d_M_node_85 rfl (lv_at hl 0 rfl) ?_
        refine va_get (D := D) (ci := 2) (C := R_N) (T := T_N) (N := 8) hx hb hts in_N hown hK hP (6 + k) (x_hN hk) rfl 4 (by decide) (hts _ gm_98) (fun _ h9 => h9) rfl d_M_node_86 ?_
        exact x_rp (by subst er1; first | (simp only [x_node, if_neg c2, if_neg (by decide : ¬ nI 3 = 0), if_neg (by decide : ¬ nI 3 = 1), if_neg (by decide : ¬ nI 3 = 2), if_pos (by decide : nI 3 = 3), x_cl hk]; done) | rfl | (simp only [x_node, if_neg c2, if_neg (by decide : ¬ nI 3 = 0), if_neg (by decide : ¬ nI 3 = 1), if_neg (by decide : ¬ nI 3 = 2), if_pos (by decide : nI 3 = 3), x_cl hk]; rfl)) hx hb hr hlk hP hD hS d_M_node_89
      | 4, _ =>
        refine lv_tableIn (off := 73) (tgt := 90) hx hb d_M_node_17 (by decide) (by decide) rfl (by decide) ?_
        refine lv_aload_n hx hb d_M_node_90 rfl (lv_at hl 0 rfl) ?_
        refine va_get (D := D) (ci := 2) (C := R_N) (T := T_N) (N := 8) hx hb hts in_N hown hK hP (6 + k) (x_hN hk) rfl 5 (by decide) (hts _ gm_100) (fun _ h9 => h9) rfl d_M_node_91 ?_
        refine x_T (rest := []) ⟨hx, hb, hml, hown, hts⟩ (c_M_asNumber_ok l D cI cN ad z (z (5 + k) 4)) gm_379 gm_380 gm_28 gm_381 ⟨rfl, rfl⟩ hd_M_asNumber ⟨Nat.le_of_ble_eq_true rfl, Nat.le_of_ble_eq_true rfl⟩ hK hP hD hS hA rfl hl.1 rfl (Nat.le_of_ble_eq_true rfl) d_M_node_94 ⟨Nat.le_of_ble_eq_true rfl, Nat.le_of_ble_eq_true rfl⟩ (fun H locs hP hD hS => ?_)
        refine lv_topi (fun r5 er5 => ?_)
        exact x_rp (by subst er1 er5; first | (simp only [x_node, if_neg c2, if_neg (by decide : ¬ nI 4 = 0), if_neg (by decide : ¬ nI 4 = 1), if_neg (by decide : ¬ nI 4 = 2), if_neg (by decide : ¬ nI 4 = 3), if_pos (by decide : nI 4 = 4), x_cl hk]; done) | rfl | (simp only [x_node, if_neg c2, if_neg (by decide : ¬ nI 4 = 0), if_neg (by decide : ¬ nI 4 = 1), if_neg (by decide : ¬ nI 4 = 2), if_neg (by decide : ¬ nI 4 = 3), if_pos (by decide : nI 4 = 4), x_cl hk]; rfl)) hx hb hr hlk hP hD hS d_M_node_97
      | 5, _ =>
        refine lv_tableIn (off := 81) (tgt := 98) hx hb d_M_node_17 (by decide) (by decide) rfl (by decide) ?_
        refine lv_aload_n hx hb d_M_node_98 rfl (lv_at hl 0 rfl) ?_
        refine va_get (D := D) (ci := 2) (C := R_N) (T := T_N) (N := 8) hx hb hts in_N hown hK hP (6 + k) (x_hN hk) rfl 6 (by decide) (hts _ gm_102) (fun _ h9 => h9) rfl d_M_node_99 ?_
        exact x_rp (by subst er1; first | (simp only [x_node, if_neg c2, if_neg (by decide : ¬ nI 5 = 0), if_neg (by decide : ¬ nI 5 = 1), if_neg (by decide : ¬ nI 5 = 2), if_neg (by decide : ¬ nI 5 = 3), if_neg (by decide : ¬ nI 5 = 4), if_pos (by decide : nI 5 = 5), x_cl hk]; done) | rfl | (simp only [x_node, if_neg c2, if_neg (by decide : ¬ nI 5 = 0), if_neg (by decide : ¬ nI 5 = 1), if_neg (by decide : ¬ nI 5 = 2), if_neg (by decide : ¬ nI 5 = 3), if_neg (by decide : ¬ nI 5 = 4), if_pos (by decide : nI 5 = 5), x_cl hk]; rfl)) hx hb hr hlk hP hD hS d_M_node_102
      | 6, _ =>
        refine lv_tableIn (off := 86) (tgt := 103) hx hb d_M_node_17 (by decide) (by decide) rfl (by decide) ?_
        refine lv_aload_n hx hb d_M_node_103 rfl (lv_at hl 0 rfl) ?_
        refine va_get (D := D) (ci := 2) (C := R_N) (T := T_N) (N := 8) hx hb hts in_N hown hK hP (6 + k) (x_hN hk) rfl 0 (by decide) (hts _ gm_90) (fun _ h9 => h9) rfl d_M_node_104 ?_
        refine x_V (rest := []) ⟨hx, hb, hml, hown, hts⟩ (c_D_countCached_ok l D cI cN ad z k hk) gm_382 gm_383 gm_384 gm_31 gm_385 ⟨rfl, rfl⟩ hd_D_countCached ⟨Nat.le_of_ble_eq_true rfl, Nat.le_of_ble_eq_true rfl⟩ hK hP hD hS hA (va_recv hK hP (ci := 1) (q0 := (8 + k)) rfl (x_hD hk)) rfl hl.1 rfl (Nat.le_of_ble_eq_true rfl) d_M_node_107 ⟨Nat.le_of_ble_eq_true rfl, Nat.le_of_ble_eq_true rfl⟩ (fun H locs hP hD hS => ?_)
        refine lv_topi (fun r6 er6 => ?_)
        exact x_rp (by subst er1 er6; first | (simp only [x_node, if_neg c2, if_neg (by decide : ¬ nI 6 = 0), if_neg (by decide : ¬ nI 6 = 1), if_neg (by decide : ¬ nI 6 = 2), if_neg (by decide : ¬ nI 6 = 3), if_neg (by decide : ¬ nI 6 = 4), if_neg (by decide : ¬ nI 6 = 5), if_pos (by decide : nI 6 = 6), x_cl hk]; done) | rfl | (simp only [x_node, if_neg c2, if_neg (by decide : ¬ nI 6 = 0), if_neg (by decide : ¬ nI 6 = 1), if_neg (by decide : ¬ nI 6 = 2), if_neg (by decide : ¬ nI 6 = 3), if_neg (by decide : ¬ nI 6 = 4), if_neg (by decide : ¬ nI 6 = 5), if_pos (by decide : nI 6 = 6), x_cl hk]; rfl)) hx hb hr hlk hP hD hS d_M_node_110
      | 7, _ =>
        refine lv_tableIn (off := 94) (tgt := 111) hx hb d_M_node_17 (by decide) (by decide) rfl (by decide) ?_
        refine lv_aload_n hx hb d_M_node_111 rfl (lv_at hl 0 rfl) ?_
        refine va_get (D := D) (ci := 2) (C := R_N) (T := T_N) (N := 8) hx hb hts in_N hown hK hP (6 + k) (x_hN hk) rfl 7 (by decide) (hts _ gm_104) (fun _ h9 => h9) rfl d_M_node_112 ?_
        refine x_T (rest := []) ⟨hx, hb, hml, hown, hts⟩ (c_M_asNumber_ok l D cI cN ad z (z (5 + k) 6)) gm_379 gm_380 gm_28 gm_381 ⟨rfl, rfl⟩ hd_M_asNumber ⟨Nat.le_of_ble_eq_true rfl, Nat.le_of_ble_eq_true rfl⟩ hK hP hD hS hA rfl hl.1 rfl (Nat.le_of_ble_eq_true rfl) d_M_node_115 ⟨Nat.le_of_ble_eq_true rfl, Nat.le_of_ble_eq_true rfl⟩ (fun H locs hP hD hS => ?_)
        refine lv_topi (fun r7 er7 => ?_)
        exact x_rp (by subst er1 er7; first | (simp only [x_node, if_neg c2, if_neg (by decide : ¬ nI 7 = 0), if_neg (by decide : ¬ nI 7 = 1), if_neg (by decide : ¬ nI 7 = 2), if_neg (by decide : ¬ nI 7 = 3), if_neg (by decide : ¬ nI 7 = 4), if_neg (by decide : ¬ nI 7 = 5), if_neg (by decide : ¬ nI 7 = 6), if_pos (by decide : nI 7 = 7), x_cl hk]; done) | rfl | (simp only [x_node, if_neg c2, if_neg (by decide : ¬ nI 7 = 0), if_neg (by decide : ¬ nI 7 = 1), if_neg (by decide : ¬ nI 7 = 2), if_neg (by decide : ¬ nI 7 = 3), if_neg (by decide : ¬ nI 7 = 4), if_neg (by decide : ¬ nI 7 = 5), if_neg (by decide : ¬ nI 7 = 6), if_pos (by decide : nI 7 = 7), x_cl hk]; rfl)) hx hb hr hlk hP hD hS d_M_node_118
      | jj + 8, h => exact absurd h (by omega)
  · refine lv_iconst (v := (-1)) hx hb d_M_node_7 (by decide) ?_
    exact x_rp (by subst er1; first | (simp only [x_node, if_pos c2]; done) | rfl | (simp only [x_node, if_pos c2]; rfl)) hx hb hr hlk hP hD hS d_M_node_8
set_option maxHeartbeats 4000000 in
set_option maxRecDepth 100000 in
theorem c_M_mirror_ok (l : Launch) (D : va_G) (cI cN : ClassId) (ad : Nat → Nat) (z : x_S) (w : Int32) : x_C l y_M_mirror c_M_mirror 2 (some .int) { frames := 1, cells := 0, slots := 0, locals := 20 } D (x_ty cI cN) (x_w cI cN ad z) [.ref (ad 0), .int w] (some (.int (x_mirror z w))) (x_w cI cN ad z) := by
  refine x_C.of (by decide) (Nat.le_of_ble_eq_true rfl) ?_
  intro p e s m below meth c hx hb hr hml hts hown hlk A hA hK hS hP hD ls hl
  have hown : s.vm.findClass R_M = some m.cls := hown
  have hl : lv_has ls 2 [(0, .ref (ad 0)), (1, .int w)] := hl
  refine lv_iload_n hx hb d_M_mirror_0 rfl (lv_at hl 1 rfl) ?_
  rcases x_sw 7 w with hsw | ⟨jj, hjj, ejj⟩
  · refine lv_tableOut (tgt := 123) hx hb d_M_mirror_1 hsw (by decide) ?_
    have hne0 : ¬ w = 0 := by rintro rfl; revert hsw; decide
    have hne1 : ¬ w = 1 := by rintro rfl; revert hsw; decide
    have hne2 : ¬ w = 2 := by rintro rfl; revert hsw; decide
    have hne3 : ¬ w = 3 := by rintro rfl; revert hsw; decide
    have hne4 : ¬ w = 4 := by rintro rfl; revert hsw; decide
    have hne5 : ¬ w = 5 := by rintro rfl; revert hsw; decide
    have hne6 : ¬ w = 6 := by rintro rfl; revert hsw; decide
    refine lv_iconst (v := (-1)) hx hb d_M_mirror_123 (by decide) ?_
    exact x_rp (by first | (simp only [x_mirror, if_neg hne0, if_neg hne1, if_neg hne2, if_neg hne3, if_neg hne4, if_neg hne5, if_neg hne6]; done) | rfl | (simp only [x_mirror, if_neg hne0, if_neg hne1, if_neg hne2, if_neg hne3, if_neg hne4, if_neg hne5, if_neg hne6]; rfl)) hx hb hr hlk hP hD hS d_M_mirror_124
  · subst ejj
    match jj, hjj with
    | 0, _ =>
      refine lv_tableIn (off := 43) (tgt := 44) hx hb d_M_mirror_1 (by decide) (by decide) rfl (by decide) ?_
      refine lv_aload_n hx hb d_M_mirror_44 rfl (lv_at hl 0 rfl) ?_
      refine va_get (D := D) (ci := 4) (C := R_M) (T := T_M) (N := 7) hx hb hts in_M hown hK hP 0 x_hM rfl 4 (by decide) (hts _ gm_158) (fun _ h9 => h9) rfl d_M_mirror_45 ?_
      refine x_T (rest := []) ⟨hx, hb, hml, hown, hts⟩ (c_M_asNumber_ok l D cI cN ad z (z 0 1)) gm_379 gm_380 gm_28 gm_381 ⟨rfl, rfl⟩ hd_M_asNumber ⟨Nat.le_of_ble_eq_true rfl, Nat.le_of_ble_eq_true rfl⟩ hK hP hD hS hA rfl hl.1 rfl (Nat.le_of_ble_eq_true rfl) d_M_mirror_48 ⟨Nat.le_of_ble_eq_true rfl, Nat.le_of_ble_eq_true rfl⟩ (fun H locs hP hD hS => ?_)
      refine lv_topi (fun r1 er1 => ?_)
      exact x_rp (by subst er1; first | (simp only [x_mirror, if_pos (by decide : nI 0 = 0)]; done) | rfl | (simp only [x_mirror, if_pos (by decide : nI 0 = 0)]; rfl)) hx hb hr hlk hP hD hS d_M_mirror_51
    | 1, _ =>
      refine lv_tableIn (off := 51) (tgt := 52) hx hb d_M_mirror_1 (by decide) (by decide) rfl (by decide) ?_
      refine lv_aload_n hx hb d_M_mirror_52 rfl (lv_at hl 0 rfl) ?_
      refine va_get (D := D) (ci := 4) (C := R_M) (T := T_M) (N := 7) hx hb hts in_M hown hK hP 0 x_hM rfl 5 (by decide) (hts _ gm_159) (fun _ h9 => h9) rfl d_M_mirror_53 ?_
      refine lv_if_eq (tgt := 66) hx hb d_M_mirror_56 (by decide) (fun c2 => ?_) (fun c2 => ?_)
      · refine lv_iconst (v := 2) hx hb d_M_mirror_66 (by decide) ?_
        exact x_rp (by first | (simp only [x_mirror, if_neg (by decide : ¬ nI 1 = 0), if_pos (by decide : nI 1 = 1), if_pos c2]; done) | rfl | (simp only [x_mirror, if_neg (by decide : ¬ nI 1 = 0), if_pos (by decide : nI 1 = 1), if_pos c2]; rfl)) hx hb hr hlk hP hD hS d_M_mirror_67
      · refine lv_aload_n hx hb d_M_mirror_59 rfl (lv_at hl 0 rfl) ?_
        refine va_get (D := D) (ci := 4) (C := R_M) (T := T_M) (N := 7) hx hb hts in_M hown hK hP 0 x_hM rfl 6 (by decide) (hts _ gm_160) (fun _ h9 => h9) rfl d_M_mirror_60 ?_
        refine lv_goto (tgt := 67) hx hb d_M_mirror_63 (by decide) ?_
        exact x_rp (by first | (simp only [x_mirror, if_neg (by decide : ¬ nI 1 = 0), if_pos (by decide : nI 1 = 1), if_neg c2]; done) | rfl | (simp only [x_mirror, if_neg (by decide : ¬ nI 1 = 0), if_pos (by decide : nI 1 = 1), if_neg c2]; rfl)) hx hb hr hlk hP hD hS d_M_mirror_67
    | 2, _ =>
      refine lv_tableIn (off := 67) (tgt := 68) hx hb d_M_mirror_1 (by decide) (by decide) rfl (by decide) ?_
      refine lv_aload_n hx hb d_M_mirror_68 rfl (lv_at hl 0 rfl) ?_
      refine va_get (D := D) (ci := 4) (C := R_M) (T := T_M) (N := 7) hx hb hts in_M hown hK hP 0 x_hM rfl 1 (by decide) (hts _ gm_155) (fun _ h9 => h9) rfl d_M_mirror_69 ?_
      refine va_get (D := D) (ci := 3) (C := R_T) (T := T_T) (N := 5) hx hb hts in_T hown hK hP 2 x_hT rfl 1 (by decide) (hts _ gm_136) (fun _ h9 => h9) rfl d_M_mirror_72 ?_
      exact x_rp (by first | (simp only [x_mirror, if_neg (by decide : ¬ nI 2 = 0), if_neg (by decide : ¬ nI 2 = 1), if_pos (by decide : nI 2 = 2)]; done) | rfl | (simp only [x_mirror, if_neg (by decide : ¬ nI 2 = 0), if_neg (by decide : ¬ nI 2 = 1), if_pos (by decide : nI 2 = 2)]; rfl)) hx hb hr hlk hP hD hS d_M_mirror_75
    | 3, _ =>
      refine lv_tableIn (off := 75) (tgt := 76) hx hb d_M_mirror_1 (by decide) (by decide) rfl (by decide) ?_
      refine lv_aload_n hx hb d_M_mirror_76 rfl (lv_at hl 0 rfl) ?_
      refine va_get (D := D) (ci := 4) (C := R_M) (T := T_M) (N := 7) hx hb hts in_M hown hK hP 0 x_hM rfl 1 (by decide) (hts _ gm_155) (fun _ h9 => h9) rfl d_M_mirror_77 ?_
      refine va_get (D := D) (ci := 3) (C := R_T) (T := T_T) (N := 5) hx hb hts in_T hown hK hP 2 x_hT rfl 3 (by decide) (hts _ gm_140) (fun _ h9 => h9) rfl d_M_mirror_80 ?_
      exact x_rp (by first | (simp only [x_mirror, if_neg (by decide : ¬ nI 3 = 0), if_neg (by decide : ¬ nI 3 = 1), if_neg (by decide : ¬ nI 3 = 2), if_pos (by decide : nI 3 = 3)]; done) | rfl | (simp only [x_mirror, if_neg (by decide : ¬ nI 3 = 0), if_neg (by decide : ¬ nI 3 = 1), if_neg (by decide : ¬ nI 3 = 2), if_pos (by decide : nI 3 = 3)]; rfl)) hx hb hr hlk hP hD hS d_M_mirror_83
    | 4, _ =>
      refine lv_tableIn (off := 83) (tgt := 84) hx hb d_M_mirror_1 (by decide) (by decide) rfl (by decide) ?_
      refine lv_aload_n hx hb d_M_mirror_84 rfl (lv_at hl 0 rfl) ?_
      refine va_get (D := D) (ci := 4) (C := R_M) (T := T_M) (N := 7) hx hb hts in_M hown hK hP 0 x_hM rfl 1 (by decide) (hts _ gm_155) (fun _ h9 => h9) rfl d_M_mirror_85 ?_
      refine va_get (D := D) (ci := 3) (C := R_T) (T := T_T) (N := 5) hx hb hts in_T hown hK hP 2 x_hT rfl 3 (by decide) (hts _ gm_140) (fun _ h9 => h9) rfl d_M_mirror_88 ?_
      refine lv_iconst (v := 2) hx hb d_M_mirror_91 (by decide) ?_
      refine lv_icmp_ne (tgt := 99) hx hb d_M_mirror_92 (by decide) (fun c3 => ?_) (fun c3 => ?_)
      · refine lv_aload_n hx hb d_M_mirror_99 rfl (lv_at hl 0 rfl) ?_
        refine va_get (D := D) (ci := 4) (C := R_M) (T := T_M) (N := 7) hx hb hts in_M hown hK hP 0 x_hM rfl 1 (by decide) (hts _ gm_155) (fun _ h9 => h9) rfl d_M_mirror_100 ?_
        refine va_get (D := D) (ci := 3) (C := R_T) (T := T_T) (N := 5) hx hb hts in_T hown hK hP 2 x_hT rfl 4 (by decide) (hts _ gm_142) (fun _ h9 => h9) rfl d_M_mirror_103 ?_
        exact x_rp (by first | (simp only [x_mirror, if_neg (by decide : ¬ nI 4 = 0), if_neg (by decide : ¬ nI 4 = 1), if_neg (by decide : ¬ nI 4 = 2), if_neg (by decide : ¬ nI 4 = 3), if_pos (by decide : nI 4 = 4), if_neg c3]; done) | rfl | (simp only [x_mirror, if_neg (by decide : ¬ nI 4 = 0), if_neg (by decide : ¬ nI 4 = 1), if_neg (by decide : ¬ nI 4 = 2), if_neg (by decide : ¬ nI 4 = 3), if_pos (by decide : nI 4 = 4), if_neg c3]; rfl)) hx hb hr hlk hP hD hS d_M_mirror_106
      · refine lv_iconst (v := 0) hx hb d_M_mirror_95 (by decide) ?_
        refine lv_goto (tgt := 106) hx hb d_M_mirror_96 (by decide) ?_
        exact x_rp (by first | (simp only [x_mirror, if_neg (by decide : ¬ nI 4 = 0), if_neg (by decide : ¬ nI 4 = 1), if_neg (by decide : ¬ nI 4 = 2), if_neg (by decide : ¬ nI 4 = 3), if_pos (by decide : nI 4 = 4), if_pos c3]; done) | rfl | (simp only [x_mirror, if_neg (by decide : ¬ nI 4 = 0), if_neg (by decide : ¬ nI 4 = 1), if_neg (by decide : ¬ nI 4 = 2), if_neg (by decide : ¬ nI 4 = 3), if_pos (by decide : nI 4 = 4), if_pos c3]; rfl)) hx hb hr hlk hP hD hS d_M_mirror_106
    | 5, _ =>
      refine lv_tableIn (off := 106) (tgt := 107) hx hb d_M_mirror_1 (by decide) (by decide) rfl (by decide) ?_
      refine lv_aload_n hx hb d_M_mirror_107 rfl (lv_at hl 0 rfl) ?_
      refine va_get (D := D) (ci := 4) (C := R_M) (T := T_M) (N := 7) hx hb hts in_M hown hK hP 0 x_hM rfl 2 (by decide) (hts _ gm_156) (fun _ h9 => h9) rfl d_M_mirror_108 ?_
      refine va_get (D := D) (ci := 0) (C := R_B) (T := T_B) (N := 3) hx hb hts in_B hown hK hP 3 x_hB rfl 2 (by decide) (hts _ gm_58) (fun _ h9 => h9) rfl d_M_mirror_111 ?_
      exact x_rp (by first | (simp only [x_mirror, if_neg (by decide : ¬ nI 5 = 0), if_neg (by decide : ¬ nI 5 = 1), if_neg (by decide : ¬ nI 5 = 2), if_neg (by decide : ¬ nI 5 = 3), if_neg (by decide : ¬ nI 5 = 4), if_pos (by decide : nI 5 = 5)]; done) | rfl | (simp only [x_mirror, if_neg (by decide : ¬ nI 5 = 0), if_neg (by decide : ¬ nI 5 = 1), if_neg (by decide : ¬ nI 5 = 2), if_neg (by decide : ¬ nI 5 = 3), if_neg (by decide : ¬ nI 5 = 4), if_pos (by decide : nI 5 = 5)]; rfl)) hx hb hr hlk hP hD hS d_M_mirror_114
    | 6, _ =>
      refine lv_tableIn (off := 114) (tgt := 115) hx hb d_M_mirror_1 (by decide) (by decide) rfl (by decide) ?_
      refine lv_aload_n hx hb d_M_mirror_115 rfl (lv_at hl 0 rfl) ?_
      refine va_get (D := D) (ci := 4) (C := R_M) (T := T_M) (N := 7) hx hb hts in_M hown hK hP 0 x_hM rfl 3 (by decide) (hts _ gm_157) (fun _ h9 => h9) rfl d_M_mirror_116 ?_
      refine x_T (rest := []) ⟨hx, hb, hml, hown, hts⟩ (c_M_asNumber_ok l D cI cN ad z (z 0 0)) gm_379 gm_380 gm_28 gm_381 ⟨rfl, rfl⟩ hd_M_asNumber ⟨Nat.le_of_ble_eq_true rfl, Nat.le_of_ble_eq_true rfl⟩ hK hP hD hS hA rfl hl.1 rfl (Nat.le_of_ble_eq_true rfl) d_M_mirror_119 ⟨Nat.le_of_ble_eq_true rfl, Nat.le_of_ble_eq_true rfl⟩ (fun H locs hP hD hS => ?_)
      refine lv_topi (fun r4 er4 => ?_)
      exact x_rp (by subst er4; first | (simp only [x_mirror, if_neg (by decide : ¬ nI 6 = 0), if_neg (by decide : ¬ nI 6 = 1), if_neg (by decide : ¬ nI 6 = 2), if_neg (by decide : ¬ nI 6 = 3), if_neg (by decide : ¬ nI 6 = 4), if_neg (by decide : ¬ nI 6 = 5), if_pos (by decide : nI 6 = 6)]; done) | rfl | (simp only [x_mirror, if_neg (by decide : ¬ nI 6 = 0), if_neg (by decide : ¬ nI 6 = 1), if_neg (by decide : ¬ nI 6 = 2), if_neg (by decide : ¬ nI 6 = 3), if_neg (by decide : ¬ nI 6 = 4), if_neg (by decide : ¬ nI 6 = 5), if_pos (by decide : nI 6 = 6)]; rfl)) hx hb hr hlk hP hD hS d_M_mirror_122
    | jj + 7, h => exact absurd h (by omega)
set_option maxHeartbeats 4000000 in
set_option maxRecDepth 100000 in
theorem c_M_promote_ok (l : Launch) (D : va_G) (cI cN : ClassId) (ad : Nat → Nat) (z : x_S) (a f : Int32) : x_C l y_M_promote c_M_promote 5 (some .int) { frames := 4, cells := 0, slots := 0, locals := 84 } D (x_ty cI cN) (x_w cI cN ad z) [.ref (ad 0), .int a, .int f] (some (.int (x_promote z a f).1)) (x_w cI cN ad (x_promote z a f).2) := by
  refine x_C.of (by decide) (Nat.le_of_ble_eq_true rfl) ?_
  intro p e s m below meth c hx hb hr hml hts hown hlk A hA hK hS hP hD ls hl
  have hown : s.vm.findClass R_M = some m.cls := hown
  have hl : lv_has ls 5 [(0, .ref (ad 0)), (1, .int a), (2, .int f)] := hl
  refine lv_iload_n hx hb d_M_promote_0 rfl (lv_at hl 1 rfl) ?_
  refine x_T (rest := []) ⟨hx, hb, hml, hown, hts⟩ (c_M_isNode_ok l D cI cN ad z a) gm_261 gm_262 gm_28 gm_263 ⟨rfl, rfl⟩ hd_M_isNode ⟨Nat.le_of_ble_eq_true rfl, Nat.le_of_ble_eq_true rfl⟩ hK hP hD hS hA rfl hl.1 rfl (Nat.le_of_ble_eq_true rfl) d_M_promote_1 ⟨Nat.le_of_ble_eq_true rfl, Nat.le_of_ble_eq_true rfl⟩ (fun H locs hP hD hS => ?_)
  refine lv_topi (fun r1 er1 => ?_)
  refine lv_if_eq (tgt := 19) hx hb d_M_promote_4 (by decide) (fun c2 => ?_) (fun c2 => ?_)
  · refine lv_iconst (v := (-1)) hx hb d_M_promote_19 (by decide) ?_
    exact x_ri (w := x_w cI cN ad) (by subst er1; first | (simp only [x_promote, x_prom2, if_true, Bool.false_eq_true, if_false, if_pos c2]; done) | rfl | (simp only [x_promote, x_prom2, if_true, Bool.false_eq_true, if_false, if_pos c2]; rfl)) hx hb hr hlk hP hD hS d_M_promote_20
  · obtain ⟨k, hk, ek⟩ := x_nodeE (c := a) (by rw [← er1]; exact c2)
    subst ek
    refine lv_aload_n hx hb d_M_promote_7 rfl (lv_at hl 0 rfl) ?_
    refine va_get (D := D) (ci := 4) (C := R_M) (T := T_M) (N := 7) hx hb hts in_M hown hK hP 0 x_hM rfl 0 (by decide) (hts _ gm_154) (fun _ h9 => h9) rfl d_M_promote_8 ?_
    refine lv_iload_n hx hb d_M_promote_11 rfl (lv_at hl 1 rfl) ?_
    refine va_aldq (D := D) hx hb hK hP 1 1 x_hA rfl (x_in2 hk) d_M_promote_12 ?_
    refine x_topv (x_nf_at hk) ?_
    refine x_V (rest := []) ⟨hx, hb, hml, hown, hts⟩ (c_N_mayAskForLease_ok l D cI cN ad z k hk) gm_333 gm_334 gm_335 gm_30 gm_336 ⟨rfl, rfl⟩ hd_N_mayAskForLease ⟨Nat.le_of_ble_eq_true rfl, Nat.le_of_ble_eq_true rfl⟩ hK hP hD hS hA (va_recv hK hP (ci := 2) (q0 := (6 + k)) rfl (x_hN hk)) rfl hl.1 rfl (Nat.le_of_ble_eq_true rfl) d_M_promote_13 ⟨Nat.le_of_ble_eq_true rfl, Nat.le_of_ble_eq_true rfl⟩ (fun H locs hP hD hS => ?_)
    refine lv_topi (fun r3 er3 => ?_)
    refine lv_if_ne (tgt := 21) hx hb d_M_promote_16 (by decide) (fun c4 => ?_) (fun c4 => ?_)
    · refine lv_aload_n hx hb d_M_promote_21 rfl (lv_at hl 0 rfl) ?_
      refine va_get (D := D) (ci := 4) (C := R_M) (T := T_M) (N := 7) hx hb hts in_M hown hK hP 0 x_hM rfl 0 (by decide) (hts _ gm_154) (fun _ h9 => h9) rfl d_M_promote_22 ?_
      refine lv_iload_n hx hb d_M_promote_25 rfl (lv_at hl 1 rfl) ?_
      refine va_aldq (D := D) hx hb hK hP 1 1 x_hA rfl (x_in2 hk) d_M_promote_26 ?_
      refine x_topv (x_nf_at hk) ?_
      refine lv_astore_n (lv' := [(3, .ref (ad (6 + k))), (0, .ref (ad 0)), (1, .int (nI k)), (2, .int f)]) hx hb d_M_promote_27 rfl hl (by decide) rfl (fun ls hl => ?_)
      refine lv_aload_n hx hb d_M_promote_28 rfl (lv_at hl 1 rfl) ?_
      refine va_get (D := D) (ci := 4) (C := R_M) (T := T_M) (N := 7) hx hb hts in_M hown hK hP 0 x_hM rfl 1 (by decide) (hts _ gm_155) (fun _ h9 => h9) rfl d_M_promote_29 ?_
      refine lv_iconst (v := 1) hx hb d_M_promote_32 (by decide) ?_
      refine lv_iload_n hx hb d_M_promote_33 rfl (lv_at hl 2 rfl) ?_
      refine lv_isub hx hb d_M_promote_34 ?_
      refine x_top (x_1k hk) ?_
      refine x_V (rest := []) ⟨hx, hb, hml, hown, hts⟩ (c_T_isLentTo_ok l D cI cN ad z (nI (1 - k))) gm_337 gm_338 gm_339 gm_32 gm_340 ⟨rfl, rfl⟩ hd_T_isLentTo ⟨Nat.le_of_ble_eq_true rfl, Nat.le_of_ble_eq_true rfl⟩ hK hP hD hS hA (va_recv hK hP (ci := 3) (q0 := 2) rfl x_hT) rfl hl.1 rfl (Nat.le_of_ble_eq_true rfl) d_M_promote_35 ⟨Nat.le_of_ble_eq_true rfl, Nat.le_of_ble_eq_true rfl⟩ (fun H locs hP hD hS => ?_)
      refine lv_topi (fun r5 er5 => ?_)
      refine lv_if_eq (tgt := 44) hx hb d_M_promote_38 (by decide) (fun c6 => ?_) (fun c6 => ?_)
      · refine lv_aload_n hx hb d_M_promote_44 rfl (lv_at hl 0 rfl) ?_
        refine va_get (D := D) (ci := 2) (C := R_N) (T := T_N) (N := 8) hx hb hts in_N hown hK hP (6 + k) (x_hN hk) rfl 3 (by decide) (hts _ gm_96) (fun _ h9 => h9) rfl d_M_promote_45 ?_
        refine lv_if_ne (tgt := 54) hx hb d_M_promote_48 (by decide) (fun c7 => ?_) (fun c7 => ?_)
        · refine lv_aload_n hx hb d_M_promote_54 rfl (lv_at hl 0 rfl) ?_
          refine va_get (D := D) (ci := 2) (C := R_N) (T := T_N) (N := 8) hx hb hts in_N hown hK hP (6 + k) (x_hN hk) rfl 3 (by decide) (hts _ gm_96) (fun _ h9 => h9) rfl d_M_promote_55 ?_
          refine lv_aload_n hx hb d_M_promote_58 rfl (lv_at hl 1 rfl) ?_
          refine va_get (D := D) (ci := 4) (C := R_M) (T := T_M) (N := 7) hx hb hts in_M hown hK hP 0 x_hM rfl 1 (by decide) (hts _ gm_155) (fun _ h9 => h9) rfl d_M_promote_59 ?_
          refine va_get (D := D) (ci := 3) (C := R_T) (T := T_T) (N := 5) hx hb hts in_T hown hK hP 2 x_hT rfl 1 (by decide) (hts _ gm_136) (fun _ h9 => h9) rfl d_M_promote_62 ?_
          refine lv_icmp_eq (tgt := 72) hx hb d_M_promote_65 (by decide) (fun c8 => ?_) (fun c8 => ?_)
          · refine lv_iconst (v := 0) hx hb d_M_promote_72 (by decide) ?_
            refine lv_istore (lv' := [(4, .int 0), (3, .ref (ad (6 + k))), (0, .ref (ad 0)), (1, .int (nI k)), (2, .int f)]) hx hb d_M_promote_73 hl (by decide) rfl (fun ls hl => ?_)
            refine lv_iload hx hb d_M_promote_75 (lv_at hl 0 rfl) ?_
            refine lv_if_eq (tgt := 87) hx hb d_M_promote_77 (by decide) (fun c9 => ?_) (fun c9 => ?_)
            · refine lv_aload_n hx hb d_M_promote_87 rfl (lv_at hl 2 rfl) ?_
              refine lv_iconst (v := 1) hx hb d_M_promote_88 (by decide) ?_
              refine lv_iload_n hx hb d_M_promote_89 rfl (lv_at hl 3 rfl) ?_
              refine lv_isub hx hb d_M_promote_90 ?_
              refine x_top (x_1k hk) ?_
              refine x_V (rest := []) ⟨hx, hb, hml, hown, hts⟩ (c_M_makeSecondary_ok l D cI cN ad z (1 - k) (x_1lt hk)) gm_240 gm_242 gm_7 gm_28 gm_243 ⟨rfl, rfl⟩ hd_M_makeSecondary ⟨Nat.le_of_ble_eq_true rfl, Nat.le_of_ble_eq_true rfl⟩ hK hP hD hS hA (va_recv hK hP (ci := 4) (q0 := 0) rfl x_hM) rfl hl.1 rfl (Nat.le_of_ble_eq_true rfl) d_M_promote_91 ⟨Nat.le_of_ble_eq_true rfl, Nat.le_of_ble_eq_true rfl⟩ (fun H locs hP hD hS => ?_)
              obtain ⟨z10, ez10⟩ : ∃ zt_ : x_S, zt_ = x_sec z (1 - k) := ⟨_, rfl⟩
              rw [← ez10] at hP hD
              refine lv_aload_n hx hb d_M_promote_94 rfl (lv_at hl 1 rfl) ?_
              refine lv_iconst (v := 1) hx hb d_M_promote_95 (by decide) ?_
              refine va_put (D := D) (ci := 2) (v := .int 1) (ty := .boolean) (C := R_N) (T := T_N) (N := 8) hx hb hts in_N fy_N fy_N_ok n_N hown hK hP hD hS (6 + k) (x_hN hk) rfl 2 (by decide) (hts _ gm_94) (fun _ h9 => h9) rfl (by decide +kernel) rfl rfl (Nat.le_of_ble_eq_true rfl) d_M_promote_96 (fun H locs hP hD hS => ?_)
              obtain ⟨z11, ez11⟩ : ∃ zt_ : x_S, zt_ = x_up z10 (5 + k) 1 1 := ⟨_, rfl⟩
              have hP : va_P D vwCl (x_w cI cN ad z11) H := by rw [ez11, ← x_sN (i := 1) hk (by decide) 1]; exact hP
              have hD : va_D A (x_w cI cN ad z11) := by rw [ez11, ← x_sN (i := 1) hk (by decide) 1]; exact hD
              refine lv_aload_n hx hb d_M_promote_99 rfl (lv_at hl 2 rfl) ?_
              refine va_get (D := D) (ci := 4) (C := R_M) (T := T_M) (N := 7) hx hb hts in_M hown hK hP 0 x_hM rfl 1 (by decide) (hts _ gm_155) (fun _ h9 => h9) rfl d_M_promote_100 ?_
              refine lv_iload_n hx hb d_M_promote_103 rfl (lv_at hl 3 rfl) ?_
              refine x_V (rest := []) ⟨hx, hb, hml, hown, hts⟩ (c_T_lendTo_ok l D cI cN ad z11 (nI k)) gm_345 gm_346 gm_347 gm_32 gm_348 ⟨rfl, rfl⟩ hd_T_lendTo ⟨Nat.le_of_ble_eq_true rfl, Nat.le_of_ble_eq_true rfl⟩ hK hP hD hS hA (va_recv hK hP (ci := 3) (q0 := 2) rfl x_hT) rfl hl.1 rfl (Nat.le_of_ble_eq_true rfl) d_M_promote_104 ⟨Nat.le_of_ble_eq_true rfl, Nat.le_of_ble_eq_true rfl⟩ (fun H locs hP hD hS => ?_)
              obtain ⟨z12, ez12⟩ : ∃ zt_ : x_S, zt_ = x_lend z11 (nI k) := ⟨_, rfl⟩
              rw [← ez12] at hP hD
              refine lv_iload hx hb d_M_promote_107 (lv_at hl 0 rfl) ?_
              refine lv_if_ne (tgt := 120) hx hb d_M_promote_109 (by decide) (fun c13 => ?_) (fun c13 => ?_)
              · exact (c13 (by decide)).elim
              · refine lv_aload_n hx hb d_M_promote_112 rfl (lv_at hl 2 rfl) ?_
                refine lv_iload_n hx hb d_M_promote_113 rfl (lv_at hl 3 rfl) ?_
                refine x_V (rest := []) ⟨hx, hb, hml, hown, hts⟩ (c_M_isUnpaired_ok l D cI cN ad z12 k hk) gm_195 gm_197 gm_1 gm_28 gm_198 ⟨rfl, rfl⟩ hd_M_isUnpaired ⟨Nat.le_of_ble_eq_true rfl, Nat.le_of_ble_eq_true rfl⟩ hK hP hD hS hA (va_recv hK hP (ci := 4) (q0 := 0) rfl x_hM) rfl hl.1 rfl (Nat.le_of_ble_eq_true rfl) d_M_promote_114 ⟨Nat.le_of_ble_eq_true rfl, Nat.le_of_ble_eq_true rfl⟩ (fun H locs hP hD hS => ?_)
                refine lv_topi (fun r14 er14 => ?_)
                refine lv_if_eq (tgt := 125) hx hb d_M_promote_117 (by decide) (fun c15 => ?_) (fun c15 => ?_)
                · refine lv_aload_n hx hb d_M_promote_125 rfl (lv_at hl 2 rfl) ?_
                  refine lv_iload_n hx hb d_M_promote_126 rfl (lv_at hl 3 rfl) ?_
                  refine x_V (rest := []) ⟨hx, hb, hml, hown, hts⟩ (c_M_flushBy_ok l D cI cN ad z12 k hk) gm_207 gm_209 gm_4 gm_28 gm_210 ⟨rfl, rfl⟩ hd_M_flushBy ⟨Nat.le_of_ble_eq_true rfl, Nat.le_of_ble_eq_true rfl⟩ hK hP hD hS hA (va_recv hK hP (ci := 4) (q0 := 0) rfl x_hM) rfl hl.1 rfl (Nat.le_of_ble_eq_true rfl) d_M_promote_127 ⟨Nat.le_of_ble_eq_true rfl, Nat.le_of_ble_eq_true rfl⟩ (fun H locs hP hD hS => ?_)
                  obtain ⟨z16, ez16⟩ : ∃ zt_ : x_S, zt_ = x_fl z12 k := ⟨_, rfl⟩
                  rw [← ez16] at hP hD
                  refine lv_aload_n hx hb d_M_promote_130 rfl (lv_at hl 2 rfl) ?_
                  refine lv_iload_n hx hb d_M_promote_131 rfl (lv_at hl 3 rfl) ?_
                  refine x_V (rest := []) ⟨hx, hb, hml, hown, hts⟩ (c_M_redoJournal_ok l D cI cN ad z16 k hk) gm_353 gm_355 gm_14 gm_28 gm_356 ⟨rfl, rfl⟩ hd_M_redoJournal ⟨Nat.le_of_ble_eq_true rfl, Nat.le_of_ble_eq_true rfl⟩ hK hP hD hS hA (va_recv hK hP (ci := 4) (q0 := 0) rfl x_hM) rfl hl.1 rfl (Nat.le_of_ble_eq_true rfl) d_M_promote_132 ⟨Nat.le_of_ble_eq_true rfl, Nat.le_of_ble_eq_true rfl⟩ (fun H locs hP hD hS => ?_)
                  obtain ⟨z17, ez17⟩ : ∃ zt_ : x_S, zt_ = (x_redo z16 k).2 := ⟨_, rfl⟩
                  rw [← ez17] at hP hD
                  refine lv_topi (fun r18 er18 => ?_)
                  exact x_ri (w := x_w cI cN ad) (by subst er1 er3 er5 ez10 ez11 ez12 er14 ez16 ez17 er18; first | (simp only [x_promote, x_prom2, if_true, Bool.false_eq_true, if_false, if_neg c2, if_neg c4, if_pos c6, if_neg c7, if_pos c8, if_pos c15, x_cl hk]; done) | rfl | (simp only [x_promote, x_prom2, if_true, Bool.false_eq_true, if_false, if_neg c2, if_neg c4, if_pos c6, if_neg c7, if_pos c8, if_pos c15, x_cl hk]; rfl)) hx hb hr hlk hP hD hS d_M_promote_135
                · refine lv_aload_n hx hb d_M_promote_120 rfl (lv_at hl 2 rfl) ?_
                  refine lv_iload_n hx hb d_M_promote_121 rfl (lv_at hl 3 rfl) ?_
                  refine x_V (rest := []) ⟨hx, hb, hml, hown, hts⟩ (c_M_goAlone_ok l D cI cN ad z12 k hk) gm_199 gm_201 gm_2 gm_28 gm_202 ⟨rfl, rfl⟩ hd_M_goAlone ⟨Nat.le_of_ble_eq_true rfl, Nat.le_of_ble_eq_true rfl⟩ hK hP hD hS hA (va_recv hK hP (ci := 4) (q0 := 0) rfl x_hM) rfl hl.1 rfl (Nat.le_of_ble_eq_true rfl) d_M_promote_122 ⟨Nat.le_of_ble_eq_true rfl, Nat.le_of_ble_eq_true rfl⟩ (fun H locs hP hD hS => ?_)
                  obtain ⟨z19, ez19⟩ : ∃ zt_ : x_S, zt_ = x_goAl z12 k := ⟨_, rfl⟩
                  rw [← ez19] at hP hD
                  refine lv_aload_n hx hb d_M_promote_125 rfl (lv_at hl 2 rfl) ?_
                  refine lv_iload_n hx hb d_M_promote_126 rfl (lv_at hl 3 rfl) ?_
                  refine x_V (rest := []) ⟨hx, hb, hml, hown, hts⟩ (c_M_flushBy_ok l D cI cN ad z19 k hk) gm_207 gm_209 gm_4 gm_28 gm_210 ⟨rfl, rfl⟩ hd_M_flushBy ⟨Nat.le_of_ble_eq_true rfl, Nat.le_of_ble_eq_true rfl⟩ hK hP hD hS hA (va_recv hK hP (ci := 4) (q0 := 0) rfl x_hM) rfl hl.1 rfl (Nat.le_of_ble_eq_true rfl) d_M_promote_127 ⟨Nat.le_of_ble_eq_true rfl, Nat.le_of_ble_eq_true rfl⟩ (fun H locs hP hD hS => ?_)
                  obtain ⟨z20, ez20⟩ : ∃ zt_ : x_S, zt_ = x_fl z19 k := ⟨_, rfl⟩
                  rw [← ez20] at hP hD
                  refine lv_aload_n hx hb d_M_promote_130 rfl (lv_at hl 2 rfl) ?_
                  refine lv_iload_n hx hb d_M_promote_131 rfl (lv_at hl 3 rfl) ?_
                  refine x_V (rest := []) ⟨hx, hb, hml, hown, hts⟩ (c_M_redoJournal_ok l D cI cN ad z20 k hk) gm_353 gm_355 gm_14 gm_28 gm_356 ⟨rfl, rfl⟩ hd_M_redoJournal ⟨Nat.le_of_ble_eq_true rfl, Nat.le_of_ble_eq_true rfl⟩ hK hP hD hS hA (va_recv hK hP (ci := 4) (q0 := 0) rfl x_hM) rfl hl.1 rfl (Nat.le_of_ble_eq_true rfl) d_M_promote_132 ⟨Nat.le_of_ble_eq_true rfl, Nat.le_of_ble_eq_true rfl⟩ (fun H locs hP hD hS => ?_)
                  obtain ⟨z21, ez21⟩ : ∃ zt_ : x_S, zt_ = (x_redo z20 k).2 := ⟨_, rfl⟩
                  rw [← ez21] at hP hD
                  refine lv_topi (fun r22 er22 => ?_)
                  exact x_ri (w := x_w cI cN ad) (by subst er1 er3 er5 ez10 ez11 ez12 er14 ez19 ez20 ez21 er22; first | (simp only [x_promote, x_prom2, if_true, Bool.false_eq_true, if_false, if_neg c2, if_neg c4, if_pos c6, if_neg c7, if_pos c8, if_neg c15, x_cl hk]; done) | rfl | (simp only [x_promote, x_prom2, if_true, Bool.false_eq_true, if_false, if_neg c2, if_neg c4, if_pos c6, if_neg c7, if_pos c8, if_neg c15, x_cl hk]; rfl)) hx hb hr hlk hP hD hS d_M_promote_135
            · exact (c9 (by decide)).elim
          · refine lv_iconst (v := 1) hx hb d_M_promote_68 (by decide) ?_
            refine lv_goto (tgt := 73) hx hb d_M_promote_69 (by decide) ?_
            refine lv_istore (lv' := [(4, .int 1), (3, .ref (ad (6 + k))), (0, .ref (ad 0)), (1, .int (nI k)), (2, .int f)]) hx hb d_M_promote_73 hl (by decide) rfl (fun ls hl => ?_)
            refine lv_iload hx hb d_M_promote_75 (lv_at hl 0 rfl) ?_
            refine lv_if_eq (tgt := 87) hx hb d_M_promote_77 (by decide) (fun c23 => ?_) (fun c23 => ?_)
            · exact absurd c23 (by decide)
            · refine lv_iload_n hx hb d_M_promote_80 rfl (lv_at hl 4 rfl) ?_
              refine lv_if_ne (tgt := 87) hx hb d_M_promote_81 (by decide) (fun c24 => ?_) (fun c24 => ?_)
              · refine lv_aload_n hx hb d_M_promote_87 rfl (lv_at hl 2 rfl) ?_
                refine lv_iconst (v := 1) hx hb d_M_promote_88 (by decide) ?_
                refine lv_iload_n hx hb d_M_promote_89 rfl (lv_at hl 3 rfl) ?_
                refine lv_isub hx hb d_M_promote_90 ?_
                refine x_top (x_1k hk) ?_
                refine x_V (rest := []) ⟨hx, hb, hml, hown, hts⟩ (c_M_makeSecondary_ok l D cI cN ad z (1 - k) (x_1lt hk)) gm_240 gm_242 gm_7 gm_28 gm_243 ⟨rfl, rfl⟩ hd_M_makeSecondary ⟨Nat.le_of_ble_eq_true rfl, Nat.le_of_ble_eq_true rfl⟩ hK hP hD hS hA (va_recv hK hP (ci := 4) (q0 := 0) rfl x_hM) rfl hl.1 rfl (Nat.le_of_ble_eq_true rfl) d_M_promote_91 ⟨Nat.le_of_ble_eq_true rfl, Nat.le_of_ble_eq_true rfl⟩ (fun H locs hP hD hS => ?_)
                obtain ⟨z25, ez25⟩ : ∃ zt_ : x_S, zt_ = x_sec z (1 - k) := ⟨_, rfl⟩
                rw [← ez25] at hP hD
                refine lv_aload_n hx hb d_M_promote_94 rfl (lv_at hl 1 rfl) ?_
                refine lv_iconst (v := 1) hx hb d_M_promote_95 (by decide) ?_
                refine va_put (D := D) (ci := 2) (v := .int 1) (ty := .boolean) (C := R_N) (T := T_N) (N := 8) hx hb hts in_N fy_N fy_N_ok n_N hown hK hP hD hS (6 + k) (x_hN hk) rfl 2 (by decide) (hts _ gm_94) (fun _ h9 => h9) rfl (by decide +kernel) rfl rfl (Nat.le_of_ble_eq_true rfl) d_M_promote_96 (fun H locs hP hD hS => ?_)
                obtain ⟨z26, ez26⟩ : ∃ zt_ : x_S, zt_ = x_up z25 (5 + k) 1 1 := ⟨_, rfl⟩
                have hP : va_P D vwCl (x_w cI cN ad z26) H := by rw [ez26, ← x_sN (i := 1) hk (by decide) 1]; exact hP
                have hD : va_D A (x_w cI cN ad z26) := by rw [ez26, ← x_sN (i := 1) hk (by decide) 1]; exact hD
                refine lv_aload_n hx hb d_M_promote_99 rfl (lv_at hl 2 rfl) ?_
                refine va_get (D := D) (ci := 4) (C := R_M) (T := T_M) (N := 7) hx hb hts in_M hown hK hP 0 x_hM rfl 1 (by decide) (hts _ gm_155) (fun _ h9 => h9) rfl d_M_promote_100 ?_
                refine lv_iload_n hx hb d_M_promote_103 rfl (lv_at hl 3 rfl) ?_
                refine x_V (rest := []) ⟨hx, hb, hml, hown, hts⟩ (c_T_lendTo_ok l D cI cN ad z26 (nI k)) gm_345 gm_346 gm_347 gm_32 gm_348 ⟨rfl, rfl⟩ hd_T_lendTo ⟨Nat.le_of_ble_eq_true rfl, Nat.le_of_ble_eq_true rfl⟩ hK hP hD hS hA (va_recv hK hP (ci := 3) (q0 := 2) rfl x_hT) rfl hl.1 rfl (Nat.le_of_ble_eq_true rfl) d_M_promote_104 ⟨Nat.le_of_ble_eq_true rfl, Nat.le_of_ble_eq_true rfl⟩ (fun H locs hP hD hS => ?_)
                obtain ⟨z27, ez27⟩ : ∃ zt_ : x_S, zt_ = x_lend z26 (nI k) := ⟨_, rfl⟩
                rw [← ez27] at hP hD
                refine lv_iload hx hb d_M_promote_107 (lv_at hl 0 rfl) ?_
                refine lv_if_ne (tgt := 120) hx hb d_M_promote_109 (by decide) (fun c28 => ?_) (fun c28 => ?_)
                · refine lv_aload_n hx hb d_M_promote_120 rfl (lv_at hl 2 rfl) ?_
                  refine lv_iload_n hx hb d_M_promote_121 rfl (lv_at hl 3 rfl) ?_
                  refine x_V (rest := []) ⟨hx, hb, hml, hown, hts⟩ (c_M_goAlone_ok l D cI cN ad z27 k hk) gm_199 gm_201 gm_2 gm_28 gm_202 ⟨rfl, rfl⟩ hd_M_goAlone ⟨Nat.le_of_ble_eq_true rfl, Nat.le_of_ble_eq_true rfl⟩ hK hP hD hS hA (va_recv hK hP (ci := 4) (q0 := 0) rfl x_hM) rfl hl.1 rfl (Nat.le_of_ble_eq_true rfl) d_M_promote_122 ⟨Nat.le_of_ble_eq_true rfl, Nat.le_of_ble_eq_true rfl⟩ (fun H locs hP hD hS => ?_)
                  obtain ⟨z29, ez29⟩ : ∃ zt_ : x_S, zt_ = x_goAl z27 k := ⟨_, rfl⟩
                  rw [← ez29] at hP hD
                  refine lv_aload_n hx hb d_M_promote_125 rfl (lv_at hl 2 rfl) ?_
                  refine lv_iload_n hx hb d_M_promote_126 rfl (lv_at hl 3 rfl) ?_
                  refine x_V (rest := []) ⟨hx, hb, hml, hown, hts⟩ (c_M_flushBy_ok l D cI cN ad z29 k hk) gm_207 gm_209 gm_4 gm_28 gm_210 ⟨rfl, rfl⟩ hd_M_flushBy ⟨Nat.le_of_ble_eq_true rfl, Nat.le_of_ble_eq_true rfl⟩ hK hP hD hS hA (va_recv hK hP (ci := 4) (q0 := 0) rfl x_hM) rfl hl.1 rfl (Nat.le_of_ble_eq_true rfl) d_M_promote_127 ⟨Nat.le_of_ble_eq_true rfl, Nat.le_of_ble_eq_true rfl⟩ (fun H locs hP hD hS => ?_)
                  obtain ⟨z30, ez30⟩ : ∃ zt_ : x_S, zt_ = x_fl z29 k := ⟨_, rfl⟩
                  rw [← ez30] at hP hD
                  refine lv_aload_n hx hb d_M_promote_130 rfl (lv_at hl 2 rfl) ?_
                  refine lv_iload_n hx hb d_M_promote_131 rfl (lv_at hl 3 rfl) ?_
                  refine x_V (rest := []) ⟨hx, hb, hml, hown, hts⟩ (c_M_redoJournal_ok l D cI cN ad z30 k hk) gm_353 gm_355 gm_14 gm_28 gm_356 ⟨rfl, rfl⟩ hd_M_redoJournal ⟨Nat.le_of_ble_eq_true rfl, Nat.le_of_ble_eq_true rfl⟩ hK hP hD hS hA (va_recv hK hP (ci := 4) (q0 := 0) rfl x_hM) rfl hl.1 rfl (Nat.le_of_ble_eq_true rfl) d_M_promote_132 ⟨Nat.le_of_ble_eq_true rfl, Nat.le_of_ble_eq_true rfl⟩ (fun H locs hP hD hS => ?_)
                  obtain ⟨z31, ez31⟩ : ∃ zt_ : x_S, zt_ = (x_redo z30 k).2 := ⟨_, rfl⟩
                  rw [← ez31] at hP hD
                  refine lv_topi (fun r32 er32 => ?_)
                  exact x_ri (w := x_w cI cN ad) (by subst er1 er3 er5 ez25 ez26 ez27 ez29 ez30 ez31 er32; first | (simp only [x_promote, x_prom2, if_true, Bool.false_eq_true, if_false, if_neg c2, if_neg c4, if_pos c6, if_neg c7, if_neg c8, if_neg c24, x_cl hk]; done) | rfl | (simp only [x_promote, x_prom2, if_true, Bool.false_eq_true, if_false, if_neg c2, if_neg c4, if_pos c6, if_neg c7, if_neg c8, if_neg c24, x_cl hk]; rfl)) hx hb hr hlk hP hD hS d_M_promote_135
                · exact absurd c28 (by decide)
              · refine lv_bipush (v := (-5)) hx hb d_M_promote_84 (by decide) ?_
                exact x_ri (w := x_w cI cN ad) (by subst er1 er3 er5; first | (simp only [x_promote, x_prom2, if_true, Bool.false_eq_true, if_false, if_neg c2, if_neg c4, if_pos c6, if_neg c7, if_neg c8, if_pos c24, x_cl hk]; done) | rfl | (simp only [x_promote, x_prom2, if_true, Bool.false_eq_true, if_false, if_neg c2, if_neg c4, if_pos c6, if_neg c7, if_neg c8, if_pos c24, x_cl hk]; rfl)) hx hb hr hlk hP hD hS d_M_promote_86
        · refine lv_bipush (v := (-6)) hx hb d_M_promote_51 (by decide) ?_
          exact x_ri (w := x_w cI cN ad) (by subst er1 er3 er5; first | (simp only [x_promote, x_prom2, if_true, Bool.false_eq_true, if_false, if_neg c2, if_neg c4, if_pos c6, if_pos c7, x_cl hk]; done) | rfl | (simp only [x_promote, x_prom2, if_true, Bool.false_eq_true, if_false, if_neg c2, if_neg c4, if_pos c6, if_pos c7, x_cl hk]; rfl)) hx hb hr hlk hP hD hS d_M_promote_53
      · refine lv_bipush (v := (-4)) hx hb d_M_promote_41 (by decide) ?_
        exact x_ri (w := x_w cI cN ad) (by subst er1 er3 er5; first | (simp only [x_promote, x_prom2, if_true, Bool.false_eq_true, if_false, if_neg c2, if_neg c4, if_neg c6, x_cl hk]; done) | rfl | (simp only [x_promote, x_prom2, if_true, Bool.false_eq_true, if_false, if_neg c2, if_neg c4, if_neg c6, x_cl hk]; rfl)) hx hb hr hlk hP hD hS d_M_promote_43
    · refine lv_iconst (v := (-1)) hx hb d_M_promote_19 (by decide) ?_
      exact x_ri (w := x_w cI cN ad) (by subst er1 er3; first | (simp only [x_promote, x_prom2, if_true, Bool.false_eq_true, if_false, if_neg c2, if_pos c4, x_cl hk]; done) | rfl | (simp only [x_promote, x_prom2, if_true, Bool.false_eq_true, if_false, if_neg c2, if_pos c4, x_cl hk]; rfl)) hx hb hr hlk hP hD hS d_M_promote_20
set_option maxHeartbeats 4000000 in
set_option maxRecDepth 100000 in
theorem c_M_connect_ok (l : Launch) (D : va_G) (cI cN : ClassId) (ad : Nat → Nat) (z : x_S)  : x_C l y_M_connect c_M_connect 2 (some .int) { frames := 4, cells := 0, slots := 0, locals := 84 } D (x_ty cI cN) (x_w cI cN ad z) [.ref (ad 0)] (some (.int (x_connect z).1)) (x_w cI cN ad (x_connect z).2) := by
  refine x_C.of (by decide) (Nat.le_of_ble_eq_true rfl) ?_
  intro p e s m below meth c hx hb hr hml hts hown hlk A hA hK hS hP hD ls hl
  have hown : s.vm.findClass R_M = some m.cls := hown
  have hl : lv_has ls 2 [(0, .ref (ad 0))] := hl
  refine lv_aload_n hx hb d_M_connect_0 rfl (lv_at hl 0 rfl) ?_
  refine va_get (D := D) (ci := 4) (C := R_M) (T := T_M) (N := 7) hx hb hts in_M hown hK hP 0 x_hM rfl 4 (by decide) (hts _ gm_158) (fun _ h9 => h9) rfl d_M_connect_1 ?_
  refine lv_if_ne (tgt := 38) hx hb d_M_connect_4 (by decide) (fun c1 => ?_) (fun c1 => ?_)
  · refine lv_iconst (v := (-1)) hx hb d_M_connect_38 (by decide) ?_
    exact x_ri (w := x_w cI cN ad) (by first | (simp only [x_connect, x_conn3, if_neg c1]; done) | rfl | (simp only [x_connect, x_conn3, if_neg c1]; rfl)) hx hb hr hlk hP hD hS d_M_connect_39
  · refine lv_aload_n hx hb d_M_connect_7 rfl (lv_at hl 0 rfl) ?_
    refine va_get (D := D) (ci := 4) (C := R_M) (T := T_M) (N := 7) hx hb hts in_M hown hK hP 0 x_hM rfl 3 (by decide) (hts _ gm_157) (fun _ h9 => h9) rfl d_M_connect_8 ?_
    refine lv_if_eq (tgt := 38) hx hb d_M_connect_11 (by decide) (fun c2 => ?_) (fun c2 => ?_)
    · refine lv_iconst (v := (-1)) hx hb d_M_connect_38 (by decide) ?_
      exact x_ri (w := x_w cI cN ad) (by first | (simp only [x_connect, x_conn3, if_pos c1, if_pos c2]; done) | rfl | (simp only [x_connect, x_conn3, if_pos c1, if_pos c2]; rfl)) hx hb hr hlk hP hD hS d_M_connect_39
    · refine lv_aload_n hx hb d_M_connect_14 rfl (lv_at hl 0 rfl) ?_
      refine va_get (D := D) (ci := 4) (C := R_M) (T := T_M) (N := 7) hx hb hts in_M hown hK hP 0 x_hM rfl 0 (by decide) (hts _ gm_154) (fun _ h9 => h9) rfl d_M_connect_15 ?_
      refine lv_iconst (v := 0) hx hb d_M_connect_18 (by decide) ?_
      refine x_top (show (0 : Int32) = nI 0 from rfl) ?_
      refine va_aldq (D := D) hx hb hK hP 1 1 x_hA rfl (x_in2 (by decide)) d_M_connect_19 ?_
      refine x_topv x_nf_0 ?_
      refine va_get (D := D) (ci := 2) (C := R_N) (T := T_N) (N := 8) hx hb hts in_N hown hK hP 6 x_hN0 rfl 1 (by decide) (hts _ gm_92) (fun _ h9 => h9) rfl d_M_connect_20 ?_
      refine lv_if_eq (tgt := 38) hx hb d_M_connect_23 (by decide) (fun c3 => ?_) (fun c3 => ?_)
      · refine lv_iconst (v := (-1)) hx hb d_M_connect_38 (by decide) ?_
        exact x_ri (w := x_w cI cN ad) (by first | (simp only [x_connect, x_conn3, if_pos c1, if_neg c2, if_pos c3]; done) | rfl | (simp only [x_connect, x_conn3, if_pos c1, if_neg c2, if_pos c3]; rfl)) hx hb hr hlk hP hD hS d_M_connect_39
      · refine lv_aload_n hx hb d_M_connect_26 rfl (lv_at hl 0 rfl) ?_
        refine va_get (D := D) (ci := 4) (C := R_M) (T := T_M) (N := 7) hx hb hts in_M hown hK hP 0 x_hM rfl 0 (by decide) (hts _ gm_154) (fun _ h9 => h9) rfl d_M_connect_27 ?_
        refine lv_iconst (v := 1) hx hb d_M_connect_30 (by decide) ?_
        refine x_top (show (1 : Int32) = nI 1 from rfl) ?_
        refine va_aldq (D := D) hx hb hK hP 1 1 x_hA rfl (x_in2 (by decide)) d_M_connect_31 ?_
        refine x_topv x_nf_1 ?_
        refine va_get (D := D) (ci := 2) (C := R_N) (T := T_N) (N := 8) hx hb hts in_N hown hK hP 7 x_hN1 rfl 1 (by decide) (hts _ gm_92) (fun _ h9 => h9) rfl d_M_connect_32 ?_
        refine lv_if_ne (tgt := 40) hx hb d_M_connect_35 (by decide) (fun c4 => ?_) (fun c4 => ?_)
        · refine lv_aload_n hx hb d_M_connect_40 rfl (lv_at hl 0 rfl) ?_
          refine va_get (D := D) (ci := 4) (C := R_M) (T := T_M) (N := 7) hx hb hts in_M hown hK hP 0 x_hM rfl 0 (by decide) (hts _ gm_154) (fun _ h9 => h9) rfl d_M_connect_41 ?_
          refine lv_iconst (v := 0) hx hb d_M_connect_44 (by decide) ?_
          refine x_top (show (0 : Int32) = nI 0 from rfl) ?_
          refine va_aldq (D := D) hx hb hK hP 1 1 x_hA rfl (x_in2 (by decide)) d_M_connect_45 ?_
          refine x_topv x_nf_0 ?_
          refine va_get (D := D) (ci := 2) (C := R_N) (T := T_N) (N := 8) hx hb hts in_N hown hK hP 6 x_hN0 rfl 3 (by decide) (hts _ gm_96) (fun _ h9 => h9) rfl d_M_connect_46 ?_
          refine lv_if_ne (tgt := 67) hx hb d_M_connect_49 (by decide) (fun c5 => ?_) (fun c5 => ?_)
          · refine lv_aload_n hx hb d_M_connect_67 rfl (lv_at hl 0 rfl) ?_
            refine lv_aload_n hx hb d_M_connect_68 rfl (lv_at hl 0 rfl) ?_
            refine x_V (rest := [.ref (ad 0)]) ⟨hx, hb, hml, hown, hts⟩ (c_M_chooseSource_ok l D cI cN ad z) gm_295 gm_297 gm_9 gm_28 gm_298 ⟨rfl, rfl⟩ hd_M_chooseSource ⟨Nat.le_of_ble_eq_true rfl, Nat.le_of_ble_eq_true rfl⟩ hK hP hD hS hA (va_recv hK hP (ci := 4) (q0 := 0) rfl x_hM) rfl hl.1 rfl (Nat.le_of_ble_eq_true rfl) d_M_connect_69 ⟨Nat.le_of_ble_eq_true rfl, Nat.le_of_ble_eq_true rfl⟩ (fun H locs hP hD hS => ?_)
            refine lv_topi (fun r6 er6 => ?_)
            obtain ⟨s0, hs0, es⟩ := x_chooseE z
            have es : r6 = nI s0 := er6.trans es
            subst es
            refine va_put (D := D) (ci := 4) (v := .int (nI s0)) (ty := .int) (C := R_M) (T := T_M) (N := 7) hx hb hts in_M fy_M fy_M_ok n_M hown hK hP hD hS 0 x_hM rfl 6 (by decide) (hts _ gm_160) (fun _ h9 => h9) rfl (by decide +kernel) rfl rfl (Nat.le_of_ble_eq_true rfl) d_M_connect_72 (fun H locs hP hD hS => ?_)
            obtain ⟨z7, ez7⟩ : ∃ zt_ : x_S, zt_ = x_up z 0 3 (nI s0) := ⟨_, rfl⟩
            have hP : va_P D vwCl (x_w cI cN ad z7) H := by rw [ez7, ← x_sM (i := 3) (by decide) (nI s0)]; exact hP
            have hD : va_D A (x_w cI cN ad z7) := by rw [ez7, ← x_sM (i := 3) (by decide) (nI s0)]; exact hD
            refine lv_aload_n hx hb d_M_connect_75 rfl (lv_at hl 0 rfl) ?_
            refine x_V (rest := []) ⟨hx, hb, hml, hown, hts⟩ (c_M_extentsThatMayDiffer_ok l D cI cN ad z7 s0 hs0 (by subst ez7; rfl)) gm_299 gm_301 gm_10 gm_28 gm_302 ⟨rfl, rfl⟩ hd_M_extentsThatMayDiffer ⟨Nat.le_of_ble_eq_true rfl, Nat.le_of_ble_eq_true rfl⟩ hK hP hD hS hA (va_recv hK hP (ci := 4) (q0 := 0) rfl x_hM) rfl hl.1 rfl (Nat.le_of_ble_eq_true rfl) d_M_connect_76 ⟨Nat.le_of_ble_eq_true rfl, Nat.le_of_ble_eq_true rfl⟩ (fun H locs hP hD hS => ?_)
            refine lv_topi (fun r8 er8 => ?_)
            refine lv_istore_n (lv' := [(1, .int r8), (0, .ref (ad 0))]) hx hb d_M_connect_79 rfl hl (by decide) rfl (fun ls hl => ?_)
            refine lv_aload_n hx hb d_M_connect_80 rfl (lv_at hl 1 rfl) ?_
            refine lv_iconst (v := 1) hx hb d_M_connect_81 (by decide) ?_
            refine va_put (D := D) (ci := 4) (v := .int 1) (ty := .boolean) (C := R_M) (T := T_M) (N := 7) hx hb hts in_M fy_M fy_M_ok n_M hown hK hP hD hS 0 x_hM rfl 4 (by decide) (hts _ gm_158) (fun _ h9 => h9) rfl (by decide +kernel) rfl rfl (Nat.le_of_ble_eq_true rfl) d_M_connect_82 (fun H locs hP hD hS => ?_)
            obtain ⟨z9, ez9⟩ : ∃ zt_ : x_S, zt_ = x_up z7 0 1 1 := ⟨_, rfl⟩
            have hP : va_P D vwCl (x_w cI cN ad z9) H := by rw [ez9, ← x_sM (i := 1) (by decide) 1]; exact hP
            have hD : va_D A (x_w cI cN ad z9) := by rw [ez9, ← x_sM (i := 1) (by decide) 1]; exact hD
            refine lv_iload_n hx hb d_M_connect_85 rfl (lv_at hl 0 rfl) ?_
            refine lv_if_ne (tgt := 96) hx hb d_M_connect_86 (by decide) (fun c10 => ?_) (fun c10 => ?_)
            · refine lv_aload_n hx hb d_M_connect_96 rfl (lv_at hl 1 rfl) ?_
              refine lv_iload_n hx hb d_M_connect_97 rfl (lv_at hl 0 rfl) ?_
              refine x_V (rest := []) ⟨hx, hb, hml, hown, hts⟩ (c_M_startSync_ok l D cI cN ad z9 s0 hs0 (by subst ez7 ez9; rfl) r8) gm_307 gm_309 gm_12 gm_28 gm_310 ⟨rfl, rfl⟩ hd_M_startSync ⟨Nat.le_of_ble_eq_true rfl, Nat.le_of_ble_eq_true rfl⟩ hK hP hD hS hA (va_recv hK hP (ci := 4) (q0 := 0) rfl x_hM) rfl hl.1 rfl (Nat.le_of_ble_eq_true rfl) d_M_connect_98 ⟨Nat.le_of_ble_eq_true rfl, Nat.le_of_ble_eq_true rfl⟩ (fun H locs hP hD hS => ?_)
              obtain ⟨z11, ez11⟩ : ∃ zt_ : x_S, zt_ = x_start z9 s0 r8 := ⟨_, rfl⟩
              rw [← ez11] at hP hD
              refine lv_iload_n hx hb d_M_connect_101 rfl (lv_at hl 0 rfl) ?_
              refine x_T (rest := []) ⟨hx, hb, hml, hown, hts⟩ (c_J_bitCount_ok l D cI cN ad z11 r8) gm_311 gm_312 gm_36 gm_313 ⟨rfl, rfl⟩ hd_J_bitCount ⟨Nat.le_of_ble_eq_true rfl, Nat.le_of_ble_eq_true rfl⟩ hK hP hD hS hA rfl hl.1 rfl (Nat.le_of_ble_eq_true rfl) d_M_connect_102 ⟨Nat.le_of_ble_eq_true rfl, Nat.le_of_ble_eq_true rfl⟩ (fun H locs hP hD hS => ?_)
              refine lv_topi (fun r12 er12 => ?_)
              exact x_ri (w := x_w cI cN ad) (by subst ez7 er8 ez9 ez11 er12; first | (simp only [x_connect, x_conn3, if_pos c1, if_neg c2, if_neg c3, if_neg c4, if_neg c5, if_neg c10, ← er6, x_cl hs0]; done) | rfl | (simp only [x_connect, x_conn3, if_pos c1, if_neg c2, if_neg c3, if_neg c4, if_neg c5, if_neg c10, ← er6, x_cl hs0]; rfl)) hx hb hr hlk hP hD hS d_M_connect_105
            · refine lv_aload_n hx hb d_M_connect_89 rfl (lv_at hl 1 rfl) ?_
              refine x_V (rest := []) ⟨hx, hb, hml, hown, hts⟩ (c_M_finishSync_ok l D cI cN ad z9 s0 hs0 (by subst ez7 ez9; rfl)) gm_303 gm_305 gm_11 gm_28 gm_306 ⟨rfl, rfl⟩ hd_M_finishSync ⟨Nat.le_of_ble_eq_true rfl, Nat.le_of_ble_eq_true rfl⟩ hK hP hD hS hA (va_recv hK hP (ci := 4) (q0 := 0) rfl x_hM) rfl hl.1 rfl (Nat.le_of_ble_eq_true rfl) d_M_connect_90 ⟨Nat.le_of_ble_eq_true rfl, Nat.le_of_ble_eq_true rfl⟩ (fun H locs hP hD hS => ?_)
              obtain ⟨z13, ez13⟩ : ∃ zt_ : x_S, zt_ = x_fin z9 s0 := ⟨_, rfl⟩
              rw [← ez13] at hP hD
              refine lv_goto (tgt := 101) hx hb d_M_connect_93 (by decide) ?_
              refine lv_iload_n hx hb d_M_connect_101 rfl (lv_at hl 0 rfl) ?_
              refine x_T (rest := []) ⟨hx, hb, hml, hown, hts⟩ (c_J_bitCount_ok l D cI cN ad z13 r8) gm_311 gm_312 gm_36 gm_313 ⟨rfl, rfl⟩ hd_J_bitCount ⟨Nat.le_of_ble_eq_true rfl, Nat.le_of_ble_eq_true rfl⟩ hK hP hD hS hA rfl hl.1 rfl (Nat.le_of_ble_eq_true rfl) d_M_connect_102 ⟨Nat.le_of_ble_eq_true rfl, Nat.le_of_ble_eq_true rfl⟩ (fun H locs hP hD hS => ?_)
              refine lv_topi (fun r14 er14 => ?_)
              exact x_ri (w := x_w cI cN ad) (by subst ez7 er8 ez9 ez13 er14; first | (simp only [x_connect, x_conn3, if_pos c1, if_neg c2, if_neg c3, if_neg c4, if_neg c5, if_pos c10, ← er6, x_cl hs0]; done) | rfl | (simp only [x_connect, x_conn3, if_pos c1, if_neg c2, if_neg c3, if_neg c4, if_neg c5, if_pos c10, ← er6, x_cl hs0]; rfl)) hx hb hr hlk hP hD hS d_M_connect_105
          · refine lv_aload_n hx hb d_M_connect_52 rfl (lv_at hl 0 rfl) ?_
            refine va_get (D := D) (ci := 4) (C := R_M) (T := T_M) (N := 7) hx hb hts in_M hown hK hP 0 x_hM rfl 0 (by decide) (hts _ gm_154) (fun _ h9 => h9) rfl d_M_connect_53 ?_
            refine lv_iconst (v := 1) hx hb d_M_connect_56 (by decide) ?_
            refine x_top (show (1 : Int32) = nI 1 from rfl) ?_
            refine va_aldq (D := D) hx hb hK hP 1 1 x_hA rfl (x_in2 (by decide)) d_M_connect_57 ?_
            refine x_topv x_nf_1 ?_
            refine va_get (D := D) (ci := 2) (C := R_N) (T := T_N) (N := 8) hx hb hts in_N hown hK hP 7 x_hN1 rfl 3 (by decide) (hts _ gm_96) (fun _ h9 => h9) rfl d_M_connect_58 ?_
            refine lv_if_ne (tgt := 67) hx hb d_M_connect_61 (by decide) (fun c15 => ?_) (fun c15 => ?_)
            · refine lv_aload_n hx hb d_M_connect_67 rfl (lv_at hl 0 rfl) ?_
              refine lv_aload_n hx hb d_M_connect_68 rfl (lv_at hl 0 rfl) ?_
              refine x_V (rest := [.ref (ad 0)]) ⟨hx, hb, hml, hown, hts⟩ (c_M_chooseSource_ok l D cI cN ad z) gm_295 gm_297 gm_9 gm_28 gm_298 ⟨rfl, rfl⟩ hd_M_chooseSource ⟨Nat.le_of_ble_eq_true rfl, Nat.le_of_ble_eq_true rfl⟩ hK hP hD hS hA (va_recv hK hP (ci := 4) (q0 := 0) rfl x_hM) rfl hl.1 rfl (Nat.le_of_ble_eq_true rfl) d_M_connect_69 ⟨Nat.le_of_ble_eq_true rfl, Nat.le_of_ble_eq_true rfl⟩ (fun H locs hP hD hS => ?_)
              refine lv_topi (fun r16 er16 => ?_)
              obtain ⟨s0, hs0, es⟩ := x_chooseE z
              have es : r16 = nI s0 := er16.trans es
              subst es
              refine va_put (D := D) (ci := 4) (v := .int (nI s0)) (ty := .int) (C := R_M) (T := T_M) (N := 7) hx hb hts in_M fy_M fy_M_ok n_M hown hK hP hD hS 0 x_hM rfl 6 (by decide) (hts _ gm_160) (fun _ h9 => h9) rfl (by decide +kernel) rfl rfl (Nat.le_of_ble_eq_true rfl) d_M_connect_72 (fun H locs hP hD hS => ?_)
              obtain ⟨z17, ez17⟩ : ∃ zt_ : x_S, zt_ = x_up z 0 3 (nI s0) := ⟨_, rfl⟩
              have hP : va_P D vwCl (x_w cI cN ad z17) H := by rw [ez17, ← x_sM (i := 3) (by decide) (nI s0)]; exact hP
              have hD : va_D A (x_w cI cN ad z17) := by rw [ez17, ← x_sM (i := 3) (by decide) (nI s0)]; exact hD
              refine lv_aload_n hx hb d_M_connect_75 rfl (lv_at hl 0 rfl) ?_
              refine x_V (rest := []) ⟨hx, hb, hml, hown, hts⟩ (c_M_extentsThatMayDiffer_ok l D cI cN ad z17 s0 hs0 (by subst ez17; rfl)) gm_299 gm_301 gm_10 gm_28 gm_302 ⟨rfl, rfl⟩ hd_M_extentsThatMayDiffer ⟨Nat.le_of_ble_eq_true rfl, Nat.le_of_ble_eq_true rfl⟩ hK hP hD hS hA (va_recv hK hP (ci := 4) (q0 := 0) rfl x_hM) rfl hl.1 rfl (Nat.le_of_ble_eq_true rfl) d_M_connect_76 ⟨Nat.le_of_ble_eq_true rfl, Nat.le_of_ble_eq_true rfl⟩ (fun H locs hP hD hS => ?_)
              refine lv_topi (fun r18 er18 => ?_)
              refine lv_istore_n (lv' := [(1, .int r18), (0, .ref (ad 0))]) hx hb d_M_connect_79 rfl hl (by decide) rfl (fun ls hl => ?_)
              refine lv_aload_n hx hb d_M_connect_80 rfl (lv_at hl 1 rfl) ?_
              refine lv_iconst (v := 1) hx hb d_M_connect_81 (by decide) ?_
              refine va_put (D := D) (ci := 4) (v := .int 1) (ty := .boolean) (C := R_M) (T := T_M) (N := 7) hx hb hts in_M fy_M fy_M_ok n_M hown hK hP hD hS 0 x_hM rfl 4 (by decide) (hts _ gm_158) (fun _ h9 => h9) rfl (by decide +kernel) rfl rfl (Nat.le_of_ble_eq_true rfl) d_M_connect_82 (fun H locs hP hD hS => ?_)
              obtain ⟨z19, ez19⟩ : ∃ zt_ : x_S, zt_ = x_up z17 0 1 1 := ⟨_, rfl⟩
              have hP : va_P D vwCl (x_w cI cN ad z19) H := by rw [ez19, ← x_sM (i := 1) (by decide) 1]; exact hP
              have hD : va_D A (x_w cI cN ad z19) := by rw [ez19, ← x_sM (i := 1) (by decide) 1]; exact hD
              refine lv_iload_n hx hb d_M_connect_85 rfl (lv_at hl 0 rfl) ?_
              refine lv_if_ne (tgt := 96) hx hb d_M_connect_86 (by decide) (fun c20 => ?_) (fun c20 => ?_)
              · refine lv_aload_n hx hb d_M_connect_96 rfl (lv_at hl 1 rfl) ?_
                refine lv_iload_n hx hb d_M_connect_97 rfl (lv_at hl 0 rfl) ?_
                refine x_V (rest := []) ⟨hx, hb, hml, hown, hts⟩ (c_M_startSync_ok l D cI cN ad z19 s0 hs0 (by subst ez17 ez19; rfl) r18) gm_307 gm_309 gm_12 gm_28 gm_310 ⟨rfl, rfl⟩ hd_M_startSync ⟨Nat.le_of_ble_eq_true rfl, Nat.le_of_ble_eq_true rfl⟩ hK hP hD hS hA (va_recv hK hP (ci := 4) (q0 := 0) rfl x_hM) rfl hl.1 rfl (Nat.le_of_ble_eq_true rfl) d_M_connect_98 ⟨Nat.le_of_ble_eq_true rfl, Nat.le_of_ble_eq_true rfl⟩ (fun H locs hP hD hS => ?_)
                obtain ⟨z21, ez21⟩ : ∃ zt_ : x_S, zt_ = x_start z19 s0 r18 := ⟨_, rfl⟩
                rw [← ez21] at hP hD
                refine lv_iload_n hx hb d_M_connect_101 rfl (lv_at hl 0 rfl) ?_
                refine x_T (rest := []) ⟨hx, hb, hml, hown, hts⟩ (c_J_bitCount_ok l D cI cN ad z21 r18) gm_311 gm_312 gm_36 gm_313 ⟨rfl, rfl⟩ hd_J_bitCount ⟨Nat.le_of_ble_eq_true rfl, Nat.le_of_ble_eq_true rfl⟩ hK hP hD hS hA rfl hl.1 rfl (Nat.le_of_ble_eq_true rfl) d_M_connect_102 ⟨Nat.le_of_ble_eq_true rfl, Nat.le_of_ble_eq_true rfl⟩ (fun H locs hP hD hS => ?_)
                refine lv_topi (fun r22 er22 => ?_)
                exact x_ri (w := x_w cI cN ad) (by subst ez17 er18 ez19 ez21 er22; first | (simp only [x_connect, x_conn3, if_pos c1, if_neg c2, if_neg c3, if_neg c4, if_pos c5, if_neg c15, if_neg c20, ← er16, x_cl hs0]; done) | rfl | (simp only [x_connect, x_conn3, if_pos c1, if_neg c2, if_neg c3, if_neg c4, if_pos c5, if_neg c15, if_neg c20, ← er16, x_cl hs0]; rfl)) hx hb hr hlk hP hD hS d_M_connect_105
              · refine lv_aload_n hx hb d_M_connect_89 rfl (lv_at hl 1 rfl) ?_
                refine x_V (rest := []) ⟨hx, hb, hml, hown, hts⟩ (c_M_finishSync_ok l D cI cN ad z19 s0 hs0 (by subst ez17 ez19; rfl)) gm_303 gm_305 gm_11 gm_28 gm_306 ⟨rfl, rfl⟩ hd_M_finishSync ⟨Nat.le_of_ble_eq_true rfl, Nat.le_of_ble_eq_true rfl⟩ hK hP hD hS hA (va_recv hK hP (ci := 4) (q0 := 0) rfl x_hM) rfl hl.1 rfl (Nat.le_of_ble_eq_true rfl) d_M_connect_90 ⟨Nat.le_of_ble_eq_true rfl, Nat.le_of_ble_eq_true rfl⟩ (fun H locs hP hD hS => ?_)
                obtain ⟨z23, ez23⟩ : ∃ zt_ : x_S, zt_ = x_fin z19 s0 := ⟨_, rfl⟩
                rw [← ez23] at hP hD
                refine lv_goto (tgt := 101) hx hb d_M_connect_93 (by decide) ?_
                refine lv_iload_n hx hb d_M_connect_101 rfl (lv_at hl 0 rfl) ?_
                refine x_T (rest := []) ⟨hx, hb, hml, hown, hts⟩ (c_J_bitCount_ok l D cI cN ad z23 r18) gm_311 gm_312 gm_36 gm_313 ⟨rfl, rfl⟩ hd_J_bitCount ⟨Nat.le_of_ble_eq_true rfl, Nat.le_of_ble_eq_true rfl⟩ hK hP hD hS hA rfl hl.1 rfl (Nat.le_of_ble_eq_true rfl) d_M_connect_102 ⟨Nat.le_of_ble_eq_true rfl, Nat.le_of_ble_eq_true rfl⟩ (fun H locs hP hD hS => ?_)
                refine lv_topi (fun r24 er24 => ?_)
                exact x_ri (w := x_w cI cN ad) (by subst ez17 er18 ez19 ez23 er24; first | (simp only [x_connect, x_conn3, if_pos c1, if_neg c2, if_neg c3, if_neg c4, if_pos c5, if_neg c15, if_pos c20, ← er16, x_cl hs0]; done) | rfl | (simp only [x_connect, x_conn3, if_pos c1, if_neg c2, if_neg c3, if_neg c4, if_pos c5, if_neg c15, if_pos c20, ← er16, x_cl hs0]; rfl)) hx hb hr hlk hP hD hS d_M_connect_105
            · refine lv_bipush (v := (-6)) hx hb d_M_connect_64 (by decide) ?_
              exact x_ri (w := x_w cI cN ad) (by first | (simp only [x_connect, x_conn3, if_pos c1, if_neg c2, if_neg c3, if_neg c4, if_pos c5, if_pos c15]; done) | rfl | (simp only [x_connect, x_conn3, if_pos c1, if_neg c2, if_neg c3, if_neg c4, if_pos c5, if_pos c15]; rfl)) hx hb hr hlk hP hD hS d_M_connect_66
        · refine lv_iconst (v := (-1)) hx hb d_M_connect_38 (by decide) ?_
          exact x_ri (w := x_w cI cN ad) (by first | (simp only [x_connect, x_conn3, if_pos c1, if_neg c2, if_neg c3, if_pos c4]; done) | rfl | (simp only [x_connect, x_conn3, if_pos c1, if_neg c2, if_neg c3, if_pos c4]; rfl)) hx hb hr hlk hP hD hS d_M_connect_39
