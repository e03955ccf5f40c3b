-- ===== 07.x1: leaves of the class
set_option maxHeartbeats 4000000 in
set_option maxRecDepth 100000 in
theorem c_M_isNode_ok (l : Launch) (D : va_G) (cI cN : ClassId) (ad : Nat → Nat) (z : x_S) (a : Int32) : x_C l y_M_isNode c_M_isNode 1 (some .boolean) { frames := 0, cells := 0, slots := 0, locals := 0 } D (x_ty cI cN) (x_w cI cN ad z) [.int a] (some (.int (x_isNode a))) (x_w cI cN ad z) := by
  refine x_C.of (by decide) (Nat.le_of_ble_eq_true rfl) ?_
  intro p e s m below meth c hx hb hr hml hts hown hlk A hA hK hS hP hD ls hl
  have hown : s.vm.findClass R_M = some m.cls := hown
  have hl : lv_has ls 1 [(0, .int a)] := hl
  refine lv_iload_n hx hb d_M_isNode_0 rfl (lv_at hl 0 rfl) ?_
  refine lv_if_lt (tgt := 13) hx hb d_M_isNode_1 (by decide) (fun c1 => ?_) (fun c1 => ?_)
  · refine lv_iconst (v := 0) hx hb d_M_isNode_13 (by decide) ?_
    exact x_rz (by first | (simp only [x_isNode, if_pos c1]; done) | rfl | (simp only [x_isNode, if_pos c1]; rfl)) rfl hx hb hr hlk hP hD hS d_M_isNode_14
  · refine lv_iload_n hx hb d_M_isNode_4 rfl (lv_at hl 0 rfl) ?_
    refine lv_iconst (v := 2) hx hb d_M_isNode_5 (by decide) ?_
    refine lv_icmp_ge (tgt := 13) hx hb d_M_isNode_6 (by decide) (fun c2 => ?_) (fun c2 => ?_)
    · refine lv_iconst (v := 0) hx hb d_M_isNode_13 (by decide) ?_
      exact x_rz (by first | (simp only [x_isNode, if_neg c1, if_pos c2]; done) | rfl | (simp only [x_isNode, if_neg c1, if_pos c2]; rfl)) rfl hx hb hr hlk hP hD hS d_M_isNode_14
    · refine lv_iconst (v := 1) hx hb d_M_isNode_9 (by decide) ?_
      refine lv_goto (tgt := 14) hx hb d_M_isNode_10 (by decide) ?_
      exact x_rz (by first | (simp only [x_isNode, if_neg c1, if_neg c2]; done) | rfl | (simp only [x_isNode, if_neg c1, if_neg c2]; rfl)) rfl hx hb hr hlk hP hD hS d_M_isNode_14
set_option maxHeartbeats 4000000 in
set_option maxRecDepth 100000 in
theorem c_M_isCell_ok (l : Launch) (D : va_G) (cI cN : ClassId) (ad : Nat → Nat) (z : x_S) (a : Int32) : x_C l y_M_isCell c_M_isCell 1 (some .boolean) { frames := 0, cells := 0, slots := 0, locals := 0 } D (x_ty cI cN) (x_w cI cN ad z) [.int a] (some (.int (x_isCell a))) (x_w cI cN ad z) := by
  refine x_C.of (by decide) (Nat.le_of_ble_eq_true rfl) ?_
  intro p e s m below meth c hx hb hr hml hts hown hlk A hA hK hS hP hD ls hl
  have hown : s.vm.findClass R_M = some m.cls := hown
  have hl : lv_has ls 1 [(0, .int a)] := hl
  refine lv_iload_n hx hb d_M_isCell_0 rfl (lv_at hl 0 rfl) ?_
  refine lv_if_lt (tgt := 14) hx hb d_M_isCell_1 (by decide) (fun c1 => ?_) (fun c1 => ?_)
  · refine lv_iconst (v := 0) hx hb d_M_isCell_14 (by decide) ?_
    exact x_rz (by first | (simp only [x_isCell, if_pos c1]; done) | rfl | (simp only [x_isCell, if_pos c1]; rfl)) rfl hx hb hr hlk hP hD hS d_M_isCell_15
  · refine lv_iload_n hx hb d_M_isCell_4 rfl (lv_at hl 0 rfl) ?_
    refine lv_bipush (v := 24) hx hb d_M_isCell_5 (by decide) ?_
    refine lv_icmp_ge (tgt := 14) hx hb d_M_isCell_7 (by decide) (fun c2 => ?_) (fun c2 => ?_)
    · refine lv_iconst (v := 0) hx hb d_M_isCell_14 (by decide) ?_
      exact x_rz (by first | (simp only [x_isCell, if_neg c1, if_pos c2]; done) | rfl | (simp only [x_isCell, if_neg c1, if_pos c2]; rfl)) rfl hx hb hr hlk hP hD hS d_M_isCell_15
    · refine lv_iconst (v := 1) hx hb d_M_isCell_10 (by decide) ?_
      refine lv_goto (tgt := 15) hx hb d_M_isCell_11 (by decide) ?_
      exact x_rz (by first | (simp only [x_isCell, if_neg c1, if_neg c2]; done) | rfl | (simp only [x_isCell, if_neg c1, if_neg c2]; rfl)) rfl hx hb hr hlk hP hD hS d_M_isCell_15
set_option maxHeartbeats 4000000 in
set_option maxRecDepth 100000 in
theorem c_M_asNumber_ok (l : Launch) (D : va_G) (cI cN : ClassId) (ad : Nat → Nat) (z : x_S) (a : Int32) : x_C l y_M_asNumber c_M_asNumber 1 (some .int) { frames := 0, cells := 0, slots := 0, locals := 0 } D (x_ty cI cN) (x_w cI cN ad z) [.int a] (some (.int (x_num a))) (x_w cI cN ad z) := by
  refine x_C.of (by decide) (Nat.le_of_ble_eq_true rfl) ?_
  intro p e s m below meth c hx hb hr hml hts hown hlk A hA hK hS hP hD ls hl
  have hown : s.vm.findClass R_M = some m.cls := hown
  have hl : lv_has ls 1 [(0, .int a)] := hl
  refine lv_iload_n hx hb d_M_asNumber_0 rfl (lv_at hl 0 rfl) ?_
  refine lv_if_eq (tgt := 8) hx hb d_M_asNumber_1 (by decide) (fun c1 => ?_) (fun c1 => ?_)
  · refine lv_iconst (v := 0) hx hb d_M_asNumber_8 (by decide) ?_
    exact x_rp (by first | (simp only [x_num, if_pos c1]; done) | rfl | (simp only [x_num, if_pos c1]; rfl)) hx hb hr hlk hP hD hS d_M_asNumber_9
  · refine lv_iconst (v := 1) hx hb d_M_asNumber_4 (by decide) ?_
    refine lv_goto (tgt := 9) hx hb d_M_asNumber_5 (by decide) ?_
    exact x_rp (by first | (simp only [x_num, if_neg c1]; done) | rfl | (simp only [x_num, if_neg c1]; rfl)) hx hb hr hlk hP hD hS d_M_asNumber_9
set_option maxHeartbeats 4000000 in
set_option maxRecDepth 100000 in
theorem c_D_isCached_ok (l : Launch) (D : va_G) (cI cN : ClassId) (ad : Nat → Nat) (z : x_S) (k : Nat) (hk : k < 2) (b : Nat) : x_C l y_D_isCached c_D_isCached 2 (some .boolean) { frames := 0, cells := 0, slots := 0, locals := 0 } D (x_ty cI cN) (x_w cI cN ad z) [.ref (ad (8 + k)), .int (nI b)] (some (.int (x_isC z k b))) (x_w cI cN ad z) := by
  refine x_C.of (by decide) (Nat.le_of_ble_eq_true rfl) ?_
  intro p e s m below meth c hx hb hr hml hts hown hlk A hA hK hS hP hD ls hl
  have hown : s.vm.findClass R_D = some m.cls := hown
  have hl : lv_has ls 2 [(0, .ref (ad (8 + k))), (1, .int (nI b))] := hl
  refine lv_aload_n hx hb d_D_isCached_0 rfl (lv_at hl 0 rfl) ?_
  refine va_get (D := D) (ci := 1) (C := R_D) (T := T_D) (N := 3) hx hb hts in_D hown hK hP (8 + k) (x_hD hk) rfl 2 (by decide) (hts _ gm_81) (fun _ h9 => h9) rfl d_D_isCached_1 ?_
  refine lv_iload_n hx hb d_D_isCached_4 rfl (lv_at hl 1 rfl) ?_
  refine lv_iushr (v := x_sh (z (5 + k) 7) (nI b)) hx hb d_D_isCached_5 rfl ?_
  refine lv_iconst (v := 1) hx hb d_D_isCached_6 (by decide) ?_
  refine lv_iand hx hb d_D_isCached_7 ?_
  refine lv_iconst (v := 1) hx hb d_D_isCached_8 (by decide) ?_
  refine lv_icmp_ne (tgt := 16) hx hb d_D_isCached_9 (by decide) (fun c1 => ?_) (fun c1 => ?_)
  · refine lv_iconst (v := 0) hx hb d_D_isCached_16 (by decide) ?_
    exact x_rz (by first | (simp only [x_isC, if_neg c1]; done) | rfl | (simp only [x_isC, if_neg c1]; rfl)) rfl hx hb hr hlk hP hD hS d_D_isCached_17
  · refine lv_iconst (v := 1) hx hb d_D_isCached_12 (by decide) ?_
    refine lv_goto (tgt := 17) hx hb d_D_isCached_13 (by decide) ?_
    exact x_rz (by first | (simp only [x_isC, if_pos c1]; done) | rfl | (simp only [x_isC, if_pos c1]; rfl)) rfl hx hb hr hlk hP hD hS d_D_isCached_17
set_option maxHeartbeats 4000000 in
set_option maxRecDepth 100000 in
theorem c_D_held_ok (l : Launch) (D : va_G) (cI cN : ClassId) (ad : Nat → Nat) (z : x_S) (k : Nat) (hk : k < 2) (b : Nat) (hb32 : b < 32) : x_C l y_D_held c_D_held 2 (some .int) { frames := 1, cells := 0, slots := 0, locals := 21 } D (x_ty cI cN) (x_w cI cN ad z) [.ref (ad (8 + k)), .int (nI b)] (some (.int (x_held z k b))) (x_w cI cN ad z) := by
  refine x_C.of (by decide) (Nat.le_of_ble_eq_true rfl) ?_
  intro p e s m below meth c hx hb hr hml hts hown hlk A hA hK hS hP hD ls hl
  have hown : s.vm.findClass R_D = some m.cls := hown
  have hl : lv_has ls 2 [(0, .ref (ad (8 + k))), (1, .int (nI b))] := hl
  refine lv_aload_n hx hb d_D_held_0 rfl (lv_at hl 0 rfl) ?_
  refine lv_iload_n hx hb d_D_held_1 rfl (lv_at hl 1 rfl) ?_
  refine x_V (rest := []) ⟨hx, hb, hml, hown, hts⟩ (c_D_isCached_ok l D cI cN ad z k hk b) gm_219 gm_220 gm_221 gm_31 gm_222 ⟨rfl, rfl⟩ hd_D_isCached ⟨Nat.le_of_ble_eq_true rfl, Nat.le_of_ble_eq_true rfl⟩ hK hP hD hS hA (va_recv hK hP (ci := 1) (q0 := (8 + k)) rfl (x_hD hk)) rfl hl.1 rfl (Nat.le_of_ble_eq_true rfl) d_D_held_2 ⟨Nat.le_of_ble_eq_true rfl, Nat.le_of_ble_eq_true rfl⟩ (fun H locs hP hD hS => ?_)
  refine lv_topi (fun r1 er1 => ?_)
  refine lv_if_eq (tgt := 17) hx hb d_D_held_5 (by decide) (fun c2 => ?_) (fun c2 => ?_)
  · refine lv_aload_n hx hb d_D_held_17 rfl (lv_at hl 0 rfl) ?_
    refine va_get (D := D) (ci := 1) (C := R_D) (T := T_D) (N := 3) hx hb hts in_D hown hK hP (8 + k) (x_hD hk) rfl 0 (by decide) (hts _ gm_78) (fun _ h9 => h9) rfl d_D_held_18 ?_
    refine lv_iload_n hx hb d_D_held_21 rfl (lv_at hl 1 rfl) ?_
    refine va_iald (D := D) hx hb hK hP (10 + k) 0 (x_hS hk) rfl (x_in32 hb32) d_D_held_22 ?_
    refine x_top (show z (7 + k) (nI b).toNatClampNeg = z (7 + k) b by rw [x_cl32 hb32]) ?_
    exact x_rp (by subst er1; first | (simp only [x_held, if_pos c2]; done) | rfl | (simp only [x_held, if_pos c2]; rfl)) hx hb hr hlk hP hD hS d_D_held_23
  · refine lv_aload_n hx hb d_D_held_8 rfl (lv_at hl 0 rfl) ?_
    refine va_get (D := D) (ci := 1) (C := R_D) (T := T_D) (N := 3) hx hb hts in_D hown hK hP (8 + k) (x_hD hk) rfl 1 (by decide) (hts _ gm_80) (fun _ h9 => h9) rfl d_D_held_9 ?_
    refine lv_iload_n hx hb d_D_held_12 rfl (lv_at hl 1 rfl) ?_
    refine va_iald (D := D) hx hb hK hP (12 + k) 0 (x_hC hk) rfl (x_in32 hb32) d_D_held_13 ?_
    refine x_top (show z (9 + k) (nI b).toNatClampNeg = z (9 + k) b by rw [x_cl32 hb32]) ?_
    refine lv_goto (tgt := 23) hx hb d_D_held_14 (by decide) ?_
    exact x_rp (by subst er1; first | (simp only [x_held, if_neg c2]; done) | rfl | (simp only [x_held, if_neg c2]; rfl)) hx hb hr hlk hP hD hS d_D_held_23
set_option maxHeartbeats 4000000 in
set_option maxRecDepth 100000 in
theorem c_D_put_ok (l : Launch) (D : va_G) (cI cN : ClassId) (ad : Nat → Nat) (z : x_S) (k : Nat) (hk : k < 2) (b : Nat) (hb32 : b < 32) (v : Int32) : x_C l y_D_put c_D_put 3 none { frames := 0, cells := 0, slots := 0, locals := 0 } D (x_ty cI cN) (x_w cI cN ad z) [.ref (ad (8 + k)), .int (nI b), .int v] (none) (x_w cI cN ad (x_put z k b v)) := by
  refine x_C.of (by decide) (Nat.le_of_ble_eq_true rfl) ?_
  intro p e s m below meth c hx hb hr hml hts hown hlk A hA hK hS hP hD ls hl
  have hown : s.vm.findClass R_D = some m.cls := hown
  have hl : lv_has ls 3 [(0, .ref (ad (8 + k))), (1, .int (nI b)), (2, .int v)] := hl
  refine lv_aload_n hx hb d_D_put_0 rfl (lv_at hl 0 rfl) ?_
  refine va_get (D := D) (ci := 1) (C := R_D) (T := T_D) (N := 3) hx hb hts in_D hown hK hP (8 + k) (x_hD hk) rfl 1 (by decide) (hts _ gm_80) (fun _ h9 => h9) rfl d_D_put_1 ?_
  refine lv_iload_n hx hb d_D_put_4 rfl (lv_at hl 1 rfl) ?_
  refine lv_iload_n hx hb d_D_put_5 rfl (lv_at hl 2 rfl) ?_
  refine va_iast (D := D) hx hb hK hP hD hS (12 + k) 0 (x_hC hk) rfl (x_in32 hb32) d_D_put_6 (fun H locs hP hD hS => ?_)
  obtain ⟨z1, ez1⟩ : ∃ zt_ : x_S, zt_ = x_up z (9 + k) b v := ⟨_, rfl⟩
  rw [x_cl32 hb32] at hP hD
  have hP : va_P D vwCl (x_w cI cN ad z1) H := by rw [ez1, ← x_sC hk b v]; exact hP
  have hD : va_D A (x_w cI cN ad z1) := by rw [ez1, ← x_sC hk b v]; exact hD
  refine lv_aload_n hx hb d_D_put_7 rfl (lv_at hl 0 rfl) ?_
  refine lv_dup hx hb d_D_put_8 rfl ?_
  refine va_get (D := D) (ci := 1) (C := R_D) (T := T_D) (N := 3) hx hb hts in_D hown hK hP (8 + k) (x_hD hk) rfl 2 (by decide) (hts _ gm_81) (fun _ h9 => h9) rfl d_D_put_9 ?_
  refine lv_iconst (v := 1) hx hb d_D_put_12 (by decide) ?_
  refine lv_iload_n hx hb d_D_put_13 rfl (lv_at hl 1 rfl) ?_
  refine lv_ishl hx hb d_D_put_14 ?_
  refine lv_ior hx hb d_D_put_15 ?_
  refine va_put (D := D) (ci := 1) (v := .int ((z1 (5 + k) 7) ||| (1 <<< (nI b &&& 31)))) (ty := .int) (C := R_D) (T := T_D) (N := 3) hx hb hts in_D fy_D fy_D_ok n_D hown hK hP hD hS (8 + k) (x_hD hk) rfl 2 (by decide) (hts _ gm_81) (fun _ h9 => h9) rfl (by decide +kernel) rfl rfl (Nat.le_of_ble_eq_true rfl) d_D_put_16 (fun H locs hP hD hS => ?_)
  obtain ⟨z2, ez2⟩ : ∃ zt_ : x_S, zt_ = x_up z1 (5 + k) 7 ((z1 (5 + k) 7) ||| (1 <<< (nI b &&& 31))) := ⟨_, rfl⟩
  have hP : va_P D vwCl (x_w cI cN ad z2) H := by rw [ez2, ← x_sD hk ((z1 (5 + k) 7) ||| (1 <<< (nI b &&& 31)))]; exact hP
  have hD : va_D A (x_w cI cN ad z2) := by rw [ez2, ← x_sD hk ((z1 (5 + k) 7) ||| (1 <<< (nI b &&& 31)))]; exact hD
  exact x_rv (w := x_w cI cN ad) (by subst ez1 ez2; first | (simp only [x_put]; done) | rfl | (simp only [x_put]; rfl)) hx hb hr hlk hP hD hS d_D_put_19
set_option maxHeartbeats 4000000 in
set_option maxRecDepth 100000 in
theorem c_N_mayAskForLease_ok (l : Launch) (D : va_G) (cI cN : ClassId) (ad : Nat → Nat) (z : x_S) (k : Nat) (hk : k < 2) : x_C l y_N_mayAskForLease c_N_mayAskForLease 1 (some .boolean) { frames := 0, cells := 0, slots := 0, locals := 0 } D (x_ty cI cN) (x_w cI cN ad z) [.ref (ad (6 + k))] (some (.int (x_may z k))) (x_w cI cN ad z) := by
  refine x_C.of (by decide) (Nat.le_of_ble_eq_true rfl) ?_
  intro p e s m below meth c hx hb hr hml hts hown hlk A hA hK hS hP hD ls hl
  have hown : s.vm.findClass R_N = some m.cls := hown
  have hl : lv_has ls 1 [(0, .ref (ad (6 + k)))] := hl
  refine lv_aload_n hx hb d_N_mayAskForLease_0 rfl (lv_at hl 0 rfl) ?_
  refine va_get (D := D) (ci := 2) (C := R_N) (T := T_N) (N := 8) hx hb hts in_N hown hK hP (6 + k) (x_hN hk) rfl 1 (by decide) (hts _ gm_91) (fun _ h9 => h9) rfl d_N_mayAskForLease_1 ?_
  refine lv_if_eq (tgt := 25) hx hb d_N_mayAskForLease_4 (by decide) (fun c1 => ?_) (fun c1 => ?_)
  · refine lv_iconst (v := 0) hx hb d_N_mayAskForLease_25 (by decide) ?_
    exact x_rz (by first | (simp only [x_may, if_pos c1]; done) | rfl | (simp only [x_may, if_pos c1]; rfl)) rfl hx hb hr hlk hP hD hS d_N_mayAskForLease_26
  · refine lv_aload_n hx hb d_N_mayAskForLease_7 rfl (lv_at hl 0 rfl) ?_
    refine va_get (D := D) (ci := 2) (C := R_N) (T := T_N) (N := 8) hx hb hts in_N hown hK hP (6 + k) (x_hN hk) rfl 2 (by decide) (hts _ gm_93) (fun _ h9 => h9) rfl d_N_mayAskForLease_8 ?_
    refine lv_if_ne (tgt := 25) hx hb d_N_mayAskForLease_11 (by decide) (fun c2 => ?_) (fun c2 => ?_)
    · refine lv_iconst (v := 0) hx hb d_N_mayAskForLease_25 (by decide) ?_
      exact x_rz (by first | (simp only [x_may, if_neg c1, if_neg c2]; done) | rfl | (simp only [x_may, if_neg c1, if_neg c2]; rfl)) rfl hx hb hr hlk hP hD hS d_N_mayAskForLease_26
    · refine lv_aload_n hx hb d_N_mayAskForLease_14 rfl (lv_at hl 0 rfl) ?_
      refine va_get (D := D) (ci := 2) (C := R_N) (T := T_N) (N := 8) hx hb hts in_N hown hK hP (6 + k) (x_hN hk) rfl 7 (by decide) (hts _ gm_103) (fun _ h9 => h9) rfl d_N_mayAskForLease_15 ?_
      refine lv_if_eq (tgt := 25) hx hb d_N_mayAskForLease_18 (by decide) (fun c3 => ?_) (fun c3 => ?_)
      · refine lv_iconst (v := 0) hx hb d_N_mayAskForLease_25 (by decide) ?_
        exact x_rz (by first | (simp only [x_may, if_neg c1, if_pos c2, if_pos c3]; done) | rfl | (simp only [x_may, if_neg c1, if_pos c2, if_pos c3]; rfl)) rfl hx hb hr hlk hP hD hS d_N_mayAskForLease_26
      · refine lv_iconst (v := 1) hx hb d_N_mayAskForLease_21 (by decide) ?_
        refine lv_goto (tgt := 26) hx hb d_N_mayAskForLease_22 (by decide) ?_
        exact x_rz (by first | (simp only [x_may, if_neg c1, if_pos c2, if_neg c3]; done) | rfl | (simp only [x_may, if_neg c1, if_pos c2, if_neg c3]; rfl)) rfl hx hb hr hlk hP hD hS d_N_mayAskForLease_26
set_option maxHeartbeats 4000000 in
set_option maxRecDepth 100000 in
theorem c_T_isRunning_ok (l : Launch) (D : va_G) (cI cN : ClassId) (ad : Nat → Nat) (z : x_S)  : x_C l y_T_isRunning c_T_isRunning 1 (some .boolean) { frames := 0, cells := 0, slots := 0, locals := 0 } D (x_ty cI cN) (x_w cI cN ad z) [.ref (ad 2)] (some (.int (x_run z))) (x_w cI cN ad z) := by
  refine x_C.of (by decide) (Nat.le_of_ble_eq_true rfl) ?_
  intro p e s m below meth c hx hb hr hml hts hown hlk A hA hK hS hP hD ls hl
  have hown : s.vm.findClass R_T = some m.cls := hown
  have hl : lv_has ls 1 [(0, .ref (ad 2))] := hl
  refine lv_aload_n hx hb d_T_isRunning_0 rfl (lv_at hl 0 rfl) ?_
  refine va_get (D := D) (ci := 3) (C := R_T) (T := T_T) (N := 5) hx hb hts in_T hown hK hP 2 x_hT rfl 3 (by decide) (hts _ gm_139) (fun _ h9 => h9) rfl d_T_isRunning_1 ?_
  refine lv_iconst (v := 2) hx hb d_T_isRunning_4 (by decide) ?_
  refine lv_icmp_eq (tgt := 23) hx hb d_T_isRunning_5 (by decide) (fun c1 => ?_) (fun c1 => ?_)
  · refine lv_iconst (v := 0) hx hb d_T_isRunning_23 (by decide) ?_
    exact x_rz (by first | (simp only [x_run, if_pos c1]; done) | rfl | (simp only [x_run, if_pos c1]; rfl)) rfl hx hb hr hlk hP hD hS d_T_isRunning_24
  · refine lv_aload_n hx hb d_T_isRunning_8 rfl (lv_at hl 0 rfl) ?_
    refine va_get (D := D) (ci := 3) (C := R_T) (T := T_T) (N := 5) hx hb hts in_T hown hK hP 2 x_hT rfl 4 (by decide) (hts _ gm_141) (fun _ h9 => h9) rfl d_T_isRunning_9 ?_
    refine lv_aload_n hx hb d_T_isRunning_12 rfl (lv_at hl 0 rfl) ?_
    refine va_get (D := D) (ci := 3) (C := R_T) (T := T_T) (N := 5) hx hb hts in_T hown hK hP 2 x_hT rfl 2 (by decide) (hts _ gm_137) (fun _ h9 => h9) rfl d_T_isRunning_13 ?_
    refine lv_icmp_le (tgt := 23) hx hb d_T_isRunning_16 (by decide) (fun c2 => ?_) (fun c2 => ?_)
    · refine lv_iconst (v := 0) hx hb d_T_isRunning_23 (by decide) ?_
      exact x_rz (by first | (simp only [x_run, if_neg c1, if_pos c2]; done) | rfl | (simp only [x_run, if_neg c1, if_pos c2]; rfl)) rfl hx hb hr hlk hP hD hS d_T_isRunning_24
    · refine lv_iconst (v := 1) hx hb d_T_isRunning_19 (by decide) ?_
      refine lv_goto (tgt := 24) hx hb d_T_isRunning_20 (by decide) ?_
      exact x_rz (by first | (simp only [x_run, if_neg c1, if_neg c2]; done) | rfl | (simp only [x_run, if_neg c1, if_neg c2]; rfl)) rfl hx hb hr hlk hP hD hS d_T_isRunning_24
set_option maxHeartbeats 4000000 in
set_option maxRecDepth 100000 in
theorem c_T_isLentTo_ok (l : Launch) (D : va_G) (cI cN : ClassId) (ad : Nat → Nat) (z : x_S) (n : Int32) : x_C l y_T_isLentTo c_T_isLentTo 2 (some .boolean) { frames := 1, cells := 0, slots := 0, locals := 20 } D (x_ty cI cN) (x_w cI cN ad z) [.ref (ad 2), .int n] (some (.int (x_lent z n))) (x_w cI cN ad z) := by
  refine x_C.of (by decide) (Nat.le_of_ble_eq_true rfl) ?_
  intro p e s m below meth c hx hb hr hml hts hown hlk A hA hK hS hP hD ls hl
  have hown : s.vm.findClass R_T = some m.cls := hown
  have hl : lv_has ls 2 [(0, .ref (ad 2)), (1, .int n)] := hl
  refine lv_aload_n hx hb d_T_isLentTo_0 rfl (lv_at hl 0 rfl) ?_
  refine va_get (D := D) (ci := 3) (C := R_T) (T := T_T) (N := 5) hx hb hts in_T hown hK hP 2 x_hT rfl 3 (by decide) (hts _ gm_139) (fun _ h9 => h9) rfl d_T_isLentTo_1 ?_
  refine lv_iload_n hx hb d_T_isLentTo_4 rfl (lv_at hl 1 rfl) ?_
  refine lv_icmp_ne (tgt := 19) hx hb d_T_isLentTo_5 (by decide) (fun c1 => ?_) (fun c1 => ?_)
  · refine lv_iconst (v := 0) hx hb d_T_isLentTo_19 (by decide) ?_
    exact x_rz (by first | (simp only [x_lent, if_neg c1]; done) | rfl | (simp only [x_lent, if_neg c1]; rfl)) rfl hx hb hr hlk hP hD hS d_T_isLentTo_20
  · refine lv_aload_n hx hb d_T_isLentTo_8 rfl (lv_at hl 0 rfl) ?_
    refine x_V (rest := []) ⟨hx, hb, hml, hown, hts⟩ (c_T_isRunning_ok l D cI cN ad z) gm_341 gm_342 gm_343 gm_32 gm_344 ⟨rfl, rfl⟩ hd_T_isRunning ⟨Nat.le_of_ble_eq_true rfl, Nat.le_of_ble_eq_true rfl⟩ hK hP hD hS hA (va_recv hK hP (ci := 3) (q0 := 2) rfl x_hT) rfl hl.1 rfl (Nat.le_of_ble_eq_true rfl) d_T_isLentTo_9 ⟨Nat.le_of_ble_eq_true rfl, Nat.le_of_ble_eq_true rfl⟩ (fun H locs hP hD hS => ?_)
    refine lv_topi (fun r2 er2 => ?_)
    refine lv_if_eq (tgt := 19) hx hb d_T_isLentTo_12 (by decide) (fun c3 => ?_) (fun c3 => ?_)
    · refine lv_iconst (v := 0) hx hb d_T_isLentTo_19 (by decide) ?_
      exact x_rz (by subst er2; first | (simp only [x_lent, if_pos c1, if_pos c3]; done) | rfl | (simp only [x_lent, if_pos c1, if_pos c3]; rfl)) rfl hx hb hr hlk hP hD hS d_T_isLentTo_20
    · refine lv_iconst (v := 1) hx hb d_T_isLentTo_15 (by decide) ?_
      refine lv_goto (tgt := 20) hx hb d_T_isLentTo_16 (by decide) ?_
      exact x_rz (by subst er2; first | (simp only [x_lent, if_pos c1, if_neg c3]; done) | rfl | (simp only [x_lent, if_pos c1, if_neg c3]; rfl)) rfl hx hb hr hlk hP hD hS d_T_isLentTo_20
set_option maxHeartbeats 4000000 in
set_option maxRecDepth 100000 in
theorem c_T_extendLease_ok (l : Launch) (D : va_G) (cI cN : ClassId) (ad : Nat → Nat) (z : x_S)  : x_C l y_T_extendLease c_T_extendLease 1 none { frames := 0, cells := 0, slots := 0, locals := 0 } D (x_ty cI cN) (x_w cI cN ad z) [.ref (ad 2)] (none) (x_w cI cN ad (x_ext z)) := by
  refine x_C.of (by decide) (Nat.le_of_ble_eq_true rfl) ?_
  intro p e s m below meth c hx hb hr hml hts hown hlk A hA hK hS hP hD ls hl
  have hown : s.vm.findClass R_T = some m.cls := hown
  have hl : lv_has ls 1 [(0, .ref (ad 2))] := hl
  refine lv_aload_n hx hb d_T_extendLease_0 rfl (lv_at hl 0 rfl) ?_
  refine lv_aload_n hx hb d_T_extendLease_1 rfl (lv_at hl 0 rfl) ?_
  refine va_get (D := D) (ci := 3) (C := R_T) (T := T_T) (N := 5) hx hb hts in_T hown hK hP 2 x_hT rfl 2 (by decide) (hts _ gm_137) (fun _ h9 => h9) rfl d_T_extendLease_2 ?_
  refine lv_aload_n hx hb d_T_extendLease_5 rfl (lv_at hl 0 rfl) ?_
  refine va_get (D := D) (ci := 3) (C := R_T) (T := T_T) (N := 5) hx hb hts in_T hown hK hP 2 x_hT rfl 0 (by decide) (hts _ gm_134) (fun _ h9 => h9) rfl d_T_extendLease_6 ?_
  refine lv_iadd hx hb d_T_extendLease_9 ?_
  refine va_put (D := D) (ci := 3) (v := .int ((z 1 2) + (z 1 0))) (ty := .int) (C := R_T) (T := T_T) (N := 5) hx hb hts in_T fy_T fy_T_ok n_T hown hK hP hD hS 2 x_hT rfl 4 (by decide) (hts _ gm_141) (fun _ h9 => h9) rfl (by decide +kernel) rfl rfl (Nat.le_of_ble_eq_true rfl) d_T_extendLease_10 (fun H locs hP hD hS => ?_)
  obtain ⟨z1, ez1⟩ : ∃ zt_ : x_S, zt_ = x_up z 1 4 ((z 1 2) + (z 1 0)) := ⟨_, rfl⟩
  have hP : va_P D vwCl (x_w cI cN ad z1) H := by rw [ez1, ← x_sT (i := 4) (by decide) ((z 1 2) + (z 1 0))]; exact hP
  have hD : va_D A (x_w cI cN ad z1) := by rw [ez1, ← x_sT (i := 4) (by decide) ((z 1 2) + (z 1 0))]; exact hD
  exact x_rv (w := x_w cI cN ad) (by subst ez1; first | (simp only [x_ext]; done) | rfl | (simp only [x_ext]; rfl)) hx hb hr hlk hP hD hS d_T_extendLease_13
set_option maxHeartbeats 4000000 in
set_option maxRecDepth 100000 in
theorem c_T_lendTo_ok (l : Launch) (D : va_G) (cI cN : ClassId) (ad : Nat → Nat) (z : x_S) (n : Int32) : x_C l y_T_lendTo c_T_lendTo 2 none { frames := 1, cells := 0, slots := 0, locals := 20 } D (x_ty cI cN) (x_w cI cN ad z) [.ref (ad 2), .int n] (none) (x_w cI cN ad (x_lend z n)) := by
  refine x_C.of (by decide) (Nat.le_of_ble_eq_true rfl) ?_
  intro p e s m below meth c hx hb hr hml hts hown hlk A hA hK hS hP hD ls hl
  have hown : s.vm.findClass R_T = some m.cls := hown
  have hl : lv_has ls 2 [(0, .ref (ad 2)), (1, .int n)] := hl
  refine lv_aload_n hx hb d_T_lendTo_0 rfl (lv_at hl 0 rfl) ?_
  refine lv_iload_n hx hb d_T_lendTo_1 rfl (lv_at hl 1 rfl) ?_
  refine va_put (D := D) (ci := 3) (v := .int n) (ty := .int) (C := R_T) (T := T_T) (N := 5) hx hb hts in_T fy_T fy_T_ok n_T hown hK hP hD hS 2 x_hT rfl 3 (by decide) (hts _ gm_139) (fun _ h9 => h9) rfl (by decide +kernel) rfl rfl (Nat.le_of_ble_eq_true rfl) d_T_lendTo_2 (fun H locs hP hD hS => ?_)
  obtain ⟨z1, ez1⟩ : ∃ zt_ : x_S, zt_ = x_up z 1 3 n := ⟨_, rfl⟩
  have hP : va_P D vwCl (x_w cI cN ad z1) H := by rw [ez1, ← x_sT (i := 3) (by decide) n]; exact hP
  have hD : va_D A (x_w cI cN ad z1) := by rw [ez1, ← x_sT (i := 3) (by decide) n]; exact hD
  refine lv_aload_n hx hb d_T_lendTo_5 rfl (lv_at hl 0 rfl) ?_
  refine x_V (rest := []) ⟨hx, hb, hml, hown, hts⟩ (c_T_extendLease_ok l D cI cN ad z1) gm_349 gm_350 gm_351 gm_32 gm_352 ⟨rfl, rfl⟩ hd_T_extendLease ⟨Nat.le_of_ble_eq_true rfl, Nat.le_of_ble_eq_true rfl⟩ hK hP hD hS hA (va_recv hK hP (ci := 3) (q0 := 2) rfl x_hT) rfl hl.1 rfl (Nat.le_of_ble_eq_true rfl) d_T_lendTo_6 ⟨Nat.le_of_ble_eq_true rfl, Nat.le_of_ble_eq_true rfl⟩ (fun H locs hP hD hS => ?_)
  obtain ⟨z2, ez2⟩ : ∃ zt_ : x_S, zt_ = x_ext z1 := ⟨_, rfl⟩
  rw [← ez2] at hP hD
  exact x_rv (w := x_w cI cN ad) (by subst ez1 ez2; first | (simp only [x_lend]; done) | rfl | (simp only [x_lend]; rfl)) hx hb hr hlk hP hD hS d_T_lendTo_9
set_option maxHeartbeats 4000000 in
set_option maxRecDepth 100000 in
theorem c_M_findPrimary_ok (l : Launch) (D : va_G) (cI cN : ClassId) (ad : Nat → Nat) (z : x_S)  : x_C l y_M_findPrimary c_M_findPrimary 1 (some .int) { frames := 0, cells := 0, slots := 0, locals := 0 } D (x_ty cI cN) (x_w cI cN ad z) [.ref (ad 0)] (some (.int (x_findP z))) (x_w cI cN ad z) := by
  refine x_C.of (by decide) (Nat.le_of_ble_eq_true rfl) ?_
  intro p e s m below meth c hx hb hr hml hts hown hlk A hA hK hS hP hD ls hl
  have hown : s.vm.findClass R_M = some m.cls := hown
  have hl : lv_has ls 1 [(0, .ref (ad 0))] := hl
  refine lv_aload_n hx hb d_M_findPrimary_0 rfl (lv_at hl 0 rfl) ?_
  refine va_get (D := D) (ci := 4) (C := R_M) (T := T_M) (N := 7) hx hb hts in_M hown hK hP 0 x_hM rfl 0 (by decide) (hts _ gm_154) (fun _ h9 => h9) rfl d_M_findPrimary_1 ?_
  refine lv_iconst (v := 0) hx hb d_M_findPrimary_4 (by decide) ?_
  refine x_top (show (0 : Int32) = nI 0 from rfl) ?_
  refine va_aldq (D := D) hx hb hK hP 1 1 x_hA rfl (x_in2 (by decide)) d_M_findPrimary_5 ?_
  refine x_topv x_nf_0 ?_
  refine va_get (D := D) (ci := 2) (C := R_N) (T := T_N) (N := 8) hx hb hts in_N hown hK hP 6 x_hN0 rfl 2 (by decide) (hts _ gm_94) (fun _ h9 => h9) rfl d_M_findPrimary_6 ?_
  refine lv_if_eq (tgt := 14) hx hb d_M_findPrimary_9 (by decide) (fun c1 => ?_) (fun c1 => ?_)
  · refine lv_aload_n hx hb d_M_findPrimary_14 rfl (lv_at hl 0 rfl) ?_
    refine va_get (D := D) (ci := 4) (C := R_M) (T := T_M) (N := 7) hx hb hts in_M hown hK hP 0 x_hM rfl 0 (by decide) (hts _ gm_154) (fun _ h9 => h9) rfl d_M_findPrimary_15 ?_
    refine lv_iconst (v := 1) hx hb d_M_findPrimary_18 (by decide) ?_
    refine x_top (show (1 : Int32) = nI 1 from rfl) ?_
    refine va_aldq (D := D) hx hb hK hP 1 1 x_hA rfl (x_in2 (by decide)) d_M_findPrimary_19 ?_
    refine x_topv x_nf_1 ?_
    refine va_get (D := D) (ci := 2) (C := R_N) (T := T_N) (N := 8) hx hb hts in_N hown hK hP 7 x_hN1 rfl 2 (by decide) (hts _ gm_94) (fun _ h9 => h9) rfl d_M_findPrimary_20 ?_
    refine lv_if_eq (tgt := 30) hx hb d_M_findPrimary_23 (by decide) (fun c2 => ?_) (fun c2 => ?_)
    · refine lv_iconst (v := 2) hx hb d_M_findPrimary_30 (by decide) ?_
      exact x_rp (by first | (simp only [x_findP, if_pos c1, if_pos c2]; done) | rfl | (simp only [x_findP, if_pos c1, if_pos c2]; rfl)) hx hb hr hlk hP hD hS d_M_findPrimary_31
    · refine lv_iconst (v := 1) hx hb d_M_findPrimary_26 (by decide) ?_
      refine lv_goto (tgt := 31) hx hb d_M_findPrimary_27 (by decide) ?_
      exact x_rp (by first | (simp only [x_findP, if_pos c1, if_neg c2]; done) | rfl | (simp only [x_findP, if_pos c1, if_neg c2]; rfl)) hx hb hr hlk hP hD hS d_M_findPrimary_31
  · refine lv_iconst (v := 0) hx hb d_M_findPrimary_12 (by decide) ?_
    exact x_rp (by first | (simp only [x_findP, if_neg c1]; done) | rfl | (simp only [x_findP, if_neg c1]; rfl)) hx hb hr hlk hP hD hS d_M_findPrimary_13
set_option maxHeartbeats 4000000 in
set_option maxRecDepth 100000 in
theorem c_M_makeSecondary_ok (l : Launch) (D : va_G) (cI cN : ClassId) (ad : Nat → Nat) (z : x_S) (k : Nat) (hk : k < 2) : x_C l y_M_makeSecondary c_M_makeSecondary 2 none { frames := 0, cells := 0, slots := 0, locals := 0 } D (x_ty cI cN) (x_w cI cN ad z) [.ref (ad 0), .int (nI k)] (none) (x_w cI cN ad (x_sec z k)) := by
  refine x_C.of (by decide) (Nat.le_of_ble_eq_true rfl) ?_
  intro p e s m below meth c hx hb hr hml hts hown hlk A hA hK hS hP hD ls hl
  have hown : s.vm.findClass R_M = some m.cls := hown
  have hl : lv_has ls 2 [(0, .ref (ad 0)), (1, .int (nI k))] := hl
  refine lv_aload_n hx hb d_M_makeSecondary_0 rfl (lv_at hl 0 rfl) ?_
  refine va_get (D := D) (ci := 4) (C := R_M) (T := T_M) (N := 7) hx hb hts in_M hown hK hP 0 x_hM rfl 0 (by decide) (hts _ gm_154) (fun _ h9 => h9) rfl d_M_makeSecondary_1 ?_
  refine lv_iload_n hx hb d_M_makeSecondary_4 rfl (lv_at hl 1 rfl) ?_
  refine va_aldq (D := D) hx hb hK hP 1 1 x_hA rfl (x_in2 hk) d_M_makeSecondary_5 ?_
  refine x_topv (x_nf_at hk) ?_
  refine va_get (D := D) (ci := 2) (C := R_N) (T := T_N) (N := 8) hx hb hts in_N hown hK hP (6 + k) (x_hN hk) rfl 2 (by decide) (hts _ gm_94) (fun _ h9 => h9) rfl d_M_makeSecondary_6 ?_
  refine lv_if_eq (tgt := 30) hx hb d_M_makeSecondary_9 (by decide) (fun c1 => ?_) (fun c1 => ?_)
  · exact x_rv (w := x_w cI cN ad) (by first | (simp only [x_sec, if_pos c1]; done) | rfl | (simp only [x_sec, if_pos c1]; rfl)) hx hb hr hlk hP hD hS d_M_makeSecondary_30
  · refine lv_aload_n hx hb d_M_makeSecondary_12 rfl (lv_at hl 0 rfl) ?_
    refine va_get (D := D) (ci := 4) (C := R_M) (T := T_M) (N := 7) hx hb hts in_M hown hK hP 0 x_hM rfl 0 (by decide) (hts _ gm_154) (fun _ h9 => h9) rfl d_M_makeSecondary_13 ?_
    refine lv_iload_n hx hb d_M_makeSecondary_16 rfl (lv_at hl 1 rfl) ?_
    refine va_aldq (D := D) hx hb hK hP 1 1 x_hA rfl (x_in2 hk) d_M_makeSecondary_17 ?_
    refine x_topv (x_nf_at hk) ?_
    refine lv_iconst (v := 0) hx hb d_M_makeSecondary_18 (by decide) ?_
    refine va_put (D := D) (ci := 2) (v := .int 0) (ty := .boolean) (C := R_N) (T := T_N) (N := 8) hx hb hts in_N fy_N fy_N_ok n_N hown hK hP hD hS (6 + k) (x_hN hk) rfl 2 (by decide) (hts _ gm_94) (fun _ h9 => h9) rfl (by decide +kernel) rfl rfl (Nat.le_of_ble_eq_true rfl) d_M_makeSecondary_19 (fun H locs hP hD hS => ?_)
    obtain ⟨z2, ez2⟩ : ∃ zt_ : x_S, zt_ = x_up z (5 + k) 1 0 := ⟨_, rfl⟩
    have hP : va_P D vwCl (x_w cI cN ad z2) H := by rw [ez2, ← x_sN (i := 1) hk (by decide) 0]; exact hP
    have hD : va_D A (x_w cI cN ad z2) := by rw [ez2, ← x_sN (i := 1) hk (by decide) 0]; exact hD
    refine lv_aload_n hx hb d_M_makeSecondary_22 rfl (lv_at hl 0 rfl) ?_
    refine va_get (D := D) (ci := 4) (C := R_M) (T := T_M) (N := 7) hx hb hts in_M hown hK hP 0 x_hM rfl 2 (by decide) (hts _ gm_156) (fun _ h9 => h9) rfl d_M_makeSecondary_23 ?_
    refine lv_iconst (v := 0) hx hb d_M_makeSecondary_26 (by decide) ?_
    refine va_put (D := D) (ci := 0) (v := .int 0) (ty := .int) (C := R_B) (T := T_B) (N := 3) hx hb hts in_B fy_B fy_B_ok n_B hown hK hP hD hS 3 x_hB rfl 2 (by decide) (hts _ gm_58) (fun _ h9 => h9) rfl (by decide +kernel) rfl rfl (Nat.le_of_ble_eq_true rfl) d_M_makeSecondary_27 (fun H locs hP hD hS => ?_)
    obtain ⟨z3, ez3⟩ : ∃ zt_ : x_S, zt_ = x_up z2 2 0 0 := ⟨_, rfl⟩
    have hP : va_P D vwCl (x_w cI cN ad z3) H := by rw [ez3, ← x_sB 0]; exact hP
    have hD : va_D A (x_w cI cN ad z3) := by rw [ez3, ← x_sB 0]; exact hD
    exact x_rv (w := x_w cI cN ad) (by subst ez2 ez3; first | (simp only [x_sec, if_neg c1]; done) | rfl | (simp only [x_sec, if_neg c1]; rfl)) hx hb hr hlk hP hD hS d_M_makeSecondary_30
set_option maxHeartbeats 4000000 in
set_option maxRecDepth 100000 in
theorem c_M_disconnect_ok (l : Launch) (D : va_G) (cI cN : ClassId) (ad : Nat → Nat) (z : x_S)  : x_C l y_M_disconnect c_M_disconnect 1 none { frames := 0, cells := 0, slots := 0, locals := 0 } D (x_ty cI cN) (x_w cI cN ad z) [.ref (ad 0)] (none) (x_w cI cN ad (x_disc z)) := by
  refine x_C.of (by decide) (Nat.le_of_ble_eq_true rfl) ?_
  intro p e s m below meth c hx hb hr hml hts hown hlk A hA hK hS hP hD ls hl
  have hown : s.vm.findClass R_M = some m.cls := hown
  have hl : lv_has ls 1 [(0, .ref (ad 0))] := hl
  refine lv_aload_n hx hb d_M_disconnect_0 rfl (lv_at hl 0 rfl) ?_
  refine lv_iconst (v := 0) hx hb d_M_disconnect_1 (by decide) ?_
  refine va_put (D := D) (ci := 4) (v := .int 0) (ty := .boolean) (C := R_M) (T := T_M) (N := 7) hx hb hts in_M fy_M fy_M_ok n_M hown hK hP hD hS 0 x_hM rfl 4 (by decide) (hts _ gm_158) (fun _ h9 => h9) rfl (by decide +kernel) rfl rfl (Nat.le_of_ble_eq_true rfl) d_M_disconnect_2 (fun H locs hP hD hS => ?_)
  obtain ⟨z1, ez1⟩ : ∃ zt_ : x_S, zt_ = x_up z 0 1 0 := ⟨_, rfl⟩
  have hP : va_P D vwCl (x_w cI cN ad z1) H := by rw [ez1, ← x_sM (i := 1) (by decide) 0]; exact hP
  have hD : va_D A (x_w cI cN ad z1) := by rw [ez1, ← x_sM (i := 1) (by decide) 0]; exact hD
  refine lv_aload_n hx hb d_M_disconnect_5 rfl (lv_at hl 0 rfl) ?_
  refine lv_iconst (v := 0) hx hb d_M_disconnect_6 (by decide) ?_
  refine va_put (D := D) (ci := 4) (v := .int 0) (ty := .boolean) (C := R_M) (T := T_M) (N := 7) hx hb hts in_M fy_M fy_M_ok n_M hown hK hP hD hS 0 x_hM rfl 5 (by decide) (hts _ gm_159) (fun _ h9 => h9) rfl (by decide +kernel) rfl rfl (Nat.le_of_ble_eq_true rfl) d_M_disconnect_7 (fun H locs hP hD hS => ?_)
  obtain ⟨z2, ez2⟩ : ∃ zt_ : x_S, zt_ = x_up z1 0 2 0 := ⟨_, rfl⟩
  have hP : va_P D vwCl (x_w cI cN ad z2) H := by rw [ez2, ← x_sM (i := 2) (by decide) 0]; exact hP
  have hD : va_D A (x_w cI cN ad z2) := by rw [ez2, ← x_sM (i := 2) (by decide) 0]; exact hD
  exact x_rv (w := x_w cI cN ad) (by subst ez1 ez2; first | (simp only [x_disc]; done) | rfl | (simp only [x_disc]; rfl)) hx hb hr hlk hP hD hS d_M_disconnect_10
set_option maxHeartbeats 4000000 in
set_option maxRecDepth 100000 in
theorem c_M_isUnpaired_ok (l : Launch) (D : va_G) (cI cN : ClassId) (ad : Nat → Nat) (z : x_S) (k : Nat) (hk : k < 2) : x_C l y_M_isUnpaired c_M_isUnpaired 2 (some .boolean) { frames := 0, cells := 0, slots := 0, locals := 0 } D (x_ty cI cN) (x_w cI cN ad z) [.ref (ad 0), .int (nI k)] (some (.int (x_unp z k))) (x_w cI cN ad z) := by
  refine x_C.of (by decide) (Nat.le_of_ble_eq_true rfl) ?_
  intro p e s m below meth c hx hb hr hml hts hown hlk A hA hK hS hP hD ls hl
  have hown : s.vm.findClass R_M = some m.cls := hown
  have hl : lv_has ls 2 [(0, .ref (ad 0)), (1, .int (nI k))] := hl
  refine lv_aload_n hx hb d_M_isUnpaired_0 rfl (lv_at hl 0 rfl) ?_
  refine va_get (D := D) (ci := 4) (C := R_M) (T := T_M) (N := 7) hx hb hts in_M hown hK hP 0 x_hM rfl 4 (by decide) (hts _ gm_158) (fun _ h9 => h9) rfl d_M_isUnpaired_1 ?_
  refine lv_if_ne (tgt := 23) hx hb d_M_isUnpaired_4 (by decide) (fun c1 => ?_) (fun c1 => ?_)
  · refine lv_iconst (v := 0) hx hb d_M_isUnpaired_23 (by decide) ?_
    exact x_rz (by first | (simp only [x_unp, if_neg c1]; done) | rfl | (simp only [x_unp, if_neg c1]; rfl)) rfl hx hb hr hlk hP hD hS d_M_isUnpaired_24
  · refine lv_aload_n hx hb d_M_isUnpaired_7 rfl (lv_at hl 0 rfl) ?_
    refine va_get (D := D) (ci := 4) (C := R_M) (T := T_M) (N := 7) hx hb hts in_M hown hK hP 0 x_hM rfl 0 (by decide) (hts _ gm_154) (fun _ h9 => h9) rfl d_M_isUnpaired_8 ?_
    refine lv_iload_n hx hb d_M_isUnpaired_11 rfl (lv_at hl 1 rfl) ?_
    refine va_aldq (D := D) hx hb hK hP 1 1 x_hA rfl (x_in2 hk) d_M_isUnpaired_12 ?_
    refine x_topv (x_nf_at hk) ?_
    refine va_get (D := D) (ci := 2) (C := R_N) (T := T_N) (N := 8) hx hb hts in_N hown hK hP (6 + k) (x_hN hk) rfl 5 (by decide) (hts _ gm_100) (fun _ h9 => h9) rfl d_M_isUnpaired_13 ?_
    refine lv_if_ne (tgt := 23) hx hb d_M_isUnpaired_16 (by decide) (fun c2 => ?_) (fun c2 => ?_)
    · refine lv_iconst (v := 0) hx hb d_M_isUnpaired_23 (by decide) ?_
      exact x_rz (by first | (simp only [x_unp, if_pos c1, if_neg c2]; done) | rfl | (simp only [x_unp, if_pos c1, if_neg c2]; rfl)) rfl hx hb hr hlk hP hD hS d_M_isUnpaired_24
    · refine lv_iconst (v := 1) hx hb d_M_isUnpaired_19 (by decide) ?_
      refine lv_goto (tgt := 24) hx hb d_M_isUnpaired_20 (by decide) ?_
      exact x_rz (by first | (simp only [x_unp, if_pos c1, if_pos c2]; done) | rfl | (simp only [x_unp, if_pos c1, if_pos c2]; rfl)) rfl hx hb hr hlk hP hD hS d_M_isUnpaired_24
set_option maxHeartbeats 4000000 in
set_option maxRecDepth 100000 in
theorem c_M_goAlone_ok (l : Launch) (D : va_G) (cI cN : ClassId) (ad : Nat → Nat) (z : x_S) (k : Nat) (hk : k < 2) : x_C l y_M_goAlone c_M_goAlone 2 none { frames := 0, cells := 0, slots := 0, locals := 0 } D (x_ty cI cN) (x_w cI cN ad z) [.ref (ad 0), .int (nI k)] (none) (x_w cI cN ad (x_goAl z k)) := by
  refine x_C.of (by decide) (Nat.le_of_ble_eq_true rfl) ?_
  intro p e s m below meth c hx hb hr hml hts hown hlk A hA hK hS hP hD ls hl
  have hown : s.vm.findClass R_M = some m.cls := hown
  have hl : lv_has ls 2 [(0, .ref (ad 0)), (1, .int (nI k))] := hl
  refine lv_aload_n hx hb d_M_goAlone_0 rfl (lv_at hl 0 rfl) ?_
  refine va_get (D := D) (ci := 4) (C := R_M) (T := T_M) (N := 7) hx hb hts in_M hown hK hP 0 x_hM rfl 1 (by decide) (hts _ gm_155) (fun _ h9 => h9) rfl d_M_goAlone_1 ?_
  refine lv_dup hx hb d_M_goAlone_4 rfl ?_
  refine va_get (D := D) (ci := 3) (C := R_T) (T := T_T) (N := 5) hx hb hts in_T hown hK hP 2 x_hT rfl 1 (by decide) (hts _ gm_136) (fun _ h9 => h9) rfl d_M_goAlone_5 ?_
  refine lv_iconst (v := 1) hx hb d_M_goAlone_8 (by decide) ?_
  refine lv_iadd hx hb d_M_goAlone_9 ?_
  refine va_put (D := D) (ci := 3) (v := .int ((z 1 1) + 1)) (ty := .int) (C := R_T) (T := T_T) (N := 5) hx hb hts in_T fy_T fy_T_ok n_T hown hK hP hD hS 2 x_hT rfl 1 (by decide) (hts _ gm_136) (fun _ h9 => h9) rfl (by decide +kernel) rfl rfl (Nat.le_of_ble_eq_true rfl) d_M_goAlone_10 (fun H locs hP hD hS => ?_)
  obtain ⟨z1, ez1⟩ : ∃ zt_ : x_S, zt_ = x_up z 1 1 ((z 1 1) + 1) := ⟨_, rfl⟩
  have hP : va_P D vwCl (x_w cI cN ad z1) H := by rw [ez1, ← x_sT (i := 1) (by decide) ((z 1 1) + 1)]; exact hP
  have hD : va_D A (x_w cI cN ad z1) := by rw [ez1, ← x_sT (i := 1) (by decide) ((z 1 1) + 1)]; exact hD
  refine lv_aload_n hx hb d_M_goAlone_13 rfl (lv_at hl 0 rfl) ?_
  refine va_get (D := D) (ci := 4) (C := R_M) (T := T_M) (N := 7) hx hb hts in_M hown hK hP 0 x_hM rfl 0 (by decide) (hts _ gm_154) (fun _ h9 => h9) rfl d_M_goAlone_14 ?_
  refine lv_iload_n hx hb d_M_goAlone_17 rfl (lv_at hl 1 rfl) ?_
  refine va_aldq (D := D) hx hb hK hP 1 1 x_hA rfl (x_in2 hk) d_M_goAlone_18 ?_
  refine x_topv (x_nf_at hk) ?_
  refine lv_aload_n hx hb d_M_goAlone_19 rfl (lv_at hl 0 rfl) ?_
  refine va_get (D := D) (ci := 4) (C := R_M) (T := T_M) (N := 7) hx hb hts in_M hown hK hP 0 x_hM rfl 0 (by decide) (hts _ gm_154) (fun _ h9 => h9) rfl d_M_goAlone_20 ?_
  refine lv_iload_n hx hb d_M_goAlone_23 rfl (lv_at hl 1 rfl) ?_
  refine va_aldq (D := D) hx hb hK hP 1 1 x_hA rfl (x_in2 hk) d_M_goAlone_24 ?_
  refine x_topv (x_nf_at hk) ?_
  refine va_get (D := D) (ci := 2) (C := R_N) (T := T_N) (N := 8) hx hb hts in_N hown hK hP (6 + k) (x_hN hk) rfl 3 (by decide) (hts _ gm_96) (fun _ h9 => h9) rfl d_M_goAlone_25 ?_
  refine va_put (D := D) (ci := 2) (v := .int (z1 (5 + k) 2)) (ty := .int) (C := R_N) (T := T_N) (N := 8) hx hb hts in_N fy_N fy_N_ok n_N hown hK hP hD hS (6 + k) (x_hN hk) rfl 4 (by decide) (hts _ gm_98) (fun _ h9 => h9) rfl (by decide +kernel) rfl rfl (Nat.le_of_ble_eq_true rfl) d_M_goAlone_28 (fun H locs hP hD hS => ?_)
  obtain ⟨z2, ez2⟩ : ∃ zt_ : x_S, zt_ = x_up z1 (5 + k) 3 (z1 (5 + k) 2) := ⟨_, rfl⟩
  have hP : va_P D vwCl (x_w cI cN ad z2) H := by rw [ez2, ← x_sN (i := 3) hk (by decide) (z1 (5 + k) 2)]; exact hP
  have hD : va_D A (x_w cI cN ad z2) := by rw [ez2, ← x_sN (i := 3) hk (by decide) (z1 (5 + k) 2)]; exact hD
  refine lv_aload_n hx hb d_M_goAlone_31 rfl (lv_at hl 0 rfl) ?_
  refine va_get (D := D) (ci := 4) (C := R_M) (T := T_M) (N := 7) hx hb hts in_M hown hK hP 0 x_hM rfl 0 (by decide) (hts _ gm_154) (fun _ h9 => h9) rfl d_M_goAlone_32 ?_
  refine lv_iload_n hx hb d_M_goAlone_35 rfl (lv_at hl 1 rfl) ?_
  refine va_aldq (D := D) hx hb hK hP 1 1 x_hA rfl (x_in2 hk) d_M_goAlone_36 ?_
  refine x_topv (x_nf_at hk) ?_
  refine lv_aload_n hx hb d_M_goAlone_37 rfl (lv_at hl 0 rfl) ?_
  refine va_get (D := D) (ci := 4) (C := R_M) (T := T_M) (N := 7) hx hb hts in_M hown hK hP 0 x_hM rfl 1 (by decide) (hts _ gm_155) (fun _ h9 => h9) rfl d_M_goAlone_38 ?_
  refine va_get (D := D) (ci := 3) (C := R_T) (T := T_T) (N := 5) hx hb hts in_T hown hK hP 2 x_hT rfl 1 (by decide) (hts _ gm_136) (fun _ h9 => h9) rfl d_M_goAlone_41 ?_
  refine va_put (D := D) (ci := 2) (v := .int (z2 1 1)) (ty := .int) (C := R_N) (T := T_N) (N := 8) hx hb hts in_N fy_N fy_N_ok n_N hown hK hP hD hS (6 + k) (x_hN hk) rfl 3 (by decide) (hts _ gm_96) (fun _ h9 => h9) rfl (by decide +kernel) rfl rfl (Nat.le_of_ble_eq_true rfl) d_M_goAlone_44 (fun H locs hP hD hS => ?_)
  obtain ⟨z3, ez3⟩ : ∃ zt_ : x_S, zt_ = x_up z2 (5 + k) 2 (z2 1 1) := ⟨_, rfl⟩
  have hP : va_P D vwCl (x_w cI cN ad z3) H := by rw [ez3, ← x_sN (i := 2) hk (by decide) (z2 1 1)]; exact hP
  have hD : va_D A (x_w cI cN ad z3) := by rw [ez3, ← x_sN (i := 2) hk (by decide) (z2 1 1)]; exact hD
  refine lv_aload_n hx hb d_M_goAlone_47 rfl (lv_at hl 0 rfl) ?_
  refine va_get (D := D) (ci := 4) (C := R_M) (T := T_M) (N := 7) hx hb hts in_M hown hK hP 0 x_hM rfl 0 (by decide) (hts _ gm_154) (fun _ h9 => h9) rfl d_M_goAlone_48 ?_
  refine lv_iload_n hx hb d_M_goAlone_51 rfl (lv_at hl 1 rfl) ?_
  refine va_aldq (D := D) hx hb hK hP 1 1 x_hA rfl (x_in2 hk) d_M_goAlone_52 ?_
  refine x_topv (x_nf_at hk) ?_
  refine lv_iconst (v := 1) hx hb d_M_goAlone_53 (by decide) ?_
  refine va_put (D := D) (ci := 2) (v := .int 1) (ty := .boolean) (C := R_N) (T := T_N) (N := 8) hx hb hts in_N fy_N fy_N_ok n_N hown hK hP hD hS (6 + k) (x_hN hk) rfl 5 (by decide) (hts _ gm_100) (fun _ h9 => h9) rfl (by decide +kernel) rfl rfl (Nat.le_of_ble_eq_true rfl) d_M_goAlone_54 (fun H locs hP hD hS => ?_)
  obtain ⟨z4, ez4⟩ : ∃ zt_ : x_S, zt_ = x_up z3 (5 + k) 4 1 := ⟨_, rfl⟩
  have hP : va_P D vwCl (x_w cI cN ad z4) H := by rw [ez4, ← x_sN (i := 4) hk (by decide) 1]; exact hP
  have hD : va_D A (x_w cI cN ad z4) := by rw [ez4, ← x_sN (i := 4) hk (by decide) 1]; exact hD
  exact x_rv (w := x_w cI cN ad) (by subst ez1 ez2 ez3 ez4; first | (simp only [x_goAl]; done) | rfl | (simp only [x_goAl]; rfl)) hx hb hr hlk hP hD hS d_M_goAlone_57
