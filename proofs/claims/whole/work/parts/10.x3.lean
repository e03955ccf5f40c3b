-- ===== 10.x3: append, erase, bit counts, sources
set_option maxHeartbeats 4000000 in
set_option maxRecDepth 100000 in
theorem c_B_append_ok (l : Launch) (D : va_G) (cI cN : ClassId) (ad : Nat → Nat) (z : x_S) (n : Nat) (hn : n ≤ 3) (hz : z 2 0 = nI n) (a v : Int32) : x_C l y_B_append c_B_append 3 none { frames := 0, cells := 0, slots := 0, locals := 0 } D (x_ty cI cN) (x_w cI cN ad z) [.ref (ad 3), .int a, .int v] (none) (x_w cI cN ad (x_app z n a v)) := by
  refine x_C.of (by decide) (Nat.le_of_ble_eq_true rfl) ?_
  intro p e s m below meth c hx hb hr hml hts hown hlk A hA hK hS hP hD ls hl
  have hown : s.vm.findClass R_B = some m.cls := hown
  have hl : lv_has ls 3 [(0, .ref (ad 3)), (1, .int a), (2, .int v)] := hl
  refine lv_aload_n hx hb d_B_append_0 rfl (lv_at hl 0 rfl) ?_
  refine va_get (D := D) (ci := 0) (C := R_B) (T := T_B) (N := 3) hx hb hts in_B hown hK hP 3 x_hB rfl 2 (by decide) (hts _ gm_57) (fun _ h9 => h9) rfl d_B_append_1 ?_
  refine x_top (show z 2 0 = nI n by exact hz) ?_
  refine lv_iconst (v := 3) hx hb d_B_append_4 (by decide) ?_
  refine lv_icmp_lt (tgt := 9) hx hb d_B_append_5 (by decide) (fun c1 => ?_) (fun c1 => ?_)
  · have c1 : n < 3 := (nI_ltI (a := n) (b := 3) (by omega) (by omega)).mp c1
    refine lv_aload_n hx hb d_B_append_9 rfl (lv_at hl 0 rfl) ?_
    refine va_get (D := D) (ci := 0) (C := R_B) (T := T_B) (N := 3) hx hb hts in_B hown hK hP 3 x_hB rfl 0 (by decide) (hts _ gm_53) (fun _ h9 => h9) rfl d_B_append_10 ?_
    refine lv_aload_n hx hb d_B_append_13 rfl (lv_at hl 0 rfl) ?_
    refine va_get (D := D) (ci := 0) (C := R_B) (T := T_B) (N := 3) hx hb hts in_B hown hK hP 3 x_hB rfl 2 (by decide) (hts _ gm_57) (fun _ h9 => h9) rfl d_B_append_14 ?_
    refine x_top (show z 2 0 = nI n by exact hz) ?_
    refine lv_iload_n hx hb d_B_append_17 rfl (lv_at hl 1 rfl) ?_
    refine va_iast (D := D) hx hb hK hP hD hS 4 0 x_hBc rfl (x_in3 (by omega)) d_B_append_18 (fun H locs hP hD hS => ?_)
    obtain ⟨z2, ez2⟩ : ∃ zt_ : x_S, zt_ = x_up z 3 n a := ⟨_, rfl⟩
    rw [x_cl3 (by omega)] at hP hD
    have hP : va_P D vwCl (x_w cI cN ad z2) H := by rw [ez2, ← x_sBc n a]; exact hP
    have hD : va_D A (x_w cI cN ad z2) := by rw [ez2, ← x_sBc n a]; exact hD
    refine lv_aload_n hx hb d_B_append_19 rfl (lv_at hl 0 rfl) ?_
    refine va_get (D := D) (ci := 0) (C := R_B) (T := T_B) (N := 3) hx hb hts in_B hown hK hP 3 x_hB rfl 1 (by decide) (hts _ gm_55) (fun _ h9 => h9) rfl d_B_append_20 ?_
    refine lv_aload_n hx hb d_B_append_23 rfl (lv_at hl 0 rfl) ?_
    refine va_get (D := D) (ci := 0) (C := R_B) (T := T_B) (N := 3) hx hb hts in_B hown hK hP 3 x_hB rfl 2 (by decide) (hts _ gm_57) (fun _ h9 => h9) rfl d_B_append_24 ?_
    refine x_top (show z2 2 0 = nI n by subst ez2; exact hz) ?_
    refine lv_iload_n hx hb d_B_append_27 rfl (lv_at hl 2 rfl) ?_
    refine va_iast (D := D) hx hb hK hP hD hS 5 0 x_hBv rfl (x_in3 (by omega)) d_B_append_28 (fun H locs hP hD hS => ?_)
    obtain ⟨z3, ez3⟩ : ∃ zt_ : x_S, zt_ = x_up z2 4 n v := ⟨_, rfl⟩
    rw [x_cl3 (by omega)] at hP hD
    have hP : va_P D vwCl (x_w cI cN ad z3) H := by rw [ez3, ← x_sBv n v]; exact hP
    have hD : va_D A (x_w cI cN ad z3) := by rw [ez3, ← x_sBv n v]; exact hD
    refine lv_aload_n hx hb d_B_append_29 rfl (lv_at hl 0 rfl) ?_
    refine lv_dup hx hb d_B_append_30 rfl ?_
    refine va_get (D := D) (ci := 0) (C := R_B) (T := T_B) (N := 3) hx hb hts in_B hown hK hP 3 x_hB rfl 2 (by decide) (hts _ gm_57) (fun _ h9 => h9) rfl d_B_append_31 ?_
    refine x_top (show z3 2 0 = nI n by subst ez2 ez3; exact hz) ?_
    refine lv_iconst (v := 1) hx hb d_B_append_34 (by decide) ?_
    refine lv_iadd hx hb d_B_append_35 ?_
    refine va_put (D := D) (ci := 0) (v := .int ((nI n) + 1)) (ty := .int) (C := R_B) (T := T_B) (N := 3) hx hb hts in_B fy_B fy_B_ok n_B hown hK hP hD hS 3 x_hB rfl 2 (by decide) (hts _ gm_57) (fun _ h9 => h9) rfl (by decide +kernel) rfl rfl (Nat.le_of_ble_eq_true rfl) d_B_append_36 (fun H locs hP hD hS => ?_)
    obtain ⟨z4, ez4⟩ : ∃ zt_ : x_S, zt_ = x_up z3 2 0 ((nI n) + 1) := ⟨_, rfl⟩
    have hP : va_P D vwCl (x_w cI cN ad z4) H := by rw [ez4, ← x_sB ((nI n) + 1)]; exact hP
    have hD : va_D A (x_w cI cN ad z4) := by rw [ez4, ← x_sB ((nI n) + 1)]; exact hD
    exact x_rv (w := x_w cI cN ad) (by subst ez2 ez3 ez4; first | (simp only [x_app, if_pos c1]; done) | rfl | (simp only [x_app, if_pos c1]; rfl)) hx hb hr hlk hP hD hS d_B_append_39
  · have c1 : ¬ n < 3 := fun h => c1 ((nI_ltI (a := n) (b := 3) (by omega) (by omega)).mpr h)
    exact x_rv (w := x_w cI cN ad) (by first | (simp only [x_app, if_neg c1]; done) | rfl | (simp only [x_app, if_neg c1]; rfl)) hx hb hr hlk hP hD hS d_B_append_8
set_option maxHeartbeats 4000000 in
set_option maxRecDepth 100000 in
theorem c_Y_fill_ok (l : Launch) (D : va_G) (cI cN : ClassId) (ad : Nat → Nat) (z : x_S) (k : Nat) (hk : k < 2) : x_C l y_Y_fill c_Y_fill 4 none { frames := 0, cells := 0, slots := 0, locals := 0 } D (x_ty cI cN) (x_w cI cN ad z) [.ref (ad (10 + k)), .int 0] (none) (x_w cI cN ad (x_fillL k 32 0 z)) := by
  refine x_C.of (by decide) (Nat.le_of_ble_eq_true rfl) ?_
  intro p e s m below meth c hx hb hr hml hts hown hlk A hA hK hS hP hD ls hl
  have hown : s.vm.findClass R_Y = some m.cls := hown
  have hl : lv_has ls 4 [(0, .ref (ad (10 + k))), (1, .int 0)] := hl
  have lp : ∀ (n i : Nat) (y : x_S) (H : Heap) (locs : List Loc) (ls : Array Slot), i + n = 32 → x_fillL k 32 0 z = x_fillL k n i y → va_P D vwCl (x_w cI cN ad y) H → va_D A (x_w cI cN ad y) → va_S A s.heap H locs → lv_has ls 4 [(3, .int 32), (2, .int (nI i)), (0, .ref (ad (10 + k))), (1, .int 0)] → W p l e { frames := 0, cells := 0, slots := 0, locals := 0 } s m [.ref (ad (10 + k)), .int 0].toArray below meth c H locs 0 0 (MQ below (x_Q (none) D (x_w cI cN ad (x_fillL k 32 0 z)) A) [.ref (ad (10 + k)), .int 0].toArray s 0 0 A) (F0 m 5 ls []) := by
    intro n
    induction n with
    | zero =>
      intro i y  H locs ls hn hI hP hD hS hl
      refine lv_iload_n hx hb d_Y_fill_5 rfl (lv_at hl 1 rfl) ?_
      refine lv_iload_n hx hb d_Y_fill_6 rfl (lv_at hl 0 rfl) ?_
      refine lv_icmp_ge (tgt := 20) hx hb d_Y_fill_7 (by decide) (fun c1 => ?_) (fun c1 => ?_)
      · exact x_rv (w := x_w cI cN ad) (by rw [hI]; rfl) hx hb hr hlk hP hD hS d_Y_fill_20
      · exact absurd (show (32 : Int32) ≤ nI i from nI_le (a := 32) (by omega) (by omega)) c1
    | succ n ih =>
      intro i y  H locs ls hn hI hP hD hS hl
      have hi : i < 32 := by omega
      refine lv_iload_n hx hb d_Y_fill_5 rfl (lv_at hl 1 rfl) ?_
      refine lv_iload_n hx hb d_Y_fill_6 rfl (lv_at hl 0 rfl) ?_
      refine lv_icmp_ge (tgt := 20) hx hb d_Y_fill_7 (by decide) (fun c2 => ?_) (fun c2 => ?_)
      · exact absurd c2 (show ¬ (32 : Int32) ≤ nI i from nI_ge (b := 32) (by omega) (by decide))
      · refine lv_aload_n hx hb d_Y_fill_10 rfl (lv_at hl 2 rfl) ?_
        refine lv_iload_n hx hb d_Y_fill_11 rfl (lv_at hl 1 rfl) ?_
        refine lv_iload_n hx hb d_Y_fill_12 rfl (lv_at hl 3 rfl) ?_
        refine va_iast (D := D) hx hb hK hP hD hS (10 + k) 0 (x_hS hk) rfl (x_in32 hi) d_Y_fill_13 (fun H locs hP hD hS => ?_)
        obtain ⟨z3, ez3⟩ : ∃ zt_ : x_S, zt_ = x_up y (7 + k) i 0 := ⟨_, rfl⟩
        rw [x_cl32 hi] at hP hD
        have hP : va_P D vwCl (x_w cI cN ad z3) H := by rw [ez3, ← x_sS hk i 0]; exact hP
        have hD : va_D A (x_w cI cN ad z3) := by rw [ez3, ← x_sS hk i 0]; exact hD
        refine lv_iinc (v := nI (i + 1)) (lv' := [(2, .int (nI (i + 1))), (3, .int 32), (0, .ref (ad (10 + k))), (1, .int 0)]) hx hb d_Y_fill_14 hl (k := 1) rfl (nI_1 _) (by decide) rfl (fun ls hl => ?_)
        refine lv_goto (tgt := 5) hx hb d_Y_fill_17 (by decide) ?_
        exact ih (i + 1) z3 H locs ls (by omega) (by subst ez3; rw [hI]; simp only [x_fillL]) hP hD hS (lv_sub hl [1, 0, 2, 3] rfl)
  refine lv_iconst (v := 0) hx hb d_Y_fill_0 (by decide) ?_
  refine lv_istore_n (lv' := [(2, .int 0), (0, .ref (ad (10 + k))), (1, .int 0)]) hx hb d_Y_fill_1 rfl hl (by decide) rfl (fun ls hl => ?_)
  refine lv_aload_n hx hb d_Y_fill_2 rfl (lv_at hl 1 rfl) ?_
  refine va_alen (D := D) (v := 32) hx hb hK hP (10 + k) 0 (x_hS hk) rfl rfl d_Y_fill_3 ?_
  refine lv_istore_n (lv' := [(3, .int 32), (2, .int 0), (0, .ref (ad (10 + k))), (1, .int 0)]) hx hb d_Y_fill_4 rfl hl (by decide) rfl (fun ls hl => ?_)
  exact lp 32 0 z _ _ ls rfl rfl hP hD hS (lv_sub hl [0, 1, 2, 3] rfl)
set_option maxHeartbeats 4000000 in
set_option maxRecDepth 100000 in
theorem c_D_erase_ok (l : Launch) (D : va_G) (cI cN : ClassId) (ad : Nat → Nat) (z : x_S) (k : Nat) (hk : k < 2) : x_C l y_D_erase c_D_erase 1 none { frames := 1, cells := 0, slots := 0, locals := 23 } D (x_ty cI cN) (x_w cI cN ad z) [.ref (ad (8 + k))] (none) (x_w cI cN ad (x_erase z k)) := by
  refine x_C.of (by decide) (Nat.le_of_ble_eq_true rfl) ?_
  intro p e s m below meth c hx hb hr hml hts hown hlk A hA hK hS hP hD ls hl
  have hown : s.vm.findClass R_D = some m.cls := hown
  have hl : lv_has ls 1 [(0, .ref (ad (8 + k)))] := hl
  refine lv_aload_n hx hb d_D_erase_0 rfl (lv_at hl 0 rfl) ?_
  refine va_get (D := D) (ci := 1) (C := R_D) (T := T_D) (N := 3) hx hb hts in_D hown hK hP (8 + k) (x_hD hk) rfl 0 (by decide) (hts _ gm_78) (fun _ h9 => h9) rfl d_D_erase_1 ?_
  refine lv_iconst (v := 0) hx hb d_D_erase_4 (by decide) ?_
  refine x_T (rest := []) ⟨hx, hb, hml, hown, hts⟩ (c_Y_fill_ok l D cI cN ad z k hk) gm_280 gm_281 gm_35 gm_282 ⟨rfl, rfl⟩ hd_Y_fill ⟨Nat.le_of_ble_eq_true rfl, Nat.le_of_ble_eq_true rfl⟩ hK hP hD hS hA rfl hl.1 rfl (Nat.le_of_ble_eq_true rfl) d_D_erase_5 ⟨Nat.le_of_ble_eq_true rfl, Nat.le_of_ble_eq_true rfl⟩ (fun H locs hP hD hS => ?_)
  obtain ⟨z1, ez1⟩ : ∃ zt_ : x_S, zt_ = x_fillL k 32 0 z := ⟨_, rfl⟩
  rw [← ez1] at hP hD
  refine lv_aload_n hx hb d_D_erase_8 rfl (lv_at hl 0 rfl) ?_
  refine lv_iconst (v := 0) hx hb d_D_erase_9 (by decide) ?_
  refine va_put (D := D) (ci := 1) (v := .int 0) (ty := .int) (C := R_D) (T := T_D) (N := 3) hx hb hts in_D fy_D fy_D_ok n_D hown hK hP hD hS (8 + k) (x_hD hk) rfl 2 (by decide) (hts _ gm_81) (fun _ h9 => h9) rfl (by decide +kernel) rfl rfl (Nat.le_of_ble_eq_true rfl) d_D_erase_10 (fun H locs hP hD hS => ?_)
  obtain ⟨z2, ez2⟩ : ∃ zt_ : x_S, zt_ = x_up z1 (5 + k) 7 0 := ⟨_, rfl⟩
  have hP : va_P D vwCl (x_w cI cN ad z2) H := by rw [ez2, ← x_sD hk 0]; exact hP
  have hD : va_D A (x_w cI cN ad z2) := by rw [ez2, ← x_sD hk 0]; exact hD
  exact x_rv (w := x_w cI cN ad) (by subst ez1 ez2; first | (simp only [x_erase]; done) | rfl | (simp only [x_erase]; rfl)) hx hb hr hlk hP hD hS d_D_erase_13
set_option maxHeartbeats 4000000 in
set_option maxRecDepth 100000 in
theorem c_N_renewDisk_ok (l : Launch) (D : va_G) (cI cN : ClassId) (ad : Nat → Nat) (z : x_S) (k : Nat) (hk : k < 2) : x_C l y_N_renewDisk c_N_renewDisk 1 none { frames := 2, cells := 0, slots := 0, locals := 43 } D (x_ty cI cN) (x_w cI cN ad z) [.ref (ad (6 + k))] (none) (x_w cI cN ad (x_renew z k)) := by
  refine x_C.of (by decide) (Nat.le_of_ble_eq_true rfl) ?_
  intro p e s m below meth c hx hb hr hml hts hown hlk A hA hK hS hP hD ls hl
  have hown : s.vm.findClass R_N = some m.cls := hown
  have hl : lv_has ls 1 [(0, .ref (ad (6 + k)))] := hl
  refine lv_aload_n hx hb d_N_renewDisk_0 rfl (lv_at hl 0 rfl) ?_
  refine va_get (D := D) (ci := 2) (C := R_N) (T := T_N) (N := 8) hx hb hts in_N hown hK hP (6 + k) (x_hN hk) rfl 0 (by decide) (hts _ gm_89) (fun _ h9 => h9) rfl d_N_renewDisk_1 ?_
  refine x_V (rest := []) ⟨hx, hb, hml, hown, hts⟩ (c_D_erase_ok l D cI cN ad z k hk) gm_276 gm_277 gm_278 gm_31 gm_279 ⟨rfl, rfl⟩ hd_D_erase ⟨Nat.le_of_ble_eq_true rfl, Nat.le_of_ble_eq_true rfl⟩ hK hP hD hS hA (va_recv hK hP (ci := 1) (q0 := (8 + k)) rfl (x_hD hk)) rfl hl.1 rfl (Nat.le_of_ble_eq_true rfl) d_N_renewDisk_4 ⟨Nat.le_of_ble_eq_true rfl, Nat.le_of_ble_eq_true rfl⟩ (fun H locs hP hD hS => ?_)
  obtain ⟨z1, ez1⟩ : ∃ zt_ : x_S, zt_ = x_erase z k := ⟨_, rfl⟩
  rw [← ez1] at hP hD
  refine lv_aload_n hx hb d_N_renewDisk_7 rfl (lv_at hl 0 rfl) ?_
  refine lv_iconst (v := 0) hx hb d_N_renewDisk_8 (by decide) ?_
  refine va_put (D := D) (ci := 2) (v := .int 0) (ty := .int) (C := R_N) (T := T_N) (N := 8) hx hb hts in_N fy_N fy_N_ok n_N hown hK hP hD hS (6 + k) (x_hN hk) rfl 3 (by decide) (hts _ gm_95) (fun _ h9 => h9) rfl (by decide +kernel) rfl rfl (Nat.le_of_ble_eq_true rfl) d_N_renewDisk_9 (fun H locs hP hD hS => ?_)
  obtain ⟨z2, ez2⟩ : ∃ zt_ : x_S, zt_ = x_up z1 (5 + k) 2 0 := ⟨_, rfl⟩
  have hP : va_P D vwCl (x_w cI cN ad z2) H := by rw [ez2, ← x_sN (i := 2) hk (by decide) 0]; exact hP
  have hD : va_D A (x_w cI cN ad z2) := by rw [ez2, ← x_sN (i := 2) hk (by decide) 0]; exact hD
  refine lv_aload_n hx hb d_N_renewDisk_12 rfl (lv_at hl 0 rfl) ?_
  refine lv_iconst (v := 0) hx hb d_N_renewDisk_13 (by decide) ?_
  refine va_put (D := D) (ci := 2) (v := .int 0) (ty := .int) (C := R_N) (T := T_N) (N := 8) hx hb hts in_N fy_N fy_N_ok n_N hown hK hP hD hS (6 + k) (x_hN hk) rfl 4 (by decide) (hts _ gm_97) (fun _ h9 => h9) rfl (by decide +kernel) rfl rfl (Nat.le_of_ble_eq_true rfl) d_N_renewDisk_14 (fun H locs hP hD hS => ?_)
  obtain ⟨z3, ez3⟩ : ∃ zt_ : x_S, zt_ = x_up z2 (5 + k) 3 0 := ⟨_, rfl⟩
  have hP : va_P D vwCl (x_w cI cN ad z3) H := by rw [ez3, ← x_sN (i := 3) hk (by decide) 0]; exact hP
  have hD : va_D A (x_w cI cN ad z3) := by rw [ez3, ← x_sN (i := 3) hk (by decide) 0]; exact hD
  refine lv_aload_n hx hb d_N_renewDisk_17 rfl (lv_at hl 0 rfl) ?_
  refine lv_iconst (v := 0) hx hb d_N_renewDisk_18 (by decide) ?_
  refine va_put (D := D) (ci := 2) (v := .int 0) (ty := .boolean) (C := R_N) (T := T_N) (N := 8) hx hb hts in_N fy_N fy_N_ok n_N hown hK hP hD hS (6 + k) (x_hN hk) rfl 5 (by decide) (hts _ gm_99) (fun _ h9 => h9) rfl (by decide +kernel) rfl rfl (Nat.le_of_ble_eq_true rfl) d_N_renewDisk_19 (fun H locs hP hD hS => ?_)
  obtain ⟨z4, ez4⟩ : ∃ zt_ : x_S, zt_ = x_up z3 (5 + k) 4 0 := ⟨_, rfl⟩
  have hP : va_P D vwCl (x_w cI cN ad z4) H := by rw [ez4, ← x_sN (i := 4) hk (by decide) 0]; exact hP
  have hD : va_D A (x_w cI cN ad z4) := by rw [ez4, ← x_sN (i := 4) hk (by decide) 0]; exact hD
  refine lv_aload_n hx hb d_N_renewDisk_22 rfl (lv_at hl 0 rfl) ?_
  refine lv_iconst (v := 0) hx hb d_N_renewDisk_23 (by decide) ?_
  refine va_put (D := D) (ci := 2) (v := .int 0) (ty := .int) (C := R_N) (T := T_N) (N := 8) hx hb hts in_N fy_N fy_N_ok n_N hown hK hP hD hS (6 + k) (x_hN hk) rfl 6 (by decide) (hts _ gm_101) (fun _ h9 => h9) rfl (by decide +kernel) rfl rfl (Nat.le_of_ble_eq_true rfl) d_N_renewDisk_24 (fun H locs hP hD hS => ?_)
  obtain ⟨z5, ez5⟩ : ∃ zt_ : x_S, zt_ = x_up z4 (5 + k) 5 0 := ⟨_, rfl⟩
  have hP : va_P D vwCl (x_w cI cN ad z5) H := by rw [ez5, ← x_sN (i := 5) hk (by decide) 0]; exact hP
  have hD : va_D A (x_w cI cN ad z5) := by rw [ez5, ← x_sN (i := 5) hk (by decide) 0]; exact hD
  exact x_rv (w := x_w cI cN ad) (by subst ez1 ez2 ez3 ez4 ez5; first | (simp only [x_renew]; done) | rfl | (simp only [x_renew]; rfl)) hx hb hr hlk hP hD hS d_N_renewDisk_27
set_option maxHeartbeats 4000000 in
set_option maxRecDepth 100000 in
theorem c_J_bitCount_ok (l : Launch) (D : va_G) (cI cN : ClassId) (ad : Nat → Nat) (z : x_S) (a : Int32) : x_C l y_J_bitCount c_J_bitCount 1 (some .int) { frames := 0, cells := 0, slots := 0, locals := 0 } D (x_ty cI cN) (x_w cI cN ad z) [.int a] (some (.int (x_bc a))) (x_w cI cN ad z) := by
  refine x_C.of (by decide) (Nat.le_of_ble_eq_true rfl) ?_
  intro p e s m below meth c hx hb hr hml hts hown hlk A hA hK hS hP hD ls hl
  have hown : s.vm.findClass R_J = some m.cls := hown
  have hl : lv_has ls 1 [(0, .int a)] := hl
  refine lv_iload_n hx hb d_J_bitCount_0 rfl (lv_at hl 0 rfl) ?_
  refine lv_iload_n hx hb d_J_bitCount_1 rfl (lv_at hl 0 rfl) ?_
  refine lv_iconst (v := 1) hx hb d_J_bitCount_2 (by decide) ?_
  refine lv_iushr (v := x_sh a 1) hx hb d_J_bitCount_3 rfl ?_
  refine lv_ldcw (v := 1431655765) hx hb hown (hts (.constant R_J 265 1431655765) gm_314) d_J_bitCount_4 ?_
  refine lv_iand hx hb d_J_bitCount_7 ?_
  refine lv_isub hx hb d_J_bitCount_8 ?_
  refine lv_topi (fun a1 ea1 => ?_)
  refine lv_istore_n (lv' := [(0, .int a1)]) hx hb d_J_bitCount_9 rfl hl (by decide) rfl (fun ls hl => ?_)
  refine lv_iload_n hx hb d_J_bitCount_10 rfl (lv_at hl 0 rfl) ?_
  refine lv_ldcw (v := 858993459) hx hb hown (hts (.constant R_J 266 858993459) gm_315) d_J_bitCount_11 ?_
  refine lv_iand hx hb d_J_bitCount_14 ?_
  refine lv_iload_n hx hb d_J_bitCount_15 rfl (lv_at hl 0 rfl) ?_
  refine lv_iconst (v := 2) hx hb d_J_bitCount_16 (by decide) ?_
  refine lv_iushr (v := x_sh a1 2) hx hb d_J_bitCount_17 rfl ?_
  refine lv_ldcw (v := 858993459) hx hb hown (hts (.constant R_J 266 858993459) gm_315) d_J_bitCount_18 ?_
  refine lv_iand hx hb d_J_bitCount_21 ?_
  refine lv_iadd hx hb d_J_bitCount_22 ?_
  refine lv_topi (fun a2 ea2 => ?_)
  refine lv_istore_n (lv' := [(0, .int a2)]) hx hb d_J_bitCount_23 rfl hl (by decide) rfl (fun ls hl => ?_)
  refine lv_iload_n hx hb d_J_bitCount_24 rfl (lv_at hl 0 rfl) ?_
  refine lv_iload_n hx hb d_J_bitCount_25 rfl (lv_at hl 0 rfl) ?_
  refine lv_iconst (v := 4) hx hb d_J_bitCount_26 (by decide) ?_
  refine lv_iushr (v := x_sh a2 4) hx hb d_J_bitCount_27 rfl ?_
  refine lv_iadd hx hb d_J_bitCount_28 ?_
  refine lv_ldcw (v := 252645135) hx hb hown (hts (.constant R_J 267 252645135) gm_316) d_J_bitCount_29 ?_
  refine lv_iand hx hb d_J_bitCount_32 ?_
  refine lv_topi (fun a3 ea3 => ?_)
  refine lv_istore_n (lv' := [(0, .int a3)]) hx hb d_J_bitCount_33 rfl hl (by decide) rfl (fun ls hl => ?_)
  refine lv_iload_n hx hb d_J_bitCount_34 rfl (lv_at hl 0 rfl) ?_
  refine lv_iload_n hx hb d_J_bitCount_35 rfl (lv_at hl 0 rfl) ?_
  refine lv_bipush (v := 8) hx hb d_J_bitCount_36 (by decide) ?_
  refine lv_iushr (v := x_sh a3 8) hx hb d_J_bitCount_38 rfl ?_
  refine lv_iadd hx hb d_J_bitCount_39 ?_
  refine lv_topi (fun a4 ea4 => ?_)
  refine lv_istore_n (lv' := [(0, .int a4)]) hx hb d_J_bitCount_40 rfl hl (by decide) rfl (fun ls hl => ?_)
  refine lv_iload_n hx hb d_J_bitCount_41 rfl (lv_at hl 0 rfl) ?_
  refine lv_iload_n hx hb d_J_bitCount_42 rfl (lv_at hl 0 rfl) ?_
  refine lv_bipush (v := 16) hx hb d_J_bitCount_43 (by decide) ?_
  refine lv_iushr (v := x_sh a4 16) hx hb d_J_bitCount_45 rfl ?_
  refine lv_iadd hx hb d_J_bitCount_46 ?_
  refine lv_topi (fun a5 ea5 => ?_)
  refine lv_istore_n (lv' := [(0, .int a5)]) hx hb d_J_bitCount_47 rfl hl (by decide) rfl (fun ls hl => ?_)
  refine lv_iload_n hx hb d_J_bitCount_48 rfl (lv_at hl 0 rfl) ?_
  refine lv_bipush (v := 63) hx hb d_J_bitCount_49 (by decide) ?_
  refine lv_iand hx hb d_J_bitCount_51 ?_
  exact x_rp (by subst ea1 ea2 ea3 ea4 ea5; first | (simp only [x_bc, x_bc1, x_bc2, x_bc3, x_bc4, x_bc5]; done) | rfl | (simp only [x_bc, x_bc1, x_bc2, x_bc3, x_bc4, x_bc5]; rfl)) hx hb hr hlk hP hD hS d_J_bitCount_52
set_option maxHeartbeats 4000000 in
set_option maxRecDepth 100000 in
theorem c_J_numberOfTrailingZeros_ok (l : Launch) (D : va_G) (cI cN : ClassId) (ad : Nat → Nat) (z : x_S) (a : Int32) : x_C l y_J_numberOfTrailingZeros c_J_numberOfTrailingZeros 2 (some .int) { frames := 0, cells := 0, slots := 0, locals := 0 } D (x_ty cI cN) (x_w cI cN ad z) [.int a] (some (.int (x_ntz a))) (x_w cI cN ad z) := by
  refine x_C.of (by decide) (Nat.le_of_ble_eq_true rfl) ?_
  intro p e s m below meth c hx hb hr hml hts hown hlk A hA hK hS hP hD ls hl
  have hown : s.vm.findClass R_J = some m.cls := hown
  have hl : lv_has ls 2 [(0, .int a)] := hl
  refine lv_iload_n hx hb d_J_numberOfTrailingZeros_0 rfl (lv_at hl 0 rfl) ?_
  refine lv_iconst (v := (-1)) hx hb d_J_numberOfTrailingZeros_1 (by decide) ?_
  refine lv_ixor hx hb d_J_numberOfTrailingZeros_2 ?_
  refine lv_iload_n hx hb d_J_numberOfTrailingZeros_3 rfl (lv_at hl 0 rfl) ?_
  refine lv_iconst (v := 1) hx hb d_J_numberOfTrailingZeros_4 (by decide) ?_
  refine lv_isub hx hb d_J_numberOfTrailingZeros_5 ?_
  refine lv_iand hx hb d_J_numberOfTrailingZeros_6 ?_
  refine lv_istore_n (lv' := [(0, .int ((a ^^^ (-1)) &&& (a - 1)))]) hx hb d_J_numberOfTrailingZeros_7 rfl hl (by decide) rfl (fun ls hl => ?_)
  refine lv_iload_n hx hb d_J_numberOfTrailingZeros_8 rfl (lv_at hl 0 rfl) ?_
  refine lv_if_gt (tgt := 17) hx hb d_J_numberOfTrailingZeros_9 (by decide) (fun c1 => ?_) (fun c1 => ?_)
  · refine lv_iconst (v := 1) hx hb d_J_numberOfTrailingZeros_17 (by decide) ?_
    refine lv_istore_n (lv' := [(1, .int 1), (0, .int ((a ^^^ (-1)) &&& (a - 1)))]) hx hb d_J_numberOfTrailingZeros_18 rfl hl (by decide) rfl (fun ls hl => ?_)
    refine lv_iload_n hx hb d_J_numberOfTrailingZeros_19 rfl (lv_at hl 1 rfl) ?_
    refine lv_ldcw (v := 65536) hx hb hown (hts (.constant R_J 264 65536) gm_324) d_J_numberOfTrailingZeros_20 ?_
    refine lv_icmp_le (tgt := 34) hx hb d_J_numberOfTrailingZeros_23 (by decide) (fun c2 => ?_) (fun c2 => ?_)
    · refine lv_iload_n hx hb d_J_numberOfTrailingZeros_34 rfl (lv_at hl 1 rfl) ?_
      refine lv_sipush (v := 256) hx hb d_J_numberOfTrailingZeros_35 (by decide) ?_
      refine lv_icmp_le (tgt := 49) hx hb d_J_numberOfTrailingZeros_38 (by decide) (fun c3 => ?_) (fun c3 => ?_)
      · refine lv_iload_n hx hb d_J_numberOfTrailingZeros_49 rfl (lv_at hl 1 rfl) ?_
        refine lv_bipush (v := 16) hx hb d_J_numberOfTrailingZeros_50 (by decide) ?_
        refine lv_icmp_le (tgt := 62) hx hb d_J_numberOfTrailingZeros_52 (by decide) (fun c4 => ?_) (fun c4 => ?_)
        · refine lv_iload_n hx hb d_J_numberOfTrailingZeros_62 rfl (lv_at hl 1 rfl) ?_
          refine lv_iconst (v := 4) hx hb d_J_numberOfTrailingZeros_63 (by decide) ?_
          refine lv_icmp_le (tgt := 74) hx hb d_J_numberOfTrailingZeros_64 (by decide) (fun c5 => ?_) (fun c5 => ?_)
          · refine lv_iload_n hx hb d_J_numberOfTrailingZeros_74 rfl (lv_at hl 0 rfl) ?_
            refine lv_iload_n hx hb d_J_numberOfTrailingZeros_75 rfl (lv_at hl 1 rfl) ?_
            refine lv_iconst (v := 1) hx hb d_J_numberOfTrailingZeros_76 (by decide) ?_
            refine lv_iushr (v := x_sh ((a ^^^ (-1)) &&& (a - 1)) 1) hx hb d_J_numberOfTrailingZeros_77 rfl ?_
            refine lv_iadd hx hb d_J_numberOfTrailingZeros_78 ?_
            exact x_rp (by first | (simp only [x_ntz, x_nt1, x_nt2, x_nt3, x_nt4, if_pos c1, if_pos c2, if_pos c3, if_pos c4, if_pos c5]; done) | rfl | (simp only [x_ntz, x_nt1, x_nt2, x_nt3, x_nt4, if_pos c1, if_pos c2, if_pos c3, if_pos c4, if_pos c5]; rfl)) hx hb hr hlk hP hD hS d_J_numberOfTrailingZeros_79
          · refine lv_iinc (v := 1 + 2) (lv' := [(1, .int (1 + 2)), (0, .int ((a ^^^ (-1)) &&& (a - 1)))]) hx hb d_J_numberOfTrailingZeros_67 hl (k := 0) rfl rfl (by decide) rfl (fun ls hl => ?_)
            refine lv_iload_n hx hb d_J_numberOfTrailingZeros_70 rfl (lv_at hl 1 rfl) ?_
            refine lv_iconst (v := 2) hx hb d_J_numberOfTrailingZeros_71 (by decide) ?_
            refine lv_iushr (v := x_sh ((a ^^^ (-1)) &&& (a - 1)) 2) hx hb d_J_numberOfTrailingZeros_72 rfl ?_
            refine lv_istore_n (lv' := [(0, .int (x_sh ((a ^^^ (-1)) &&& (a - 1)) 2)), (1, .int (1 + 2))]) hx hb d_J_numberOfTrailingZeros_73 rfl hl (by decide) rfl (fun ls hl => ?_)
            refine lv_iload_n hx hb d_J_numberOfTrailingZeros_74 rfl (lv_at hl 1 rfl) ?_
            refine lv_iload_n hx hb d_J_numberOfTrailingZeros_75 rfl (lv_at hl 0 rfl) ?_
            refine lv_iconst (v := 1) hx hb d_J_numberOfTrailingZeros_76 (by decide) ?_
            refine lv_iushr (v := x_sh (x_sh ((a ^^^ (-1)) &&& (a - 1)) 2) 1) hx hb d_J_numberOfTrailingZeros_77 rfl ?_
            refine lv_iadd hx hb d_J_numberOfTrailingZeros_78 ?_
            exact x_rp (by first | (simp only [x_ntz, x_nt1, x_nt2, x_nt3, x_nt4, if_pos c1, if_pos c2, if_pos c3, if_pos c4, if_neg c5]; done) | rfl | (simp only [x_ntz, x_nt1, x_nt2, x_nt3, x_nt4, if_pos c1, if_pos c2, if_pos c3, if_pos c4, if_neg c5]; rfl)) hx hb hr hlk hP hD hS d_J_numberOfTrailingZeros_79
        · refine lv_iinc (v := 1 + 4) (lv' := [(1, .int (1 + 4)), (0, .int ((a ^^^ (-1)) &&& (a - 1)))]) hx hb d_J_numberOfTrailingZeros_55 hl (k := 0) rfl rfl (by decide) rfl (fun ls hl => ?_)
          refine lv_iload_n hx hb d_J_numberOfTrailingZeros_58 rfl (lv_at hl 1 rfl) ?_
          refine lv_iconst (v := 4) hx hb d_J_numberOfTrailingZeros_59 (by decide) ?_
          refine lv_iushr (v := x_sh ((a ^^^ (-1)) &&& (a - 1)) 4) hx hb d_J_numberOfTrailingZeros_60 rfl ?_
          refine lv_istore_n (lv' := [(0, .int (x_sh ((a ^^^ (-1)) &&& (a - 1)) 4)), (1, .int (1 + 4))]) hx hb d_J_numberOfTrailingZeros_61 rfl hl (by decide) rfl (fun ls hl => ?_)
          refine lv_iload_n hx hb d_J_numberOfTrailingZeros_62 rfl (lv_at hl 0 rfl) ?_
          refine lv_iconst (v := 4) hx hb d_J_numberOfTrailingZeros_63 (by decide) ?_
          refine lv_icmp_le (tgt := 74) hx hb d_J_numberOfTrailingZeros_64 (by decide) (fun c6 => ?_) (fun c6 => ?_)
          · refine lv_iload_n hx hb d_J_numberOfTrailingZeros_74 rfl (lv_at hl 1 rfl) ?_
            refine lv_iload_n hx hb d_J_numberOfTrailingZeros_75 rfl (lv_at hl 0 rfl) ?_
            refine lv_iconst (v := 1) hx hb d_J_numberOfTrailingZeros_76 (by decide) ?_
            refine lv_iushr (v := x_sh (x_sh ((a ^^^ (-1)) &&& (a - 1)) 4) 1) hx hb d_J_numberOfTrailingZeros_77 rfl ?_
            refine lv_iadd hx hb d_J_numberOfTrailingZeros_78 ?_
            exact x_rp (by first | (simp only [x_ntz, x_nt1, x_nt2, x_nt3, x_nt4, if_pos c1, if_pos c2, if_pos c3, if_neg c4, if_pos c6]; done) | rfl | (simp only [x_ntz, x_nt1, x_nt2, x_nt3, x_nt4, if_pos c1, if_pos c2, if_pos c3, if_neg c4, if_pos c6]; rfl)) hx hb hr hlk hP hD hS d_J_numberOfTrailingZeros_79
          · refine lv_iinc (v := (1 + 4) + 2) (lv' := [(1, .int ((1 + 4) + 2)), (0, .int (x_sh ((a ^^^ (-1)) &&& (a - 1)) 4))]) hx hb d_J_numberOfTrailingZeros_67 hl (k := 1) rfl rfl (by decide) rfl (fun ls hl => ?_)
            refine lv_iload_n hx hb d_J_numberOfTrailingZeros_70 rfl (lv_at hl 1 rfl) ?_
            refine lv_iconst (v := 2) hx hb d_J_numberOfTrailingZeros_71 (by decide) ?_
            refine lv_iushr (v := x_sh (x_sh ((a ^^^ (-1)) &&& (a - 1)) 4) 2) hx hb d_J_numberOfTrailingZeros_72 rfl ?_
            refine lv_istore_n (lv' := [(0, .int (x_sh (x_sh ((a ^^^ (-1)) &&& (a - 1)) 4) 2)), (1, .int ((1 + 4) + 2))]) hx hb d_J_numberOfTrailingZeros_73 rfl hl (by decide) rfl (fun ls hl => ?_)
            refine lv_iload_n hx hb d_J_numberOfTrailingZeros_74 rfl (lv_at hl 1 rfl) ?_
            refine lv_iload_n hx hb d_J_numberOfTrailingZeros_75 rfl (lv_at hl 0 rfl) ?_
            refine lv_iconst (v := 1) hx hb d_J_numberOfTrailingZeros_76 (by decide) ?_
            refine lv_iushr (v := x_sh (x_sh (x_sh ((a ^^^ (-1)) &&& (a - 1)) 4) 2) 1) hx hb d_J_numberOfTrailingZeros_77 rfl ?_
            refine lv_iadd hx hb d_J_numberOfTrailingZeros_78 ?_
            exact x_rp (by first | (simp only [x_ntz, x_nt1, x_nt2, x_nt3, x_nt4, if_pos c1, if_pos c2, if_pos c3, if_neg c4, if_neg c6]; done) | rfl | (simp only [x_ntz, x_nt1, x_nt2, x_nt3, x_nt4, if_pos c1, if_pos c2, if_pos c3, if_neg c4, if_neg c6]; rfl)) hx hb hr hlk hP hD hS d_J_numberOfTrailingZeros_79
      · refine lv_iinc (v := 1 + 8) (lv' := [(1, .int (1 + 8)), (0, .int ((a ^^^ (-1)) &&& (a - 1)))]) hx hb d_J_numberOfTrailingZeros_41 hl (k := 0) rfl rfl (by decide) rfl (fun ls hl => ?_)
        refine lv_iload_n hx hb d_J_numberOfTrailingZeros_44 rfl (lv_at hl 1 rfl) ?_
        refine lv_bipush (v := 8) hx hb d_J_numberOfTrailingZeros_45 (by decide) ?_
        refine lv_iushr (v := x_sh ((a ^^^ (-1)) &&& (a - 1)) 8) hx hb d_J_numberOfTrailingZeros_47 rfl ?_
        refine lv_istore_n (lv' := [(0, .int (x_sh ((a ^^^ (-1)) &&& (a - 1)) 8)), (1, .int (1 + 8))]) hx hb d_J_numberOfTrailingZeros_48 rfl hl (by decide) rfl (fun ls hl => ?_)
        refine lv_iload_n hx hb d_J_numberOfTrailingZeros_49 rfl (lv_at hl 0 rfl) ?_
        refine lv_bipush (v := 16) hx hb d_J_numberOfTrailingZeros_50 (by decide) ?_
        refine lv_icmp_le (tgt := 62) hx hb d_J_numberOfTrailingZeros_52 (by decide) (fun c7 => ?_) (fun c7 => ?_)
        · refine lv_iload_n hx hb d_J_numberOfTrailingZeros_62 rfl (lv_at hl 0 rfl) ?_
          refine lv_iconst (v := 4) hx hb d_J_numberOfTrailingZeros_63 (by decide) ?_
          refine lv_icmp_le (tgt := 74) hx hb d_J_numberOfTrailingZeros_64 (by decide) (fun c8 => ?_) (fun c8 => ?_)
          · refine lv_iload_n hx hb d_J_numberOfTrailingZeros_74 rfl (lv_at hl 1 rfl) ?_
            refine lv_iload_n hx hb d_J_numberOfTrailingZeros_75 rfl (lv_at hl 0 rfl) ?_
            refine lv_iconst (v := 1) hx hb d_J_numberOfTrailingZeros_76 (by decide) ?_
            refine lv_iushr (v := x_sh (x_sh ((a ^^^ (-1)) &&& (a - 1)) 8) 1) hx hb d_J_numberOfTrailingZeros_77 rfl ?_
            refine lv_iadd hx hb d_J_numberOfTrailingZeros_78 ?_
            exact x_rp (by first | (simp only [x_ntz, x_nt1, x_nt2, x_nt3, x_nt4, if_pos c1, if_pos c2, if_neg c3, if_pos c7, if_pos c8]; done) | rfl | (simp only [x_ntz, x_nt1, x_nt2, x_nt3, x_nt4, if_pos c1, if_pos c2, if_neg c3, if_pos c7, if_pos c8]; rfl)) hx hb hr hlk hP hD hS d_J_numberOfTrailingZeros_79
          · refine lv_iinc (v := (1 + 8) + 2) (lv' := [(1, .int ((1 + 8) + 2)), (0, .int (x_sh ((a ^^^ (-1)) &&& (a - 1)) 8))]) hx hb d_J_numberOfTrailingZeros_67 hl (k := 1) rfl rfl (by decide) rfl (fun ls hl => ?_)
            refine lv_iload_n hx hb d_J_numberOfTrailingZeros_70 rfl (lv_at hl 1 rfl) ?_
            refine lv_iconst (v := 2) hx hb d_J_numberOfTrailingZeros_71 (by decide) ?_
            refine lv_iushr (v := x_sh (x_sh ((a ^^^ (-1)) &&& (a - 1)) 8) 2) hx hb d_J_numberOfTrailingZeros_72 rfl ?_
            refine lv_istore_n (lv' := [(0, .int (x_sh (x_sh ((a ^^^ (-1)) &&& (a - 1)) 8) 2)), (1, .int ((1 + 8) + 2))]) hx hb d_J_numberOfTrailingZeros_73 rfl hl (by decide) rfl (fun ls hl => ?_)
            refine lv_iload_n hx hb d_J_numberOfTrailingZeros_74 rfl (lv_at hl 1 rfl) ?_
            refine lv_iload_n hx hb d_J_numberOfTrailingZeros_75 rfl (lv_at hl 0 rfl) ?_
            refine lv_iconst (v := 1) hx hb d_J_numberOfTrailingZeros_76 (by decide) ?_
            refine lv_iushr (v := x_sh (x_sh (x_sh ((a ^^^ (-1)) &&& (a - 1)) 8) 2) 1) hx hb d_J_numberOfTrailingZeros_77 rfl ?_
            refine lv_iadd hx hb d_J_numberOfTrailingZeros_78 ?_
            exact x_rp (by first | (simp only [x_ntz, x_nt1, x_nt2, x_nt3, x_nt4, if_pos c1, if_pos c2, if_neg c3, if_pos c7, if_neg c8]; done) | rfl | (simp only [x_ntz, x_nt1, x_nt2, x_nt3, x_nt4, if_pos c1, if_pos c2, if_neg c3, if_pos c7, if_neg c8]; rfl)) hx hb hr hlk hP hD hS d_J_numberOfTrailingZeros_79
        · refine lv_iinc (v := (1 + 8) + 4) (lv' := [(1, .int ((1 + 8) + 4)), (0, .int (x_sh ((a ^^^ (-1)) &&& (a - 1)) 8))]) hx hb d_J_numberOfTrailingZeros_55 hl (k := 1) rfl rfl (by decide) rfl (fun ls hl => ?_)
          refine lv_iload_n hx hb d_J_numberOfTrailingZeros_58 rfl (lv_at hl 1 rfl) ?_
          refine lv_iconst (v := 4) hx hb d_J_numberOfTrailingZeros_59 (by decide) ?_
          refine lv_iushr (v := x_sh (x_sh ((a ^^^ (-1)) &&& (a - 1)) 8) 4) hx hb d_J_numberOfTrailingZeros_60 rfl ?_
          refine lv_istore_n (lv' := [(0, .int (x_sh (x_sh ((a ^^^ (-1)) &&& (a - 1)) 8) 4)), (1, .int ((1 + 8) + 4))]) hx hb d_J_numberOfTrailingZeros_61 rfl hl (by decide) rfl (fun ls hl => ?_)
          refine lv_iload_n hx hb d_J_numberOfTrailingZeros_62 rfl (lv_at hl 0 rfl) ?_
          refine lv_iconst (v := 4) hx hb d_J_numberOfTrailingZeros_63 (by decide) ?_
          refine lv_icmp_le (tgt := 74) hx hb d_J_numberOfTrailingZeros_64 (by decide) (fun c9 => ?_) (fun c9 => ?_)
          · refine lv_iload_n hx hb d_J_numberOfTrailingZeros_74 rfl (lv_at hl 1 rfl) ?_
            refine lv_iload_n hx hb d_J_numberOfTrailingZeros_75 rfl (lv_at hl 0 rfl) ?_
            refine lv_iconst (v := 1) hx hb d_J_numberOfTrailingZeros_76 (by decide) ?_
            refine lv_iushr (v := x_sh (x_sh (x_sh ((a ^^^ (-1)) &&& (a - 1)) 8) 4) 1) hx hb d_J_numberOfTrailingZeros_77 rfl ?_
            refine lv_iadd hx hb d_J_numberOfTrailingZeros_78 ?_
            exact x_rp (by first | (simp only [x_ntz, x_nt1, x_nt2, x_nt3, x_nt4, if_pos c1, if_pos c2, if_neg c3, if_neg c7, if_pos c9]; done) | rfl | (simp only [x_ntz, x_nt1, x_nt2, x_nt3, x_nt4, if_pos c1, if_pos c2, if_neg c3, if_neg c7, if_pos c9]; rfl)) hx hb hr hlk hP hD hS d_J_numberOfTrailingZeros_79
          · refine lv_iinc (v := ((1 + 8) + 4) + 2) (lv' := [(1, .int (((1 + 8) + 4) + 2)), (0, .int (x_sh (x_sh ((a ^^^ (-1)) &&& (a - 1)) 8) 4))]) hx hb d_J_numberOfTrailingZeros_67 hl (k := 1) rfl rfl (by decide) rfl (fun ls hl => ?_)
            refine lv_iload_n hx hb d_J_numberOfTrailingZeros_70 rfl (lv_at hl 1 rfl) ?_
            refine lv_iconst (v := 2) hx hb d_J_numberOfTrailingZeros_71 (by decide) ?_
            refine lv_iushr (v := x_sh (x_sh (x_sh ((a ^^^ (-1)) &&& (a - 1)) 8) 4) 2) hx hb d_J_numberOfTrailingZeros_72 rfl ?_
            refine lv_istore_n (lv' := [(0, .int (x_sh (x_sh (x_sh ((a ^^^ (-1)) &&& (a - 1)) 8) 4) 2)), (1, .int (((1 + 8) + 4) + 2))]) hx hb d_J_numberOfTrailingZeros_73 rfl hl (by decide) rfl (fun ls hl => ?_)
            refine lv_iload_n hx hb d_J_numberOfTrailingZeros_74 rfl (lv_at hl 1 rfl) ?_
            refine lv_iload_n hx hb d_J_numberOfTrailingZeros_75 rfl (lv_at hl 0 rfl) ?_
            refine lv_iconst (v := 1) hx hb d_J_numberOfTrailingZeros_76 (by decide) ?_
            refine lv_iushr (v := x_sh (x_sh (x_sh (x_sh ((a ^^^ (-1)) &&& (a - 1)) 8) 4) 2) 1) hx hb d_J_numberOfTrailingZeros_77 rfl ?_
            refine lv_iadd hx hb d_J_numberOfTrailingZeros_78 ?_
            exact x_rp (by first | (simp only [x_ntz, x_nt1, x_nt2, x_nt3, x_nt4, if_pos c1, if_pos c2, if_neg c3, if_neg c7, if_neg c9]; done) | rfl | (simp only [x_ntz, x_nt1, x_nt2, x_nt3, x_nt4, if_pos c1, if_pos c2, if_neg c3, if_neg c7, if_neg c9]; rfl)) hx hb hr hlk hP hD hS d_J_numberOfTrailingZeros_79
    · refine lv_iinc (v := 1 + 16) (lv' := [(1, .int (1 + 16)), (0, .int ((a ^^^ (-1)) &&& (a - 1)))]) hx hb d_J_numberOfTrailingZeros_26 hl (k := 0) rfl rfl (by decide) rfl (fun ls hl => ?_)
      refine lv_iload_n hx hb d_J_numberOfTrailingZeros_29 rfl (lv_at hl 1 rfl) ?_
      refine lv_bipush (v := 16) hx hb d_J_numberOfTrailingZeros_30 (by decide) ?_
      refine lv_iushr (v := x_sh ((a ^^^ (-1)) &&& (a - 1)) 16) hx hb d_J_numberOfTrailingZeros_32 rfl ?_
      refine lv_istore_n (lv' := [(0, .int (x_sh ((a ^^^ (-1)) &&& (a - 1)) 16)), (1, .int (1 + 16))]) hx hb d_J_numberOfTrailingZeros_33 rfl hl (by decide) rfl (fun ls hl => ?_)
      refine lv_iload_n hx hb d_J_numberOfTrailingZeros_34 rfl (lv_at hl 0 rfl) ?_
      refine lv_sipush (v := 256) hx hb d_J_numberOfTrailingZeros_35 (by decide) ?_
      refine lv_icmp_le (tgt := 49) hx hb d_J_numberOfTrailingZeros_38 (by decide) (fun c10 => ?_) (fun c10 => ?_)
      · refine lv_iload_n hx hb d_J_numberOfTrailingZeros_49 rfl (lv_at hl 0 rfl) ?_
        refine lv_bipush (v := 16) hx hb d_J_numberOfTrailingZeros_50 (by decide) ?_
        refine lv_icmp_le (tgt := 62) hx hb d_J_numberOfTrailingZeros_52 (by decide) (fun c11 => ?_) (fun c11 => ?_)
        · refine lv_iload_n hx hb d_J_numberOfTrailingZeros_62 rfl (lv_at hl 0 rfl) ?_
          refine lv_iconst (v := 4) hx hb d_J_numberOfTrailingZeros_63 (by decide) ?_
          refine lv_icmp_le (tgt := 74) hx hb d_J_numberOfTrailingZeros_64 (by decide) (fun c12 => ?_) (fun c12 => ?_)
          · refine lv_iload_n hx hb d_J_numberOfTrailingZeros_74 rfl (lv_at hl 1 rfl) ?_
            refine lv_iload_n hx hb d_J_numberOfTrailingZeros_75 rfl (lv_at hl 0 rfl) ?_
            refine lv_iconst (v := 1) hx hb d_J_numberOfTrailingZeros_76 (by decide) ?_
            refine lv_iushr (v := x_sh (x_sh ((a ^^^ (-1)) &&& (a - 1)) 16) 1) hx hb d_J_numberOfTrailingZeros_77 rfl ?_
            refine lv_iadd hx hb d_J_numberOfTrailingZeros_78 ?_
            exact x_rp (by first | (simp only [x_ntz, x_nt1, x_nt2, x_nt3, x_nt4, if_pos c1, if_neg c2, if_pos c10, if_pos c11, if_pos c12]; done) | rfl | (simp only [x_ntz, x_nt1, x_nt2, x_nt3, x_nt4, if_pos c1, if_neg c2, if_pos c10, if_pos c11, if_pos c12]; rfl)) hx hb hr hlk hP hD hS d_J_numberOfTrailingZeros_79
          · refine lv_iinc (v := (1 + 16) + 2) (lv' := [(1, .int ((1 + 16) + 2)), (0, .int (x_sh ((a ^^^ (-1)) &&& (a - 1)) 16))]) hx hb d_J_numberOfTrailingZeros_67 hl (k := 1) rfl rfl (by decide) rfl (fun ls hl => ?_)
            refine lv_iload_n hx hb d_J_numberOfTrailingZeros_70 rfl (lv_at hl 1 rfl) ?_
            refine lv_iconst (v := 2) hx hb d_J_numberOfTrailingZeros_71 (by decide) ?_
            refine lv_iushr (v := x_sh (x_sh ((a ^^^ (-1)) &&& (a - 1)) 16) 2) hx hb d_J_numberOfTrailingZeros_72 rfl ?_
            refine lv_istore_n (lv' := [(0, .int (x_sh (x_sh ((a ^^^ (-1)) &&& (a - 1)) 16) 2)), (1, .int ((1 + 16) + 2))]) hx hb d_J_numberOfTrailingZeros_73 rfl hl (by decide) rfl (fun ls hl => ?_)
            refine lv_iload_n hx hb d_J_numberOfTrailingZeros_74 rfl (lv_at hl 1 rfl) ?_
            refine lv_iload_n hx hb d_J_numberOfTrailingZeros_75 rfl (lv_at hl 0 rfl) ?_
            refine lv_iconst (v := 1) hx hb d_J_numberOfTrailingZeros_76 (by decide) ?_
            refine lv_iushr (v := x_sh (x_sh (x_sh ((a ^^^ (-1)) &&& (a - 1)) 16) 2) 1) hx hb d_J_numberOfTrailingZeros_77 rfl ?_
            refine lv_iadd hx hb d_J_numberOfTrailingZeros_78 ?_
            exact x_rp (by first | (simp only [x_ntz, x_nt1, x_nt2, x_nt3, x_nt4, if_pos c1, if_neg c2, if_pos c10, if_pos c11, if_neg c12]; done) | rfl | (simp only [x_ntz, x_nt1, x_nt2, x_nt3, x_nt4, if_pos c1, if_neg c2, if_pos c10, if_pos c11, if_neg c12]; rfl)) hx hb hr hlk hP hD hS d_J_numberOfTrailingZeros_79
        · refine lv_iinc (v := (1 + 16) + 4) (lv' := [(1, .int ((1 + 16) + 4)), (0, .int (x_sh ((a ^^^ (-1)) &&& (a - 1)) 16))]) hx hb d_J_numberOfTrailingZeros_55 hl (k := 1) rfl rfl (by decide) rfl (fun ls hl => ?_)
          refine lv_iload_n hx hb d_J_numberOfTrailingZeros_58 rfl (lv_at hl 1 rfl) ?_
          refine lv_iconst (v := 4) hx hb d_J_numberOfTrailingZeros_59 (by decide) ?_
          refine lv_iushr (v := x_sh (x_sh ((a ^^^ (-1)) &&& (a - 1)) 16) 4) hx hb d_J_numberOfTrailingZeros_60 rfl ?_
          refine lv_istore_n (lv' := [(0, .int (x_sh (x_sh ((a ^^^ (-1)) &&& (a - 1)) 16) 4)), (1, .int ((1 + 16) + 4))]) hx hb d_J_numberOfTrailingZeros_61 rfl hl (by decide) rfl (fun ls hl => ?_)
          refine lv_iload_n hx hb d_J_numberOfTrailingZeros_62 rfl (lv_at hl 0 rfl) ?_
          refine lv_iconst (v := 4) hx hb d_J_numberOfTrailingZeros_63 (by decide) ?_
          refine lv_icmp_le (tgt := 74) hx hb d_J_numberOfTrailingZeros_64 (by decide) (fun c13 => ?_) (fun c13 => ?_)
          · refine lv_iload_n hx hb d_J_numberOfTrailingZeros_74 rfl (lv_at hl 1 rfl) ?_
            refine lv_iload_n hx hb d_J_numberOfTrailingZeros_75 rfl (lv_at hl 0 rfl) ?_
            refine lv_iconst (v := 1) hx hb d_J_numberOfTrailingZeros_76 (by decide) ?_
            refine lv_iushr (v := x_sh (x_sh (x_sh ((a ^^^ (-1)) &&& (a - 1)) 16) 4) 1) hx hb d_J_numberOfTrailingZeros_77 rfl ?_
            refine lv_iadd hx hb d_J_numberOfTrailingZeros_78 ?_
            exact x_rp (by first | (simp only [x_ntz, x_nt1, x_nt2, x_nt3, x_nt4, if_pos c1, if_neg c2, if_pos c10, if_neg c11, if_pos c13]; done) | rfl | (simp only [x_ntz, x_nt1, x_nt2, x_nt3, x_nt4, if_pos c1, if_neg c2, if_pos c10, if_neg c11, if_pos c13]; rfl)) hx hb hr hlk hP hD hS d_J_numberOfTrailingZeros_79
          · refine lv_iinc (v := ((1 + 16) + 4) + 2) (lv' := [(1, .int (((1 + 16) + 4) + 2)), (0, .int (x_sh (x_sh ((a ^^^ (-1)) &&& (a - 1)) 16) 4))]) hx hb d_J_numberOfTrailingZeros_67 hl (k := 1) rfl rfl (by decide) rfl (fun ls hl => ?_)
            refine lv_iload_n hx hb d_J_numberOfTrailingZeros_70 rfl (lv_at hl 1 rfl) ?_
            refine lv_iconst (v := 2) hx hb d_J_numberOfTrailingZeros_71 (by decide) ?_
            refine lv_iushr (v := x_sh (x_sh (x_sh ((a ^^^ (-1)) &&& (a - 1)) 16) 4) 2) hx hb d_J_numberOfTrailingZeros_72 rfl ?_
            refine lv_istore_n (lv' := [(0, .int (x_sh (x_sh (x_sh ((a ^^^ (-1)) &&& (a - 1)) 16) 4) 2)), (1, .int (((1 + 16) + 4) + 2))]) hx hb d_J_numberOfTrailingZeros_73 rfl hl (by decide) rfl (fun ls hl => ?_)
            refine lv_iload_n hx hb d_J_numberOfTrailingZeros_74 rfl (lv_at hl 1 rfl) ?_
            refine lv_iload_n hx hb d_J_numberOfTrailingZeros_75 rfl (lv_at hl 0 rfl) ?_
            refine lv_iconst (v := 1) hx hb d_J_numberOfTrailingZeros_76 (by decide) ?_
            refine lv_iushr (v := x_sh (x_sh (x_sh (x_sh ((a ^^^ (-1)) &&& (a - 1)) 16) 4) 2) 1) hx hb d_J_numberOfTrailingZeros_77 rfl ?_
            refine lv_iadd hx hb d_J_numberOfTrailingZeros_78 ?_
            exact x_rp (by first | (simp only [x_ntz, x_nt1, x_nt2, x_nt3, x_nt4, if_pos c1, if_neg c2, if_pos c10, if_neg c11, if_neg c13]; done) | rfl | (simp only [x_ntz, x_nt1, x_nt2, x_nt3, x_nt4, if_pos c1, if_neg c2, if_pos c10, if_neg c11, if_neg c13]; rfl)) hx hb hr hlk hP hD hS d_J_numberOfTrailingZeros_79
      · refine lv_iinc (v := (1 + 16) + 8) (lv' := [(1, .int ((1 + 16) + 8)), (0, .int (x_sh ((a ^^^ (-1)) &&& (a - 1)) 16))]) hx hb d_J_numberOfTrailingZeros_41 hl (k := 1) rfl rfl (by decide) rfl (fun ls hl => ?_)
        refine lv_iload_n hx hb d_J_numberOfTrailingZeros_44 rfl (lv_at hl 1 rfl) ?_
        refine lv_bipush (v := 8) hx hb d_J_numberOfTrailingZeros_45 (by decide) ?_
        refine lv_iushr (v := x_sh (x_sh ((a ^^^ (-1)) &&& (a - 1)) 16) 8) hx hb d_J_numberOfTrailingZeros_47 rfl ?_
        refine lv_istore_n (lv' := [(0, .int (x_sh (x_sh ((a ^^^ (-1)) &&& (a - 1)) 16) 8)), (1, .int ((1 + 16) + 8))]) hx hb d_J_numberOfTrailingZeros_48 rfl hl (by decide) rfl (fun ls hl => ?_)
        refine lv_iload_n hx hb d_J_numberOfTrailingZeros_49 rfl (lv_at hl 0 rfl) ?_
        refine lv_bipush (v := 16) hx hb d_J_numberOfTrailingZeros_50 (by decide) ?_
        refine lv_icmp_le (tgt := 62) hx hb d_J_numberOfTrailingZeros_52 (by decide) (fun c14 => ?_) (fun c14 => ?_)
        · refine lv_iload_n hx hb d_J_numberOfTrailingZeros_62 rfl (lv_at hl 0 rfl) ?_
          refine lv_iconst (v := 4) hx hb d_J_numberOfTrailingZeros_63 (by decide) ?_
          refine lv_icmp_le (tgt := 74) hx hb d_J_numberOfTrailingZeros_64 (by decide) (fun c15 => ?_) (fun c15 => ?_)
          · refine lv_iload_n hx hb d_J_numberOfTrailingZeros_74 rfl (lv_at hl 1 rfl) ?_
            refine lv_iload_n hx hb d_J_numberOfTrailingZeros_75 rfl (lv_at hl 0 rfl) ?_
            refine lv_iconst (v := 1) hx hb d_J_numberOfTrailingZeros_76 (by decide) ?_
            refine lv_iushr (v := x_sh (x_sh (x_sh ((a ^^^ (-1)) &&& (a - 1)) 16) 8) 1) hx hb d_J_numberOfTrailingZeros_77 rfl ?_
            refine lv_iadd hx hb d_J_numberOfTrailingZeros_78 ?_
            exact x_rp (by first | (simp only [x_ntz, x_nt1, x_nt2, x_nt3, x_nt4, if_pos c1, if_neg c2, if_neg c10, if_pos c14, if_pos c15]; done) | rfl | (simp only [x_ntz, x_nt1, x_nt2, x_nt3, x_nt4, if_pos c1, if_neg c2, if_neg c10, if_pos c14, if_pos c15]; rfl)) hx hb hr hlk hP hD hS d_J_numberOfTrailingZeros_79
          · refine lv_iinc (v := ((1 + 16) + 8) + 2) (lv' := [(1, .int (((1 + 16) + 8) + 2)), (0, .int (x_sh (x_sh ((a ^^^ (-1)) &&& (a - 1)) 16) 8))]) hx hb d_J_numberOfTrailingZeros_67 hl (k := 1) rfl rfl (by decide) rfl (fun ls hl => ?_)
            refine lv_iload_n hx hb d_J_numberOfTrailingZeros_70 rfl (lv_at hl 1 rfl) ?_
            refine lv_iconst (v := 2) hx hb d_J_numberOfTrailingZeros_71 (by decide) ?_
            refine lv_iushr (v := x_sh (x_sh (x_sh ((a ^^^ (-1)) &&& (a - 1)) 16) 8) 2) hx hb d_J_numberOfTrailingZeros_72 rfl ?_
            refine lv_istore_n (lv' := [(0, .int (x_sh (x_sh (x_sh ((a ^^^ (-1)) &&& (a - 1)) 16) 8) 2)), (1, .int (((1 + 16) + 8) + 2))]) hx hb d_J_numberOfTrailingZeros_73 rfl hl (by decide) rfl (fun ls hl => ?_)
            refine lv_iload_n hx hb d_J_numberOfTrailingZeros_74 rfl (lv_at hl 1 rfl) ?_
            refine lv_iload_n hx hb d_J_numberOfTrailingZeros_75 rfl (lv_at hl 0 rfl) ?_
            refine lv_iconst (v := 1) hx hb d_J_numberOfTrailingZeros_76 (by decide) ?_
            refine lv_iushr (v := x_sh (x_sh (x_sh (x_sh ((a ^^^ (-1)) &&& (a - 1)) 16) 8) 2) 1) hx hb d_J_numberOfTrailingZeros_77 rfl ?_
            refine lv_iadd hx hb d_J_numberOfTrailingZeros_78 ?_
            exact x_rp (by first | (simp only [x_ntz, x_nt1, x_nt2, x_nt3, x_nt4, if_pos c1, if_neg c2, if_neg c10, if_pos c14, if_neg c15]; done) | rfl | (simp only [x_ntz, x_nt1, x_nt2, x_nt3, x_nt4, if_pos c1, if_neg c2, if_neg c10, if_pos c14, if_neg c15]; rfl)) hx hb hr hlk hP hD hS d_J_numberOfTrailingZeros_79
        · refine lv_iinc (v := ((1 + 16) + 8) + 4) (lv' := [(1, .int (((1 + 16) + 8) + 4)), (0, .int (x_sh (x_sh ((a ^^^ (-1)) &&& (a - 1)) 16) 8))]) hx hb d_J_numberOfTrailingZeros_55 hl (k := 1) rfl rfl (by decide) rfl (fun ls hl => ?_)
          refine lv_iload_n hx hb d_J_numberOfTrailingZeros_58 rfl (lv_at hl 1 rfl) ?_
          refine lv_iconst (v := 4) hx hb d_J_numberOfTrailingZeros_59 (by decide) ?_
          refine lv_iushr (v := x_sh (x_sh (x_sh ((a ^^^ (-1)) &&& (a - 1)) 16) 8) 4) hx hb d_J_numberOfTrailingZeros_60 rfl ?_
          refine lv_istore_n (lv' := [(0, .int (x_sh (x_sh (x_sh ((a ^^^ (-1)) &&& (a - 1)) 16) 8) 4)), (1, .int (((1 + 16) + 8) + 4))]) hx hb d_J_numberOfTrailingZeros_61 rfl hl (by decide) rfl (fun ls hl => ?_)
          refine lv_iload_n hx hb d_J_numberOfTrailingZeros_62 rfl (lv_at hl 0 rfl) ?_
          refine lv_iconst (v := 4) hx hb d_J_numberOfTrailingZeros_63 (by decide) ?_
          refine lv_icmp_le (tgt := 74) hx hb d_J_numberOfTrailingZeros_64 (by decide) (fun c16 => ?_) (fun c16 => ?_)
          · refine lv_iload_n hx hb d_J_numberOfTrailingZeros_74 rfl (lv_at hl 1 rfl) ?_
            refine lv_iload_n hx hb d_J_numberOfTrailingZeros_75 rfl (lv_at hl 0 rfl) ?_
            refine lv_iconst (v := 1) hx hb d_J_numberOfTrailingZeros_76 (by decide) ?_
            refine lv_iushr (v := x_sh (x_sh (x_sh (x_sh ((a ^^^ (-1)) &&& (a - 1)) 16) 8) 4) 1) hx hb d_J_numberOfTrailingZeros_77 rfl ?_
            refine lv_iadd hx hb d_J_numberOfTrailingZeros_78 ?_
            exact x_rp (by first | (simp only [x_ntz, x_nt1, x_nt2, x_nt3, x_nt4, if_pos c1, if_neg c2, if_neg c10, if_neg c14, if_pos c16]; done) | rfl | (simp only [x_ntz, x_nt1, x_nt2, x_nt3, x_nt4, if_pos c1, if_neg c2, if_neg c10, if_neg c14, if_pos c16]; rfl)) hx hb hr hlk hP hD hS d_J_numberOfTrailingZeros_79
          · refine lv_iinc (v := (((1 + 16) + 8) + 4) + 2) (lv' := [(1, .int ((((1 + 16) + 8) + 4) + 2)), (0, .int (x_sh (x_sh (x_sh ((a ^^^ (-1)) &&& (a - 1)) 16) 8) 4))]) hx hb d_J_numberOfTrailingZeros_67 hl (k := 1) rfl rfl (by decide) rfl (fun ls hl => ?_)
            refine lv_iload_n hx hb d_J_numberOfTrailingZeros_70 rfl (lv_at hl 1 rfl) ?_
            refine lv_iconst (v := 2) hx hb d_J_numberOfTrailingZeros_71 (by decide) ?_
            refine lv_iushr (v := x_sh (x_sh (x_sh (x_sh ((a ^^^ (-1)) &&& (a - 1)) 16) 8) 4) 2) hx hb d_J_numberOfTrailingZeros_72 rfl ?_
            refine lv_istore_n (lv' := [(0, .int (x_sh (x_sh (x_sh (x_sh ((a ^^^ (-1)) &&& (a - 1)) 16) 8) 4) 2)), (1, .int ((((1 + 16) + 8) + 4) + 2))]) hx hb d_J_numberOfTrailingZeros_73 rfl hl (by decide) rfl (fun ls hl => ?_)
            refine lv_iload_n hx hb d_J_numberOfTrailingZeros_74 rfl (lv_at hl 1 rfl) ?_
            refine lv_iload_n hx hb d_J_numberOfTrailingZeros_75 rfl (lv_at hl 0 rfl) ?_
            refine lv_iconst (v := 1) hx hb d_J_numberOfTrailingZeros_76 (by decide) ?_
            refine lv_iushr (v := x_sh (x_sh (x_sh (x_sh (x_sh ((a ^^^ (-1)) &&& (a - 1)) 16) 8) 4) 2) 1) hx hb d_J_numberOfTrailingZeros_77 rfl ?_
            refine lv_iadd hx hb d_J_numberOfTrailingZeros_78 ?_
            exact x_rp (by first | (simp only [x_ntz, x_nt1, x_nt2, x_nt3, x_nt4, if_pos c1, if_neg c2, if_neg c10, if_neg c14, if_neg c16]; done) | rfl | (simp only [x_ntz, x_nt1, x_nt2, x_nt3, x_nt4, if_pos c1, if_neg c2, if_neg c10, if_neg c14, if_neg c16]; rfl)) hx hb hr hlk hP hD hS d_J_numberOfTrailingZeros_79
  · refine lv_iload_n hx hb d_J_numberOfTrailingZeros_12 rfl (lv_at hl 0 rfl) ?_
    refine lv_bipush (v := 32) hx hb d_J_numberOfTrailingZeros_13 (by decide) ?_
    refine lv_iand hx hb d_J_numberOfTrailingZeros_15 ?_
    exact x_rp (by first | (simp only [x_ntz, x_nt1, x_nt2, x_nt3, x_nt4, if_neg c1]; done) | rfl | (simp only [x_ntz, x_nt1, x_nt2, x_nt3, x_nt4, if_neg c1]; rfl)) hx hb hr hlk hP hD hS d_J_numberOfTrailingZeros_16
set_option maxHeartbeats 4000000 in
set_option maxRecDepth 100000 in
theorem c_D_countCached_ok (l : Launch) (D : va_G) (cI cN : ClassId) (ad : Nat → Nat) (z : x_S) (k : Nat) (hk : k < 2) : x_C l y_D_countCached c_D_countCached 1 (some .int) { frames := 1, cells := 0, slots := 0, locals := 20 } D (x_ty cI cN) (x_w cI cN ad z) [.ref (ad (8 + k))] (some (.int (x_bc (z (5 + k) 7)))) (x_w cI cN ad z) := by
  refine x_C.of (by decide) (Nat.le_of_ble_eq_true rfl) ?_
  intro p e s m below meth c hx hb hr hml hts hown hlk A hA hK hS hP hD ls hl
  have hown : s.vm.findClass R_D = some m.cls := hown
  have hl : lv_has ls 1 [(0, .ref (ad (8 + k)))] := hl
  refine lv_aload_n hx hb d_D_countCached_0 rfl (lv_at hl 0 rfl) ?_
  refine va_get (D := D) (ci := 1) (C := R_D) (T := T_D) (N := 3) hx hb hts in_D hown hK hP (8 + k) (x_hD hk) rfl 2 (by decide) (hts _ gm_81) (fun _ h9 => h9) rfl d_D_countCached_1 ?_
  refine x_T (rest := []) ⟨hx, hb, hml, hown, hts⟩ (c_J_bitCount_ok l D cI cN ad z (z (5 + k) 7)) gm_386 gm_312 gm_36 gm_313 ⟨rfl, rfl⟩ hd_J_bitCount ⟨Nat.le_of_ble_eq_true rfl, Nat.le_of_ble_eq_true rfl⟩ hK hP hD hS hA rfl hl.1 rfl (Nat.le_of_ble_eq_true rfl) d_D_countCached_4 ⟨Nat.le_of_ble_eq_true rfl, Nat.le_of_ble_eq_true rfl⟩ (fun H locs hP hD hS => ?_)
  refine lv_topi (fun r1 er1 => ?_)
  exact x_rp (by subst er1; first | (simp only []; done) | rfl | (simp only []; rfl)) hx hb hr hlk hP hD hS d_D_countCached_7
set_option maxHeartbeats 4000000 in
set_option maxRecDepth 100000 in
theorem c_M_chooseSource_ok (l : Launch) (D : va_G) (cI cN : ClassId) (ad : Nat → Nat) (z : x_S)  : x_C l y_M_chooseSource c_M_chooseSource 1 (some .int) { frames := 0, cells := 0, slots := 0, locals := 0 } D (x_ty cI cN) (x_w cI cN ad z) [.ref (ad 0)] (some (.int (x_choose z))) (x_w cI cN ad z) := by
  refine x_C.of (by decide) (Nat.le_of_ble_eq_true rfl) ?_
  intro p e s m below meth c hx hb hr hml hts hown hlk A hA hK hS hP hD ls hl
  have hown : s.vm.findClass R_M = some m.cls := hown
  have hl : lv_has ls 1 [(0, .ref (ad 0))] := hl
  refine lv_aload_n hx hb d_M_chooseSource_0 rfl (lv_at hl 0 rfl) ?_
  refine va_get (D := D) (ci := 4) (C := R_M) (T := T_M) (N := 7) hx hb hts in_M hown hK hP 0 x_hM rfl 0 (by decide) (hts _ gm_154) (fun _ h9 => h9) rfl d_M_chooseSource_1 ?_
  refine lv_iconst (v := 0) hx hb d_M_chooseSource_4 (by decide) ?_
  refine x_top (show (0 : Int32) = nI 0 from rfl) ?_
  refine va_aldq (D := D) hx hb hK hP 1 1 x_hA rfl (x_in2 (by decide)) d_M_chooseSource_5 ?_
  refine x_topv x_nf_0 ?_
  refine va_get (D := D) (ci := 2) (C := R_N) (T := T_N) (N := 8) hx hb hts in_N hown hK hP 6 x_hN0 rfl 3 (by decide) (hts _ gm_96) (fun _ h9 => h9) rfl d_M_chooseSource_6 ?_
  refine lv_aload_n hx hb d_M_chooseSource_9 rfl (lv_at hl 0 rfl) ?_
  refine va_get (D := D) (ci := 4) (C := R_M) (T := T_M) (N := 7) hx hb hts in_M hown hK hP 0 x_hM rfl 0 (by decide) (hts _ gm_154) (fun _ h9 => h9) rfl d_M_chooseSource_10 ?_
  refine lv_iconst (v := 1) hx hb d_M_chooseSource_13 (by decide) ?_
  refine x_top (show (1 : Int32) = nI 1 from rfl) ?_
  refine va_aldq (D := D) hx hb hK hP 1 1 x_hA rfl (x_in2 (by decide)) d_M_chooseSource_14 ?_
  refine x_topv x_nf_1 ?_
  refine va_get (D := D) (ci := 2) (C := R_N) (T := T_N) (N := 8) hx hb hts in_N hown hK hP 7 x_hN1 rfl 3 (by decide) (hts _ gm_96) (fun _ h9 => h9) rfl d_M_chooseSource_15 ?_
  refine lv_icmp_ne (tgt := 39) hx hb d_M_chooseSource_18 (by decide) (fun c1 => ?_) (fun c1 => ?_)
  · refine lv_aload_n hx hb d_M_chooseSource_39 rfl (lv_at hl 0 rfl) ?_
    refine va_get (D := D) (ci := 4) (C := R_M) (T := T_M) (N := 7) hx hb hts in_M hown hK hP 0 x_hM rfl 0 (by decide) (hts _ gm_154) (fun _ h9 => h9) rfl d_M_chooseSource_40 ?_
    refine lv_iconst (v := 0) hx hb d_M_chooseSource_43 (by decide) ?_
    refine x_top (show (0 : Int32) = nI 0 from rfl) ?_
    refine va_aldq (D := D) hx hb hK hP 1 1 x_hA rfl (x_in2 (by decide)) d_M_chooseSource_44 ?_
    refine x_topv x_nf_0 ?_
    refine va_get (D := D) (ci := 2) (C := R_N) (T := T_N) (N := 8) hx hb hts in_N hown hK hP 6 x_hN0 rfl 3 (by decide) (hts _ gm_96) (fun _ h9 => h9) rfl d_M_chooseSource_45 ?_
    refine lv_aload_n hx hb d_M_chooseSource_48 rfl (lv_at hl 0 rfl) ?_
    refine va_get (D := D) (ci := 4) (C := R_M) (T := T_M) (N := 7) hx hb hts in_M hown hK hP 0 x_hM rfl 0 (by decide) (hts _ gm_154) (fun _ h9 => h9) rfl d_M_chooseSource_49 ?_
    refine lv_iconst (v := 1) hx hb d_M_chooseSource_52 (by decide) ?_
    refine x_top (show (1 : Int32) = nI 1 from rfl) ?_
    refine va_aldq (D := D) hx hb hK hP 1 1 x_hA rfl (x_in2 (by decide)) d_M_chooseSource_53 ?_
    refine x_topv x_nf_1 ?_
    refine va_get (D := D) (ci := 2) (C := R_N) (T := T_N) (N := 8) hx hb hts in_N hown hK hP 7 x_hN1 rfl 3 (by decide) (hts _ gm_96) (fun _ h9 => h9) rfl d_M_chooseSource_54 ?_
    refine lv_icmp_le (tgt := 64) hx hb d_M_chooseSource_57 (by decide) (fun c2 => ?_) (fun c2 => ?_)
    · refine lv_iconst (v := 1) hx hb d_M_chooseSource_64 (by decide) ?_
      exact x_rp (by first | (simp only [x_choose, if_neg c1, if_pos c2]; done) | rfl | (simp only [x_choose, if_neg c1, if_pos c2]; rfl)) hx hb hr hlk hP hD hS d_M_chooseSource_65
    · refine lv_iconst (v := 0) hx hb d_M_chooseSource_60 (by decide) ?_
      refine lv_goto (tgt := 65) hx hb d_M_chooseSource_61 (by decide) ?_
      exact x_rp (by first | (simp only [x_choose, if_neg c1, if_neg c2]; done) | rfl | (simp only [x_choose, if_neg c1, if_neg c2]; rfl)) hx hb hr hlk hP hD hS d_M_chooseSource_65
  · refine lv_aload_n hx hb d_M_chooseSource_21 rfl (lv_at hl 0 rfl) ?_
    refine va_get (D := D) (ci := 4) (C := R_M) (T := T_M) (N := 7) hx hb hts in_M hown hK hP 0 x_hM rfl 0 (by decide) (hts _ gm_154) (fun _ h9 => h9) rfl d_M_chooseSource_22 ?_
    refine lv_iconst (v := 1) hx hb d_M_chooseSource_25 (by decide) ?_
    refine x_top (show (1 : Int32) = nI 1 from rfl) ?_
    refine va_aldq (D := D) hx hb hK hP 1 1 x_hA rfl (x_in2 (by decide)) d_M_chooseSource_26 ?_
    refine x_topv x_nf_1 ?_
    refine va_get (D := D) (ci := 2) (C := R_N) (T := T_N) (N := 8) hx hb hts in_N hown hK hP 7 x_hN1 rfl 2 (by decide) (hts _ gm_94) (fun _ h9 => h9) rfl d_M_chooseSource_27 ?_
    refine lv_if_eq (tgt := 37) hx hb d_M_chooseSource_30 (by decide) (fun c3 => ?_) (fun c3 => ?_)
    · refine lv_iconst (v := 0) hx hb d_M_chooseSource_37 (by decide) ?_
      exact x_rp (by first | (simp only [x_choose, if_pos c1, if_pos c3]; done) | rfl | (simp only [x_choose, if_pos c1, if_pos c3]; rfl)) hx hb hr hlk hP hD hS d_M_chooseSource_38
    · refine lv_iconst (v := 1) hx hb d_M_chooseSource_33 (by decide) ?_
      refine lv_goto (tgt := 38) hx hb d_M_chooseSource_34 (by decide) ?_
      exact x_rp (by first | (simp only [x_choose, if_pos c1, if_neg c3]; done) | rfl | (simp only [x_choose, if_pos c1, if_neg c3]; rfl)) hx hb hr hlk hP hD hS d_M_chooseSource_38
set_option maxHeartbeats 4000000 in
set_option maxRecDepth 100000 in
theorem c_M_extentsThatMayDiffer_ok (l : Launch) (D : va_G) (cI cN : ClassId) (ad : Nat → Nat) (z : x_S) (s0 : Nat) (hs0 : s0 < 2) (hs : z 0 3 = nI s0) : x_C l y_M_extentsThatMayDiffer c_M_extentsThatMayDiffer 4 (some .int) { frames := 0, cells := 0, slots := 0, locals := 0 } D (x_ty cI cN) (x_w cI cN ad z) [.ref (ad 0)] (some (.int (x_diff z s0))) (x_w cI cN ad z) := by
  refine x_C.of (by decide) (Nat.le_of_ble_eq_true rfl) ?_
  intro p e s m below meth c hx hb hr hml hts hown hlk A hA hK hS hP hD ls hl
  have hown : s.vm.findClass R_M = some m.cls := hown
  have hl : lv_has ls 4 [(0, .ref (ad 0))] := hl
  refine lv_aload_n hx hb d_M_extentsThatMayDiffer_0 rfl (lv_at hl 0 rfl) ?_
  refine va_get (D := D) (ci := 4) (C := R_M) (T := T_M) (N := 7) hx hb hts in_M hown hK hP 0 x_hM rfl 0 (by decide) (hts _ gm_154) (fun _ h9 => h9) rfl d_M_extentsThatMayDiffer_1 ?_
  refine lv_aload_n hx hb d_M_extentsThatMayDiffer_4 rfl (lv_at hl 0 rfl) ?_
  refine va_get (D := D) (ci := 4) (C := R_M) (T := T_M) (N := 7) hx hb hts in_M hown hK hP 0 x_hM rfl 6 (by decide) (hts _ gm_160) (fun _ h9 => h9) rfl d_M_extentsThatMayDiffer_5 ?_
  refine x_top (show z 0 3 = nI s0 by exact hs) ?_
  refine va_aldq (D := D) hx hb hK hP 1 1 x_hA rfl (x_in2 hs0) d_M_extentsThatMayDiffer_8 ?_
  refine x_topv (x_nf_at hs0) ?_
  refine lv_astore_n (lv' := [(1, .ref (ad (6 + s0))), (0, .ref (ad 0))]) hx hb d_M_extentsThatMayDiffer_9 rfl hl (by decide) rfl (fun ls hl => ?_)
  refine lv_aload_n hx hb d_M_extentsThatMayDiffer_10 rfl (lv_at hl 1 rfl) ?_
  refine va_get (D := D) (ci := 4) (C := R_M) (T := T_M) (N := 7) hx hb hts in_M hown hK hP 0 x_hM rfl 0 (by decide) (hts _ gm_154) (fun _ h9 => h9) rfl d_M_extentsThatMayDiffer_11 ?_
  refine lv_iconst (v := 1) hx hb d_M_extentsThatMayDiffer_14 (by decide) ?_
  refine lv_aload_n hx hb d_M_extentsThatMayDiffer_15 rfl (lv_at hl 1 rfl) ?_
  refine va_get (D := D) (ci := 4) (C := R_M) (T := T_M) (N := 7) hx hb hts in_M hown hK hP 0 x_hM rfl 6 (by decide) (hts _ gm_160) (fun _ h9 => h9) rfl d_M_extentsThatMayDiffer_16 ?_
  refine x_top (show z 0 3 = nI s0 by exact hs) ?_
  refine lv_isub hx hb d_M_extentsThatMayDiffer_19 ?_
  refine x_top (x_1k hs0) ?_
  refine va_aldq (D := D) hx hb hK hP 1 1 x_hA rfl (x_in2 (x_1lt hs0)) d_M_extentsThatMayDiffer_20 ?_
  refine x_topv (x_nf_at (x_1lt hs0)) ?_
  refine lv_astore_n (lv' := [(2, .ref (ad (6 + (1 - s0)))), (1, .ref (ad (6 + s0))), (0, .ref (ad 0))]) hx hb d_M_extentsThatMayDiffer_21 rfl hl (by decide) rfl (fun ls hl => ?_)
  refine lv_aload_n hx hb d_M_extentsThatMayDiffer_22 rfl (lv_at hl 1 rfl) ?_
  refine va_get (D := D) (ci := 2) (C := R_N) (T := T_N) (N := 8) hx hb hts in_N hown hK hP (6 + s0) (x_hN hs0) rfl 3 (by decide) (hts _ gm_96) (fun _ h9 => h9) rfl d_M_extentsThatMayDiffer_23 ?_
  refine lv_aload_n hx hb d_M_extentsThatMayDiffer_26 rfl (lv_at hl 0 rfl) ?_
  refine va_get (D := D) (ci := 2) (C := R_N) (T := T_N) (N := 8) hx hb hts in_N hown hK hP (6 + (1 - s0)) (x_hN (x_1lt hs0)) rfl 3 (by decide) (hts _ gm_96) (fun _ h9 => h9) rfl d_M_extentsThatMayDiffer_27 ?_
  refine lv_icmp_eq (tgt := 51) hx hb d_M_extentsThatMayDiffer_30 (by decide) (fun c1 => ?_) (fun c1 => ?_)
  · refine lv_iconst (v := 1) hx hb d_M_extentsThatMayDiffer_51 (by decide) ?_
    refine lv_goto (tgt := 56) hx hb d_M_extentsThatMayDiffer_52 (by decide) ?_
    refine lv_istore_n (lv' := [(3, .int 1), (2, .ref (ad (6 + (1 - s0)))), (1, .ref (ad (6 + s0))), (0, .ref (ad 0))]) hx hb d_M_extentsThatMayDiffer_56 rfl hl (by decide) rfl (fun ls hl => ?_)
    refine lv_iload_n hx hb d_M_extentsThatMayDiffer_57 rfl (lv_at hl 0 rfl) ?_
    refine lv_if_eq (tgt := 73) hx hb d_M_extentsThatMayDiffer_58 (by decide) (fun c2 => ?_) (fun c2 => ?_)
    · exact absurd c2 (by decide)
    · refine lv_aload_n hx hb d_M_extentsThatMayDiffer_61 rfl (lv_at hl 2 rfl) ?_
      refine va_get (D := D) (ci := 2) (C := R_N) (T := T_N) (N := 8) hx hb hts in_N hown hK hP (6 + s0) (x_hN hs0) rfl 6 (by decide) (hts _ gm_102) (fun _ h9 => h9) rfl d_M_extentsThatMayDiffer_62 ?_
      refine lv_aload_n hx hb d_M_extentsThatMayDiffer_65 rfl (lv_at hl 1 rfl) ?_
      refine va_get (D := D) (ci := 2) (C := R_N) (T := T_N) (N := 8) hx hb hts in_N hown hK hP (6 + (1 - s0)) (x_hN (x_1lt hs0)) rfl 6 (by decide) (hts _ gm_102) (fun _ h9 => h9) rfl d_M_extentsThatMayDiffer_66 ?_
      refine lv_ior hx hb d_M_extentsThatMayDiffer_69 ?_
      refine lv_goto (tgt := 76) hx hb d_M_extentsThatMayDiffer_70 (by decide) ?_
      exact x_rp (by first | (simp only [x_diff, if_pos c1]; done) | rfl | (simp only [x_diff, if_pos c1]; rfl)) hx hb hr hlk hP hD hS d_M_extentsThatMayDiffer_76
  · refine lv_aload_n hx hb d_M_extentsThatMayDiffer_33 rfl (lv_at hl 1 rfl) ?_
    refine va_get (D := D) (ci := 2) (C := R_N) (T := T_N) (N := 8) hx hb hts in_N hown hK hP (6 + s0) (x_hN hs0) rfl 5 (by decide) (hts _ gm_100) (fun _ h9 => h9) rfl d_M_extentsThatMayDiffer_34 ?_
    refine lv_if_eq (tgt := 55) hx hb d_M_extentsThatMayDiffer_37 (by decide) (fun c3 => ?_) (fun c3 => ?_)
    · refine lv_iconst (v := 0) hx hb d_M_extentsThatMayDiffer_55 (by decide) ?_
      refine lv_istore_n (lv' := [(3, .int 0), (2, .ref (ad (6 + (1 - s0)))), (1, .ref (ad (6 + s0))), (0, .ref (ad 0))]) hx hb d_M_extentsThatMayDiffer_56 rfl hl (by decide) rfl (fun ls hl => ?_)
      refine lv_iload_n hx hb d_M_extentsThatMayDiffer_57 rfl (lv_at hl 0 rfl) ?_
      refine lv_if_eq (tgt := 73) hx hb d_M_extentsThatMayDiffer_58 (by decide) (fun c4 => ?_) (fun c4 => ?_)
      · refine lv_sipush (v := 255) hx hb d_M_extentsThatMayDiffer_73 (by decide) ?_
        exact x_rp (by first | (simp only [x_diff, if_neg c1, if_pos c3]; done) | rfl | (simp only [x_diff, if_neg c1, if_pos c3]; rfl)) hx hb hr hlk hP hD hS d_M_extentsThatMayDiffer_76
      · exact (c4 (by decide)).elim
    · refine lv_aload_n hx hb d_M_extentsThatMayDiffer_40 rfl (lv_at hl 1 rfl) ?_
      refine va_get (D := D) (ci := 2) (C := R_N) (T := T_N) (N := 8) hx hb hts in_N hown hK hP (6 + s0) (x_hN hs0) rfl 4 (by decide) (hts _ gm_98) (fun _ h9 => h9) rfl d_M_extentsThatMayDiffer_41 ?_
      refine lv_aload_n hx hb d_M_extentsThatMayDiffer_44 rfl (lv_at hl 0 rfl) ?_
      refine va_get (D := D) (ci := 2) (C := R_N) (T := T_N) (N := 8) hx hb hts in_N hown hK hP (6 + (1 - s0)) (x_hN (x_1lt hs0)) rfl 3 (by decide) (hts _ gm_96) (fun _ h9 => h9) rfl d_M_extentsThatMayDiffer_45 ?_
      refine lv_icmp_ne (tgt := 55) hx hb d_M_extentsThatMayDiffer_48 (by decide) (fun c5 => ?_) (fun c5 => ?_)
      · refine lv_iconst (v := 0) hx hb d_M_extentsThatMayDiffer_55 (by decide) ?_
        refine lv_istore_n (lv' := [(3, .int 0), (2, .ref (ad (6 + (1 - s0)))), (1, .ref (ad (6 + s0))), (0, .ref (ad 0))]) hx hb d_M_extentsThatMayDiffer_56 rfl hl (by decide) rfl (fun ls hl => ?_)
        refine lv_iload_n hx hb d_M_extentsThatMayDiffer_57 rfl (lv_at hl 0 rfl) ?_
        refine lv_if_eq (tgt := 73) hx hb d_M_extentsThatMayDiffer_58 (by decide) (fun c6 => ?_) (fun c6 => ?_)
        · refine lv_sipush (v := 255) hx hb d_M_extentsThatMayDiffer_73 (by decide) ?_
          exact x_rp (by first | (simp only [x_diff, if_neg c1, if_neg c3, if_neg c5]; done) | rfl | (simp only [x_diff, if_neg c1, if_neg c3, if_neg c5]; rfl)) hx hb hr hlk hP hD hS d_M_extentsThatMayDiffer_76
        · exact (c6 (by decide)).elim
      · refine lv_iconst (v := 1) hx hb d_M_extentsThatMayDiffer_51 (by decide) ?_
        refine lv_goto (tgt := 56) hx hb d_M_extentsThatMayDiffer_52 (by decide) ?_
        refine lv_istore_n (lv' := [(3, .int 1), (2, .ref (ad (6 + (1 - s0)))), (1, .ref (ad (6 + s0))), (0, .ref (ad 0))]) hx hb d_M_extentsThatMayDiffer_56 rfl hl (by decide) rfl (fun ls hl => ?_)
        refine lv_iload_n hx hb d_M_extentsThatMayDiffer_57 rfl (lv_at hl 0 rfl) ?_
        refine lv_if_eq (tgt := 73) hx hb d_M_extentsThatMayDiffer_58 (by decide) (fun c7 => ?_) (fun c7 => ?_)
        · exact absurd c7 (by decide)
        · refine lv_aload_n hx hb d_M_extentsThatMayDiffer_61 rfl (lv_at hl 2 rfl) ?_
          refine va_get (D := D) (ci := 2) (C := R_N) (T := T_N) (N := 8) hx hb hts in_N hown hK hP (6 + s0) (x_hN hs0) rfl 6 (by decide) (hts _ gm_102) (fun _ h9 => h9) rfl d_M_extentsThatMayDiffer_62 ?_
          refine lv_aload_n hx hb d_M_extentsThatMayDiffer_65 rfl (lv_at hl 1 rfl) ?_
          refine va_get (D := D) (ci := 2) (C := R_N) (T := T_N) (N := 8) hx hb hts in_N hown hK hP (6 + (1 - s0)) (x_hN (x_1lt hs0)) rfl 6 (by decide) (hts _ gm_102) (fun _ h9 => h9) rfl d_M_extentsThatMayDiffer_66 ?_
          refine lv_ior hx hb d_M_extentsThatMayDiffer_69 ?_
          refine lv_goto (tgt := 76) hx hb d_M_extentsThatMayDiffer_70 (by decide) ?_
          exact x_rp (by first | (simp only [x_diff, if_neg c1, if_neg c3, if_pos c5]; done) | rfl | (simp only [x_diff, if_neg c1, if_neg c3, if_pos c5]; rfl)) hx hb hr hlk hP hD hS d_M_extentsThatMayDiffer_76
set_option maxHeartbeats 4000000 in
set_option maxRecDepth 100000 in
theorem c_M_startSync_ok (l : Launch) (D : va_G) (cI cN : ClassId) (ad : Nat → Nat) (z : x_S) (s0 : Nat) (hs0 : s0 < 2) (hs : z 0 3 = nI s0) (d : Int32) : x_C l y_M_startSync c_M_startSync 3 none { frames := 0, cells := 0, slots := 0, locals := 0 } D (x_ty cI cN) (x_w cI cN ad z) [.ref (ad 0), .int d] (none) (x_w cI cN ad (x_start z s0 d)) := by
  refine x_C.of (by decide) (Nat.le_of_ble_eq_true rfl) ?_
  intro p e s m below meth c hx hb hr hml hts hown hlk A hA hK hS hP hD ls hl
  have hown : s.vm.findClass R_M = some m.cls := hown
  have hl : lv_has ls 3 [(0, .ref (ad 0)), (1, .int d)] := hl
  refine lv_aload_n hx hb d_M_startSync_0 rfl (lv_at hl 0 rfl) ?_
  refine va_get (D := D) (ci := 4) (C := R_M) (T := T_M) (N := 7) hx hb hts in_M hown hK hP 0 x_hM rfl 0 (by decide) (hts _ gm_154) (fun _ h9 => h9) rfl d_M_startSync_1 ?_
  refine lv_iconst (v := 1) hx hb d_M_startSync_4 (by decide) ?_
  refine lv_aload_n hx hb d_M_startSync_5 rfl (lv_at hl 0 rfl) ?_
  refine va_get (D := D) (ci := 4) (C := R_M) (T := T_M) (N := 7) hx hb hts in_M hown hK hP 0 x_hM rfl 6 (by decide) (hts _ gm_160) (fun _ h9 => h9) rfl d_M_startSync_6 ?_
  refine x_top (show z 0 3 = nI s0 by exact hs) ?_
  refine lv_isub hx hb d_M_startSync_9 ?_
  refine x_top (x_1k hs0) ?_
  refine va_aldq (D := D) hx hb hK hP 1 1 x_hA rfl (x_in2 (x_1lt hs0)) d_M_startSync_10 ?_
  refine x_topv (x_nf_at (x_1lt hs0)) ?_
  refine lv_astore_n (lv' := [(2, .ref (ad (6 + (1 - s0)))), (0, .ref (ad 0)), (1, .int d)]) hx hb d_M_startSync_11 rfl hl (by decide) rfl (fun ls hl => ?_)
  refine lv_aload_n hx hb d_M_startSync_12 rfl (lv_at hl 1 rfl) ?_
  refine va_get (D := D) (ci := 4) (C := R_M) (T := T_M) (N := 7) hx hb hts in_M hown hK hP 0 x_hM rfl 0 (by decide) (hts _ gm_154) (fun _ h9 => h9) rfl d_M_startSync_13 ?_
  refine lv_aload_n hx hb d_M_startSync_16 rfl (lv_at hl 1 rfl) ?_
  refine va_get (D := D) (ci := 4) (C := R_M) (T := T_M) (N := 7) hx hb hts in_M hown hK hP 0 x_hM rfl 6 (by decide) (hts _ gm_160) (fun _ h9 => h9) rfl d_M_startSync_17 ?_
  refine x_top (show z 0 3 = nI s0 by exact hs) ?_
  refine va_aldq (D := D) hx hb hK hP 1 1 x_hA rfl (x_in2 hs0) d_M_startSync_20 ?_
  refine x_topv (x_nf_at hs0) ?_
  refine lv_iload_n hx hb d_M_startSync_21 rfl (lv_at hl 2 rfl) ?_
  refine va_put (D := D) (ci := 2) (v := .int d) (ty := .int) (C := R_N) (T := T_N) (N := 8) hx hb hts in_N fy_N fy_N_ok n_N hown hK hP hD hS (6 + s0) (x_hN hs0) rfl 6 (by decide) (hts _ gm_102) (fun _ h9 => h9) rfl (by decide +kernel) rfl rfl (Nat.le_of_ble_eq_true rfl) d_M_startSync_22 (fun H locs hP hD hS => ?_)
  obtain ⟨z1, ez1⟩ : ∃ zt_ : x_S, zt_ = x_up z (5 + s0) 5 d := ⟨_, rfl⟩
  have hP : va_P D vwCl (x_w cI cN ad z1) H := by rw [ez1, ← x_sN (i := 5) hs0 (by decide) d]; exact hP
  have hD : va_D A (x_w cI cN ad z1) := by rw [ez1, ← x_sN (i := 5) hs0 (by decide) d]; exact hD
  refine lv_aload_n hx hb d_M_startSync_25 rfl (lv_at hl 0 rfl) ?_
  refine lv_iconst (v := 0) hx hb d_M_startSync_26 (by decide) ?_
  refine va_put (D := D) (ci := 2) (v := .int 0) (ty := .int) (C := R_N) (T := T_N) (N := 8) hx hb hts in_N fy_N fy_N_ok n_N hown hK hP hD hS (6 + (1 - s0)) (x_hN (x_1lt hs0)) rfl 6 (by decide) (hts _ gm_102) (fun _ h9 => h9) rfl (by decide +kernel) rfl rfl (Nat.le_of_ble_eq_true rfl) d_M_startSync_27 (fun H locs hP hD hS => ?_)
  obtain ⟨z2, ez2⟩ : ∃ zt_ : x_S, zt_ = x_up z1 (5 + (1 - s0)) 5 0 := ⟨_, rfl⟩
  have hP : va_P D vwCl (x_w cI cN ad z2) H := by rw [ez2, ← x_sN (i := 5) (x_1lt hs0) (by decide) 0]; exact hP
  have hD : va_D A (x_w cI cN ad z2) := by rw [ez2, ← x_sN (i := 5) (x_1lt hs0) (by decide) 0]; exact hD
  refine lv_aload_n hx hb d_M_startSync_30 rfl (lv_at hl 0 rfl) ?_
  refine lv_iconst (v := 0) hx hb d_M_startSync_31 (by decide) ?_
  refine va_put (D := D) (ci := 2) (v := .int 0) (ty := .int) (C := R_N) (T := T_N) (N := 8) hx hb hts in_N fy_N fy_N_ok n_N hown hK hP hD hS (6 + (1 - s0)) (x_hN (x_1lt hs0)) rfl 3 (by decide) (hts _ gm_96) (fun _ h9 => h9) rfl (by decide +kernel) rfl rfl (Nat.le_of_ble_eq_true rfl) d_M_startSync_32 (fun H locs hP hD hS => ?_)
  obtain ⟨z3, ez3⟩ : ∃ zt_ : x_S, zt_ = x_up z2 (5 + (1 - s0)) 2 0 := ⟨_, rfl⟩
  have hP : va_P D vwCl (x_w cI cN ad z3) H := by rw [ez3, ← x_sN (i := 2) (x_1lt hs0) (by decide) 0]; exact hP
  have hD : va_D A (x_w cI cN ad z3) := by rw [ez3, ← x_sN (i := 2) (x_1lt hs0) (by decide) 0]; exact hD
  refine lv_aload_n hx hb d_M_startSync_35 rfl (lv_at hl 0 rfl) ?_
  refine lv_iconst (v := 0) hx hb d_M_startSync_36 (by decide) ?_
  refine va_put (D := D) (ci := 2) (v := .int 0) (ty := .boolean) (C := R_N) (T := T_N) (N := 8) hx hb hts in_N fy_N fy_N_ok n_N hown hK hP hD hS (6 + (1 - s0)) (x_hN (x_1lt hs0)) rfl 5 (by decide) (hts _ gm_100) (fun _ h9 => h9) rfl (by decide +kernel) rfl rfl (Nat.le_of_ble_eq_true rfl) d_M_startSync_37 (fun H locs hP hD hS => ?_)
  obtain ⟨z4, ez4⟩ : ∃ zt_ : x_S, zt_ = x_up z3 (5 + (1 - s0)) 4 0 := ⟨_, rfl⟩
  have hP : va_P D vwCl (x_w cI cN ad z4) H := by rw [ez4, ← x_sN (i := 4) (x_1lt hs0) (by decide) 0]; exact hP
  have hD : va_D A (x_w cI cN ad z4) := by rw [ez4, ← x_sN (i := 4) (x_1lt hs0) (by decide) 0]; exact hD
  refine lv_aload_n hx hb d_M_startSync_40 rfl (lv_at hl 1 rfl) ?_
  refine lv_iconst (v := 1) hx hb d_M_startSync_41 (by decide) ?_
  refine va_put (D := D) (ci := 4) (v := .int 1) (ty := .boolean) (C := R_M) (T := T_M) (N := 7) hx hb hts in_M fy_M fy_M_ok n_M hown hK hP hD hS 0 x_hM rfl 5 (by decide) (hts _ gm_159) (fun _ h9 => h9) rfl (by decide +kernel) rfl rfl (Nat.le_of_ble_eq_true rfl) d_M_startSync_42 (fun H locs hP hD hS => ?_)
  obtain ⟨z5, ez5⟩ : ∃ zt_ : x_S, zt_ = x_up z4 0 2 1 := ⟨_, rfl⟩
  have hP : va_P D vwCl (x_w cI cN ad z5) H := by rw [ez5, ← x_sM (i := 2) (by decide) 1]; exact hP
  have hD : va_D A (x_w cI cN ad z5) := by rw [ez5, ← x_sM (i := 2) (by decide) 1]; exact hD
  exact x_rv (w := x_w cI cN ad) (by subst ez1 ez2 ez3 ez4 ez5; first | (simp only [x_start]; done) | rfl | (simp only [x_start]; rfl)) hx hb hr hlk hP hD hS d_M_startSync_45
set_option maxHeartbeats 4000000 in
set_option maxRecDepth 100000 in
theorem c_M_finishSync_ok (l : Launch) (D : va_G) (cI cN : ClassId) (ad : Nat → Nat) (z : x_S) (s0 : Nat) (hs0 : s0 < 2) (hs : z 0 3 = nI s0) : x_C l y_M_finishSync c_M_finishSync 2 none { frames := 3, cells := 0, slots := 0, locals := 63 } D (x_ty cI cN) (x_w cI cN ad z) [.ref (ad 0)] (none) (x_w cI cN ad (x_fin z s0)) := by
  refine x_C.of (by decide) (Nat.le_of_ble_eq_true rfl) ?_
  intro p e s m below meth c hx hb hr hml hts hown hlk A hA hK hS hP hD ls hl
  have hown : s.vm.findClass R_M = some m.cls := hown
  have hl : lv_has ls 2 [(0, .ref (ad 0))] := hl
  refine lv_aload_n hx hb d_M_finishSync_0 rfl (lv_at hl 0 rfl) ?_
  refine va_get (D := D) (ci := 4) (C := R_M) (T := T_M) (N := 7) hx hb hts in_M hown hK hP 0 x_hM rfl 0 (by decide) (hts _ gm_154) (fun _ h9 => h9) rfl d_M_finishSync_1 ?_
  refine lv_iconst (v := 1) hx hb d_M_finishSync_4 (by decide) ?_
  refine lv_aload_n hx hb d_M_finishSync_5 rfl (lv_at hl 0 rfl) ?_
  refine va_get (D := D) (ci := 4) (C := R_M) (T := T_M) (N := 7) hx hb hts in_M hown hK hP 0 x_hM rfl 6 (by decide) (hts _ gm_160) (fun _ h9 => h9) rfl d_M_finishSync_6 ?_
  refine x_top (show z 0 3 = nI s0 by exact hs) ?_
  refine lv_isub hx hb d_M_finishSync_9 ?_
  refine x_top (x_1k hs0) ?_
  refine va_aldq (D := D) hx hb hK hP 1 1 x_hA rfl (x_in2 (x_1lt hs0)) d_M_finishSync_10 ?_
  refine x_topv (x_nf_at (x_1lt hs0)) ?_
  refine lv_aload_n hx hb d_M_finishSync_11 rfl (lv_at hl 0 rfl) ?_
  refine va_get (D := D) (ci := 4) (C := R_M) (T := T_M) (N := 7) hx hb hts in_M hown hK hP 0 x_hM rfl 0 (by decide) (hts _ gm_154) (fun _ h9 => h9) rfl d_M_finishSync_12 ?_
  refine lv_aload_n hx hb d_M_finishSync_15 rfl (lv_at hl 0 rfl) ?_
  refine va_get (D := D) (ci := 4) (C := R_M) (T := T_M) (N := 7) hx hb hts in_M hown hK hP 0 x_hM rfl 6 (by decide) (hts _ gm_160) (fun _ h9 => h9) rfl d_M_finishSync_16 ?_
  refine x_top (show z 0 3 = nI s0 by exact hs) ?_
  refine va_aldq (D := D) hx hb hK hP 1 1 x_hA rfl (x_in2 hs0) d_M_finishSync_19 ?_
  refine x_topv (x_nf_at hs0) ?_
  refine va_get (D := D) (ci := 2) (C := R_N) (T := T_N) (N := 8) hx hb hts in_N hown hK hP (6 + s0) (x_hN hs0) rfl 3 (by decide) (hts _ gm_96) (fun _ h9 => h9) rfl d_M_finishSync_20 ?_
  refine va_put (D := D) (ci := 2) (v := .int (z (5 + s0) 2)) (ty := .int) (C := R_N) (T := T_N) (N := 8) hx hb hts in_N fy_N fy_N_ok n_N hown hK hP hD hS (6 + (1 - s0)) (x_hN (x_1lt hs0)) rfl 3 (by decide) (hts _ gm_96) (fun _ h9 => h9) rfl (by decide +kernel) rfl rfl (Nat.le_of_ble_eq_true rfl) d_M_finishSync_23 (fun H locs hP hD hS => ?_)
  obtain ⟨z1, ez1⟩ : ∃ zt_ : x_S, zt_ = x_up z (5 + (1 - s0)) 2 (z (5 + s0) 2) := ⟨_, rfl⟩
  have hP : va_P D vwCl (x_w cI cN ad z1) H := by rw [ez1, ← x_sN (i := 2) (x_1lt hs0) (by decide) (z (5 + s0) 2)]; exact hP
  have hD : va_D A (x_w cI cN ad z1) := by rw [ez1, ← x_sN (i := 2) (x_1lt hs0) (by decide) (z (5 + s0) 2)]; exact hD
  refine lv_iconst (v := 0) hx hb d_M_finishSync_26 (by decide) ?_
  refine lv_istore_n (lv' := [(1, .int 0), (0, .ref (ad 0))]) hx hb d_M_finishSync_27 rfl hl (by decide) rfl (fun ls hl => ?_)
  refine lv_iload_n hx hb d_M_finishSync_28 rfl (lv_at hl 0 rfl) ?_
  refine lv_iconst (v := 2) hx hb d_M_finishSync_29 (by decide) ?_
  refine lv_icmp_ge (tgt := 71) hx hb d_M_finishSync_30 (by decide) (fun c2 => ?_) (fun c2 => ?_)
  · exact absurd c2 (by decide)
  · refine lv_aload_n hx hb d_M_finishSync_33 rfl (lv_at hl 1 rfl) ?_
    refine va_get (D := D) (ci := 4) (C := R_M) (T := T_M) (N := 7) hx hb hts in_M hown hK hP 0 x_hM rfl 0 (by decide) (hts _ gm_154) (fun _ h9 => h9) rfl d_M_finishSync_34 ?_
    refine lv_iload_n hx hb d_M_finishSync_37 rfl (lv_at hl 0 rfl) ?_
    refine x_top (show (0 : Int32) = nI 0 from rfl) ?_
    refine va_aldq (D := D) hx hb hK hP 1 1 x_hA rfl (x_in2 (by decide)) d_M_finishSync_38 ?_
    refine x_topv x_nf_0 ?_
    refine va_get (D := D) (ci := 2) (C := R_N) (T := T_N) (N := 8) hx hb hts in_N hown hK hP 6 x_hN0 rfl 0 (by decide) (hts _ gm_90) (fun _ h9 => h9) rfl d_M_finishSync_39 ?_
    refine x_V (rest := []) ⟨hx, hb, hml, hown, hts⟩ (c_D_flush_ok l D cI cN ad z1 0 (by decide)) gm_211 gm_212 gm_213 gm_31 gm_214 ⟨rfl, rfl⟩ hd_D_flush ⟨Nat.le_of_ble_eq_true rfl, Nat.le_of_ble_eq_true rfl⟩ hK hP hD hS hA (va_recv hK hP (ci := 1) (q0 := (8 + 0)) rfl (x_hD (by decide))) rfl hl.1 rfl (Nat.le_of_ble_eq_true rfl) d_M_finishSync_42 ⟨Nat.le_of_ble_eq_true rfl, Nat.le_of_ble_eq_true rfl⟩ (fun H locs hP hD hS => ?_)
    obtain ⟨z3, ez3⟩ : ∃ zt_ : x_S, zt_ = x_flush z1 0 := ⟨_, rfl⟩
    rw [← ez3] at hP hD
    refine lv_aload_n hx hb d_M_finishSync_45 rfl (lv_at hl 1 rfl) ?_
    refine va_get (D := D) (ci := 4) (C := R_M) (T := T_M) (N := 7) hx hb hts in_M hown hK hP 0 x_hM rfl 0 (by decide) (hts _ gm_154) (fun _ h9 => h9) rfl d_M_finishSync_46 ?_
    refine lv_iload_n hx hb d_M_finishSync_49 rfl (lv_at hl 0 rfl) ?_
    refine x_top (show (0 : Int32) = nI 0 from rfl) ?_
    refine va_aldq (D := D) hx hb hK hP 1 1 x_hA rfl (x_in2 (by decide)) d_M_finishSync_50 ?_
    refine x_topv x_nf_0 ?_
    refine lv_iconst (v := 0) hx hb d_M_finishSync_51 (by decide) ?_
    refine va_put (D := D) (ci := 2) (v := .int 0) (ty := .boolean) (C := R_N) (T := T_N) (N := 8) hx hb hts in_N fy_N fy_N_ok n_N hown hK hP hD hS 6 x_hN0 rfl 5 (by decide) (hts _ gm_100) (fun _ h9 => h9) rfl (by decide +kernel) rfl rfl (Nat.le_of_ble_eq_true rfl) d_M_finishSync_52 (fun H locs hP hD hS => ?_)
    obtain ⟨z4, ez4⟩ : ∃ zt_ : x_S, zt_ = x_up z3 5 4 0 := ⟨_, rfl⟩
    have hP : va_P D vwCl (x_w cI cN ad z4) H := by rw [ez4, ← x_sN0 (i := 4) (by decide) 0]; exact hP
    have hD : va_D A (x_w cI cN ad z4) := by rw [ez4, ← x_sN0 (i := 4) (by decide) 0]; exact hD
    refine lv_aload_n hx hb d_M_finishSync_55 rfl (lv_at hl 1 rfl) ?_
    refine va_get (D := D) (ci := 4) (C := R_M) (T := T_M) (N := 7) hx hb hts in_M hown hK hP 0 x_hM rfl 0 (by decide) (hts _ gm_154) (fun _ h9 => h9) rfl d_M_finishSync_56 ?_
    refine lv_iload_n hx hb d_M_finishSync_59 rfl (lv_at hl 0 rfl) ?_
    refine x_top (show (0 : Int32) = nI 0 from rfl) ?_
    refine va_aldq (D := D) hx hb hK hP 1 1 x_hA rfl (x_in2 (by decide)) d_M_finishSync_60 ?_
    refine x_topv x_nf_0 ?_
    refine lv_iconst (v := 0) hx hb d_M_finishSync_61 (by decide) ?_
    refine va_put (D := D) (ci := 2) (v := .int 0) (ty := .int) (C := R_N) (T := T_N) (N := 8) hx hb hts in_N fy_N fy_N_ok n_N hown hK hP hD hS 6 x_hN0 rfl 6 (by decide) (hts _ gm_102) (fun _ h9 => h9) rfl (by decide +kernel) rfl rfl (Nat.le_of_ble_eq_true rfl) d_M_finishSync_62 (fun H locs hP hD hS => ?_)
    obtain ⟨z5, ez5⟩ : ∃ zt_ : x_S, zt_ = x_up z4 5 5 0 := ⟨_, rfl⟩
    have hP : va_P D vwCl (x_w cI cN ad z5) H := by rw [ez5, ← x_sN0 (i := 5) (by decide) 0]; exact hP
    have hD : va_D A (x_w cI cN ad z5) := by rw [ez5, ← x_sN0 (i := 5) (by decide) 0]; exact hD
    refine lv_iinc (v := 1) (lv' := [(1, .int 1), (0, .ref (ad 0))]) hx hb d_M_finishSync_65 hl (k := 0) rfl rfl (by decide) rfl (fun ls hl => ?_)
    refine lv_goto (tgt := 28) hx hb d_M_finishSync_68 (by decide) ?_
    refine lv_iload_n hx hb d_M_finishSync_28 rfl (lv_at hl 0 rfl) ?_
    refine lv_iconst (v := 2) hx hb d_M_finishSync_29 (by decide) ?_
    refine lv_icmp_ge (tgt := 71) hx hb d_M_finishSync_30 (by decide) (fun c6 => ?_) (fun c6 => ?_)
    · exact absurd c6 (by decide)
    · refine lv_aload_n hx hb d_M_finishSync_33 rfl (lv_at hl 1 rfl) ?_
      refine va_get (D := D) (ci := 4) (C := R_M) (T := T_M) (N := 7) hx hb hts in_M hown hK hP 0 x_hM rfl 0 (by decide) (hts _ gm_154) (fun _ h9 => h9) rfl d_M_finishSync_34 ?_
      refine lv_iload_n hx hb d_M_finishSync_37 rfl (lv_at hl 0 rfl) ?_
      refine x_top (show (1 : Int32) = nI 1 from rfl) ?_
      refine va_aldq (D := D) hx hb hK hP 1 1 x_hA rfl (x_in2 (by decide)) d_M_finishSync_38 ?_
      refine x_topv x_nf_1 ?_
      refine va_get (D := D) (ci := 2) (C := R_N) (T := T_N) (N := 8) hx hb hts in_N hown hK hP 7 x_hN1 rfl 0 (by decide) (hts _ gm_90) (fun _ h9 => h9) rfl d_M_finishSync_39 ?_
      refine x_V (rest := []) ⟨hx, hb, hml, hown, hts⟩ (c_D_flush_ok l D cI cN ad z5 1 (by decide)) gm_211 gm_212 gm_213 gm_31 gm_214 ⟨rfl, rfl⟩ hd_D_flush ⟨Nat.le_of_ble_eq_true rfl, Nat.le_of_ble_eq_true rfl⟩ hK hP hD hS hA (va_recv hK hP (ci := 1) (q0 := (8 + 1)) rfl (x_hD (by decide))) rfl hl.1 rfl (Nat.le_of_ble_eq_true rfl) d_M_finishSync_42 ⟨Nat.le_of_ble_eq_true rfl, Nat.le_of_ble_eq_true rfl⟩ (fun H locs hP hD hS => ?_)
      obtain ⟨z7, ez7⟩ : ∃ zt_ : x_S, zt_ = x_flush z5 1 := ⟨_, rfl⟩
      rw [← ez7] at hP hD
      refine lv_aload_n hx hb d_M_finishSync_45 rfl (lv_at hl 1 rfl) ?_
      refine va_get (D := D) (ci := 4) (C := R_M) (T := T_M) (N := 7) hx hb hts in_M hown hK hP 0 x_hM rfl 0 (by decide) (hts _ gm_154) (fun _ h9 => h9) rfl d_M_finishSync_46 ?_
      refine lv_iload_n hx hb d_M_finishSync_49 rfl (lv_at hl 0 rfl) ?_
      refine x_top (show (1 : Int32) = nI 1 from rfl) ?_
      refine va_aldq (D := D) hx hb hK hP 1 1 x_hA rfl (x_in2 (by decide)) d_M_finishSync_50 ?_
      refine x_topv x_nf_1 ?_
      refine lv_iconst (v := 0) hx hb d_M_finishSync_51 (by decide) ?_
      refine va_put (D := D) (ci := 2) (v := .int 0) (ty := .boolean) (C := R_N) (T := T_N) (N := 8) hx hb hts in_N fy_N fy_N_ok n_N hown hK hP hD hS 7 x_hN1 rfl 5 (by decide) (hts _ gm_100) (fun _ h9 => h9) rfl (by decide +kernel) rfl rfl (Nat.le_of_ble_eq_true rfl) d_M_finishSync_52 (fun H locs hP hD hS => ?_)
      obtain ⟨z8, ez8⟩ : ∃ zt_ : x_S, zt_ = x_up z7 6 4 0 := ⟨_, rfl⟩
      have hP : va_P D vwCl (x_w cI cN ad z8) H := by rw [ez8, ← x_sN1 (i := 4) (by decide) 0]; exact hP
      have hD : va_D A (x_w cI cN ad z8) := by rw [ez8, ← x_sN1 (i := 4) (by decide) 0]; exact hD
      refine lv_aload_n hx hb d_M_finishSync_55 rfl (lv_at hl 1 rfl) ?_
      refine va_get (D := D) (ci := 4) (C := R_M) (T := T_M) (N := 7) hx hb hts in_M hown hK hP 0 x_hM rfl 0 (by decide) (hts _ gm_154) (fun _ h9 => h9) rfl d_M_finishSync_56 ?_
      refine lv_iload_n hx hb d_M_finishSync_59 rfl (lv_at hl 0 rfl) ?_
      refine x_top (show (1 : Int32) = nI 1 from rfl) ?_
      refine va_aldq (D := D) hx hb hK hP 1 1 x_hA rfl (x_in2 (by decide)) d_M_finishSync_60 ?_
      refine x_topv x_nf_1 ?_
      refine lv_iconst (v := 0) hx hb d_M_finishSync_61 (by decide) ?_
      refine va_put (D := D) (ci := 2) (v := .int 0) (ty := .int) (C := R_N) (T := T_N) (N := 8) hx hb hts in_N fy_N fy_N_ok n_N hown hK hP hD hS 7 x_hN1 rfl 6 (by decide) (hts _ gm_102) (fun _ h9 => h9) rfl (by decide +kernel) rfl rfl (Nat.le_of_ble_eq_true rfl) d_M_finishSync_62 (fun H locs hP hD hS => ?_)
      obtain ⟨z9, ez9⟩ : ∃ zt_ : x_S, zt_ = x_up z8 6 5 0 := ⟨_, rfl⟩
      have hP : va_P D vwCl (x_w cI cN ad z9) H := by rw [ez9, ← x_sN1 (i := 5) (by decide) 0]; exact hP
      have hD : va_D A (x_w cI cN ad z9) := by rw [ez9, ← x_sN1 (i := 5) (by decide) 0]; exact hD
      refine lv_iinc (v := 2) (lv' := [(1, .int 2), (0, .ref (ad 0))]) hx hb d_M_finishSync_65 hl (k := 0) rfl rfl (by decide) rfl (fun ls hl => ?_)
      refine lv_goto (tgt := 28) hx hb d_M_finishSync_68 (by decide) ?_
      refine lv_iload_n hx hb d_M_finishSync_28 rfl (lv_at hl 0 rfl) ?_
      refine lv_iconst (v := 2) hx hb d_M_finishSync_29 (by decide) ?_
      refine lv_icmp_ge (tgt := 71) hx hb d_M_finishSync_30 (by decide) (fun c10 => ?_) (fun c10 => ?_)
      · refine lv_aload_n hx hb d_M_finishSync_71 rfl (lv_at hl 1 rfl) ?_
        refine lv_iconst (v := 0) hx hb d_M_finishSync_72 (by decide) ?_
        refine va_put (D := D) (ci := 4) (v := .int 0) (ty := .boolean) (C := R_M) (T := T_M) (N := 7) hx hb hts in_M fy_M fy_M_ok n_M hown hK hP hD hS 0 x_hM rfl 5 (by decide) (hts _ gm_159) (fun _ h9 => h9) rfl (by decide +kernel) rfl rfl (Nat.le_of_ble_eq_true rfl) d_M_finishSync_73 (fun H locs hP hD hS => ?_)
        obtain ⟨z11, ez11⟩ : ∃ zt_ : x_S, zt_ = x_up z9 0 2 0 := ⟨_, rfl⟩
        have hP : va_P D vwCl (x_w cI cN ad z11) H := by rw [ez11, ← x_sM (i := 2) (by decide) 0]; exact hP
        have hD : va_D A (x_w cI cN ad z11) := by rw [ez11, ← x_sM (i := 2) (by decide) 0]; exact hD
        exact x_rv (w := x_w cI cN ad) (by subst ez1 ez3 ez4 ez5 ez7 ez8 ez9 ez11; first | (simp only [x_fin]; done) | rfl | (simp only [x_fin]; rfl)) hx hb hr hlk hP hD hS d_M_finishSync_76
      · exact (c10 (by decide)).elim
set_option maxHeartbeats 4000000 in
set_option maxRecDepth 100000 in
theorem c_M_copyExtent_ok (l : Launch) (D : va_G) (cI cN : ClassId) (ad : Nat → Nat) (z : x_S) (s0 : Nat) (hs0 : s0 < 2) (hs : z 0 3 = nI s0) (e0 : Nat) (he0 : e0 < 8) : x_C l y_M_copyExtent c_M_copyExtent 6 none { frames := 2, cells := 0, slots := 0, locals := 42 } D (x_ty cI cN) (x_w cI cN ad z) [.ref (ad 0), .int (nI e0)] (none) (x_w cI cN ad (x_cp z s0 e0)) := by
  refine x_C.of (by decide) (Nat.le_of_ble_eq_true rfl) ?_
  intro p e s m below meth c hx hb hr hml hts hown hlk A hA hK hS hP hD ls hl
  have hown : s.vm.findClass R_M = some m.cls := hown
  have hl : lv_has ls 6 [(0, .ref (ad 0)), (1, .int (nI e0))] := hl
  have lp : ∀ (n i : Nat) (y : x_S) (H : Heap) (locs : List Loc) (ls : Array Slot), i + n = e0 * 4 + 4 → x_cp z s0 e0 = x_cpL s0 n i y → va_P D vwCl (x_w cI cN ad y) H → va_D A (x_w cI cN ad y) → va_S A s.heap H locs → lv_has ls 6 [(5, .int (nI i)), (4, .int (nI (e0 * 4))), (3, .ref (ad (8 + (1 - s0)))), (2, .ref (ad (8 + s0))), (0, .ref (ad 0)), (1, .int (nI e0))] → W p l e { frames := 2, cells := 0, slots := 0, locals := 42 } s m [.ref (ad 0), .int (nI e0)].toArray below meth c H locs 0 0 (MQ below (x_Q (none) D (x_w cI cN ad (x_cp z s0 e0)) A) [.ref (ad 0), .int (nI e0)].toArray s 0 0 A) (F0 m 37 ls []) := by
    intro n
    induction n with
    | zero =>
      intro i y  H locs ls hn hI hP hD hS hl
      refine lv_iload hx hb d_M_copyExtent_37 (lv_at hl 0 rfl) ?_
      refine lv_iload hx hb d_M_copyExtent_39 (lv_at hl 1 rfl) ?_
      refine lv_iconst (v := 4) hx hb d_M_copyExtent_41 (by decide) ?_
      refine lv_iadd hx hb d_M_copyExtent_42 ?_
      refine x_top (show (nI (e0 * 4)) + 4 = nI (e0 * 4 + 4) from x_nadd (e0 * 4) 4) ?_
      refine lv_icmp_ge (tgt := 64) hx hb d_M_copyExtent_43 (by decide) (fun c1 => ?_) (fun c1 => ?_)
      · have c1 : (e0 * 4 + 4) ≤ i := (nI_leI (a := e0 * 4 + 4) (b := i) (by omega) (by omega)).mp c1
        exact x_rv (w := x_w cI cN ad) (by rw [hI]; rfl) hx hb hr hlk hP hD hS d_M_copyExtent_64
      · have c1 : ¬ (e0 * 4 + 4) ≤ i := fun h => c1 ((nI_leI (a := e0 * 4 + 4) (b := i) (by omega) (by omega)).mpr h)
        exact absurd (show e0 * 4 + 4 ≤ i by omega) c1
    | succ n ih =>
      intro i y  H locs ls hn hI hP hD hS hl
      have hi : i < 32 := by omega
      refine lv_iload hx hb d_M_copyExtent_37 (lv_at hl 0 rfl) ?_
      refine lv_iload hx hb d_M_copyExtent_39 (lv_at hl 1 rfl) ?_
      refine lv_iconst (v := 4) hx hb d_M_copyExtent_41 (by decide) ?_
      refine lv_iadd hx hb d_M_copyExtent_42 ?_
      refine x_top (show (nI (e0 * 4)) + 4 = nI (e0 * 4 + 4) from x_nadd (e0 * 4) 4) ?_
      refine lv_icmp_ge (tgt := 64) hx hb d_M_copyExtent_43 (by decide) (fun c2 => ?_) (fun c2 => ?_)
      · have c2 : (e0 * 4 + 4) ≤ i := (nI_leI (a := e0 * 4 + 4) (b := i) (by omega) (by omega)).mp c2
        exact absurd c2 (by omega)
      · have c2 : ¬ (e0 * 4 + 4) ≤ i := fun h => c2 ((nI_leI (a := e0 * 4 + 4) (b := i) (by omega) (by omega)).mpr h)
        refine lv_aload_n hx hb d_M_copyExtent_46 rfl (lv_at hl 2 rfl) ?_
        refine lv_iload hx hb d_M_copyExtent_47 (lv_at hl 0 rfl) ?_
        refine lv_aload_n hx hb d_M_copyExtent_49 rfl (lv_at hl 3 rfl) ?_
        refine lv_iload hx hb d_M_copyExtent_50 (lv_at hl 0 rfl) ?_
        refine x_V (rest := [.int (nI i), .ref (ad (8 + (1 - s0)))]) ⟨hx, hb, hml, hown, hts⟩ (c_D_held_ok l D cI cN ad y s0 hs0 i hi) gm_253 gm_254 gm_255 gm_31 gm_256 ⟨rfl, rfl⟩ hd_D_held ⟨Nat.le_of_ble_eq_true rfl, Nat.le_of_ble_eq_true rfl⟩ hK hP hD hS hA (va_recv hK hP (ci := 1) (q0 := (8 + s0)) rfl (x_hD hs0)) rfl hl.1 rfl (Nat.le_of_ble_eq_true rfl) d_M_copyExtent_52 ⟨Nat.le_of_ble_eq_true rfl, Nat.le_of_ble_eq_true rfl⟩ (fun H locs hP hD hS => ?_)
        refine lv_topi (fun r3 er3 => ?_)
        refine x_V (rest := []) ⟨hx, hb, hml, hown, hts⟩ (c_D_put_ok l D cI cN ad y (1 - s0) (x_1lt hs0) i hi r3) gm_227 gm_228 gm_229 gm_31 gm_230 ⟨rfl, rfl⟩ hd_D_put ⟨Nat.le_of_ble_eq_true rfl, Nat.le_of_ble_eq_true rfl⟩ hK hP hD hS hA (va_recv hK hP (ci := 1) (q0 := (8 + (1 - s0))) rfl (x_hD (x_1lt hs0))) rfl hl.1 rfl (Nat.le_of_ble_eq_true rfl) d_M_copyExtent_55 ⟨Nat.le_of_ble_eq_true rfl, Nat.le_of_ble_eq_true rfl⟩ (fun H locs hP hD hS => ?_)
        obtain ⟨z4, ez4⟩ : ∃ zt_ : x_S, zt_ = x_put y (1 - s0) i r3 := ⟨_, rfl⟩
        rw [← ez4] at hP hD
        refine lv_iinc (v := nI (i + 1)) (lv' := [(5, .int (nI (i + 1))), (4, .int (nI (e0 * 4))), (3, .ref (ad (8 + (1 - s0)))), (2, .ref (ad (8 + s0))), (0, .ref (ad 0)), (1, .int (nI e0))]) hx hb d_M_copyExtent_58 hl (k := 0) rfl (nI_1 _) (by decide) rfl (fun ls hl => ?_)
        refine lv_goto (tgt := 37) hx hb d_M_copyExtent_61 (by decide) ?_
        exact ih (i + 1) z4 H locs ls (by omega) (by subst er3 ez4; rw [hI]; simp only [x_cpL]) hP hD hS (lv_sub hl [0, 1, 2, 3, 4, 5] rfl)
  refine lv_aload_n hx hb d_M_copyExtent_0 rfl (lv_at hl 0 rfl) ?_
  refine va_get (D := D) (ci := 4) (C := R_M) (T := T_M) (N := 7) hx hb hts in_M hown hK hP 0 x_hM rfl 0 (by decide) (hts _ gm_154) (fun _ h9 => h9) rfl d_M_copyExtent_1 ?_
  refine lv_aload_n hx hb d_M_copyExtent_4 rfl (lv_at hl 0 rfl) ?_
  refine va_get (D := D) (ci := 4) (C := R_M) (T := T_M) (N := 7) hx hb hts in_M hown hK hP 0 x_hM rfl 6 (by decide) (hts _ gm_160) (fun _ h9 => h9) rfl d_M_copyExtent_5 ?_
  refine x_top (show z 0 3 = nI s0 by exact hs) ?_
  refine va_aldq (D := D) hx hb hK hP 1 1 x_hA rfl (x_in2 hs0) d_M_copyExtent_8 ?_
  refine x_topv (x_nf_at hs0) ?_
  refine va_get (D := D) (ci := 2) (C := R_N) (T := T_N) (N := 8) hx hb hts in_N hown hK hP (6 + s0) (x_hN hs0) rfl 0 (by decide) (hts _ gm_90) (fun _ h9 => h9) rfl d_M_copyExtent_9 ?_
  refine lv_astore_n (lv' := [(2, .ref (ad (8 + s0))), (0, .ref (ad 0)), (1, .int (nI e0))]) hx hb d_M_copyExtent_12 rfl hl (by decide) rfl (fun ls hl => ?_)
  refine lv_aload_n hx hb d_M_copyExtent_13 rfl (lv_at hl 1 rfl) ?_
  refine va_get (D := D) (ci := 4) (C := R_M) (T := T_M) (N := 7) hx hb hts in_M hown hK hP 0 x_hM rfl 0 (by decide) (hts _ gm_154) (fun _ h9 => h9) rfl d_M_copyExtent_14 ?_
  refine lv_iconst (v := 1) hx hb d_M_copyExtent_17 (by decide) ?_
  refine lv_aload_n hx hb d_M_copyExtent_18 rfl (lv_at hl 1 rfl) ?_
  refine va_get (D := D) (ci := 4) (C := R_M) (T := T_M) (N := 7) hx hb hts in_M hown hK hP 0 x_hM rfl 6 (by decide) (hts _ gm_160) (fun _ h9 => h9) rfl d_M_copyExtent_19 ?_
  refine x_top (show z 0 3 = nI s0 by exact hs) ?_
  refine lv_isub hx hb d_M_copyExtent_22 ?_
  refine x_top (x_1k hs0) ?_
  refine va_aldq (D := D) hx hb hK hP 1 1 x_hA rfl (x_in2 (x_1lt hs0)) d_M_copyExtent_23 ?_
  refine x_topv (x_nf_at (x_1lt hs0)) ?_
  refine va_get (D := D) (ci := 2) (C := R_N) (T := T_N) (N := 8) hx hb hts in_N hown hK hP (6 + (1 - s0)) (x_hN (x_1lt hs0)) rfl 0 (by decide) (hts _ gm_90) (fun _ h9 => h9) rfl d_M_copyExtent_24 ?_
  refine lv_astore_n (lv' := [(3, .ref (ad (8 + (1 - s0)))), (2, .ref (ad (8 + s0))), (0, .ref (ad 0)), (1, .int (nI e0))]) hx hb d_M_copyExtent_27 rfl hl (by decide) rfl (fun ls hl => ?_)
  refine lv_iload_n hx hb d_M_copyExtent_28 rfl (lv_at hl 3 rfl) ?_
  refine lv_iconst (v := 4) hx hb d_M_copyExtent_29 (by decide) ?_
  refine lv_imul hx hb d_M_copyExtent_30 ?_
  refine x_top (show (nI e0) * 4 = nI (e0 * 4) from x_nmul e0 4) ?_
  refine lv_istore (lv' := [(4, .int (nI (e0 * 4))), (3, .ref (ad (8 + (1 - s0)))), (2, .ref (ad (8 + s0))), (0, .ref (ad 0)), (1, .int (nI e0))]) hx hb d_M_copyExtent_31 hl (by decide) rfl (fun ls hl => ?_)
  refine lv_iload hx hb d_M_copyExtent_33 (lv_at hl 0 rfl) ?_
  refine lv_istore (lv' := [(5, .int (nI (e0 * 4))), (4, .int (nI (e0 * 4))), (3, .ref (ad (8 + (1 - s0)))), (2, .ref (ad (8 + s0))), (0, .ref (ad 0)), (1, .int (nI e0))]) hx hb d_M_copyExtent_35 hl (by decide) rfl (fun ls hl => ?_)
  exact lp 4 (e0 * 4) z _ _ ls (by omega) rfl hP hD hS (lv_sub hl [0, 1, 2, 3, 4, 5] rfl)
