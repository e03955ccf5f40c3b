-- ===== 24.k2b: the reference: public calls
set_option maxHeartbeats 4000000 in
set_option maxRecDepth 100000 in
theorem c_K_swap_ok (l : Launch) (D : va_G) (cI cZ : ClassId) (kd : Nat → Nat) (z : x_S) (a : Int32) : x_C l y_K_swap c_K_swap 3 (some .int) { frames := 1, cells := 0, slots := 0, locals := 22 } D (k_ty cI cZ) (k_w cI cZ kd z) [.ref (kd 0), .int a] (some (.int (k_swap z a).1)) (k_w cI cZ kd (k_swap z a).2) := by
  refine x_C.of (by decide) (Nat.le_of_ble_eq_true rfl) ?_
  intro p e s m below meth c hx hb hr hml hts hown hlk A hA hK hS hP hD ls hl
  have hown : s.vm.findClass R_K = some m.cls := hown
  have hl : lv_has ls 3 [(0, .ref (kd 0)), (1, .int a)] := hl
  have lpo : ∀ (k : Nat) (hk : k < 2), a = nI k → k_swap z a = (0, k_swT (k_swL k 32 0 z) k) → ∀ (H : Heap) (locs : List Loc) (ls : Array Slot), va_P D vwCl (k_w cI cZ kd z) H → va_D A (k_w cI cZ kd z) → va_S A s.heap H locs → lv_has ls 3 [(2, .int (nI 0)), (0, .ref (kd 0)), (1, .int (nI k))] → W p l e { frames := 1, cells := 0, slots := 0, locals := 22 } s m [.ref (kd 0), .int a].toArray below meth c H locs 0 0 (MQ below (x_Q (some (.int (k_swap z a).1)) D (k_w cI cZ kd (k_swap z a).2) A) [.ref (kd 0), .int a].toArray s 0 0 A) (F0 m 22 ls []) := by
    intro k hk ek hG
    have lp : ∀ (n i : Nat) (y : x_S) (H : Heap) (locs : List Loc) (ls : Array Slot), i + n = 32 → k_swap z a = (0, k_swT (k_swL k n i y) k) → va_P D vwCl (k_w cI cZ kd y) H → va_D A (k_w cI cZ kd y) → va_S A s.heap H locs → lv_has ls 3 [(2, .int (nI i)), (0, .ref (kd 0)), (1, .int (nI k))] → W p l e { frames := 1, cells := 0, slots := 0, locals := 22 } s m [.ref (kd 0), .int a].toArray below meth c H locs 0 0 (MQ below (x_Q (some (.int (k_swap z a).1)) D (k_w cI cZ kd (k_swap z a).2) A) [.ref (kd 0), .int a].toArray s 0 0 A) (F0 m 22 ls []) := by
      intro n
      induction n with
      | zero =>
        intro i y  H locs ls hn hI hP hD hS hl
        refine lv_iload_n hx hb d_K_swap_22 rfl (lv_at hl 0 rfl) ?_
        refine lv_bipush (v := 32) hx hb d_K_swap_23 (by decide) ?_
        refine lv_icmp_ge (tgt := 58) hx hb d_K_swap_25 (by decide) (fun c1 => ?_) (fun c1 => ?_)
        · refine lv_aload_n hx hb d_K_swap_58 rfl (lv_at hl 1 rfl) ?_
          refine va_get (D := D) (ci := 5) (C := R_K) (T := T_K) (N := 21) hx hb hts in_K hown hK hP 0 k_h0 rfl 7 (by decide) (hts _ gm_407) (fun _ h9 => h9) rfl d_K_swap_59 ?_
          refine lv_iload_n hx hb d_K_swap_62 rfl (lv_at hl 2 rfl) ?_
          refine lv_iconst (v := 0) hx hb d_K_swap_63 (by decide) ?_
          refine va_iast (D := D) hx hb hK hP hD hS 7 0 k_h7 rfl (x_in2 (k := k) hk) d_K_swap_64 (fun H locs hP hD hS => ?_)
          obtain ⟨z2, ez2⟩ : ∃ zt_ : x_S, zt_ = x_up y (5 + k) 2 0 := ⟨_, rfl⟩
          rw [x_cl (k := k) hk] at hP hD
          have hP : va_P D vwCl (k_w cI cZ kd z2) H := by rw [ez2]; exact (k_s7 (k := k) hk 0) ▸ hP
          have hD : va_D A (k_w cI cZ kd z2) := by rw [ez2]; exact (k_s7 (k := k) hk 0) ▸ hD
          refine lv_aload_n hx hb d_K_swap_65 rfl (lv_at hl 1 rfl) ?_
          refine va_get (D := D) (ci := 5) (C := R_K) (T := T_K) (N := 21) hx hb hts in_K hown hK hP 0 k_h0 rfl 8 (by decide) (hts _ gm_408) (fun _ h9 => h9) rfl d_K_swap_66 ?_
          refine lv_iload_n hx hb d_K_swap_69 rfl (lv_at hl 2 rfl) ?_
          refine lv_iconst (v := 0) hx hb d_K_swap_70 (by decide) ?_
          refine va_iast (D := D) hx hb hK hP hD hS 8 0 k_h8 rfl (x_in2 (k := k) hk) d_K_swap_71 (fun H locs hP hD hS => ?_)
          obtain ⟨z3, ez3⟩ : ∃ zt_ : x_S, zt_ = x_up z2 (5 + k) 3 0 := ⟨_, rfl⟩
          rw [x_cl (k := k) hk] at hP hD
          have hP : va_P D vwCl (k_w cI cZ kd z3) H := by rw [ez3]; exact (k_s8 (k := k) hk 0) ▸ hP
          have hD : va_D A (k_w cI cZ kd z3) := by rw [ez3]; exact (k_s8 (k := k) hk 0) ▸ hD
          refine lv_aload_n hx hb d_K_swap_72 rfl (lv_at hl 1 rfl) ?_
          refine va_get (D := D) (ci := 5) (C := R_K) (T := T_K) (N := 21) hx hb hts in_K hown hK hP 0 k_h0 rfl 5 (by decide) (hts _ gm_405) (fun _ h9 => h9) rfl d_K_swap_73 ?_
          refine lv_iload_n hx hb d_K_swap_76 rfl (lv_at hl 2 rfl) ?_
          refine lv_iconst (v := 0) hx hb d_K_swap_77 (by decide) ?_
          refine va_zast (D := D) hx hb hK hP hD hS 5 1 k_h5 rfl (x_in2 (k := k) hk) d_K_swap_78 (fun H locs hP hD hS => ?_)
          obtain ⟨z4, ez4⟩ : ∃ zt_ : x_S, zt_ = x_up z3 (5 + k) 4 0 := ⟨_, rfl⟩
          rw [x_cl (k := k) hk] at hP hD
          have hP : va_P D vwCl (k_w cI cZ kd z4) H := by rw [ez4]; exact (k_s5 (k := k) hk 0) ▸ hP
          have hD : va_D A (k_w cI cZ kd z4) := by rw [ez4]; exact (k_s5 (k := k) hk 0) ▸ hD
          refine lv_aload_n hx hb d_K_swap_79 rfl (lv_at hl 1 rfl) ?_
          refine va_get (D := D) (ci := 5) (C := R_K) (T := T_K) (N := 21) hx hb hts in_K hown hK hP 0 k_h0 rfl 9 (by decide) (hts _ gm_409) (fun _ h9 => h9) rfl d_K_swap_80 ?_
          refine lv_iload_n hx hb d_K_swap_83 rfl (lv_at hl 2 rfl) ?_
          refine lv_iconst (v := 0) hx hb d_K_swap_84 (by decide) ?_
          refine va_iast (D := D) hx hb hK hP hD hS 9 0 k_h9 rfl (x_in2 (k := k) hk) d_K_swap_85 (fun H locs hP hD hS => ?_)
          obtain ⟨z5, ez5⟩ : ∃ zt_ : x_S, zt_ = x_up z4 (5 + k) 5 0 := ⟨_, rfl⟩
          rw [x_cl (k := k) hk] at hP hD
          have hP : va_P D vwCl (k_w cI cZ kd z5) H := by rw [ez5]; exact (k_s9 (k := k) hk 0) ▸ hP
          have hD : va_D A (k_w cI cZ kd z5) := by rw [ez5]; exact (k_s9 (k := k) hk 0) ▸ hD
          refine lv_iconst (v := 0) hx hb d_K_swap_86 (by decide) ?_
          exact x_ri (w := k_w cI cZ kd) (by subst ez2 ez3 ez4 ez5; rw [hI]; simp only [k_swL]; simp only [k_swT]) hx hb hr hlk hP hD hS d_K_swap_87
        · exact absurd (show (32 : Int32) ≤ nI i from nI_le (a := 32) (by omega) (by omega)) c1
      | succ n ih =>
        intro i y  H locs ls hn hI hP hD hS hl
        have hi : i < 32 := by omega
        refine lv_iload_n hx hb d_K_swap_22 rfl (lv_at hl 0 rfl) ?_
        refine lv_bipush (v := 32) hx hb d_K_swap_23 (by decide) ?_
        refine lv_icmp_ge (tgt := 58) hx hb d_K_swap_25 (by decide) (fun c6 => ?_) (fun c6 => ?_)
        · exact absurd c6 (show ¬ (32 : Int32) ≤ nI i from nI_ge (b := 32) (by omega) (by decide))
        · refine lv_aload_n hx hb d_K_swap_28 rfl (lv_at hl 1 rfl) ?_
          refine va_get (D := D) (ci := 5) (C := R_K) (T := T_K) (N := 21) hx hb hts in_K hown hK hP 0 k_h0 rfl 1 (by decide) (hts _ gm_401) (fun _ h9 => h9) rfl d_K_swap_29 ?_
          refine lv_iload_n hx hb d_K_swap_32 rfl (lv_at hl 2 rfl) ?_
          refine lv_bipush (v := 32) hx hb d_K_swap_33 (by decide) ?_
          refine lv_imul hx hb d_K_swap_35 ?_
          refine lv_iload_n hx hb d_K_swap_36 rfl (lv_at hl 0 rfl) ?_
          refine lv_iadd hx hb d_K_swap_37 ?_
          refine x_top (show ((nI k) * 32) + (nI i) = nI (32 * k + i) from k_ix) ?_
          refine lv_iconst (v := 0) hx hb d_K_swap_38 (by decide) ?_
          refine va_iast (D := D) hx hb hK hP hD hS 1 0 k_h1 rfl (k_in64 hk hi) d_K_swap_39 (fun H locs hP hD hS => ?_)
          obtain ⟨z7, ez7⟩ : ∃ zt_ : x_S, zt_ = x_up y (7 + k) i 0 := ⟨_, rfl⟩
          rw [k_cl64 hk hi] at hP hD
          have hP : va_P D vwCl (k_w cI cZ kd z7) H := by rw [ez7]; exact (k_s1 hk hi 0) ▸ hP
          have hD : va_D A (k_w cI cZ kd z7) := by rw [ez7]; exact (k_s1 hk hi 0) ▸ hD
          refine lv_aload_n hx hb d_K_swap_40 rfl (lv_at hl 1 rfl) ?_
          refine va_get (D := D) (ci := 5) (C := R_K) (T := T_K) (N := 21) hx hb hts in_K hown hK hP 0 k_h0 rfl 3 (by decide) (hts _ gm_403) (fun _ h9 => h9) rfl d_K_swap_41 ?_
          refine lv_iload_n hx hb d_K_swap_44 rfl (lv_at hl 2 rfl) ?_
          refine lv_bipush (v := 32) hx hb d_K_swap_45 (by decide) ?_
          refine lv_imul hx hb d_K_swap_47 ?_
          refine lv_iload_n hx hb d_K_swap_48 rfl (lv_at hl 0 rfl) ?_
          refine lv_iadd hx hb d_K_swap_49 ?_
          refine x_top (show ((nI k) * 32) + (nI i) = nI (32 * k + i) from k_ix) ?_
          refine lv_iconst (v := 0) hx hb d_K_swap_50 (by decide) ?_
          refine va_zast (D := D) hx hb hK hP hD hS 3 1 k_h3 rfl (k_in64 hk hi) d_K_swap_51 (fun H locs hP hD hS => ?_)
          obtain ⟨z8, ez8⟩ : ∃ zt_ : x_S, zt_ = x_up z7 (11 + k) i 0 := ⟨_, rfl⟩
          rw [k_cl64 hk hi] at hP hD
          have hP : va_P D vwCl (k_w cI cZ kd z8) H := by rw [ez8]; exact (k_s3 hk hi 0) ▸ hP
          have hD : va_D A (k_w cI cZ kd z8) := by rw [ez8]; exact (k_s3 hk hi 0) ▸ hD
          refine lv_iinc (v := nI (i + 1)) (lv' := [(2, .int (nI (i + 1))), (0, .ref (kd 0)), (1, .int (nI k))]) hx hb d_K_swap_52 hl (k := 0) rfl (nI_1 _) (by decide) rfl (fun ls hl => ?_)
          refine lv_goto (tgt := 22) hx hb d_K_swap_55 (by decide) ?_
          exact ih (i + 1) z8 H locs ls (by omega) (by subst ez7 ez8; rw [hI]; rfl) hP hD hS (lv_sub hl [0, 1, 2] rfl)
    intro H locs ls hP hD hS hl
    exact lp 32 0 z H locs ls rfl hG hP hD hS hl
  refine lv_aload_n hx hb d_K_swap_0 rfl (lv_at hl 0 rfl) ?_
  refine lv_iload_n hx hb d_K_swap_1 rfl (lv_at hl 1 rfl) ?_
  refine lv_iconst (v := 2) hx hb d_K_swap_2 (by decide) ?_
  refine x_V (rest := []) ⟨hx, hb, hml, hown, hts⟩ (c_K_out_ok l D cI cZ kd z a 2) gm_469 gm_471 gm_15 gm_34 gm_472 ⟨rfl, rfl⟩ hd_K_out ⟨Nat.le_of_ble_eq_true rfl, Nat.le_of_ble_eq_true rfl⟩ hK hP hD hS hA (va_recv hK hP (ci := 5) (q0 := 0) rfl k_h0) rfl hl.1 rfl (Nat.le_of_ble_eq_true rfl) d_K_swap_3 ⟨Nat.le_of_ble_eq_true rfl, Nat.le_of_ble_eq_true rfl⟩ (fun H locs hP hD hS => ?_)
  refine lv_topi (fun r9 er9 => ?_)
  refine lv_if_ne (tgt := 18) hx hb d_K_swap_6 (by decide) (fun c10 => ?_) (fun c10 => ?_)
  · refine lv_iconst (v := (-1)) hx hb d_K_swap_18 (by decide) ?_
    exact x_ri (w := k_w cI cZ kd) (by subst er9; first | (simp only [k_swap, if_neg c10]; done) | (with_reducible rfl) | (simp only [k_swap, if_neg c10]; with_reducible rfl)) hx hb hr hlk hP hD hS d_K_swap_19
  · obtain ⟨k, hk, ek⟩ := k_out2 (v := a) (by rw [← er9]; exact c10)
    subst ek
    refine lv_aload_n hx hb d_K_swap_9 rfl (lv_at hl 0 rfl) ?_
    refine va_get (D := D) (ci := 5) (C := R_K) (T := T_K) (N := 21) hx hb hts in_K hown hK hP 0 k_h0 rfl 4 (by decide) (hts _ gm_404) (fun _ h9 => h9) rfl d_K_swap_10 ?_
    refine lv_iload_n hx hb d_K_swap_13 rfl (lv_at hl 1 rfl) ?_
    refine va_zald (D := D) hx hb hK hP 4 1 k_h4 rfl (x_in2 hk) d_K_swap_14 ?_
    refine x_top (k_col_at hk) ?_
    refine lv_if_ne (tgt := 20) hx hb d_K_swap_15 (by decide) (fun c11 => ?_) (fun c11 => ?_)
    · refine lv_iconst (v := 0) hx hb d_K_swap_20 (by decide) ?_
      refine lv_istore_n (lv' := [(2, .int 0), (0, .ref (kd 0)), (1, .int (nI k))]) hx hb d_K_swap_21 rfl hl (by decide) rfl (fun ls hl => ?_)
      exact lpo k hk rfl (by subst er9; simp only [k_swap, if_pos c10, if_neg c11, x_cl hk]) _ _ ls hP hD hS (lv_sub hl [0, 1, 2] rfl)
    · refine lv_iconst (v := (-1)) hx hb d_K_swap_18 (by decide) ?_
      exact x_ri (w := k_w cI cZ kd) (by subst er9; first | (simp only [k_swap, if_pos c10, if_pos c11, x_cl hk]; done) | (with_reducible rfl) | (simp only [k_swap, if_pos c10, if_pos c11, x_cl hk]; with_reducible rfl)) hx hb hr hlk hP hD hS d_K_swap_19
set_option maxHeartbeats 4000000 in
set_option maxRecDepth 100000 in
theorem c_K_line_ok (l : Launch) (D : va_G) (cI cZ : ClassId) (kd : Nat → Nat) (z : x_S) (u : Int32) (hu : u = 0 ∨ u = 1) : x_C l y_K_line c_K_line 2 (some .int) { frames := 1, cells := 0, slots := 0, locals := 20 } D (k_ty cI cZ) (k_w cI cZ kd z) [.ref (kd 0), .int u] (some (.int (k_line z u).1)) (k_w cI cZ kd (k_line z u).2) := by
  refine x_C.of (by decide) (Nat.le_of_ble_eq_true rfl) ?_
  intro p e s m below meth c hx hb hr hml hts hown hlk A hA hK hS hP hD ls hl
  have hown : s.vm.findClass R_K = some m.cls := hown
  have hl : lv_has ls 2 [(0, .ref (kd 0)), (1, .int u)] := hl
  refine lv_aload_n hx hb d_K_line_0 rfl (lv_at hl 0 rfl) ?_
  refine lv_iload_n hx hb d_K_line_1 rfl (lv_at hl 1 rfl) ?_
  refine va_put (D := D) (ci := 5) (v := .int u) (ty := .boolean) (C := R_K) (T := T_K) (N := 21) hx hb hts in_K fy_K fy_K_ok n_K hown hK hP hD hS 0 k_h0 rfl 14 (by decide) (hts _ gm_414) (fun _ h9 => h9) rfl (by decide +kernel) (x_nb hu) (x_fb hu) (Nat.le_of_ble_eq_true rfl) d_K_line_2 (fun H locs hP hD hS => ?_)
  obtain ⟨z1, ez1⟩ : ∃ zt_ : x_S, zt_ = x_up z 0 0 u := ⟨_, rfl⟩
  have hP : va_P D vwCl (k_w cI cZ kd z1) H := by rw [ez1]; exact (k_s0_14 u) ▸ hP
  have hD : va_D A (k_w cI cZ kd z1) := by rw [ez1]; exact (k_s0_14 u) ▸ hD
  refine lv_iload_n hx hb d_K_line_5 rfl (lv_at hl 1 rfl) ?_
  refine lv_if_ne (tgt := 13) hx hb d_K_line_6 (by decide) (fun c2 => ?_) (fun c2 => ?_)
  · refine lv_iconst (v := 0) hx hb d_K_line_13 (by decide) ?_
    exact x_ri (w := k_w cI cZ kd) (by subst ez1; first | (simp only [k_line, if_neg c2]; done) | (with_reducible rfl) | (simp only [k_line, if_neg c2]; with_reducible rfl)) hx hb hr hlk hP hD hS d_K_line_14
  · refine lv_aload_n hx hb d_K_line_9 rfl (lv_at hl 0 rfl) ?_
    refine x_V (rest := []) ⟨hx, hb, hml, hown, hts⟩ (c_K_disconnect_ok l D cI cZ kd z1) gm_517 gm_519 gm_25 gm_34 gm_520 ⟨rfl, rfl⟩ hd_K_disconnect ⟨Nat.le_of_ble_eq_true rfl, Nat.le_of_ble_eq_true rfl⟩ hK hP hD hS hA (va_recv hK hP (ci := 5) (q0 := 0) rfl k_h0) rfl hl.1 rfl (Nat.le_of_ble_eq_true rfl) d_K_line_10 ⟨Nat.le_of_ble_eq_true rfl, Nat.le_of_ble_eq_true rfl⟩ (fun H locs hP hD hS => ?_)
    obtain ⟨z3, ez3⟩ : ∃ zt_ : x_S, zt_ = k_disc z1 := ⟨_, rfl⟩
    rw [← ez3] at hP hD
    refine lv_iconst (v := 0) hx hb d_K_line_13 (by decide) ?_
    exact x_ri (w := k_w cI cZ kd) (by subst ez1 ez3; first | (simp only [k_line, if_pos c2]; done) | (with_reducible rfl) | (simp only [k_line, if_pos c2]; with_reducible rfl)) hx hb hr hlk hP hD hS d_K_line_14
set_option maxHeartbeats 4000000 in
set_option maxRecDepth 100000 in
theorem c_K_witnessLine_ok (l : Launch) (D : va_G) (cI cZ : ClassId) (kd : Nat → Nat) (z : x_S) (a u : Int32) : x_C l y_K_witnessLine c_K_witnessLine 3 (some .int) { frames := 1, cells := 0, slots := 0, locals := 22 } D (k_ty cI cZ) (k_w cI cZ kd z) [.ref (kd 0), .int a, .int u] (some (.int (k_wline z a u).1)) (k_w cI cZ kd (k_wline z a u).2) := by
  refine x_C.of (by decide) (Nat.le_of_ble_eq_true rfl) ?_
  intro p e s m below meth c hx hb hr hml hts hown hlk A hA hK hS hP hD ls hl
  have hown : s.vm.findClass R_K = some m.cls := hown
  have hl : lv_has ls 3 [(0, .ref (kd 0)), (1, .int a), (2, .int u)] := hl
  refine lv_aload_n hx hb d_K_witnessLine_0 rfl (lv_at hl 0 rfl) ?_
  refine lv_iload_n hx hb d_K_witnessLine_1 rfl (lv_at hl 1 rfl) ?_
  refine lv_iconst (v := 2) hx hb d_K_witnessLine_2 (by decide) ?_
  refine x_V (rest := []) ⟨hx, hb, hml, hown, hts⟩ (c_K_out_ok l D cI cZ kd z a 2) gm_469 gm_471 gm_15 gm_34 gm_472 ⟨rfl, rfl⟩ hd_K_out ⟨Nat.le_of_ble_eq_true rfl, Nat.le_of_ble_eq_true rfl⟩ hK hP hD hS hA (va_recv hK hP (ci := 5) (q0 := 0) rfl k_h0) rfl hl.1 rfl (Nat.le_of_ble_eq_true rfl) d_K_witnessLine_3 ⟨Nat.le_of_ble_eq_true rfl, Nat.le_of_ble_eq_true rfl⟩ (fun H locs hP hD hS => ?_)
  refine lv_topi (fun r1 er1 => ?_)
  refine lv_if_eq (tgt := 11) hx hb d_K_witnessLine_6 (by decide) (fun c2 => ?_) (fun c2 => ?_)
  · obtain ⟨k, hk, ek⟩ := k_out2 (v := a) (by rw [← er1]; exact c2)
    subst ek
    refine lv_aload_n hx hb d_K_witnessLine_11 rfl (lv_at hl 0 rfl) ?_
    refine va_get (D := D) (ci := 5) (C := R_K) (T := T_K) (N := 21) hx hb hts in_K hown hK hP 0 k_h0 rfl 6 (by decide) (hts _ gm_406) (fun _ h9 => h9) rfl d_K_witnessLine_12 ?_
    refine lv_iload_n hx hb d_K_witnessLine_15 rfl (lv_at hl 1 rfl) ?_
    refine lv_iload_n hx hb d_K_witnessLine_16 rfl (lv_at hl 2 rfl) ?_
    refine lv_if_ne (tgt := 24) hx hb d_K_witnessLine_17 (by decide) (fun c3 => ?_) (fun c3 => ?_)
    · refine lv_iconst (v := 0) hx hb d_K_witnessLine_24 (by decide) ?_
      refine va_zast (D := D) hx hb hK hP hD hS 6 1 k_h6 rfl (x_in2 (k := k) hk) d_K_witnessLine_25 (fun H locs hP hD hS => ?_)
      obtain ⟨z4, ez4⟩ : ∃ zt_ : x_S, zt_ = x_up z (5 + k) 6 0 := ⟨_, rfl⟩
      rw [x_cl (k := k) hk] at hP hD
      have hP : va_P D vwCl (k_w cI cZ kd z4) H := by rw [ez4]; exact (k_s6 (k := k) hk 0) ▸ hP
      have hD : va_D A (k_w cI cZ kd z4) := by rw [ez4]; exact (k_s6 (k := k) hk 0) ▸ hD
      refine lv_iconst (v := 0) hx hb d_K_witnessLine_26 (by decide) ?_
      exact x_ri (w := k_w cI cZ kd) (by subst er1 ez4; first | (simp only [k_wline, if_pos c2, if_neg c3, x_cl hk]; done) | (with_reducible rfl) | (simp only [k_wline, if_pos c2, if_neg c3, x_cl hk]; with_reducible rfl)) hx hb hr hlk hP hD hS d_K_witnessLine_27
    · refine lv_iconst (v := 1) hx hb d_K_witnessLine_20 (by decide) ?_
      refine lv_goto (tgt := 25) hx hb d_K_witnessLine_21 (by decide) ?_
      refine va_zast (D := D) hx hb hK hP hD hS 6 1 k_h6 rfl (x_in2 (k := k) hk) d_K_witnessLine_25 (fun H locs hP hD hS => ?_)
      obtain ⟨z5, ez5⟩ : ∃ zt_ : x_S, zt_ = x_up z (5 + k) 6 1 := ⟨_, rfl⟩
      rw [x_cl (k := k) hk] at hP hD
      have hP : va_P D vwCl (k_w cI cZ kd z5) H := by rw [ez5]; exact (k_s6 (k := k) hk 1) ▸ hP
      have hD : va_D A (k_w cI cZ kd z5) := by rw [ez5]; exact (k_s6 (k := k) hk 1) ▸ hD
      refine lv_iconst (v := 0) hx hb d_K_witnessLine_26 (by decide) ?_
      exact x_ri (w := k_w cI cZ kd) (by subst er1 ez5; first | (simp only [k_wline, if_pos c2, if_pos c3, x_cl hk]; done) | (with_reducible rfl) | (simp only [k_wline, if_pos c2, if_pos c3, x_cl hk]; with_reducible rfl)) hx hb hr hlk hP hD hS d_K_witnessLine_27
  · refine lv_iconst (v := (-1)) hx hb d_K_witnessLine_9 (by decide) ?_
    exact x_ri (w := k_w cI cZ kd) (by subst er1; first | (simp only [k_wline, if_neg c2]; done) | (with_reducible rfl) | (simp only [k_wline, if_neg c2]; with_reducible rfl)) hx hb hr hlk hP hD hS d_K_witnessLine_10
