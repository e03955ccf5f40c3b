-- ===== 24.k2c: the reference: public calls
set_option maxHeartbeats 4000000 in
set_option maxRecDepth 100000 in
theorem c_K_finished_ok (l : Launch) (D : va_G) (cI cZ : ClassId) (kd : Nat → Nat) (z : x_S) (s0 : Nat) (hs0 : s0 < 2) : x_C l y_K_finished c_K_finished 3 none { frames := 2, cells := 0, slots := 0, locals := 44 } D (k_ty cI cZ) (k_w cI cZ kd z) [.ref (kd 0), .int (nI s0)] (none) (k_w cI cZ kd (k_fin z s0)) := by
  refine x_C.of (by decide) (Nat.le_of_ble_eq_true rfl) ?_
  intro p e s m below meth c hx hb hr hml hts hown hlk A hA hK hS hP hD ls hl
  have hown : s.vm.findClass R_K = some m.cls := hown
  have hl : lv_has ls 3 [(0, .ref (kd 0)), (1, .int (nI s0))] := hl
  refine lv_aload_n hx hb d_K_finished_0 rfl (lv_at hl 0 rfl) ?_
  refine lv_iconst (v := 0) hx hb d_K_finished_1 (by decide) ?_
  refine x_top (show (0 : Int32) = nI 0 from rfl) ?_
  refine x_V (rest := []) ⟨hx, hb, hml, hown, hts⟩ (c_K_settle_ok l D cI cZ kd z 0 (by decide)) gm_489 gm_491 gm_19 gm_34 gm_492 ⟨rfl, rfl⟩ hd_K_settle ⟨Nat.le_of_ble_eq_true rfl, Nat.le_of_ble_eq_true rfl⟩ hK hP hD hS hA (va_recv hK hP (ci := 5) (q0 := 0) rfl k_h0) rfl hl.1 rfl (Nat.le_of_ble_eq_true rfl) d_K_finished_2 ⟨Nat.le_of_ble_eq_true rfl, Nat.le_of_ble_eq_true rfl⟩ (fun H locs hP hD hS => ?_)
  obtain ⟨z1, ez1⟩ : ∃ zt_ : x_S, zt_ = k_settle z 0 := ⟨_, rfl⟩
  rw [← ez1] at hP hD
  refine lv_aload_n hx hb d_K_finished_5 rfl (lv_at hl 0 rfl) ?_
  refine lv_iconst (v := 1) hx hb d_K_finished_6 (by decide) ?_
  refine x_top (show (1 : Int32) = nI 1 from rfl) ?_
  refine x_V (rest := []) ⟨hx, hb, hml, hown, hts⟩ (c_K_settle_ok l D cI cZ kd z1 1 (by decide)) gm_489 gm_491 gm_19 gm_34 gm_492 ⟨rfl, rfl⟩ hd_K_settle ⟨Nat.le_of_ble_eq_true rfl, Nat.le_of_ble_eq_true rfl⟩ hK hP hD hS hA (va_recv hK hP (ci := 5) (q0 := 0) rfl k_h0) rfl hl.1 rfl (Nat.le_of_ble_eq_true rfl) d_K_finished_7 ⟨Nat.le_of_ble_eq_true rfl, Nat.le_of_ble_eq_true rfl⟩ (fun H locs hP hD hS => ?_)
  obtain ⟨z2, ez2⟩ : ∃ zt_ : x_S, zt_ = k_settle z1 1 := ⟨_, rfl⟩
  rw [← ez2] at hP hD
  refine lv_aload_n hx hb d_K_finished_10 rfl (lv_at hl 0 rfl) ?_
  refine va_get (D := D) (ci := 5) (C := R_K) (T := T_K) (N := 21) hx hb hts in_K hown hK hP 0 k_h0 rfl 7 (by decide) (hts _ gm_407) (fun _ h9 => h9) rfl d_K_finished_11 ?_
  refine lv_iconst (v := 1) hx hb d_K_finished_14 (by decide) ?_
  refine lv_iload_n hx hb d_K_finished_15 rfl (lv_at hl 1 rfl) ?_
  refine lv_isub hx hb d_K_finished_16 ?_
  refine x_top (x_1k hs0) ?_
  refine lv_aload_n hx hb d_K_finished_17 rfl (lv_at hl 0 rfl) ?_
  refine va_get (D := D) (ci := 5) (C := R_K) (T := T_K) (N := 21) hx hb hts in_K hown hK hP 0 k_h0 rfl 7 (by decide) (hts _ gm_407) (fun _ h9 => h9) rfl d_K_finished_18 ?_
  refine lv_iload_n hx hb d_K_finished_21 rfl (lv_at hl 1 rfl) ?_
  refine va_iald (D := D) hx hb hK hP 7 0 k_h7 rfl (x_in2 hs0) d_K_finished_22 ?_
  refine x_top (k_col_at hs0) ?_
  refine va_iast (D := D) hx hb hK hP hD hS 7 0 k_h7 rfl (x_in2 (k := 1 - s0) (x_1lt hs0)) d_K_finished_23 (fun H locs hP hD hS => ?_)
  obtain ⟨z3, ez3⟩ : ∃ zt_ : x_S, zt_ = x_up z2 (5 + (1 - s0)) 2 (z2 (5 + s0) 2) := ⟨_, rfl⟩
  rw [x_cl (k := 1 - s0) (x_1lt hs0)] at hP hD
  have hP : va_P D vwCl (k_w cI cZ kd z3) H := by rw [ez3]; exact (k_s7 (k := 1 - s0) (x_1lt hs0) (z2 (5 + s0) 2)) ▸ hP
  have hD : va_D A (k_w cI cZ kd z3) := by rw [ez3]; exact (k_s7 (k := 1 - s0) (x_1lt hs0) (z2 (5 + s0) 2)) ▸ hD
  refine lv_iconst (v := 0) hx hb d_K_finished_24 (by decide) ?_
  refine lv_istore_n (lv' := [(2, .int 0), (0, .ref (kd 0)), (1, .int (nI s0))]) hx hb d_K_finished_25 rfl hl (by decide) rfl (fun ls hl => ?_)
  refine lv_iload_n hx hb d_K_finished_26 rfl (lv_at hl 0 rfl) ?_
  refine lv_iconst (v := 2) hx hb d_K_finished_27 (by decide) ?_
  refine lv_icmp_ge (tgt := 51) hx hb d_K_finished_28 (by decide) (fun c4 => ?_) (fun c4 => ?_)
  · exact absurd c4 (by decide)
  · refine lv_aload_n hx hb d_K_finished_31 rfl (lv_at hl 1 rfl) ?_
    refine va_get (D := D) (ci := 5) (C := R_K) (T := T_K) (N := 21) hx hb hts in_K hown hK hP 0 k_h0 rfl 5 (by decide) (hts _ gm_405) (fun _ h9 => h9) rfl d_K_finished_32 ?_
    refine lv_iload_n hx hb d_K_finished_35 rfl (lv_at hl 0 rfl) ?_
    refine lv_iconst (v := 0) hx hb d_K_finished_36 (by decide) ?_
    refine va_zast (D := D) (i := nI 0) hx hb hK hP hD hS 5 1 k_h5 rfl (x_in2 (k := 0) (by decide)) d_K_finished_37 (fun H locs hP hD hS => ?_)
    obtain ⟨z5, ez5⟩ : ∃ zt_ : x_S, zt_ = x_up z3 5 4 0 := ⟨_, rfl⟩
    rw [x_cl (k := 0) (by decide)] at hP hD
    have hP : va_P D vwCl (k_w cI cZ kd z5) H := by rw [ez5]; exact (k_s5 (k := 0) (by decide) 0) ▸ hP
    have hD : va_D A (k_w cI cZ kd z5) := by rw [ez5]; exact (k_s5 (k := 0) (by decide) 0) ▸ hD
    refine lv_aload_n hx hb d_K_finished_38 rfl (lv_at hl 1 rfl) ?_
    refine va_get (D := D) (ci := 5) (C := R_K) (T := T_K) (N := 21) hx hb hts in_K hown hK hP 0 k_h0 rfl 9 (by decide) (hts _ gm_409) (fun _ h9 => h9) rfl d_K_finished_39 ?_
    refine lv_iload_n hx hb d_K_finished_42 rfl (lv_at hl 0 rfl) ?_
    refine lv_iconst (v := 0) hx hb d_K_finished_43 (by decide) ?_
    refine va_iast (D := D) (i := nI 0) hx hb hK hP hD hS 9 0 k_h9 rfl (x_in2 (k := 0) (by decide)) d_K_finished_44 (fun H locs hP hD hS => ?_)
    obtain ⟨z6, ez6⟩ : ∃ zt_ : x_S, zt_ = x_up z5 5 5 0 := ⟨_, rfl⟩
    rw [x_cl (k := 0) (by decide)] at hP hD
    have hP : va_P D vwCl (k_w cI cZ kd z6) H := by rw [ez6]; exact (k_s9 (k := 0) (by decide) 0) ▸ hP
    have hD : va_D A (k_w cI cZ kd z6) := by rw [ez6]; exact (k_s9 (k := 0) (by decide) 0) ▸ hD
    refine lv_iinc (v := 1) (lv' := [(2, .int 1), (0, .ref (kd 0)), (1, .int (nI s0))]) hx hb d_K_finished_45 hl (k := 0) rfl rfl (by decide) rfl (fun ls hl => ?_)
    refine lv_goto (tgt := 26) hx hb d_K_finished_48 (by decide) ?_
    refine lv_iload_n hx hb d_K_finished_26 rfl (lv_at hl 0 rfl) ?_
    refine lv_iconst (v := 2) hx hb d_K_finished_27 (by decide) ?_
    refine lv_icmp_ge (tgt := 51) hx hb d_K_finished_28 (by decide) (fun c7 => ?_) (fun c7 => ?_)
    · exact absurd c7 (by decide)
    · refine lv_aload_n hx hb d_K_finished_31 rfl (lv_at hl 1 rfl) ?_
      refine va_get (D := D) (ci := 5) (C := R_K) (T := T_K) (N := 21) hx hb hts in_K hown hK hP 0 k_h0 rfl 5 (by decide) (hts _ gm_405) (fun _ h9 => h9) rfl d_K_finished_32 ?_
      refine lv_iload_n hx hb d_K_finished_35 rfl (lv_at hl 0 rfl) ?_
      refine lv_iconst (v := 0) hx hb d_K_finished_36 (by decide) ?_
      refine va_zast (D := D) (i := nI 1) hx hb hK hP hD hS 5 1 k_h5 rfl (x_in2 (k := 1) (by decide)) d_K_finished_37 (fun H locs hP hD hS => ?_)
      obtain ⟨z8, ez8⟩ : ∃ zt_ : x_S, zt_ = x_up z6 6 4 0 := ⟨_, rfl⟩
      rw [x_cl (k := 1) (by decide)] at hP hD
      have hP : va_P D vwCl (k_w cI cZ kd z8) H := by rw [ez8]; exact (k_s5 (k := 1) (by decide) 0) ▸ hP
      have hD : va_D A (k_w cI cZ kd z8) := by rw [ez8]; exact (k_s5 (k := 1) (by decide) 0) ▸ hD
      refine lv_aload_n hx hb d_K_finished_38 rfl (lv_at hl 1 rfl) ?_
      refine va_get (D := D) (ci := 5) (C := R_K) (T := T_K) (N := 21) hx hb hts in_K hown hK hP 0 k_h0 rfl 9 (by decide) (hts _ gm_409) (fun _ h9 => h9) rfl d_K_finished_39 ?_
      refine lv_iload_n hx hb d_K_finished_42 rfl (lv_at hl 0 rfl) ?_
      refine lv_iconst (v := 0) hx hb d_K_finished_43 (by decide) ?_
      refine va_iast (D := D) (i := nI 1) hx hb hK hP hD hS 9 0 k_h9 rfl (x_in2 (k := 1) (by decide)) d_K_finished_44 (fun H locs hP hD hS => ?_)
      obtain ⟨z9, ez9⟩ : ∃ zt_ : x_S, zt_ = x_up z8 6 5 0 := ⟨_, rfl⟩
      rw [x_cl (k := 1) (by decide)] at hP hD
      have hP : va_P D vwCl (k_w cI cZ kd z9) H := by rw [ez9]; exact (k_s9 (k := 1) (by decide) 0) ▸ hP
      have hD : va_D A (k_w cI cZ kd z9) := by rw [ez9]; exact (k_s9 (k := 1) (by decide) 0) ▸ hD
      refine lv_iinc (v := 2) (lv' := [(2, .int 2), (0, .ref (kd 0)), (1, .int (nI s0))]) hx hb d_K_finished_45 hl (k := 0) rfl rfl (by decide) rfl (fun ls hl => ?_)
      refine lv_goto (tgt := 26) hx hb d_K_finished_48 (by decide) ?_
      refine lv_iload_n hx hb d_K_finished_26 rfl (lv_at hl 0 rfl) ?_
      refine lv_iconst (v := 2) hx hb d_K_finished_27 (by decide) ?_
      refine lv_icmp_ge (tgt := 51) hx hb d_K_finished_28 (by decide) (fun c10 => ?_) (fun c10 => ?_)
      · refine lv_aload_n hx hb d_K_finished_51 rfl (lv_at hl 1 rfl) ?_
        refine lv_iconst (v := 2) hx hb d_K_finished_52 (by decide) ?_
        refine va_put (D := D) (ci := 5) (v := .int 2) (ty := .int) (C := R_K) (T := T_K) (N := 21) hx hb hts in_K fy_K fy_K_ok n_K hown hK hP hD hS 0 k_h0 rfl 11 (by decide) (hts _ gm_411) (fun _ h9 => h9) rfl (by decide +kernel) rfl rfl (Nat.le_of_ble_eq_true rfl) d_K_finished_53 (fun H locs hP hD hS => ?_)
        obtain ⟨z11, ez11⟩ : ∃ zt_ : x_S, zt_ = x_up z9 0 7 2 := ⟨_, rfl⟩
        have hP : va_P D vwCl (k_w cI cZ kd z11) H := by rw [ez11]; exact (k_s0_11 2) ▸ hP
        have hD : va_D A (k_w cI cZ kd z11) := by rw [ez11]; exact (k_s0_11 2) ▸ hD
        exact x_rv (w := k_w cI cZ kd) (by subst ez1 ez2 ez3 ez5 ez6 ez8 ez9 ez11; first | (simp only [k_fin]; done) | (with_reducible rfl) | (simp only [k_fin]; with_reducible rfl)) hx hb hr hlk hP hD hS d_K_finished_56
      · exact (c10 (by decide)).elim
set_option maxHeartbeats 4000000 in
set_option maxRecDepth 100000 in
theorem c_K_demote_ok (l : Launch) (D : va_G) (cI cZ : ClassId) (kd : Nat → Nat) (z : x_S) (a : Int32) : x_C l y_K_demote c_K_demote 2 (some .int) { frames := 1, cells := 0, slots := 0, locals := 22 } D (k_ty cI cZ) (k_w cI cZ kd z) [.ref (kd 0), .int a] (some (.int (k_demote z a).1)) (k_w cI cZ kd (k_demote z a).2) := by
  refine x_C.of (by decide) (Nat.le_of_ble_eq_true rfl) ?_
  intro p e s m below meth c hx hb hr hml hts hown hlk A hA hK hS hP hD ls hl
  have hown : s.vm.findClass R_K = some m.cls := hown
  have hl : lv_has ls 2 [(0, .ref (kd 0)), (1, .int a)] := hl
  refine lv_aload_n hx hb d_K_demote_0 rfl (lv_at hl 0 rfl) ?_
  refine lv_iload_n hx hb d_K_demote_1 rfl (lv_at hl 1 rfl) ?_
  refine lv_iconst (v := 2) hx hb d_K_demote_2 (by decide) ?_
  refine x_V (rest := []) ⟨hx, hb, hml, hown, hts⟩ (c_K_out_ok l D cI cZ kd z a 2) gm_469 gm_471 gm_15 gm_34 gm_472 ⟨rfl, rfl⟩ hd_K_out ⟨Nat.le_of_ble_eq_true rfl, Nat.le_of_ble_eq_true rfl⟩ hK hP hD hS hA (va_recv hK hP (ci := 5) (q0 := 0) rfl k_h0) rfl hl.1 rfl (Nat.le_of_ble_eq_true rfl) d_K_demote_3 ⟨Nat.le_of_ble_eq_true rfl, Nat.le_of_ble_eq_true rfl⟩ (fun H locs hP hD hS => ?_)
  refine lv_topi (fun r1 er1 => ?_)
  refine lv_if_ne (tgt := 17) hx hb d_K_demote_6 (by decide) (fun c2 => ?_) (fun c2 => ?_)
  · refine lv_iconst (v := (-1)) hx hb d_K_demote_17 (by decide) ?_
    exact x_ri (w := k_w cI cZ kd) (by subst er1; first | (simp only [k_demote, if_neg c2]; done) | (with_reducible rfl) | (simp only [k_demote, if_neg c2]; with_reducible rfl)) hx hb hr hlk hP hD hS d_K_demote_18
  · obtain ⟨k, hk, ek⟩ := k_out2 (v := a) (by rw [← er1]; exact c2)
    subst ek
    refine lv_aload_n hx hb d_K_demote_9 rfl (lv_at hl 0 rfl) ?_
    refine va_get (D := D) (ci := 5) (C := R_K) (T := T_K) (N := 21) hx hb hts in_K hown hK hP 0 k_h0 rfl 10 (by decide) (hts _ gm_410) (fun _ h9 => h9) rfl d_K_demote_10 ?_
    refine lv_iload_n hx hb d_K_demote_13 rfl (lv_at hl 1 rfl) ?_
    refine lv_icmp_eq (tgt := 19) hx hb d_K_demote_14 (by decide) (fun c3 => ?_) (fun c3 => ?_)
    · refine lv_aload_n hx hb d_K_demote_19 rfl (lv_at hl 0 rfl) ?_
      refine x_V (rest := []) ⟨hx, hb, hml, hown, hts⟩ (c_K_noPrimary_ok l D cI cZ kd z) gm_513 gm_515 gm_24 gm_34 gm_516 ⟨rfl, rfl⟩ hd_K_noPrimary ⟨Nat.le_of_ble_eq_true rfl, Nat.le_of_ble_eq_true rfl⟩ hK hP hD hS hA (va_recv hK hP (ci := 5) (q0 := 0) rfl k_h0) rfl hl.1 rfl (Nat.le_of_ble_eq_true rfl) d_K_demote_20 ⟨Nat.le_of_ble_eq_true rfl, Nat.le_of_ble_eq_true rfl⟩ (fun H locs hP hD hS => ?_)
      obtain ⟨z4, ez4⟩ : ∃ zt_ : x_S, zt_ = k_noP z := ⟨_, rfl⟩
      rw [← ez4] at hP hD
      refine lv_aload_n hx hb d_K_demote_23 rfl (lv_at hl 0 rfl) ?_
      refine va_get (D := D) (ci := 5) (C := R_K) (T := T_K) (N := 21) hx hb hts in_K hown hK hP 0 k_h0 rfl 12 (by decide) (hts _ gm_412) (fun _ h9 => h9) rfl d_K_demote_24 ?_
      refine lv_iload_n hx hb d_K_demote_27 rfl (lv_at hl 1 rfl) ?_
      refine lv_icmp_ne (tgt := 36) hx hb d_K_demote_28 (by decide) (fun c5 => ?_) (fun c5 => ?_)
      · refine lv_iconst (v := 0) hx hb d_K_demote_36 (by decide) ?_
        exact x_ri (w := k_w cI cZ kd) (by subst er1 ez4; first | (simp only [k_demote, if_pos c2, if_pos c3, if_neg c5, x_cl hk]; done) | (with_reducible rfl) | (simp only [k_demote, if_pos c2, if_pos c3, if_neg c5, x_cl hk]; with_reducible rfl)) hx hb hr hlk hP hD hS d_K_demote_37
      · refine lv_aload_n hx hb d_K_demote_31 rfl (lv_at hl 0 rfl) ?_
        refine lv_iconst (v := 2) hx hb d_K_demote_32 (by decide) ?_
        refine va_put (D := D) (ci := 5) (v := .int 2) (ty := .int) (C := R_K) (T := T_K) (N := 21) hx hb hts in_K fy_K fy_K_ok n_K hown hK hP hD hS 0 k_h0 rfl 12 (by decide) (hts _ gm_412) (fun _ h9 => h9) rfl (by decide +kernel) rfl rfl (Nat.le_of_ble_eq_true rfl) d_K_demote_33 (fun H locs hP hD hS => ?_)
        obtain ⟨z6, ez6⟩ : ∃ zt_ : x_S, zt_ = x_up z4 1 3 2 := ⟨_, rfl⟩
        have hP : va_P D vwCl (k_w cI cZ kd z6) H := by rw [ez6]; exact (k_s0_12 2) ▸ hP
        have hD : va_D A (k_w cI cZ kd z6) := by rw [ez6]; exact (k_s0_12 2) ▸ hD
        refine lv_iconst (v := 0) hx hb d_K_demote_36 (by decide) ?_
        exact x_ri (w := k_w cI cZ kd) (by subst er1 ez4 ez6; first | (simp only [k_demote, if_pos c2, if_pos c3, if_pos c5, x_cl hk]; done) | (with_reducible rfl) | (simp only [k_demote, if_pos c2, if_pos c3, if_pos c5, x_cl hk]; with_reducible rfl)) hx hb hr hlk hP hD hS d_K_demote_37
    · refine lv_iconst (v := (-1)) hx hb d_K_demote_17 (by decide) ?_
      exact x_ri (w := k_w cI cZ kd) (by subst er1; first | (simp only [k_demote, if_pos c2, if_neg c3, x_cl hk]; done) | (with_reducible rfl) | (simp only [k_demote, if_pos c2, if_neg c3, x_cl hk]; with_reducible rfl)) hx hb hr hlk hP hD hS d_K_demote_18
set_option maxHeartbeats 4000000 in
set_option maxRecDepth 100000 in
theorem c_K_renew_ok (l : Launch) (D : va_G) (cI cZ : ClassId) (kd : Nat → Nat) (z : x_S) (k : Nat) (hk : k < 2) (hq : ¬ z 0 6 = 2 → z 0 6 = nI k) : x_C l y_K_renew c_K_renew 1 (some .int) { frames := 0, cells := 0, slots := 0, locals := 0 } D (k_ty cI cZ) (k_w cI cZ kd z) [.ref (kd 0)] (some (.int (k_rnw z k).1)) (k_w cI cZ kd (k_rnw z k).2) := by
  refine x_C.of (by decide) (Nat.le_of_ble_eq_true rfl) ?_
  intro p e s m below meth c hx hb hr hml hts hown hlk A hA hK hS hP hD ls hl
  have hown : s.vm.findClass R_K = some m.cls := hown
  have hl : lv_has ls 1 [(0, .ref (kd 0))] := hl
  refine lv_aload_n hx hb d_K_renew_0 rfl (lv_at hl 0 rfl) ?_
  refine va_get (D := D) (ci := 5) (C := R_K) (T := T_K) (N := 21) hx hb hts in_K hown hK hP 0 k_h0 rfl 10 (by decide) (hts _ gm_410) (fun _ h9 => h9) rfl d_K_renew_1 ?_
  refine lv_iconst (v := 2) hx hb d_K_renew_4 (by decide) ?_
  refine lv_icmp_eq (tgt := 20) hx hb d_K_renew_5 (by decide) (fun c1 => ?_) (fun c1 => ?_)
  · refine lv_iconst (v := (-1)) hx hb d_K_renew_20 (by decide) ?_
    exact x_ri (w := k_w cI cZ kd) (by first | (simp only [k_rnw, if_pos c1]; done) | (with_reducible rfl) | (simp only [k_rnw, if_pos c1]; with_reducible rfl)) hx hb hr hlk hP hD hS d_K_renew_21
  · have hp := hq c1
    refine lv_aload_n hx hb d_K_renew_8 rfl (lv_at hl 0 rfl) ?_
    refine va_get (D := D) (ci := 5) (C := R_K) (T := T_K) (N := 21) hx hb hts in_K hown hK hP 0 k_h0 rfl 6 (by decide) (hts _ gm_406) (fun _ h9 => h9) rfl d_K_renew_9 ?_
    refine lv_aload_n hx hb d_K_renew_12 rfl (lv_at hl 0 rfl) ?_
    refine va_get (D := D) (ci := 5) (C := R_K) (T := T_K) (N := 21) hx hb hts in_K hown hK hP 0 k_h0 rfl 10 (by decide) (hts _ gm_410) (fun _ h9 => h9) rfl d_K_renew_13 ?_
    refine x_top (show z 0 6 = nI k by first | exact hp | (rw [k_keep_low (by decide)]; exact hp) | (rw [k_settle_low (by decide)]; exact hp)) ?_
    refine va_zald (D := D) hx hb hK hP 6 1 k_h6 rfl (x_in2 hk) d_K_renew_16 ?_
    refine x_top (k_col_at hk) ?_
    refine lv_if_eq (tgt := 22) hx hb d_K_renew_17 (by decide) (fun c2 => ?_) (fun c2 => ?_)
    · refine lv_aload_n hx hb d_K_renew_22 rfl (lv_at hl 0 rfl) ?_
      refine lv_aload_n hx hb d_K_renew_23 rfl (lv_at hl 0 rfl) ?_
      refine va_get (D := D) (ci := 5) (C := R_K) (T := T_K) (N := 21) hx hb hts in_K hown hK hP 0 k_h0 rfl 16 (by decide) (hts _ gm_416) (fun _ h9 => h9) rfl d_K_renew_24 ?_
      refine lv_aload_n hx hb d_K_renew_27 rfl (lv_at hl 0 rfl) ?_
      refine va_get (D := D) (ci := 5) (C := R_K) (T := T_K) (N := 21) hx hb hts in_K hown hK hP 0 k_h0 rfl 0 (by decide) (hts _ gm_400) (fun _ h9 => h9) rfl d_K_renew_28 ?_
      refine lv_iadd hx hb d_K_renew_31 ?_
      refine va_put (D := D) (ci := 5) (v := .int ((z 1 2) + (z 1 0))) (ty := .int) (C := R_K) (T := T_K) (N := 21) hx hb hts in_K fy_K fy_K_ok n_K hown hK hP hD hS 0 k_h0 rfl 17 (by decide) (hts _ gm_417) (fun _ h9 => h9) rfl (by decide +kernel) rfl rfl (Nat.le_of_ble_eq_true rfl) d_K_renew_32 (fun H locs hP hD hS => ?_)
      obtain ⟨z3, ez3⟩ : ∃ zt_ : x_S, zt_ = x_up z 1 4 ((z 1 2) + (z 1 0)) := ⟨_, rfl⟩
      have hP : va_P D vwCl (k_w cI cZ kd z3) H := by rw [ez3]; exact (k_s0_17 ((z 1 2) + (z 1 0))) ▸ hP
      have hD : va_D A (k_w cI cZ kd z3) := by rw [ez3]; exact (k_s0_17 ((z 1 2) + (z 1 0))) ▸ hD
      refine lv_aload_n hx hb d_K_renew_35 rfl (lv_at hl 0 rfl) ?_
      refine va_get (D := D) (ci := 5) (C := R_K) (T := T_K) (N := 21) hx hb hts in_K hown hK hP 0 k_h0 rfl 17 (by decide) (hts _ gm_417) (fun _ h9 => h9) rfl d_K_renew_36 ?_
      exact x_ri (w := k_w cI cZ kd) (by subst ez3; first | (simp only [k_rnw, if_neg c1, if_pos c2]; done) | (with_reducible rfl) | (simp only [k_rnw, if_neg c1, if_pos c2]; with_reducible rfl)) hx hb hr hlk hP hD hS d_K_renew_39
    · refine lv_iconst (v := (-1)) hx hb d_K_renew_20 (by decide) ?_
      exact x_ri (w := k_w cI cZ kd) (by first | (simp only [k_rnw, if_neg c1, if_neg c2]; done) | (with_reducible rfl) | (simp only [k_rnw, if_neg c1, if_neg c2]; with_reducible rfl)) hx hb hr hlk hP hD hS d_K_renew_21
