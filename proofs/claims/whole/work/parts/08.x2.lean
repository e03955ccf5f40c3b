-- ===== 08.x2: disk loops, bringDown, writeBy, flushBy
set_option maxHeartbeats 4000000 in
set_option maxRecDepth 100000 in
theorem c_D_settle_ok (l : Launch) (D : va_G) (cI cN : ClassId) (ad : Nat → Nat) (z : x_S) (k : Nat) (hk : k < 2) (keep : Int32) : x_C l y_D_settle c_D_settle 3 none { frames := 1, cells := 0, slots := 0, locals := 21 } D (x_ty cI cN) (x_w cI cN ad z) [.ref (ad (8 + k)), .int keep] (none) (x_w cI cN ad (x_settle z k keep)) := by
  refine x_C.of (by decide) (Nat.le_of_ble_eq_true rfl) ?_
  intro p e s m below meth c hx hb hr hml hts hown hlk A hA hK hS hP hD ls hl
  have hown : s.vm.findClass R_D = some m.cls := hown
  have hl : lv_has ls 3 [(0, .ref (ad (8 + k))), (1, .int keep)] := hl
  have lp : ∀ (n i : Nat) (y : x_S) (H : Heap) (locs : List Loc) (ls : Array Slot), i + n = 32 → x_settle z k keep = x_up (x_setL k keep n i y) (5 + k) 7 0 → va_P D vwCl (x_w cI cN ad y) H → va_D A (x_w cI cN ad y) → va_S A s.heap H locs → lv_has ls 3 [(2, .int (nI i)), (0, .ref (ad (8 + k))), (1, .int keep)] → W p l e { frames := 1, cells := 0, slots := 0, locals := 21 } s m [.ref (ad (8 + k)), .int keep].toArray below meth c H locs 0 0 (MQ below (x_Q (none) D (x_w cI cN ad (x_settle z k keep)) A) [.ref (ad (8 + k)), .int keep].toArray s 0 0 A) (F0 m 2 ls []) := by
    intro n
    induction n with
    | zero =>
      intro i y  H locs ls hn hI hP hD hS hl
      refine lv_iload_n hx hb d_D_settle_2 rfl (lv_at hl 0 rfl) ?_
      refine lv_bipush (v := 32) hx hb d_D_settle_3 (by decide) ?_
      refine lv_icmp_ge (tgt := 43) hx hb d_D_settle_5 (by decide) (fun c1 => ?_) (fun c1 => ?_)
      · refine lv_aload_n hx hb d_D_settle_43 rfl (lv_at hl 1 rfl) ?_
        refine lv_iconst (v := 0) hx hb d_D_settle_44 (by decide) ?_
        refine va_put (D := D) (ci := 1) (v := .int 0) (ty := .int) (C := R_D) (T := T_D) (N := 3) hx hb hts in_D fy_D fy_D_ok n_D hown hK hP hD hS (8 + k) (x_hD hk) rfl 2 (by decide) (hts _ gm_81) (fun _ h9 => h9) rfl (by decide +kernel) rfl rfl (Nat.le_of_ble_eq_true rfl) d_D_settle_45 (fun H locs hP hD hS => ?_)
        obtain ⟨z2, ez2⟩ : ∃ zt_ : x_S, zt_ = x_up y (5 + k) 7 0 := ⟨_, rfl⟩
        have hP : va_P D vwCl (x_w cI cN ad z2) H := by rw [ez2, ← x_sD hk 0]; exact hP
        have hD : va_D A (x_w cI cN ad z2) := by rw [ez2, ← x_sD hk 0]; exact hD
        exact x_rv (w := x_w cI cN ad) (by subst ez2; rw [hI]; rfl) hx hb hr hlk hP hD hS d_D_settle_48
      · exact absurd (show (32 : Int32) ≤ nI i from nI_le (a := 32) (by omega) (by omega)) c1
    | succ n ih =>
      intro i y  H locs ls hn hI hP hD hS hl
      have hi : i < 32 := by omega
      refine lv_iload_n hx hb d_D_settle_2 rfl (lv_at hl 0 rfl) ?_
      refine lv_bipush (v := 32) hx hb d_D_settle_3 (by decide) ?_
      refine lv_icmp_ge (tgt := 43) hx hb d_D_settle_5 (by decide) (fun c3 => ?_) (fun c3 => ?_)
      · exact absurd c3 (show ¬ (32 : Int32) ≤ nI i from nI_ge (b := 32) (by omega) (by decide))
      · refine lv_aload_n hx hb d_D_settle_8 rfl (lv_at hl 1 rfl) ?_
        refine lv_iload_n hx hb d_D_settle_9 rfl (lv_at hl 0 rfl) ?_
        refine x_V (rest := []) ⟨hx, hb, hml, hown, hts⟩ (c_D_isCached_ok l D cI cN ad y k hk i) gm_219 gm_220 gm_221 gm_31 gm_222 ⟨rfl, rfl⟩ hd_D_isCached ⟨Nat.le_of_ble_eq_true rfl, Nat.le_of_ble_eq_true rfl⟩ hK hP hD hS hA (va_recv hK hP (ci := 1) (q0 := (8 + k)) rfl (x_hD hk)) rfl hl.1 rfl (Nat.le_of_ble_eq_true rfl) d_D_settle_10 ⟨Nat.le_of_ble_eq_true rfl, Nat.le_of_ble_eq_true rfl⟩ (fun H locs hP hD hS => ?_)
        refine lv_topi (fun r4 er4 => ?_)
        refine lv_if_eq (tgt := 37) hx hb d_D_settle_13 (by decide) (fun c5 => ?_) (fun c5 => ?_)
        · refine lv_iinc (v := nI (i + 1)) (lv' := [(2, .int (nI (i + 1))), (0, .ref (ad (8 + k))), (1, .int keep)]) hx hb d_D_settle_37 hl (k := 0) rfl (nI_1 _) (by decide) rfl (fun ls hl => ?_)
          refine lv_goto (tgt := 2) hx hb d_D_settle_40 (by decide) ?_
          exact ih (i + 1) y H locs ls (by omega) (by subst er4; rw [hI]; simp only [x_setL, x_setB, if_neg c3, if_pos c5]) hP hD hS (lv_sub hl [0, 1, 2] rfl)
        · refine lv_iload_n hx hb d_D_settle_16 rfl (lv_at hl 2 rfl) ?_
          refine lv_iload_n hx hb d_D_settle_17 rfl (lv_at hl 0 rfl) ?_
          refine lv_iushr (v := x_sh keep (nI i)) hx hb d_D_settle_18 rfl ?_
          refine lv_iconst (v := 1) hx hb d_D_settle_19 (by decide) ?_
          refine lv_iand hx hb d_D_settle_20 ?_
          refine lv_iconst (v := 1) hx hb d_D_settle_21 (by decide) ?_
          refine lv_icmp_ne (tgt := 37) hx hb d_D_settle_22 (by decide) (fun c6 => ?_) (fun c6 => ?_)
          · refine lv_iinc (v := nI (i + 1)) (lv' := [(2, .int (nI (i + 1))), (0, .ref (ad (8 + k))), (1, .int keep)]) hx hb d_D_settle_37 hl (k := 0) rfl (nI_1 _) (by decide) rfl (fun ls hl => ?_)
            refine lv_goto (tgt := 2) hx hb d_D_settle_40 (by decide) ?_
            exact ih (i + 1) y H locs ls (by omega) (by subst er4; rw [hI]; simp only [x_setL, x_setB, if_neg c3, if_neg c5, if_neg c6]) hP hD hS (lv_sub hl [0, 1, 2] rfl)
          · refine lv_aload_n hx hb d_D_settle_25 rfl (lv_at hl 1 rfl) ?_
            refine va_get (D := D) (ci := 1) (C := R_D) (T := T_D) (N := 3) hx hb hts in_D hown hK hP (8 + k) (x_hD hk) rfl 0 (by decide) (hts _ gm_78) (fun _ h9 => h9) rfl d_D_settle_26 ?_
            refine lv_iload_n hx hb d_D_settle_29 rfl (lv_at hl 0 rfl) ?_
            refine lv_aload_n hx hb d_D_settle_30 rfl (lv_at hl 1 rfl) ?_
            refine va_get (D := D) (ci := 1) (C := R_D) (T := T_D) (N := 3) hx hb hts in_D hown hK hP (8 + k) (x_hD hk) rfl 1 (by decide) (hts _ gm_80) (fun _ h9 => h9) rfl d_D_settle_31 ?_
            refine lv_iload_n hx hb d_D_settle_34 rfl (lv_at hl 0 rfl) ?_
            refine va_iald (D := D) hx hb hK hP (12 + k) 0 (x_hC hk) rfl (x_in32 hi) d_D_settle_35 ?_
            refine x_top (show y (9 + k) (nI i).toNatClampNeg = y (9 + k) i by rw [x_cl32 hi]) ?_
            refine va_iast (D := D) hx hb hK hP hD hS (10 + k) 0 (x_hS hk) rfl (x_in32 hi) d_D_settle_36 (fun H locs hP hD hS => ?_)
            obtain ⟨z7, ez7⟩ : ∃ zt_ : x_S, zt_ = x_up y (7 + k) i (y (9 + k) i) := ⟨_, rfl⟩
            rw [x_cl32 hi] at hP hD
            have hP : va_P D vwCl (x_w cI cN ad z7) H := by rw [ez7, ← x_sS hk i (y (9 + k) i)]; exact hP
            have hD : va_D A (x_w cI cN ad z7) := by rw [ez7, ← x_sS hk i (y (9 + k) i)]; exact hD
            refine lv_iinc (v := nI (i + 1)) (lv' := [(2, .int (nI (i + 1))), (0, .ref (ad (8 + k))), (1, .int keep)]) hx hb d_D_settle_37 hl (k := 0) rfl (nI_1 _) (by decide) rfl (fun ls hl => ?_)
            refine lv_goto (tgt := 2) hx hb d_D_settle_40 (by decide) ?_
            exact ih (i + 1) z7 H locs ls (by omega) (by subst er4 ez7; rw [hI]; simp only [x_setL, x_setB, if_neg c3, if_neg c5, if_pos c6]) hP hD hS (lv_sub hl [0, 1, 2] rfl)
  refine lv_iconst (v := 0) hx hb d_D_settle_0 (by decide) ?_
  refine lv_istore_n (lv' := [(2, .int 0), (0, .ref (ad (8 + k))), (1, .int keep)]) hx hb d_D_settle_1 rfl hl (by decide) rfl (fun ls hl => ?_)
  exact lp 32 0 z _ _ ls rfl rfl hP hD hS (lv_sub hl [0, 1, 2] rfl)
set_option maxHeartbeats 4000000 in
set_option maxRecDepth 100000 in
theorem c_D_flush_ok (l : Launch) (D : va_G) (cI cN : ClassId) (ad : Nat → Nat) (z : x_S) (k : Nat) (hk : k < 2) : x_C l y_D_flush c_D_flush 1 none { frames := 2, cells := 0, slots := 0, locals := 43 } D (x_ty cI cN) (x_w cI cN ad z) [.ref (ad (8 + k))] (none) (x_w cI cN ad (x_flush z k)) := by
  refine x_C.of (by decide) (Nat.le_of_ble_eq_true rfl) ?_
  intro p e s m below meth c hx hb hr hml hts hown hlk A hA hK hS hP hD ls hl
  have hown : s.vm.findClass R_D = some m.cls := hown
  have hl : lv_has ls 1 [(0, .ref (ad (8 + k)))] := hl
  refine lv_aload_n hx hb d_D_flush_0 rfl (lv_at hl 0 rfl) ?_
  refine lv_iconst (v := (-1)) hx hb d_D_flush_1 (by decide) ?_
  refine x_V (rest := []) ⟨hx, hb, hml, hown, hts⟩ (c_D_settle_ok l D cI cN ad z k hk (-1)) gm_215 gm_216 gm_217 gm_31 gm_218 ⟨rfl, rfl⟩ hd_D_settle ⟨Nat.le_of_ble_eq_true rfl, Nat.le_of_ble_eq_true rfl⟩ hK hP hD hS hA (va_recv hK hP (ci := 1) (q0 := (8 + k)) rfl (x_hD hk)) rfl hl.1 rfl (Nat.le_of_ble_eq_true rfl) d_D_flush_2 ⟨Nat.le_of_ble_eq_true rfl, Nat.le_of_ble_eq_true rfl⟩ (fun H locs hP hD hS => ?_)
  obtain ⟨z1, ez1⟩ : ∃ zt_ : x_S, zt_ = x_settle z k (-1) := ⟨_, rfl⟩
  rw [← ez1] at hP hD
  exact x_rv (w := x_w cI cN ad) (by subst ez1; first | (simp only [x_flush]; done) | rfl | (simp only [x_flush]; rfl)) hx hb hr hlk hP hD hS d_D_flush_5
set_option maxHeartbeats 4000000 in
set_option maxRecDepth 100000 in
theorem c_D_cachedExtents_ok (l : Launch) (D : va_G) (cI cN : ClassId) (ad : Nat → Nat) (z : x_S) (k : Nat) (hk : k < 2) : x_C l y_D_cachedExtents c_D_cachedExtents 3 (some .int) { frames := 0, cells := 0, slots := 0, locals := 0 } D (x_ty cI cN) (x_w cI cN ad z) [.ref (ad (8 + k))] (some (.int (x_cext z k))) (x_w cI cN ad z) := by
  refine x_C.of (by decide) (Nat.le_of_ble_eq_true rfl) ?_
  intro p e s m below meth c hx hb hr hml hts hown hlk A hA hK hS hP hD ls hl
  have hown : s.vm.findClass R_D = some m.cls := hown
  have hl : lv_has ls 3 [(0, .ref (ad (8 + k)))] := hl
  have lp : ∀ (n i : Nat) (a : Int32) (H : Heap) (locs : List Loc) (ls : Array Slot), i + n = 8 → x_cext z k = x_cexL (z (5 + k) 7) n i a → va_P D vwCl (x_w cI cN ad z) H → va_D A (x_w cI cN ad z) → va_S A s.heap H locs → lv_has ls 3 [(1, .int a), (2, .int (nI i)), (0, .ref (ad (8 + k)))] → W p l e { frames := 0, cells := 0, slots := 0, locals := 0 } s m [.ref (ad (8 + k))].toArray below meth c H locs 0 0 (MQ below (x_Q (some (.int (x_cext z k))) D (x_w cI cN ad z) A) [.ref (ad (8 + k))].toArray s 0 0 A) (F0 m 4 ls []) := by
    intro n
    induction n with
    | zero =>
      intro i a H locs ls hn hI hP hD hS hl
      refine lv_iload_n hx hb d_D_cachedExtents_4 rfl (lv_at hl 1 rfl) ?_
      refine lv_bipush (v := 8) hx hb d_D_cachedExtents_5 (by decide) ?_
      refine lv_icmp_ge (tgt := 36) hx hb d_D_cachedExtents_7 (by decide) (fun c1 => ?_) (fun c1 => ?_)
      · refine lv_iload_n hx hb d_D_cachedExtents_36 rfl (lv_at hl 0 rfl) ?_
        exact x_rp (by rw [hI]; rfl) hx hb hr hlk hP hD hS d_D_cachedExtents_37
      · exact absurd (show (8 : Int32) ≤ nI i from nI_le (a := 8) (by omega) (by omega)) c1
    | succ n ih =>
      intro i a H locs ls hn hI hP hD hS hl
      refine lv_iload_n hx hb d_D_cachedExtents_4 rfl (lv_at hl 1 rfl) ?_
      refine lv_bipush (v := 8) hx hb d_D_cachedExtents_5 (by decide) ?_
      refine lv_icmp_ge (tgt := 36) hx hb d_D_cachedExtents_7 (by decide) (fun c2 => ?_) (fun c2 => ?_)
      · exact absurd c2 (show ¬ (8 : Int32) ≤ nI i from nI_ge (b := 8) (by omega) (by decide))
      · refine lv_aload_n hx hb d_D_cachedExtents_10 rfl (lv_at hl 2 rfl) ?_
        refine va_get (D := D) (ci := 1) (C := R_D) (T := T_D) (N := 3) hx hb hts in_D hown hK hP (8 + k) (x_hD hk) rfl 2 (by decide) (hts _ gm_81) (fun _ h9 => h9) rfl d_D_cachedExtents_11 ?_
        refine lv_iload_n hx hb d_D_cachedExtents_14 rfl (lv_at hl 1 rfl) ?_
        refine lv_iconst (v := 4) hx hb d_D_cachedExtents_15 (by decide) ?_
        refine lv_imul hx hb d_D_cachedExtents_16 ?_
        refine lv_iushr (v := x_sh (z (5 + k) 7) ((nI i) * 4)) hx hb d_D_cachedExtents_17 rfl ?_
        refine lv_bipush (v := 15) hx hb d_D_cachedExtents_18 (by decide) ?_
        refine lv_iand hx hb d_D_cachedExtents_20 ?_
        refine lv_if_eq (tgt := 30) hx hb d_D_cachedExtents_21 (by decide) (fun c3 => ?_) (fun c3 => ?_)
        · refine lv_iinc (v := nI (i + 1)) (lv' := [(2, .int (nI (i + 1))), (1, .int a), (0, .ref (ad (8 + k)))]) hx hb d_D_cachedExtents_30 hl (k := 1) rfl (nI_1 _) (by decide) rfl (fun ls hl => ?_)
          refine lv_goto (tgt := 4) hx hb d_D_cachedExtents_33 (by decide) ?_
          exact ih (i + 1) a H locs ls (by omega) (by rw [hI]; simp only [x_cexL, if_neg c2, if_pos c3]) hP hD hS (lv_sub hl [1, 0, 2] rfl)
        · refine lv_iload_n hx hb d_D_cachedExtents_24 rfl (lv_at hl 0 rfl) ?_
          refine lv_iconst (v := 1) hx hb d_D_cachedExtents_25 (by decide) ?_
          refine lv_iload_n hx hb d_D_cachedExtents_26 rfl (lv_at hl 1 rfl) ?_
          refine lv_ishl hx hb d_D_cachedExtents_27 ?_
          refine lv_ior hx hb d_D_cachedExtents_28 ?_
          refine lv_istore_n (lv' := [(1, .int (a ||| (1 <<< (nI i &&& 31)))), (2, .int (nI i)), (0, .ref (ad (8 + k)))]) hx hb d_D_cachedExtents_29 rfl hl (by decide) rfl (fun ls hl => ?_)
          refine lv_iinc (v := nI (i + 1)) (lv' := [(2, .int (nI (i + 1))), (1, .int (a ||| (1 <<< (nI i &&& 31)))), (0, .ref (ad (8 + k)))]) hx hb d_D_cachedExtents_30 hl (k := 1) rfl (nI_1 _) (by decide) rfl (fun ls hl => ?_)
          refine lv_goto (tgt := 4) hx hb d_D_cachedExtents_33 (by decide) ?_
          exact ih (i + 1) (a ||| (1 <<< (nI i &&& 31))) H locs ls (by omega) (by rw [hI]; simp only [x_cexL, if_neg c2, if_neg c3]) hP hD hS (lv_sub hl [1, 0, 2] rfl)
  refine lv_iconst (v := 0) hx hb d_D_cachedExtents_0 (by decide) ?_
  refine lv_istore_n (lv' := [(1, .int 0), (0, .ref (ad (8 + k)))]) hx hb d_D_cachedExtents_1 rfl hl (by decide) rfl (fun ls hl => ?_)
  refine lv_iconst (v := 0) hx hb d_D_cachedExtents_2 (by decide) ?_
  refine lv_istore_n (lv' := [(2, .int 0), (1, .int 0), (0, .ref (ad (8 + k)))]) hx hb d_D_cachedExtents_3 rfl hl (by decide) rfl (fun ls hl => ?_)
  exact lp 8 0 0 _ _ ls rfl rfl hP hD hS (lv_sub hl [1, 0, 2] rfl)
set_option maxHeartbeats 4000000 in
set_option maxRecDepth 100000 in
theorem c_M_bringDown_ok (l : Launch) (D : va_G) (cI cN : ClassId) (ad : Nat → Nat) (z : x_S) (k : Nat) (hk : k < 2) (keep : Int32) : x_C l y_M_bringDown c_M_bringDown 4 none { frames := 2, cells := 0, slots := 0, locals := 43 } D (x_ty cI cN) (x_w cI cN ad z) [.ref (ad 0), .int (nI k), .int keep] (none) (x_w cI cN ad (x_bring z k keep)) := by
  refine x_C.of (by decide) (Nat.le_of_ble_eq_true rfl) ?_
  intro p e s m below meth c hx hb hr hml hts hown hlk A hA hK hS hP hD ls hl
  have hown : s.vm.findClass R_M = some m.cls := hown
  have hl : lv_has ls 4 [(0, .ref (ad 0)), (1, .int (nI k)), (2, .int keep)] := hl
  refine lv_aload_n hx hb d_M_bringDown_0 rfl (lv_at hl 0 rfl) ?_
  refine va_get (D := D) (ci := 4) (C := R_M) (T := T_M) (N := 7) hx hb hts in_M hown hK hP 0 x_hM rfl 0 (by decide) (hts _ gm_154) (fun _ h9 => h9) rfl d_M_bringDown_1 ?_
  refine lv_iload_n hx hb d_M_bringDown_4 rfl (lv_at hl 1 rfl) ?_
  refine va_aldq (D := D) hx hb hK hP 1 1 x_hA rfl (x_in2 hk) d_M_bringDown_5 ?_
  refine x_topv (x_nf_at hk) ?_
  refine va_get (D := D) (ci := 2) (C := R_N) (T := T_N) (N := 8) hx hb hts in_N hown hK hP (6 + k) (x_hN hk) rfl 0 (by decide) (hts _ gm_90) (fun _ h9 => h9) rfl d_M_bringDown_6 ?_
  refine x_V (rest := []) ⟨hx, hb, hml, hown, hts⟩ (c_D_cachedExtents_ok l D cI cN ad z k hk) gm_235 gm_236 gm_237 gm_31 gm_238 ⟨rfl, rfl⟩ hd_D_cachedExtents ⟨Nat.le_of_ble_eq_true rfl, Nat.le_of_ble_eq_true rfl⟩ hK hP hD hS hA (va_recv hK hP (ci := 1) (q0 := (8 + k)) rfl (x_hD hk)) rfl hl.1 rfl (Nat.le_of_ble_eq_true rfl) d_M_bringDown_9 ⟨Nat.le_of_ble_eq_true rfl, Nat.le_of_ble_eq_true rfl⟩ (fun H locs hP hD hS => ?_)
  refine lv_topi (fun r1 er1 => ?_)
  refine lv_istore_n (lv' := [(3, .int r1), (0, .ref (ad 0)), (1, .int (nI k)), (2, .int keep)]) hx hb d_M_bringDown_12 rfl hl (by decide) rfl (fun ls hl => ?_)
  refine lv_aload_n hx hb d_M_bringDown_13 rfl (lv_at hl 1 rfl) ?_
  refine va_get (D := D) (ci := 4) (C := R_M) (T := T_M) (N := 7) hx hb hts in_M hown hK hP 0 x_hM rfl 0 (by decide) (hts _ gm_154) (fun _ h9 => h9) rfl d_M_bringDown_14 ?_
  refine lv_iload_n hx hb d_M_bringDown_17 rfl (lv_at hl 2 rfl) ?_
  refine va_aldq (D := D) hx hb hK hP 1 1 x_hA rfl (x_in2 hk) d_M_bringDown_18 ?_
  refine x_topv (x_nf_at hk) ?_
  refine lv_dup hx hb d_M_bringDown_19 rfl ?_
  refine va_get (D := D) (ci := 2) (C := R_N) (T := T_N) (N := 8) hx hb hts in_N hown hK hP (6 + k) (x_hN hk) rfl 6 (by decide) (hts _ gm_102) (fun _ h9 => h9) rfl d_M_bringDown_20 ?_
  refine lv_iload_n hx hb d_M_bringDown_23 rfl (lv_at hl 0 rfl) ?_
  refine lv_ior hx hb d_M_bringDown_24 ?_
  refine va_put (D := D) (ci := 2) (v := .int ((z (5 + k) 5) ||| r1)) (ty := .int) (C := R_N) (T := T_N) (N := 8) hx hb hts in_N fy_N fy_N_ok n_N hown hK hP hD hS (6 + k) (x_hN hk) rfl 6 (by decide) (hts _ gm_102) (fun _ h9 => h9) rfl (by decide +kernel) rfl rfl (Nat.le_of_ble_eq_true rfl) d_M_bringDown_25 (fun H locs hP hD hS => ?_)
  obtain ⟨z2, ez2⟩ : ∃ zt_ : x_S, zt_ = x_up z (5 + k) 5 ((z (5 + k) 5) ||| r1) := ⟨_, rfl⟩
  have hP : va_P D vwCl (x_w cI cN ad z2) H := by rw [ez2, ← x_sN (i := 5) hk (by decide) ((z (5 + k) 5) ||| r1)]; exact hP
  have hD : va_D A (x_w cI cN ad z2) := by rw [ez2, ← x_sN (i := 5) hk (by decide) ((z (5 + k) 5) ||| r1)]; exact hD
  refine lv_aload_n hx hb d_M_bringDown_28 rfl (lv_at hl 1 rfl) ?_
  refine va_get (D := D) (ci := 4) (C := R_M) (T := T_M) (N := 7) hx hb hts in_M hown hK hP 0 x_hM rfl 4 (by decide) (hts _ gm_158) (fun _ h9 => h9) rfl d_M_bringDown_29 ?_
  refine lv_if_eq (tgt := 52) hx hb d_M_bringDown_32 (by decide) (fun c3 => ?_) (fun c3 => ?_)
  · refine lv_aload_n hx hb d_M_bringDown_52 rfl (lv_at hl 1 rfl) ?_
    refine va_get (D := D) (ci := 4) (C := R_M) (T := T_M) (N := 7) hx hb hts in_M hown hK hP 0 x_hM rfl 0 (by decide) (hts _ gm_154) (fun _ h9 => h9) rfl d_M_bringDown_53 ?_
    refine lv_iload_n hx hb d_M_bringDown_56 rfl (lv_at hl 2 rfl) ?_
    refine va_aldq (D := D) hx hb hK hP 1 1 x_hA rfl (x_in2 hk) d_M_bringDown_57 ?_
    refine x_topv (x_nf_at hk) ?_
    refine va_get (D := D) (ci := 2) (C := R_N) (T := T_N) (N := 8) hx hb hts in_N hown hK hP (6 + k) (x_hN hk) rfl 0 (by decide) (hts _ gm_90) (fun _ h9 => h9) rfl d_M_bringDown_58 ?_
    refine lv_iload_n hx hb d_M_bringDown_61 rfl (lv_at hl 3 rfl) ?_
    refine x_V (rest := []) ⟨hx, hb, hml, hown, hts⟩ (c_D_settle_ok l D cI cN ad z2 k hk keep) gm_239 gm_216 gm_217 gm_31 gm_218 ⟨rfl, rfl⟩ hd_D_settle ⟨Nat.le_of_ble_eq_true rfl, Nat.le_of_ble_eq_true rfl⟩ hK hP hD hS hA (va_recv hK hP (ci := 1) (q0 := (8 + k)) rfl (x_hD hk)) rfl hl.1 rfl (Nat.le_of_ble_eq_true rfl) d_M_bringDown_62 ⟨Nat.le_of_ble_eq_true rfl, Nat.le_of_ble_eq_true rfl⟩ (fun H locs hP hD hS => ?_)
    obtain ⟨z4, ez4⟩ : ∃ zt_ : x_S, zt_ = x_settle z2 k keep := ⟨_, rfl⟩
    rw [← ez4] at hP hD
    refine lv_aload_n hx hb d_M_bringDown_65 rfl (lv_at hl 1 rfl) ?_
    refine va_get (D := D) (ci := 4) (C := R_M) (T := T_M) (N := 7) hx hb hts in_M hown hK hP 0 x_hM rfl 0 (by decide) (hts _ gm_154) (fun _ h9 => h9) rfl d_M_bringDown_66 ?_
    refine lv_iload_n hx hb d_M_bringDown_69 rfl (lv_at hl 2 rfl) ?_
    refine va_aldq (D := D) hx hb hK hP 1 1 x_hA rfl (x_in2 hk) d_M_bringDown_70 ?_
    refine x_topv (x_nf_at hk) ?_
    refine lv_iconst (v := 0) hx hb d_M_bringDown_71 (by decide) ?_
    refine va_put (D := D) (ci := 2) (v := .int 0) (ty := .boolean) (C := R_N) (T := T_N) (N := 8) hx hb hts in_N fy_N fy_N_ok n_N hown hK hP hD hS (6 + k) (x_hN hk) rfl 1 (by decide) (hts _ gm_92) (fun _ h9 => h9) rfl (by decide +kernel) rfl rfl (Nat.le_of_ble_eq_true rfl) d_M_bringDown_72 (fun H locs hP hD hS => ?_)
    obtain ⟨z5, ez5⟩ : ∃ zt_ : x_S, zt_ = x_up z4 (5 + k) 0 0 := ⟨_, rfl⟩
    have hP : va_P D vwCl (x_w cI cN ad z5) H := by rw [ez5, ← x_sN (i := 0) hk (by decide) 0]; exact hP
    have hD : va_D A (x_w cI cN ad z5) := by rw [ez5, ← x_sN (i := 0) hk (by decide) 0]; exact hD
    refine lv_aload_n hx hb d_M_bringDown_75 rfl (lv_at hl 1 rfl) ?_
    refine lv_iload_n hx hb d_M_bringDown_76 rfl (lv_at hl 2 rfl) ?_
    refine x_V (rest := []) ⟨hx, hb, hml, hown, hts⟩ (c_M_makeSecondary_ok l D cI cN ad z5 k hk) gm_240 gm_242 gm_7 gm_28 gm_243 ⟨rfl, rfl⟩ hd_M_makeSecondary ⟨Nat.le_of_ble_eq_true rfl, Nat.le_of_ble_eq_true rfl⟩ hK hP hD hS hA (va_recv hK hP (ci := 4) (q0 := 0) rfl x_hM) rfl hl.1 rfl (Nat.le_of_ble_eq_true rfl) d_M_bringDown_77 ⟨Nat.le_of_ble_eq_true rfl, Nat.le_of_ble_eq_true rfl⟩ (fun H locs hP hD hS => ?_)
    obtain ⟨z6, ez6⟩ : ∃ zt_ : x_S, zt_ = x_sec z5 k := ⟨_, rfl⟩
    rw [← ez6] at hP hD
    refine lv_aload_n hx hb d_M_bringDown_80 rfl (lv_at hl 1 rfl) ?_
    refine x_V (rest := []) ⟨hx, hb, hml, hown, hts⟩ (c_M_disconnect_ok l D cI cN ad z6) gm_244 gm_246 gm_8 gm_28 gm_247 ⟨rfl, rfl⟩ hd_M_disconnect ⟨Nat.le_of_ble_eq_true rfl, Nat.le_of_ble_eq_true rfl⟩ hK hP hD hS hA (va_recv hK hP (ci := 4) (q0 := 0) rfl x_hM) rfl hl.1 rfl (Nat.le_of_ble_eq_true rfl) d_M_bringDown_81 ⟨Nat.le_of_ble_eq_true rfl, Nat.le_of_ble_eq_true rfl⟩ (fun H locs hP hD hS => ?_)
    obtain ⟨z7, ez7⟩ : ∃ zt_ : x_S, zt_ = x_disc z6 := ⟨_, rfl⟩
    rw [← ez7] at hP hD
    exact x_rv (w := x_w cI cN ad) (by subst er1 ez2 ez4 ez5 ez6 ez7; first | (simp only [x_bring, if_pos c3]; done) | rfl | (simp only [x_bring, if_pos c3]; rfl)) hx hb hr hlk hP hD hS d_M_bringDown_84
  · refine lv_aload_n hx hb d_M_bringDown_35 rfl (lv_at hl 1 rfl) ?_
    refine va_get (D := D) (ci := 4) (C := R_M) (T := T_M) (N := 7) hx hb hts in_M hown hK hP 0 x_hM rfl 0 (by decide) (hts _ gm_154) (fun _ h9 => h9) rfl d_M_bringDown_36 ?_
    refine lv_iconst (v := 1) hx hb d_M_bringDown_39 (by decide) ?_
    refine lv_iload_n hx hb d_M_bringDown_40 rfl (lv_at hl 2 rfl) ?_
    refine lv_isub hx hb d_M_bringDown_41 ?_
    refine x_top (x_1k hk) ?_
    refine va_aldq (D := D) hx hb hK hP 1 1 x_hA rfl (x_in2 (x_1lt hk)) d_M_bringDown_42 ?_
    refine x_topv (x_nf_at (x_1lt hk)) ?_
    refine lv_dup hx hb d_M_bringDown_43 rfl ?_
    refine va_get (D := D) (ci := 2) (C := R_N) (T := T_N) (N := 8) hx hb hts in_N hown hK hP (6 + (1 - k)) (x_hN (x_1lt hk)) rfl 6 (by decide) (hts _ gm_102) (fun _ h9 => h9) rfl d_M_bringDown_44 ?_
    refine lv_iload_n hx hb d_M_bringDown_47 rfl (lv_at hl 0 rfl) ?_
    refine lv_ior hx hb d_M_bringDown_48 ?_
    refine va_put (D := D) (ci := 2) (v := .int ((z2 (5 + (1 - k)) 5) ||| r1)) (ty := .int) (C := R_N) (T := T_N) (N := 8) hx hb hts in_N fy_N fy_N_ok n_N hown hK hP hD hS (6 + (1 - k)) (x_hN (x_1lt hk)) rfl 6 (by decide) (hts _ gm_102) (fun _ h9 => h9) rfl (by decide +kernel) rfl rfl (Nat.le_of_ble_eq_true rfl) d_M_bringDown_49 (fun H locs hP hD hS => ?_)
    obtain ⟨z8, ez8⟩ : ∃ zt_ : x_S, zt_ = x_up z2 (5 + (1 - k)) 5 ((z2 (5 + (1 - k)) 5) ||| r1) := ⟨_, rfl⟩
    have hP : va_P D vwCl (x_w cI cN ad z8) H := by rw [ez8, ← x_sN (i := 5) (x_1lt hk) (by decide) ((z2 (5 + (1 - k)) 5) ||| r1)]; exact hP
    have hD : va_D A (x_w cI cN ad z8) := by rw [ez8, ← x_sN (i := 5) (x_1lt hk) (by decide) ((z2 (5 + (1 - k)) 5) ||| r1)]; exact hD
    refine lv_aload_n hx hb d_M_bringDown_52 rfl (lv_at hl 1 rfl) ?_
    refine va_get (D := D) (ci := 4) (C := R_M) (T := T_M) (N := 7) hx hb hts in_M hown hK hP 0 x_hM rfl 0 (by decide) (hts _ gm_154) (fun _ h9 => h9) rfl d_M_bringDown_53 ?_
    refine lv_iload_n hx hb d_M_bringDown_56 rfl (lv_at hl 2 rfl) ?_
    refine va_aldq (D := D) hx hb hK hP 1 1 x_hA rfl (x_in2 hk) d_M_bringDown_57 ?_
    refine x_topv (x_nf_at hk) ?_
    refine va_get (D := D) (ci := 2) (C := R_N) (T := T_N) (N := 8) hx hb hts in_N hown hK hP (6 + k) (x_hN hk) rfl 0 (by decide) (hts _ gm_90) (fun _ h9 => h9) rfl d_M_bringDown_58 ?_
    refine lv_iload_n hx hb d_M_bringDown_61 rfl (lv_at hl 3 rfl) ?_
    refine x_V (rest := []) ⟨hx, hb, hml, hown, hts⟩ (c_D_settle_ok l D cI cN ad z8 k hk keep) gm_239 gm_216 gm_217 gm_31 gm_218 ⟨rfl, rfl⟩ hd_D_settle ⟨Nat.le_of_ble_eq_true rfl, Nat.le_of_ble_eq_true rfl⟩ hK hP hD hS hA (va_recv hK hP (ci := 1) (q0 := (8 + k)) rfl (x_hD hk)) rfl hl.1 rfl (Nat.le_of_ble_eq_true rfl) d_M_bringDown_62 ⟨Nat.le_of_ble_eq_true rfl, Nat.le_of_ble_eq_true rfl⟩ (fun H locs hP hD hS => ?_)
    obtain ⟨z9, ez9⟩ : ∃ zt_ : x_S, zt_ = x_settle z8 k keep := ⟨_, rfl⟩
    rw [← ez9] at hP hD
    refine lv_aload_n hx hb d_M_bringDown_65 rfl (lv_at hl 1 rfl) ?_
    refine va_get (D := D) (ci := 4) (C := R_M) (T := T_M) (N := 7) hx hb hts in_M hown hK hP 0 x_hM rfl 0 (by decide) (hts _ gm_154) (fun _ h9 => h9) rfl d_M_bringDown_66 ?_
    refine lv_iload_n hx hb d_M_bringDown_69 rfl (lv_at hl 2 rfl) ?_
    refine va_aldq (D := D) hx hb hK hP 1 1 x_hA rfl (x_in2 hk) d_M_bringDown_70 ?_
    refine x_topv (x_nf_at hk) ?_
    refine lv_iconst (v := 0) hx hb d_M_bringDown_71 (by decide) ?_
    refine va_put (D := D) (ci := 2) (v := .int 0) (ty := .boolean) (C := R_N) (T := T_N) (N := 8) hx hb hts in_N fy_N fy_N_ok n_N hown hK hP hD hS (6 + k) (x_hN hk) rfl 1 (by decide) (hts _ gm_92) (fun _ h9 => h9) rfl (by decide +kernel) rfl rfl (Nat.le_of_ble_eq_true rfl) d_M_bringDown_72 (fun H locs hP hD hS => ?_)
    obtain ⟨z10, ez10⟩ : ∃ zt_ : x_S, zt_ = x_up z9 (5 + k) 0 0 := ⟨_, rfl⟩
    have hP : va_P D vwCl (x_w cI cN ad z10) H := by rw [ez10, ← x_sN (i := 0) hk (by decide) 0]; exact hP
    have hD : va_D A (x_w cI cN ad z10) := by rw [ez10, ← x_sN (i := 0) hk (by decide) 0]; exact hD
    refine lv_aload_n hx hb d_M_bringDown_75 rfl (lv_at hl 1 rfl) ?_
    refine lv_iload_n hx hb d_M_bringDown_76 rfl (lv_at hl 2 rfl) ?_
    refine x_V (rest := []) ⟨hx, hb, hml, hown, hts⟩ (c_M_makeSecondary_ok l D cI cN ad z10 k hk) gm_240 gm_242 gm_7 gm_28 gm_243 ⟨rfl, rfl⟩ hd_M_makeSecondary ⟨Nat.le_of_ble_eq_true rfl, Nat.le_of_ble_eq_true rfl⟩ hK hP hD hS hA (va_recv hK hP (ci := 4) (q0 := 0) rfl x_hM) rfl hl.1 rfl (Nat.le_of_ble_eq_true rfl) d_M_bringDown_77 ⟨Nat.le_of_ble_eq_true rfl, Nat.le_of_ble_eq_true rfl⟩ (fun H locs hP hD hS => ?_)
    obtain ⟨z11, ez11⟩ : ∃ zt_ : x_S, zt_ = x_sec z10 k := ⟨_, rfl⟩
    rw [← ez11] at hP hD
    refine lv_aload_n hx hb d_M_bringDown_80 rfl (lv_at hl 1 rfl) ?_
    refine x_V (rest := []) ⟨hx, hb, hml, hown, hts⟩ (c_M_disconnect_ok l D cI cN ad z11) gm_244 gm_246 gm_8 gm_28 gm_247 ⟨rfl, rfl⟩ hd_M_disconnect ⟨Nat.le_of_ble_eq_true rfl, Nat.le_of_ble_eq_true rfl⟩ hK hP hD hS hA (va_recv hK hP (ci := 4) (q0 := 0) rfl x_hM) rfl hl.1 rfl (Nat.le_of_ble_eq_true rfl) d_M_bringDown_81 ⟨Nat.le_of_ble_eq_true rfl, Nat.le_of_ble_eq_true rfl⟩ (fun H locs hP hD hS => ?_)
    obtain ⟨z12, ez12⟩ : ∃ zt_ : x_S, zt_ = x_disc z11 := ⟨_, rfl⟩
    rw [← ez12] at hP hD
    exact x_rv (w := x_w cI cN ad) (by subst er1 ez2 ez8 ez9 ez10 ez11 ez12; first | (simp only [x_bring, if_neg c3]; done) | rfl | (simp only [x_bring, if_neg c3]; rfl)) hx hb hr hlk hP hD hS d_M_bringDown_84
set_option maxHeartbeats 4000000 in
set_option maxRecDepth 100000 in
theorem c_M_writeBy_ok (l : Launch) (D : va_G) (cI cN : ClassId) (ad : Nat → Nat) (z : x_S) (k : Nat) (hk : k < 2) (b : Nat) (hb32 : b < 32) (v : Int32) : x_C l y_M_writeBy c_M_writeBy 4 none { frames := 1, cells := 0, slots := 0, locals := 22 } D (x_ty cI cN) (x_w cI cN ad z) [.ref (ad 0), .int (nI k), .int (nI b), .int v] (none) (x_w cI cN ad (x_wr z k b v)) := by
  refine x_C.of (by decide) (Nat.le_of_ble_eq_true rfl) ?_
  intro p e s m below meth c hx hb hr hml hts hown hlk A hA hK hS hP hD ls hl
  have hown : s.vm.findClass R_M = some m.cls := hown
  have hl : lv_has ls 4 [(0, .ref (ad 0)), (1, .int (nI k)), (2, .int (nI b)), (3, .int v)] := hl
  refine lv_aload_n hx hb d_M_writeBy_0 rfl (lv_at hl 0 rfl) ?_
  refine va_get (D := D) (ci := 4) (C := R_M) (T := T_M) (N := 7) hx hb hts in_M hown hK hP 0 x_hM rfl 0 (by decide) (hts _ gm_154) (fun _ h9 => h9) rfl d_M_writeBy_1 ?_
  refine lv_iload_n hx hb d_M_writeBy_4 rfl (lv_at hl 1 rfl) ?_
  refine va_aldq (D := D) hx hb hK hP 1 1 x_hA rfl (x_in2 hk) d_M_writeBy_5 ?_
  refine x_topv (x_nf_at hk) ?_
  refine va_get (D := D) (ci := 2) (C := R_N) (T := T_N) (N := 8) hx hb hts in_N hown hK hP (6 + k) (x_hN hk) rfl 0 (by decide) (hts _ gm_90) (fun _ h9 => h9) rfl d_M_writeBy_6 ?_
  refine lv_iload_n hx hb d_M_writeBy_9 rfl (lv_at hl 2 rfl) ?_
  refine lv_iload_n hx hb d_M_writeBy_10 rfl (lv_at hl 3 rfl) ?_
  refine x_V (rest := []) ⟨hx, hb, hml, hown, hts⟩ (c_D_put_ok l D cI cN ad z k hk b hb32 v) gm_227 gm_228 gm_229 gm_31 gm_230 ⟨rfl, rfl⟩ hd_D_put ⟨Nat.le_of_ble_eq_true rfl, Nat.le_of_ble_eq_true rfl⟩ hK hP hD hS hA (va_recv hK hP (ci := 1) (q0 := (8 + k)) rfl (x_hD hk)) rfl hl.1 rfl (Nat.le_of_ble_eq_true rfl) d_M_writeBy_11 ⟨Nat.le_of_ble_eq_true rfl, Nat.le_of_ble_eq_true rfl⟩ (fun H locs hP hD hS => ?_)
  obtain ⟨z1, ez1⟩ : ∃ zt_ : x_S, zt_ = x_put z k b v := ⟨_, rfl⟩
  rw [← ez1] at hP hD
  refine lv_aload_n hx hb d_M_writeBy_14 rfl (lv_at hl 0 rfl) ?_
  refine va_get (D := D) (ci := 4) (C := R_M) (T := T_M) (N := 7) hx hb hts in_M hown hK hP 0 x_hM rfl 4 (by decide) (hts _ gm_158) (fun _ h9 => h9) rfl d_M_writeBy_15 ?_
  refine lv_if_eq (tgt := 40) hx hb d_M_writeBy_18 (by decide) (fun c2 => ?_) (fun c2 => ?_)
  · refine lv_aload_n hx hb d_M_writeBy_40 rfl (lv_at hl 0 rfl) ?_
    refine va_get (D := D) (ci := 4) (C := R_M) (T := T_M) (N := 7) hx hb hts in_M hown hK hP 0 x_hM rfl 0 (by decide) (hts _ gm_154) (fun _ h9 => h9) rfl d_M_writeBy_41 ?_
    refine lv_iload_n hx hb d_M_writeBy_44 rfl (lv_at hl 1 rfl) ?_
    refine va_aldq (D := D) hx hb hK hP 1 1 x_hA rfl (x_in2 hk) d_M_writeBy_45 ?_
    refine x_topv (x_nf_at hk) ?_
    refine lv_dup hx hb d_M_writeBy_46 rfl ?_
    refine va_get (D := D) (ci := 2) (C := R_N) (T := T_N) (N := 8) hx hb hts in_N hown hK hP (6 + k) (x_hN hk) rfl 6 (by decide) (hts _ gm_102) (fun _ h9 => h9) rfl d_M_writeBy_47 ?_
    refine lv_iconst (v := 1) hx hb d_M_writeBy_50 (by decide) ?_
    refine lv_iload_n hx hb d_M_writeBy_51 rfl (lv_at hl 2 rfl) ?_
    refine lv_iconst (v := 4) hx hb d_M_writeBy_52 (by decide) ?_
    refine lv_idiv hx hb d_M_writeBy_53 (by decide) ?_
    refine lv_ishl hx hb d_M_writeBy_54 ?_
    refine lv_ior hx hb d_M_writeBy_55 ?_
    refine va_put (D := D) (ci := 2) (v := .int ((z1 (5 + k) 5) ||| (1 <<< ((nI b) / 4 &&& 31)))) (ty := .int) (C := R_N) (T := T_N) (N := 8) hx hb hts in_N fy_N fy_N_ok n_N hown hK hP hD hS (6 + k) (x_hN hk) rfl 6 (by decide) (hts _ gm_102) (fun _ h9 => h9) rfl (by decide +kernel) rfl rfl (Nat.le_of_ble_eq_true rfl) d_M_writeBy_56 (fun H locs hP hD hS => ?_)
    obtain ⟨z3, ez3⟩ : ∃ zt_ : x_S, zt_ = x_up z1 (5 + k) 5 ((z1 (5 + k) 5) ||| (1 <<< ((nI b) / 4 &&& 31))) := ⟨_, rfl⟩
    have hP : va_P D vwCl (x_w cI cN ad z3) H := by rw [ez3, ← x_sN (i := 5) hk (by decide) ((z1 (5 + k) 5) ||| (1 <<< ((nI b) / 4 &&& 31)))]; exact hP
    have hD : va_D A (x_w cI cN ad z3) := by rw [ez3, ← x_sN (i := 5) hk (by decide) ((z1 (5 + k) 5) ||| (1 <<< ((nI b) / 4 &&& 31)))]; exact hD
    exact x_rv (w := x_w cI cN ad) (by subst ez1 ez3; first | (simp only [x_wr, if_pos c2]; done) | rfl | (simp only [x_wr, if_pos c2]; rfl)) hx hb hr hlk hP hD hS d_M_writeBy_59
  · refine lv_aload_n hx hb d_M_writeBy_21 rfl (lv_at hl 0 rfl) ?_
    refine va_get (D := D) (ci := 4) (C := R_M) (T := T_M) (N := 7) hx hb hts in_M hown hK hP 0 x_hM rfl 0 (by decide) (hts _ gm_154) (fun _ h9 => h9) rfl d_M_writeBy_22 ?_
    refine lv_iconst (v := 1) hx hb d_M_writeBy_25 (by decide) ?_
    refine lv_iload_n hx hb d_M_writeBy_26 rfl (lv_at hl 1 rfl) ?_
    refine lv_isub hx hb d_M_writeBy_27 ?_
    refine x_top (x_1k hk) ?_
    refine va_aldq (D := D) hx hb hK hP 1 1 x_hA rfl (x_in2 (x_1lt hk)) d_M_writeBy_28 ?_
    refine x_topv (x_nf_at (x_1lt hk)) ?_
    refine va_get (D := D) (ci := 2) (C := R_N) (T := T_N) (N := 8) hx hb hts in_N hown hK hP (6 + (1 - k)) (x_hN (x_1lt hk)) rfl 0 (by decide) (hts _ gm_90) (fun _ h9 => h9) rfl d_M_writeBy_29 ?_
    refine lv_iload_n hx hb d_M_writeBy_32 rfl (lv_at hl 2 rfl) ?_
    refine lv_iload_n hx hb d_M_writeBy_33 rfl (lv_at hl 3 rfl) ?_
    refine x_V (rest := []) ⟨hx, hb, hml, hown, hts⟩ (c_D_put_ok l D cI cN ad z1 (1 - k) (x_1lt hk) b hb32 v) gm_227 gm_228 gm_229 gm_31 gm_230 ⟨rfl, rfl⟩ hd_D_put ⟨Nat.le_of_ble_eq_true rfl, Nat.le_of_ble_eq_true rfl⟩ hK hP hD hS hA (va_recv hK hP (ci := 1) (q0 := (8 + (1 - k))) rfl (x_hD (x_1lt hk))) rfl hl.1 rfl (Nat.le_of_ble_eq_true rfl) d_M_writeBy_34 ⟨Nat.le_of_ble_eq_true rfl, Nat.le_of_ble_eq_true rfl⟩ (fun H locs hP hD hS => ?_)
    obtain ⟨z4, ez4⟩ : ∃ zt_ : x_S, zt_ = x_put z1 (1 - k) b v := ⟨_, rfl⟩
    rw [← ez4] at hP hD
    refine lv_goto (tgt := 59) hx hb d_M_writeBy_37 (by decide) ?_
    exact x_rv (w := x_w cI cN ad) (by subst ez1 ez4; first | (simp only [x_wr, if_neg c2]; done) | rfl | (simp only [x_wr, if_neg c2]; rfl)) hx hb hr hlk hP hD hS d_M_writeBy_59
set_option maxHeartbeats 4000000 in
set_option maxRecDepth 100000 in
theorem c_M_flushBy_ok (l : Launch) (D : va_G) (cI cN : ClassId) (ad : Nat → Nat) (z : x_S) (k : Nat) (hk : k < 2) : x_C l y_M_flushBy c_M_flushBy 2 none { frames := 3, cells := 0, slots := 0, locals := 63 } D (x_ty cI cN) (x_w cI cN ad z) [.ref (ad 0), .int (nI k)] (none) (x_w cI cN ad (x_fl z k)) := by
  refine x_C.of (by decide) (Nat.le_of_ble_eq_true rfl) ?_
  intro p e s m below meth c hx hb hr hml hts hown hlk A hA hK hS hP hD ls hl
  have hown : s.vm.findClass R_M = some m.cls := hown
  have hl : lv_has ls 2 [(0, .ref (ad 0)), (1, .int (nI k))] := hl
  refine lv_aload_n hx hb d_M_flushBy_0 rfl (lv_at hl 0 rfl) ?_
  refine va_get (D := D) (ci := 4) (C := R_M) (T := T_M) (N := 7) hx hb hts in_M hown hK hP 0 x_hM rfl 0 (by decide) (hts _ gm_154) (fun _ h9 => h9) rfl d_M_flushBy_1 ?_
  refine lv_iload_n hx hb d_M_flushBy_4 rfl (lv_at hl 1 rfl) ?_
  refine va_aldq (D := D) hx hb hK hP 1 1 x_hA rfl (x_in2 hk) d_M_flushBy_5 ?_
  refine x_topv (x_nf_at hk) ?_
  refine va_get (D := D) (ci := 2) (C := R_N) (T := T_N) (N := 8) hx hb hts in_N hown hK hP (6 + k) (x_hN hk) rfl 0 (by decide) (hts _ gm_90) (fun _ h9 => h9) rfl d_M_flushBy_6 ?_
  refine x_V (rest := []) ⟨hx, hb, hml, hown, hts⟩ (c_D_flush_ok l D cI cN ad z k hk) gm_211 gm_212 gm_213 gm_31 gm_214 ⟨rfl, rfl⟩ hd_D_flush ⟨Nat.le_of_ble_eq_true rfl, Nat.le_of_ble_eq_true rfl⟩ hK hP hD hS hA (va_recv hK hP (ci := 1) (q0 := (8 + k)) rfl (x_hD hk)) rfl hl.1 rfl (Nat.le_of_ble_eq_true rfl) d_M_flushBy_9 ⟨Nat.le_of_ble_eq_true rfl, Nat.le_of_ble_eq_true rfl⟩ (fun H locs hP hD hS => ?_)
  obtain ⟨z1, ez1⟩ : ∃ zt_ : x_S, zt_ = x_flush z k := ⟨_, rfl⟩
  rw [← ez1] at hP hD
  refine lv_aload_n hx hb d_M_flushBy_12 rfl (lv_at hl 0 rfl) ?_
  refine va_get (D := D) (ci := 4) (C := R_M) (T := T_M) (N := 7) hx hb hts in_M hown hK hP 0 x_hM rfl 4 (by decide) (hts _ gm_158) (fun _ h9 => h9) rfl d_M_flushBy_13 ?_
  refine lv_if_eq (tgt := 33) hx hb d_M_flushBy_16 (by decide) (fun c2 => ?_) (fun c2 => ?_)
  · exact x_rv (w := x_w cI cN ad) (by subst ez1; first | (simp only [x_fl, if_pos c2]; done) | rfl | (simp only [x_fl, if_pos c2]; rfl)) hx hb hr hlk hP hD hS d_M_flushBy_33
  · refine lv_aload_n hx hb d_M_flushBy_19 rfl (lv_at hl 0 rfl) ?_
    refine va_get (D := D) (ci := 4) (C := R_M) (T := T_M) (N := 7) hx hb hts in_M hown hK hP 0 x_hM rfl 0 (by decide) (hts _ gm_154) (fun _ h9 => h9) rfl d_M_flushBy_20 ?_
    refine lv_iconst (v := 1) hx hb d_M_flushBy_23 (by decide) ?_
    refine lv_iload_n hx hb d_M_flushBy_24 rfl (lv_at hl 1 rfl) ?_
    refine lv_isub hx hb d_M_flushBy_25 ?_
    refine x_top (x_1k hk) ?_
    refine va_aldq (D := D) hx hb hK hP 1 1 x_hA rfl (x_in2 (x_1lt hk)) d_M_flushBy_26 ?_
    refine x_topv (x_nf_at (x_1lt hk)) ?_
    refine va_get (D := D) (ci := 2) (C := R_N) (T := T_N) (N := 8) hx hb hts in_N hown hK hP (6 + (1 - k)) (x_hN (x_1lt hk)) rfl 0 (by decide) (hts _ gm_90) (fun _ h9 => h9) rfl d_M_flushBy_27 ?_
    refine x_V (rest := []) ⟨hx, hb, hml, hown, hts⟩ (c_D_flush_ok l D cI cN ad z1 (1 - k) (x_1lt hk)) gm_211 gm_212 gm_213 gm_31 gm_214 ⟨rfl, rfl⟩ hd_D_flush ⟨Nat.le_of_ble_eq_true rfl, Nat.le_of_ble_eq_true rfl⟩ hK hP hD hS hA (va_recv hK hP (ci := 1) (q0 := (8 + (1 - k))) rfl (x_hD (x_1lt hk))) rfl hl.1 rfl (Nat.le_of_ble_eq_true rfl) d_M_flushBy_30 ⟨Nat.le_of_ble_eq_true rfl, Nat.le_of_ble_eq_true rfl⟩ (fun H locs hP hD hS => ?_)
    obtain ⟨z3, ez3⟩ : ∃ zt_ : x_S, zt_ = x_flush z1 (1 - k) := ⟨_, rfl⟩
    rw [← ez3] at hP hD
    exact x_rv (w := x_w cI cN ad) (by subst ez1 ez3; first | (simp only [x_fl, if_neg c2]; done) | rfl | (simp only [x_fl, if_neg c2]; rfl)) hx hb hr hlk hP hD hS d_M_flushBy_33
