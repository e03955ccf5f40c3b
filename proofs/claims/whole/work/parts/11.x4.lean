-- ===== 11.x4: a step of a commit, the journal
set_option maxHeartbeats 4000000 in
set_option maxRecDepth 100000 in
theorem c_M_doCommitStep_ok (l : Launch) (D : va_G) (cI cN : ClassId) (ad : Nat → Nat) (z : x_S) (k : Nat) (hk : k < 2) (n : Nat) (hn : n ≤ 3) (hz : z 2 0 = nI n) (hcell : ∀ i, i < n → ∃ b, b < 24 ∧ z 3 i = nI b) (t : Nat) (ht : t < 3 * n + 7) : x_C l y_M_doCommitStep c_M_doCommitStep 8 none { frames := 4, cells := 0, slots := 0, locals := 84 } D (x_ty cI cN) (x_w cI cN ad z) [.ref (ad 0), .int (nI k), .int (nI t)] (none) (x_w cI cN ad (x_step z k n t)) := by
  refine x_C.of (by decide) (Nat.le_of_ble_eq_true rfl) ?_
  intro p e s m below meth c hx hb hr hml hts hown hlk A hA hK hS hP hD ls hl
  have hown : s.vm.findClass R_M = some m.cls := hown
  have hl : lv_has ls 8 [(0, .ref (ad 0)), (1, .int (nI k)), (2, .int (nI t))] := hl
  refine lv_aload_n hx hb d_M_doCommitStep_0 rfl (lv_at hl 0 rfl) ?_
  refine va_get (D := D) (ci := 4) (C := R_M) (T := T_M) (N := 7) hx hb hts in_M hown hK hP 0 x_hM rfl 2 (by decide) (hts _ gm_156) (fun _ h9 => h9) rfl d_M_doCommitStep_1 ?_
  refine va_get (D := D) (ci := 0) (C := R_B) (T := T_B) (N := 3) hx hb hts in_B hown hK hP 3 x_hB rfl 2 (by decide) (hts _ gm_58) (fun _ h9 => h9) rfl d_M_doCommitStep_4 ?_
  refine x_top (show z 2 0 = nI n by exact hz) ?_
  refine lv_istore_n (lv' := [(3, .int (nI n)), (0, .ref (ad 0)), (1, .int (nI k)), (2, .int (nI t))]) hx hb d_M_doCommitStep_7 rfl hl (by decide) rfl (fun ls hl => ?_)
  refine lv_iconst (v := 3) hx hb d_M_doCommitStep_8 (by decide) ?_
  refine lv_iconst (v := 2) hx hb d_M_doCommitStep_9 (by decide) ?_
  refine lv_iload_n hx hb d_M_doCommitStep_10 rfl (lv_at hl 0 rfl) ?_
  refine lv_imul hx hb d_M_doCommitStep_11 ?_
  refine lv_iadd hx hb d_M_doCommitStep_12 ?_
  refine x_top (show 3 + (2 * (nI n)) = nI (3 + 2 * n) from x_n32 n) ?_
  refine lv_istore (lv' := [(4, .int (nI (3 + 2 * n))), (3, .int (nI n)), (0, .ref (ad 0)), (1, .int (nI k)), (2, .int (nI t))]) hx hb d_M_doCommitStep_13 hl (by decide) rfl (fun ls hl => ?_)
  refine lv_iload hx hb d_M_doCommitStep_15 (lv_at hl 0 rfl) ?_
  refine lv_iconst (v := 3) hx hb d_M_doCommitStep_17 (by decide) ?_
  refine lv_iadd hx hb d_M_doCommitStep_18 ?_
  refine x_top (show (nI (3 + 2 * n)) + 3 = nI (3 + 2 * n + 3) from x_nadd (3 + 2 * n) 3) ?_
  refine lv_istore (lv' := [(5, .int (nI (3 + 2 * n + 3))), (4, .int (nI (3 + 2 * n))), (3, .int (nI n)), (0, .ref (ad 0)), (1, .int (nI k)), (2, .int (nI t))]) hx hb d_M_doCommitStep_19 hl (by decide) rfl (fun ls hl => ?_)
  refine lv_iload_n hx hb d_M_doCommitStep_21 rfl (lv_at hl 5 rfl) ?_
  refine lv_if_eq (tgt := 44) hx hb d_M_doCommitStep_22 (by decide) (fun c1 => ?_) (fun c1 => ?_)
  · have c1 : t = 0 := (nI_eq (a := t) (b := 0) (by omega) (by omega)).mp c1
    refine lv_aload_n hx hb d_M_doCommitStep_44 rfl (lv_at hl 3 rfl) ?_
    refine lv_iload_n hx hb d_M_doCommitStep_45 rfl (lv_at hl 4 rfl) ?_
    refine x_V (rest := []) ⟨hx, hb, hml, hown, hts⟩ (c_M_flushBy_ok l D cI cN ad z k hk) gm_207 gm_209 gm_4 gm_28 gm_210 ⟨rfl, rfl⟩ hd_M_flushBy ⟨Nat.le_of_ble_eq_true rfl, Nat.le_of_ble_eq_true rfl⟩ hK hP hD hS hA (va_recv hK hP (ci := 4) (q0 := 0) rfl x_hM) rfl hl.1 rfl (Nat.le_of_ble_eq_true rfl) d_M_doCommitStep_46 ⟨Nat.le_of_ble_eq_true rfl, Nat.le_of_ble_eq_true rfl⟩ (fun H locs hP hD hS => ?_)
    obtain ⟨z2, ez2⟩ : ∃ zt_ : x_S, zt_ = x_fl z k := ⟨_, rfl⟩
    rw [← ez2] at hP hD
    refine lv_goto (tgt := 188) hx hb d_M_doCommitStep_49 (by decide) ?_
    exact x_rv (w := x_w cI cN ad) (by subst ez2; first | (simp only [x_step, if_pos c1]; done) | rfl | (simp only [x_step, if_pos c1]; rfl)) hx hb hr hlk hP hD hS d_M_doCommitStep_188
  · have c1 : ¬ t = 0 := fun h => c1 ((nI_eq (a := t) (b := 0) (by omega) (by omega)).mpr h)
    refine lv_iload_n hx hb d_M_doCommitStep_25 rfl (lv_at hl 5 rfl) ?_
    refine lv_iconst (v := 2) hx hb d_M_doCommitStep_26 (by decide) ?_
    refine lv_icmp_eq (tgt := 44) hx hb d_M_doCommitStep_27 (by decide) (fun c3 => ?_) (fun c3 => ?_)
    · have c3 : t = 2 := (nI_eq (a := t) (b := 2) (by omega) (by omega)).mp c3
      refine lv_aload_n hx hb d_M_doCommitStep_44 rfl (lv_at hl 3 rfl) ?_
      refine lv_iload_n hx hb d_M_doCommitStep_45 rfl (lv_at hl 4 rfl) ?_
      refine x_V (rest := []) ⟨hx, hb, hml, hown, hts⟩ (c_M_flushBy_ok l D cI cN ad z k hk) gm_207 gm_209 gm_4 gm_28 gm_210 ⟨rfl, rfl⟩ hd_M_flushBy ⟨Nat.le_of_ble_eq_true rfl, Nat.le_of_ble_eq_true rfl⟩ hK hP hD hS hA (va_recv hK hP (ci := 4) (q0 := 0) rfl x_hM) rfl hl.1 rfl (Nat.le_of_ble_eq_true rfl) d_M_doCommitStep_46 ⟨Nat.le_of_ble_eq_true rfl, Nat.le_of_ble_eq_true rfl⟩ (fun H locs hP hD hS => ?_)
      obtain ⟨z4, ez4⟩ : ∃ zt_ : x_S, zt_ = x_fl z k := ⟨_, rfl⟩
      rw [← ez4] at hP hD
      refine lv_goto (tgt := 188) hx hb d_M_doCommitStep_49 (by decide) ?_
      exact x_rv (w := x_w cI cN ad) (by subst ez4; first | (simp only [x_step, if_neg c1, if_pos c3]; done) | rfl | (simp only [x_step, if_neg c1, if_pos c3]; rfl)) hx hb hr hlk hP hD hS d_M_doCommitStep_188
    · have c3 : ¬ t = 2 := fun h => c3 ((nI_eq (a := t) (b := 2) (by omega) (by omega)).mpr h)
      refine lv_iload_n hx hb d_M_doCommitStep_30 rfl (lv_at hl 5 rfl) ?_
      refine lv_iload hx hb d_M_doCommitStep_31 (lv_at hl 1 rfl) ?_
      refine lv_icmp_eq (tgt := 44) hx hb d_M_doCommitStep_33 (by decide) (fun c5 => ?_) (fun c5 => ?_)
      · have c5 : t = (3 + 2 * n) := (nI_eq (a := t) (b := 3 + 2 * n) (by omega) (by omega)).mp c5
        refine lv_aload_n hx hb d_M_doCommitStep_44 rfl (lv_at hl 3 rfl) ?_
        refine lv_iload_n hx hb d_M_doCommitStep_45 rfl (lv_at hl 4 rfl) ?_
        refine x_V (rest := []) ⟨hx, hb, hml, hown, hts⟩ (c_M_flushBy_ok l D cI cN ad z k hk) gm_207 gm_209 gm_4 gm_28 gm_210 ⟨rfl, rfl⟩ hd_M_flushBy ⟨Nat.le_of_ble_eq_true rfl, Nat.le_of_ble_eq_true rfl⟩ hK hP hD hS hA (va_recv hK hP (ci := 4) (q0 := 0) rfl x_hM) rfl hl.1 rfl (Nat.le_of_ble_eq_true rfl) d_M_doCommitStep_46 ⟨Nat.le_of_ble_eq_true rfl, Nat.le_of_ble_eq_true rfl⟩ (fun H locs hP hD hS => ?_)
        obtain ⟨z6, ez6⟩ : ∃ zt_ : x_S, zt_ = x_fl z k := ⟨_, rfl⟩
        rw [← ez6] at hP hD
        refine lv_goto (tgt := 188) hx hb d_M_doCommitStep_49 (by decide) ?_
        exact x_rv (w := x_w cI cN ad) (by subst ez6; first | (simp only [x_step, if_neg c1, if_neg c3, if_pos c5]; done) | rfl | (simp only [x_step, if_neg c1, if_neg c3, if_pos c5]; rfl)) hx hb hr hlk hP hD hS d_M_doCommitStep_188
      · have c5 : ¬ t = (3 + 2 * n) := fun h => c5 ((nI_eq (a := t) (b := 3 + 2 * n) (by omega) (by omega)).mpr h)
        refine lv_iload_n hx hb d_M_doCommitStep_36 rfl (lv_at hl 5 rfl) ?_
        refine lv_iload hx hb d_M_doCommitStep_37 (lv_at hl 1 rfl) ?_
        refine lv_iconst (v := 2) hx hb d_M_doCommitStep_39 (by decide) ?_
        refine lv_iadd hx hb d_M_doCommitStep_40 ?_
        refine x_top (show (nI (3 + 2 * n)) + 2 = nI (3 + 2 * n + 2) from x_nadd (3 + 2 * n) 2) ?_
        refine lv_icmp_ne (tgt := 52) hx hb d_M_doCommitStep_41 (by decide) (fun c7 => ?_) (fun c7 => ?_)
        · have c7 : ¬ t = (3 + 2 * n + 2) := fun h => c7 ((nI_eq (a := t) (b := 3 + 2 * n + 2) (by omega) (by omega)).mpr h)
          refine lv_iload_n hx hb d_M_doCommitStep_52 rfl (lv_at hl 5 rfl) ?_
          refine lv_iconst (v := 1) hx hb d_M_doCommitStep_53 (by decide) ?_
          refine lv_icmp_ne (tgt := 68) hx hb d_M_doCommitStep_54 (by decide) (fun c8 => ?_) (fun c8 => ?_)
          · have c8 : ¬ t = 1 := fun h => c8 ((nI_eq (a := t) (b := 1) (by omega) (by omega)).mpr h)
            refine lv_iload_n hx hb d_M_doCommitStep_68 rfl (lv_at hl 5 rfl) ?_
            refine lv_iload hx hb d_M_doCommitStep_69 (lv_at hl 1 rfl) ?_
            refine lv_icmp_ge (tgt := 130) hx hb d_M_doCommitStep_71 (by decide) (fun c9 => ?_) (fun c9 => ?_)
            · have c9 : (3 + 2 * n) ≤ t := (nI_leI (a := 3 + 2 * n) (b := t) (by omega) (by omega)).mp c9
              refine lv_iload_n hx hb d_M_doCommitStep_130 rfl (lv_at hl 5 rfl) ?_
              refine lv_iload hx hb d_M_doCommitStep_131 (lv_at hl 1 rfl) ?_
              refine lv_iconst (v := 1) hx hb d_M_doCommitStep_133 (by decide) ?_
              refine lv_iadd hx hb d_M_doCommitStep_134 ?_
              refine x_top (show (nI (3 + 2 * n)) + 1 = nI (3 + 2 * n + 1) from x_nadd (3 + 2 * n) 1) ?_
              refine lv_icmp_ne (tgt := 149) hx hb d_M_doCommitStep_135 (by decide) (fun c10 => ?_) (fun c10 => ?_)
              · have c10 : ¬ t = (3 + 2 * n + 1) := fun h => c10 ((nI_eq (a := t) (b := 3 + 2 * n + 1) (by omega) (by omega)).mpr h)
                refine lv_iload_n hx hb d_M_doCommitStep_149 rfl (lv_at hl 5 rfl) ?_
                refine lv_iload hx hb d_M_doCommitStep_150 (lv_at hl 0 rfl) ?_
                refine lv_iload_n hx hb d_M_doCommitStep_152 rfl (lv_at hl 2 rfl) ?_
                refine lv_iadd hx hb d_M_doCommitStep_153 ?_
                refine x_top (show (nI (3 + 2 * n + 3)) + (nI n) = nI (3 + 2 * n + 3 + n) from x_nadd (3 + 2 * n + 3) n) ?_
                refine lv_icmp_ge (tgt := 188) hx hb d_M_doCommitStep_154 (by decide) (fun c11 => ?_) (fun c11 => ?_)
                · have c11 : (3 + 2 * n + 3 + n) ≤ t := (nI_leI (a := 3 + 2 * n + 3 + n) (b := t) (by omega) (by omega)).mp c11
                  exact x_rv (w := x_w cI cN ad) (by first | (simp only [x_step, if_neg c1, if_neg c3, if_neg c5, if_neg c7, if_neg c8, if_pos c9, if_neg c10, if_pos c11]; done) | rfl | (simp only [x_step, if_neg c1, if_neg c3, if_neg c5, if_neg c7, if_neg c8, if_pos c9, if_neg c10, if_pos c11]; rfl)) hx hb hr hlk hP hD hS d_M_doCommitStep_188
                · have c11 : ¬ (3 + 2 * n + 3 + n) ≤ t := fun h => c11 ((nI_leI (a := 3 + 2 * n + 3 + n) (b := t) (by omega) (by omega)).mpr h)
                  refine lv_iload_n hx hb d_M_doCommitStep_157 rfl (lv_at hl 5 rfl) ?_
                  refine lv_iload hx hb d_M_doCommitStep_158 (lv_at hl 0 rfl) ?_
                  refine lv_isub hx hb d_M_doCommitStep_160 ?_
                  refine x_top (show (nI t) - (nI (3 + 2 * n + 3)) = nI (t - (3 + 2 * n + 3)) from pk_sub (by omega)) ?_
                  refine lv_istore (lv' := [(6, .int (nI (t - (3 + 2 * n + 3)))), (5, .int (nI (3 + 2 * n + 3))), (4, .int (nI (3 + 2 * n))), (3, .int (nI n)), (0, .ref (ad 0)), (1, .int (nI k)), (2, .int (nI t))]) hx hb d_M_doCommitStep_161 hl (by decide) rfl (fun ls hl => ?_)
                  refine lv_aload_n hx hb d_M_doCommitStep_163 rfl (lv_at hl 4 rfl) ?_
                  refine lv_iload_n hx hb d_M_doCommitStep_164 rfl (lv_at hl 5 rfl) ?_
                  refine lv_aload_n hx hb d_M_doCommitStep_165 rfl (lv_at hl 4 rfl) ?_
                  refine va_get (D := D) (ci := 4) (C := R_M) (T := T_M) (N := 7) hx hb hts in_M hown hK hP 0 x_hM rfl 2 (by decide) (hts _ gm_156) (fun _ h9 => h9) rfl d_M_doCommitStep_166 ?_
                  refine va_get (D := D) (ci := 0) (C := R_B) (T := T_B) (N := 3) hx hb hts in_B hown hK hP 3 x_hB rfl 0 (by decide) (hts _ gm_54) (fun _ h9 => h9) rfl d_M_doCommitStep_169 ?_
                  refine lv_iload hx hb d_M_doCommitStep_172 (lv_at hl 0 rfl) ?_
                  refine va_iald (D := D) hx hb hK hP 4 0 x_hBc rfl (x_in3 (by omega)) d_M_doCommitStep_174 ?_
                  refine x_top (show z 3 (nI (t - (3 + 2 * n + 3))).toNatClampNeg = z 3 (t - (3 + 2 * n + 3)) by rw [x_cl3 (by omega)]) ?_
                  obtain ⟨cc, hcc, ec⟩ := hcell (t - (3 + 2 * n + 3)) (by omega)
                  refine x_top ec ?_
                  refine lv_aload_n hx hb d_M_doCommitStep_175 rfl (lv_at hl 4 rfl) ?_
                  refine va_get (D := D) (ci := 4) (C := R_M) (T := T_M) (N := 7) hx hb hts in_M hown hK hP 0 x_hM rfl 2 (by decide) (hts _ gm_156) (fun _ h9 => h9) rfl d_M_doCommitStep_176 ?_
                  refine va_get (D := D) (ci := 0) (C := R_B) (T := T_B) (N := 3) hx hb hts in_B hown hK hP 3 x_hB rfl 1 (by decide) (hts _ gm_56) (fun _ h9 => h9) rfl d_M_doCommitStep_179 ?_
                  refine lv_iload hx hb d_M_doCommitStep_182 (lv_at hl 0 rfl) ?_
                  refine va_iald (D := D) hx hb hK hP 5 0 x_hBv rfl (x_in3 (by omega)) d_M_doCommitStep_184 ?_
                  refine x_top (show z 4 (nI (t - (3 + 2 * n + 3))).toNatClampNeg = z 4 (t - (3 + 2 * n + 3)) by rw [x_cl3 (by omega)]) ?_
                  refine x_V (rest := []) ⟨hx, hb, hml, hown, hts⟩ (c_M_writeBy_ok l D cI cN ad z k hk cc (by omega) (z 4 (t - (3 + 2 * n + 3)))) gm_223 gm_225 gm_5 gm_28 gm_226 ⟨rfl, rfl⟩ hd_M_writeBy ⟨Nat.le_of_ble_eq_true rfl, Nat.le_of_ble_eq_true rfl⟩ hK hP hD hS hA (va_recv hK hP (ci := 4) (q0 := 0) rfl x_hM) rfl hl.1 rfl (Nat.le_of_ble_eq_true rfl) d_M_doCommitStep_185 ⟨Nat.le_of_ble_eq_true rfl, Nat.le_of_ble_eq_true rfl⟩ (fun H locs hP hD hS => ?_)
                  obtain ⟨z12, ez12⟩ : ∃ zt_ : x_S, zt_ = x_wr z k cc (z 4 (t - (3 + 2 * n + 3))) := ⟨_, rfl⟩
                  rw [← ez12] at hP hD
                  exact x_rv (w := x_w cI cN ad) (by subst ez12; first | (simp only [x_step, if_neg c1, if_neg c3, if_neg c5, if_neg c7, if_neg c8, if_pos c9, if_neg c10, if_neg c11, ec, x_cl32 (show cc < 32 by omega)]; done) | rfl | (simp only [x_step, if_neg c1, if_neg c3, if_neg c5, if_neg c7, if_neg c8, if_pos c9, if_neg c10, if_neg c11, ec, x_cl32 (show cc < 32 by omega)]; rfl)) hx hb hr hlk hP hD hS d_M_doCommitStep_188
              · have c10 : t = (3 + 2 * n + 1) := (nI_eq (a := t) (b := 3 + 2 * n + 1) (by omega) (by omega)).mp c10
                refine lv_aload_n hx hb d_M_doCommitStep_138 rfl (lv_at hl 3 rfl) ?_
                refine lv_iload_n hx hb d_M_doCommitStep_139 rfl (lv_at hl 4 rfl) ?_
                refine lv_bipush (v := 24) hx hb d_M_doCommitStep_140 (by decide) ?_
                refine x_top (show (24 : Int32) = nI 24 from rfl) ?_
                refine lv_iload_n hx hb d_M_doCommitStep_142 rfl (lv_at hl 2 rfl) ?_
                refine x_V (rest := []) ⟨hx, hb, hml, hown, hts⟩ (c_M_writeBy_ok l D cI cN ad z k hk 24 (by decide) (nI n)) gm_223 gm_225 gm_5 gm_28 gm_226 ⟨rfl, rfl⟩ hd_M_writeBy ⟨Nat.le_of_ble_eq_true rfl, Nat.le_of_ble_eq_true rfl⟩ hK hP hD hS hA (va_recv hK hP (ci := 4) (q0 := 0) rfl x_hM) rfl hl.1 rfl (Nat.le_of_ble_eq_true rfl) d_M_doCommitStep_143 ⟨Nat.le_of_ble_eq_true rfl, Nat.le_of_ble_eq_true rfl⟩ (fun H locs hP hD hS => ?_)
                obtain ⟨z13, ez13⟩ : ∃ zt_ : x_S, zt_ = x_wr z k 24 (nI n) := ⟨_, rfl⟩
                rw [← ez13] at hP hD
                refine lv_goto (tgt := 188) hx hb d_M_doCommitStep_146 (by decide) ?_
                exact x_rv (w := x_w cI cN ad) (by subst ez13; first | (simp only [x_step, if_neg c1, if_neg c3, if_neg c5, if_neg c7, if_neg c8, if_pos c9, if_pos c10]; done) | rfl | (simp only [x_step, if_neg c1, if_neg c3, if_neg c5, if_neg c7, if_neg c8, if_pos c9, if_pos c10]; rfl)) hx hb hr hlk hP hD hS d_M_doCommitStep_188
            · have c9 : ¬ (3 + 2 * n) ≤ t := fun h => c9 ((nI_leI (a := 3 + 2 * n) (b := t) (by omega) (by omega)).mpr h)
              refine lv_iload_n hx hb d_M_doCommitStep_74 rfl (lv_at hl 5 rfl) ?_
              refine lv_iconst (v := 3) hx hb d_M_doCommitStep_75 (by decide) ?_
              refine lv_isub hx hb d_M_doCommitStep_76 ?_
              refine x_top (show (nI t) - 3 = nI (t - 3) from pk_sub (b := 3) (by omega)) ?_
              refine lv_istore (lv' := [(6, .int (nI (t - 3))), (5, .int (nI (3 + 2 * n + 3))), (4, .int (nI (3 + 2 * n))), (3, .int (nI n)), (0, .ref (ad 0)), (1, .int (nI k)), (2, .int (nI t))]) hx hb d_M_doCommitStep_77 hl (by decide) rfl (fun ls hl => ?_)
              refine lv_iload hx hb d_M_doCommitStep_79 (lv_at hl 0 rfl) ?_
              refine lv_iconst (v := 2) hx hb d_M_doCommitStep_81 (by decide) ?_
              refine lv_irem hx hb d_M_doCommitStep_82 (by decide) ?_
              refine x_top (show (nI (t - 3)) - (nI (t - 3)) / 2 * 2 = nI ((t - 3) % 2) from pk_rem (d := 2) (by omega) (by decide) (by decide)) ?_
              refine lv_if_ne (tgt := 101) hx hb d_M_doCommitStep_83 (by decide) (fun c14 => ?_) (fun c14 => ?_)
              · have c14 : ¬ ((t - 3) % 2) = 0 := fun h => c14 ((nI_eq (a := (t - 3) % 2) (b := 0) (by omega) (by omega)).mpr h)
                refine lv_aload_n hx hb d_M_doCommitStep_101 rfl (lv_at hl 4 rfl) ?_
                refine va_get (D := D) (ci := 4) (C := R_M) (T := T_M) (N := 7) hx hb hts in_M hown hK hP 0 x_hM rfl 2 (by decide) (hts _ gm_156) (fun _ h9 => h9) rfl d_M_doCommitStep_102 ?_
                refine va_get (D := D) (ci := 0) (C := R_B) (T := T_B) (N := 3) hx hb hts in_B hown hK hP 3 x_hB rfl 1 (by decide) (hts _ gm_56) (fun _ h9 => h9) rfl d_M_doCommitStep_105 ?_
                refine lv_iload hx hb d_M_doCommitStep_108 (lv_at hl 0 rfl) ?_
                refine lv_iconst (v := 2) hx hb d_M_doCommitStep_110 (by decide) ?_
                refine lv_idiv hx hb d_M_doCommitStep_111 (by decide) ?_
                refine x_top (show (nI (t - 3)) / 2 = nI ((t - 3) / 2) from pk_div (d := 2) (by omega) (by decide) (by decide)) ?_
                refine va_iald (D := D) hx hb hK hP 5 0 x_hBv rfl (x_in3 (by omega)) d_M_doCommitStep_112 ?_
                refine x_top (show z 4 (nI ((t - 3) / 2)).toNatClampNeg = z 4 ((t - 3) / 2) by rw [x_cl3 (by omega)]) ?_
                refine lv_istore (lv' := [(7, .int (z 4 ((t - 3) / 2))), (6, .int (nI (t - 3))), (5, .int (nI (3 + 2 * n + 3))), (4, .int (nI (3 + 2 * n))), (3, .int (nI n)), (0, .ref (ad 0)), (1, .int (nI k)), (2, .int (nI t))]) hx hb d_M_doCommitStep_113 hl (by decide) rfl (fun ls hl => ?_)
                refine lv_aload_n hx hb d_M_doCommitStep_115 rfl (lv_at hl 5 rfl) ?_
                refine lv_iload_n hx hb d_M_doCommitStep_116 rfl (lv_at hl 6 rfl) ?_
                refine lv_bipush (v := 25) hx hb d_M_doCommitStep_117 (by decide) ?_
                refine lv_iload hx hb d_M_doCommitStep_119 (lv_at hl 1 rfl) ?_
                refine lv_iadd hx hb d_M_doCommitStep_121 ?_
                refine x_top (show 25 + (nI (t - 3)) = nI (25 + (t - 3)) from x_nadd 25 (t - 3)) ?_
                refine lv_iload hx hb d_M_doCommitStep_122 (lv_at hl 0 rfl) ?_
                refine x_V (rest := []) ⟨hx, hb, hml, hown, hts⟩ (c_M_writeBy_ok l D cI cN ad z k hk (25 + (t - 3)) (by omega) (z 4 ((t - 3) / 2))) gm_223 gm_225 gm_5 gm_28 gm_226 ⟨rfl, rfl⟩ hd_M_writeBy ⟨Nat.le_of_ble_eq_true rfl, Nat.le_of_ble_eq_true rfl⟩ hK hP hD hS hA (va_recv hK hP (ci := 4) (q0 := 0) rfl x_hM) rfl hl.1 rfl (Nat.le_of_ble_eq_true rfl) d_M_doCommitStep_124 ⟨Nat.le_of_ble_eq_true rfl, Nat.le_of_ble_eq_true rfl⟩ (fun H locs hP hD hS => ?_)
                obtain ⟨z15, ez15⟩ : ∃ zt_ : x_S, zt_ = x_wr z k (25 + (t - 3)) (z 4 ((t - 3) / 2)) := ⟨_, rfl⟩
                rw [← ez15] at hP hD
                refine lv_goto (tgt := 188) hx hb d_M_doCommitStep_127 (by decide) ?_
                exact x_rv (w := x_w cI cN ad) (by subst ez15; first | (simp only [x_step, if_neg c1, if_neg c3, if_neg c5, if_neg c7, if_neg c8, if_neg c9, if_neg c14]; done) | rfl | (simp only [x_step, if_neg c1, if_neg c3, if_neg c5, if_neg c7, if_neg c8, if_neg c9, if_neg c14]; rfl)) hx hb hr hlk hP hD hS d_M_doCommitStep_188
              · have c14 : ((t - 3) % 2) = 0 := (nI_eq (a := (t - 3) % 2) (b := 0) (by omega) (by omega)).mp c14
                refine lv_aload_n hx hb d_M_doCommitStep_86 rfl (lv_at hl 4 rfl) ?_
                refine va_get (D := D) (ci := 4) (C := R_M) (T := T_M) (N := 7) hx hb hts in_M hown hK hP 0 x_hM rfl 2 (by decide) (hts _ gm_156) (fun _ h9 => h9) rfl d_M_doCommitStep_87 ?_
                refine va_get (D := D) (ci := 0) (C := R_B) (T := T_B) (N := 3) hx hb hts in_B hown hK hP 3 x_hB rfl 0 (by decide) (hts _ gm_54) (fun _ h9 => h9) rfl d_M_doCommitStep_90 ?_
                refine lv_iload hx hb d_M_doCommitStep_93 (lv_at hl 0 rfl) ?_
                refine lv_iconst (v := 2) hx hb d_M_doCommitStep_95 (by decide) ?_
                refine lv_idiv hx hb d_M_doCommitStep_96 (by decide) ?_
                refine x_top (show (nI (t - 3)) / 2 = nI ((t - 3) / 2) from pk_div (d := 2) (by omega) (by decide) (by decide)) ?_
                refine va_iald (D := D) hx hb hK hP 4 0 x_hBc rfl (x_in3 (by omega)) d_M_doCommitStep_97 ?_
                refine x_top (show z 3 (nI ((t - 3) / 2)).toNatClampNeg = z 3 ((t - 3) / 2) by rw [x_cl3 (by omega)]) ?_
                refine lv_goto (tgt := 113) hx hb d_M_doCommitStep_98 (by decide) ?_
                refine lv_istore (lv' := [(7, .int (z 3 ((t - 3) / 2))), (6, .int (nI (t - 3))), (5, .int (nI (3 + 2 * n + 3))), (4, .int (nI (3 + 2 * n))), (3, .int (nI n)), (0, .ref (ad 0)), (1, .int (nI k)), (2, .int (nI t))]) hx hb d_M_doCommitStep_113 hl (by decide) rfl (fun ls hl => ?_)
                refine lv_aload_n hx hb d_M_doCommitStep_115 rfl (lv_at hl 5 rfl) ?_
                refine lv_iload_n hx hb d_M_doCommitStep_116 rfl (lv_at hl 6 rfl) ?_
                refine lv_bipush (v := 25) hx hb d_M_doCommitStep_117 (by decide) ?_
                refine lv_iload hx hb d_M_doCommitStep_119 (lv_at hl 1 rfl) ?_
                refine lv_iadd hx hb d_M_doCommitStep_121 ?_
                refine x_top (show 25 + (nI (t - 3)) = nI (25 + (t - 3)) from x_nadd 25 (t - 3)) ?_
                refine lv_iload hx hb d_M_doCommitStep_122 (lv_at hl 0 rfl) ?_
                refine x_V (rest := []) ⟨hx, hb, hml, hown, hts⟩ (c_M_writeBy_ok l D cI cN ad z k hk (25 + (t - 3)) (by omega) (z 3 ((t - 3) / 2))) gm_223 gm_225 gm_5 gm_28 gm_226 ⟨rfl, rfl⟩ hd_M_writeBy ⟨Nat.le_of_ble_eq_true rfl, Nat.le_of_ble_eq_true rfl⟩ hK hP hD hS hA (va_recv hK hP (ci := 4) (q0 := 0) rfl x_hM) rfl hl.1 rfl (Nat.le_of_ble_eq_true rfl) d_M_doCommitStep_124 ⟨Nat.le_of_ble_eq_true rfl, Nat.le_of_ble_eq_true rfl⟩ (fun H locs hP hD hS => ?_)
                obtain ⟨z16, ez16⟩ : ∃ zt_ : x_S, zt_ = x_wr z k (25 + (t - 3)) (z 3 ((t - 3) / 2)) := ⟨_, rfl⟩
                rw [← ez16] at hP hD
                refine lv_goto (tgt := 188) hx hb d_M_doCommitStep_127 (by decide) ?_
                exact x_rv (w := x_w cI cN ad) (by subst ez16; first | (simp only [x_step, if_neg c1, if_neg c3, if_neg c5, if_neg c7, if_neg c8, if_neg c9, if_pos c14]; done) | rfl | (simp only [x_step, if_neg c1, if_neg c3, if_neg c5, if_neg c7, if_neg c8, if_neg c9, if_pos c14]; rfl)) hx hb hr hlk hP hD hS d_M_doCommitStep_188
          · have c8 : t = 1 := (nI_eq (a := t) (b := 1) (by omega) (by omega)).mp c8
            refine lv_aload_n hx hb d_M_doCommitStep_57 rfl (lv_at hl 3 rfl) ?_
            refine lv_iload_n hx hb d_M_doCommitStep_58 rfl (lv_at hl 4 rfl) ?_
            refine lv_bipush (v := 24) hx hb d_M_doCommitStep_59 (by decide) ?_
            refine x_top (show (24 : Int32) = nI 24 from rfl) ?_
            refine lv_iconst (v := 0) hx hb d_M_doCommitStep_61 (by decide) ?_
            refine x_V (rest := []) ⟨hx, hb, hml, hown, hts⟩ (c_M_writeBy_ok l D cI cN ad z k hk 24 (by decide) 0) gm_223 gm_225 gm_5 gm_28 gm_226 ⟨rfl, rfl⟩ hd_M_writeBy ⟨Nat.le_of_ble_eq_true rfl, Nat.le_of_ble_eq_true rfl⟩ hK hP hD hS hA (va_recv hK hP (ci := 4) (q0 := 0) rfl x_hM) rfl hl.1 rfl (Nat.le_of_ble_eq_true rfl) d_M_doCommitStep_62 ⟨Nat.le_of_ble_eq_true rfl, Nat.le_of_ble_eq_true rfl⟩ (fun H locs hP hD hS => ?_)
            obtain ⟨z17, ez17⟩ : ∃ zt_ : x_S, zt_ = x_wr z k 24 0 := ⟨_, rfl⟩
            rw [← ez17] at hP hD
            refine lv_goto (tgt := 188) hx hb d_M_doCommitStep_65 (by decide) ?_
            exact x_rv (w := x_w cI cN ad) (by subst ez17; first | (simp only [x_step, if_neg c1, if_neg c3, if_neg c5, if_neg c7, if_pos c8]; done) | rfl | (simp only [x_step, if_neg c1, if_neg c3, if_neg c5, if_neg c7, if_pos c8]; rfl)) hx hb hr hlk hP hD hS d_M_doCommitStep_188
        · have c7 : t = (3 + 2 * n + 2) := (nI_eq (a := t) (b := 3 + 2 * n + 2) (by omega) (by omega)).mp c7
          refine lv_aload_n hx hb d_M_doCommitStep_44 rfl (lv_at hl 3 rfl) ?_
          refine lv_iload_n hx hb d_M_doCommitStep_45 rfl (lv_at hl 4 rfl) ?_
          refine x_V (rest := []) ⟨hx, hb, hml, hown, hts⟩ (c_M_flushBy_ok l D cI cN ad z k hk) gm_207 gm_209 gm_4 gm_28 gm_210 ⟨rfl, rfl⟩ hd_M_flushBy ⟨Nat.le_of_ble_eq_true rfl, Nat.le_of_ble_eq_true rfl⟩ hK hP hD hS hA (va_recv hK hP (ci := 4) (q0 := 0) rfl x_hM) rfl hl.1 rfl (Nat.le_of_ble_eq_true rfl) d_M_doCommitStep_46 ⟨Nat.le_of_ble_eq_true rfl, Nat.le_of_ble_eq_true rfl⟩ (fun H locs hP hD hS => ?_)
          obtain ⟨z18, ez18⟩ : ∃ zt_ : x_S, zt_ = x_fl z k := ⟨_, rfl⟩
          rw [← ez18] at hP hD
          refine lv_goto (tgt := 188) hx hb d_M_doCommitStep_49 (by decide) ?_
          exact x_rv (w := x_w cI cN ad) (by subst ez18; first | (simp only [x_step, if_neg c1, if_neg c3, if_neg c5, if_pos c7]; done) | rfl | (simp only [x_step, if_neg c1, if_neg c3, if_neg c5, if_pos c7]; rfl)) hx hb hr hlk hP hD hS d_M_doCommitStep_188
set_option maxHeartbeats 4000000 in
set_option maxRecDepth 100000 in
theorem c_M_redoJournal_ok (l : Launch) (D : va_G) (cI cN : ClassId) (ad : Nat → Nat) (z : x_S) (k : Nat) (hk : k < 2) : x_C l y_M_redoJournal c_M_redoJournal 6 (some .int) { frames := 2, cells := 0, slots := 0, locals := 45 } D (x_ty cI cN) (x_w cI cN ad z) [.ref (ad 0), .int (nI k)] (some (.int (x_redo z k).1)) (x_w cI cN ad (x_redo z k).2) := by
  refine x_C.of (by decide) (Nat.le_of_ble_eq_true rfl) ?_
  intro p e s m below meth c hx hb hr hml hts hown hlk A hA hK hS hP hD ls hl
  have hown : s.vm.findClass R_M = some m.cls := hown
  have hl : lv_has ls 6 [(0, .ref (ad 0)), (1, .int (nI k))] := hl
  have lpo : ∀ e0 : Nat, 1 ≤ e0 → e0 ≤ 3 → x_held z k 24 = nI e0 → ∀ (H : Heap) (locs : List Loc) (ls : Array Slot), va_P D vwCl (x_w cI cN ad z) H → va_D A (x_w cI cN ad z) → va_S A s.heap H locs → lv_has ls 6 [(4, .int (nI 0)), (3, .int (nI e0)), (2, .ref (ad (8 + k))), (0, .ref (ad 0)), (1, .int (nI k))] → W p l e { frames := 2, cells := 0, slots := 0, locals := 45 } s m [.ref (ad 0), .int (nI k)].toArray below meth c H locs 0 0 (MQ below (x_Q (some (.int (x_redo z k).1)) D (x_w cI cN ad (x_redo z k).2) A) [.ref (ad 0), .int (nI k)].toArray s 0 0 A) (F0 m 32 ls []) := by
    intro e0 he1 he3 he
    have lp : ∀ (n i : Nat) (y : x_S) (H : Heap) (locs : List Loc) (ls : Array Slot), i + n = e0 → x_redo z k = (nI e0, x_redoL k n i y) → va_P D vwCl (x_w cI cN ad y) H → va_D A (x_w cI cN ad y) → va_S A s.heap H locs → lv_has ls 6 [(4, .int (nI i)), (3, .int (nI e0)), (2, .ref (ad (8 + k))), (0, .ref (ad 0)), (1, .int (nI k))] → W p l e { frames := 2, cells := 0, slots := 0, locals := 45 } s m [.ref (ad 0), .int (nI k)].toArray below meth c H locs 0 0 (MQ below (x_Q (some (.int (x_redo z k).1)) D (x_w cI cN ad (x_redo z k).2) A) [.ref (ad 0), .int (nI k)].toArray s 0 0 A) (F0 m 32 ls []) := by
      intro n
      induction n with
      | zero =>
        intro i y  H locs ls hn hI hP hD hS hl
        refine lv_iload hx hb d_M_redoJournal_32 (lv_at hl 0 rfl) ?_
        refine lv_iload_n hx hb d_M_redoJournal_34 rfl (lv_at hl 1 rfl) ?_
        refine lv_icmp_ge (tgt := 85) hx hb d_M_redoJournal_35 (by decide) (fun c1 => ?_) (fun c1 => ?_)
        · have c1 : e0 ≤ i := (nI_leI (a := e0) (b := i) (by omega) (by omega)).mp c1
          refine lv_iload_n hx hb d_M_redoJournal_85 rfl (lv_at hl 1 rfl) ?_
          exact x_ri (w := x_w cI cN ad) (by rw [hI]; rfl) hx hb hr hlk hP hD hS d_M_redoJournal_86
        · have c1 : ¬ e0 ≤ i := fun h => c1 ((nI_leI (a := e0) (b := i) (by omega) (by omega)).mpr h)
          exact absurd (show e0 ≤ i by omega) c1
      | succ n ih =>
        intro i y  H locs ls hn hI hP hD hS hl
        refine lv_iload hx hb d_M_redoJournal_32 (lv_at hl 0 rfl) ?_
        refine lv_iload_n hx hb d_M_redoJournal_34 rfl (lv_at hl 1 rfl) ?_
        refine lv_icmp_ge (tgt := 85) hx hb d_M_redoJournal_35 (by decide) (fun c2 => ?_) (fun c2 => ?_)
        · have c2 : e0 ≤ i := (nI_leI (a := e0) (b := i) (by omega) (by omega)).mp c2
          exact absurd c2 (by omega)
        · have c2 : ¬ e0 ≤ i := fun h => c2 ((nI_leI (a := e0) (b := i) (by omega) (by omega)).mpr h)
          refine lv_aload_n hx hb d_M_redoJournal_38 rfl (lv_at hl 2 rfl) ?_
          refine lv_bipush (v := 25) hx hb d_M_redoJournal_39 (by decide) ?_
          refine lv_iconst (v := 2) hx hb d_M_redoJournal_41 (by decide) ?_
          refine lv_iload hx hb d_M_redoJournal_42 (lv_at hl 0 rfl) ?_
          refine lv_imul hx hb d_M_redoJournal_44 ?_
          refine lv_iadd hx hb d_M_redoJournal_45 ?_
          refine x_top (show 25 + (2 * (nI i)) = nI (25 + 2 * i) by rw [show (2 : Int32) * nI i = nI (2 * i) from x_nmul 2 i]; exact x_nadd 25 (2 * i)) ?_
          refine x_V (rest := []) ⟨hx, hb, hml, hown, hts⟩ (c_D_held_ok l D cI cN ad y k hk (25 + 2 * i) (by omega)) gm_253 gm_254 gm_255 gm_31 gm_256 ⟨rfl, rfl⟩ hd_D_held ⟨Nat.le_of_ble_eq_true rfl, Nat.le_of_ble_eq_true rfl⟩ hK hP hD hS hA (va_recv hK hP (ci := 1) (q0 := (8 + k)) rfl (x_hD hk)) rfl hl.1 rfl (Nat.le_of_ble_eq_true rfl) d_M_redoJournal_46 ⟨Nat.le_of_ble_eq_true rfl, Nat.le_of_ble_eq_true rfl⟩ (fun H locs hP hD hS => ?_)
          refine lv_topi (fun r3 er3 => ?_)
          refine lv_istore (lv' := [(5, .int r3), (4, .int (nI i)), (3, .int (nI e0)), (2, .ref (ad (8 + k))), (0, .ref (ad 0)), (1, .int (nI k))]) hx hb d_M_redoJournal_49 hl (by decide) rfl (fun ls hl => ?_)
          refine lv_iload hx hb d_M_redoJournal_51 (lv_at hl 0 rfl) ?_
          refine x_T (rest := []) ⟨hx, hb, hml, hown, hts⟩ (c_M_isCell_ok l D cI cN ad y r3) gm_180 gm_181 gm_28 gm_182 ⟨rfl, rfl⟩ hd_M_isCell ⟨Nat.le_of_ble_eq_true rfl, Nat.le_of_ble_eq_true rfl⟩ hK hP hD hS hA rfl hl.1 rfl (Nat.le_of_ble_eq_true rfl) d_M_redoJournal_53 ⟨Nat.le_of_ble_eq_true rfl, Nat.le_of_ble_eq_true rfl⟩ (fun H locs hP hD hS => ?_)
          refine lv_topi (fun r4 er4 => ?_)
          refine lv_if_eq (tgt := 79) hx hb d_M_redoJournal_56 (by decide) (fun c5 => ?_) (fun c5 => ?_)
          · refine lv_iinc (v := nI (i + 1)) (lv' := [(4, .int (nI (i + 1))), (5, .int r3), (3, .int (nI e0)), (2, .ref (ad (8 + k))), (0, .ref (ad 0)), (1, .int (nI k))]) hx hb d_M_redoJournal_79 hl (k := 1) rfl (nI_1 _) (by decide) rfl (fun ls hl => ?_)
            refine lv_goto (tgt := 32) hx hb d_M_redoJournal_82 (by decide) ?_
            exact ih (i + 1) y H locs ls (by omega) (by subst er3 er4; rw [hI]; simp only [x_redoL, x_redoB, if_neg c2, if_pos c5]) hP hD hS (lv_sub hl [0, 2, 3, 4, 5] rfl)
          · obtain ⟨cc, hcc, ec⟩ := x_cellE (c := r3) (by subst er4; exact c5)
            subst ec
            refine lv_aload_n hx hb d_M_redoJournal_59 rfl (lv_at hl 4 rfl) ?_
            refine lv_iload_n hx hb d_M_redoJournal_60 rfl (lv_at hl 5 rfl) ?_
            refine lv_iload hx hb d_M_redoJournal_61 (lv_at hl 0 rfl) ?_
            refine lv_aload_n hx hb d_M_redoJournal_63 rfl (lv_at hl 3 rfl) ?_
            refine lv_bipush (v := 25) hx hb d_M_redoJournal_64 (by decide) ?_
            refine lv_iconst (v := 2) hx hb d_M_redoJournal_66 (by decide) ?_
            refine lv_iload hx hb d_M_redoJournal_67 (lv_at hl 1 rfl) ?_
            refine lv_imul hx hb d_M_redoJournal_69 ?_
            refine lv_iadd hx hb d_M_redoJournal_70 ?_
            refine x_top (show 25 + (2 * (nI i)) = nI (25 + 2 * i) by rw [show (2 : Int32) * nI i = nI (2 * i) from x_nmul 2 i]; exact x_nadd 25 (2 * i)) ?_
            refine lv_iconst (v := 1) hx hb d_M_redoJournal_71 (by decide) ?_
            refine lv_iadd hx hb d_M_redoJournal_72 ?_
            refine x_top (show (nI (25 + 2 * i)) + 1 = nI (25 + 2 * i + 1) from x_nadd (25 + 2 * i) 1) ?_
            refine x_V (rest := [.int (nI cc), .int (nI k), .ref (ad 0)]) ⟨hx, hb, hml, hown, hts⟩ (c_D_held_ok l D cI cN ad y k hk (25 + 2 * i + 1) (by omega)) gm_253 gm_254 gm_255 gm_31 gm_256 ⟨rfl, rfl⟩ hd_D_held ⟨Nat.le_of_ble_eq_true rfl, Nat.le_of_ble_eq_true rfl⟩ hK hP hD hS hA (va_recv hK hP (ci := 1) (q0 := (8 + k)) rfl (x_hD hk)) rfl hl.1 rfl (Nat.le_of_ble_eq_true rfl) d_M_redoJournal_73 ⟨Nat.le_of_ble_eq_true rfl, Nat.le_of_ble_eq_true rfl⟩ (fun H locs hP hD hS => ?_)
            refine lv_topi (fun r6 er6 => ?_)
            refine x_V (rest := []) ⟨hx, hb, hml, hown, hts⟩ (c_M_writeBy_ok l D cI cN ad y k hk cc (by omega) r6) gm_223 gm_225 gm_5 gm_28 gm_226 ⟨rfl, rfl⟩ hd_M_writeBy ⟨Nat.le_of_ble_eq_true rfl, Nat.le_of_ble_eq_true rfl⟩ hK hP hD hS hA (va_recv hK hP (ci := 4) (q0 := 0) rfl x_hM) rfl hl.1 rfl (Nat.le_of_ble_eq_true rfl) d_M_redoJournal_76 ⟨Nat.le_of_ble_eq_true rfl, Nat.le_of_ble_eq_true rfl⟩ (fun H locs hP hD hS => ?_)
            obtain ⟨z7, ez7⟩ : ∃ zt_ : x_S, zt_ = x_wr y k cc r6 := ⟨_, rfl⟩
            rw [← ez7] at hP hD
            refine lv_iinc (v := nI (i + 1)) (lv' := [(4, .int (nI (i + 1))), (5, .int (nI cc)), (3, .int (nI e0)), (2, .ref (ad (8 + k))), (0, .ref (ad 0)), (1, .int (nI k))]) hx hb d_M_redoJournal_79 hl (k := 1) rfl (nI_1 _) (by decide) rfl (fun ls hl => ?_)
            refine lv_goto (tgt := 32) hx hb d_M_redoJournal_82 (by decide) ?_
            exact ih (i + 1) z7 H locs ls (by omega) (by subst er4 er6 ez7; rw [hI]; simp only [x_redoL, x_redoB, if_neg c2, if_neg c5, ← er3, x_cl32 (show cc < 32 by omega)]) hP hD hS (lv_sub hl [0, 2, 3, 4, 5] rfl)
    intro H locs ls hP hD hS hl
    refine lp e0 0 z H locs ls (by omega) ?_ hP hD hS hl
    unfold x_redo
    rw [he, if_neg (show ¬ nI e0 < 1 from nI_nlt (b := 1) he1 (by omega)), if_pos (show nI e0 ≤ 3 from nI_le (b := 3) he3 (by decide)), nI_clamp (by omega)]
  refine lv_aload_n hx hb d_M_redoJournal_0 rfl (lv_at hl 0 rfl) ?_
  refine va_get (D := D) (ci := 4) (C := R_M) (T := T_M) (N := 7) hx hb hts in_M hown hK hP 0 x_hM rfl 0 (by decide) (hts _ gm_154) (fun _ h9 => h9) rfl d_M_redoJournal_1 ?_
  refine lv_iload_n hx hb d_M_redoJournal_4 rfl (lv_at hl 1 rfl) ?_
  refine va_aldq (D := D) hx hb hK hP 1 1 x_hA rfl (x_in2 hk) d_M_redoJournal_5 ?_
  refine x_topv (x_nf_at hk) ?_
  refine va_get (D := D) (ci := 2) (C := R_N) (T := T_N) (N := 8) hx hb hts in_N hown hK hP (6 + k) (x_hN hk) rfl 0 (by decide) (hts _ gm_90) (fun _ h9 => h9) rfl d_M_redoJournal_6 ?_
  refine lv_astore_n (lv' := [(2, .ref (ad (8 + k))), (0, .ref (ad 0)), (1, .int (nI k))]) hx hb d_M_redoJournal_9 rfl hl (by decide) rfl (fun ls hl => ?_)
  refine lv_aload_n hx hb d_M_redoJournal_10 rfl (lv_at hl 0 rfl) ?_
  refine lv_bipush (v := 24) hx hb d_M_redoJournal_11 (by decide) ?_
  refine x_top (show (24 : Int32) = nI 24 from rfl) ?_
  refine x_V (rest := []) ⟨hx, hb, hml, hown, hts⟩ (c_D_held_ok l D cI cN ad z k hk 24 (by decide)) gm_253 gm_254 gm_255 gm_31 gm_256 ⟨rfl, rfl⟩ hd_D_held ⟨Nat.le_of_ble_eq_true rfl, Nat.le_of_ble_eq_true rfl⟩ hK hP hD hS hA (va_recv hK hP (ci := 1) (q0 := (8 + k)) rfl (x_hD hk)) rfl hl.1 rfl (Nat.le_of_ble_eq_true rfl) d_M_redoJournal_13 ⟨Nat.le_of_ble_eq_true rfl, Nat.le_of_ble_eq_true rfl⟩ (fun H locs hP hD hS => ?_)
  refine lv_topi (fun r8 er8 => ?_)
  refine lv_istore_n (lv' := [(3, .int r8), (2, .ref (ad (8 + k))), (0, .ref (ad 0)), (1, .int (nI k))]) hx hb d_M_redoJournal_16 rfl hl (by decide) rfl (fun ls hl => ?_)
  refine lv_iload_n hx hb d_M_redoJournal_17 rfl (lv_at hl 0 rfl) ?_
  refine lv_iconst (v := 1) hx hb d_M_redoJournal_18 (by decide) ?_
  refine lv_icmp_lt (tgt := 27) hx hb d_M_redoJournal_19 (by decide) (fun c9 => ?_) (fun c9 => ?_)
  · refine lv_iconst (v := 0) hx hb d_M_redoJournal_27 (by decide) ?_
    exact x_ri (w := x_w cI cN ad) (by subst er8; first | (simp only [x_redo, if_pos c9]; done) | rfl | (simp only [x_redo, if_pos c9]; rfl)) hx hb hr hlk hP hD hS d_M_redoJournal_28
  · refine lv_iload_n hx hb d_M_redoJournal_22 rfl (lv_at hl 0 rfl) ?_
    refine lv_iconst (v := 3) hx hb d_M_redoJournal_23 (by decide) ?_
    refine lv_icmp_le (tgt := 29) hx hb d_M_redoJournal_24 (by decide) (fun c10 => ?_) (fun c10 => ?_)
    · obtain ⟨e0, he1, he3, ee⟩ := x_oneTo3 c9 c10
      subst ee
      refine lv_iconst (v := 0) hx hb d_M_redoJournal_29 (by decide) ?_
      refine lv_istore (lv' := [(4, .int 0), (3, .int (nI e0)), (2, .ref (ad (8 + k))), (0, .ref (ad 0)), (1, .int (nI k))]) hx hb d_M_redoJournal_30 hl (by decide) rfl (fun ls hl => ?_)
      exact lpo e0 he1 he3 er8.symm _ _ ls hP hD hS (lv_sub hl [0, 1, 2, 3, 4] rfl)
    · refine lv_iconst (v := 0) hx hb d_M_redoJournal_27 (by decide) ?_
      exact x_ri (w := x_w cI cN ad) (by subst er8; first | (simp only [x_redo, if_neg c9, if_neg c10]; done) | rfl | (simp only [x_redo, if_neg c9, if_neg c10]; rfl)) hx hb hr hlk hP hD hS d_M_redoJournal_28
