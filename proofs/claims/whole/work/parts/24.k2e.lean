-- ===== 24.k2e: the reference: public calls
set_option maxHeartbeats 4000000 in
set_option maxRecDepth 100000 in
theorem c_K_node_ok (l : Launch) (D : va_G) (cI cZ : ClassId) (kd : Nat → Nat) (z : x_S) (a w : Int32) : x_C l y_K_node c_K_node 5 (some .int) { frames := 1, cells := 0, slots := 0, locals := 22 } D (k_ty cI cZ) (k_w cI cZ kd z) [.ref (kd 0), .int a, .int w] (some (.int (k_node z a w))) (k_w cI cZ kd z) := by
  refine x_C.of (by decide) (Nat.le_of_ble_eq_true rfl) ?_
  intro p e s m below meth c hx hb hr hml hts hown hlk A hA hK hS hP hD ls hl
  have hown : s.vm.findClass R_K = some m.cls := hown
  have hl : lv_has ls 5 [(0, .ref (kd 0)), (1, .int a), (2, .int w)] := hl
  have lpo : ∀ (k : Nat) (hk : k < 2), a = nI k → k_node z a w = k_nodeT z k w → ∀ (H : Heap) (locs : List Loc) (ls : Array Slot), va_P D vwCl (k_w cI cZ kd z) H → va_D A (k_w cI cZ kd z) → va_S A s.heap H locs → lv_has ls 5 [(4, .int (nI 0)), (3, .int 0), (0, .ref (kd 0)), (1, .int (nI k)), (2, .int w)] → W p l e { frames := 1, cells := 0, slots := 0, locals := 22 } s m [.ref (kd 0), .int a, .int w].toArray below meth c H locs 0 0 (MQ below (x_Q (some (.int (k_node z a w))) D (k_w cI cZ kd z) A) [.ref (kd 0), .int a, .int w].toArray s 0 0 A) (F0 m 16 ls []) := by
    intro k hk ek hG
    have lp : ∀ (n i : Nat) (q : Int32) (H : Heap) (locs : List Loc) (ls : Array Slot), i + n = 32 → k_hasL z k 32 0 0 = k_hasL z k n i q → va_P D vwCl (k_w cI cZ kd z) H → va_D A (k_w cI cZ kd z) → va_S A s.heap H locs → lv_has ls 5 [(4, .int (nI i)), (3, .int q), (0, .ref (kd 0)), (1, .int (nI k)), (2, .int w)] → W p l e { frames := 1, cells := 0, slots := 0, locals := 22 } s m [.ref (kd 0), .int a, .int w].toArray below meth c H locs 0 0 (MQ below (x_Q (some (.int (k_node z a w))) D (k_w cI cZ kd z) A) [.ref (kd 0), .int a, .int w].toArray s 0 0 A) (F0 m 16 ls []) := by
      intro n
      induction n with
      | zero =>
        intro i q H locs ls hn hI hP hD hS hl
        have hI : k_hasL z k 32 0 0 = q := hI
        refine lv_iload hx hb d_K_node_16 (lv_at hl 0 rfl) ?_
        refine lv_bipush (v := 32) hx hb d_K_node_18 (by decide) ?_
        refine lv_icmp_ge (tgt := 52) hx hb d_K_node_20 (by decide) (fun c1 => ?_) (fun c1 => ?_)
        · refine lv_iload_n hx hb d_K_node_52 rfl (lv_at hl 4 rfl) ?_
          rcases x_sw 8 w with hsw | ⟨jj, hjj, ejj⟩
          · refine lv_tableOut (tgt := 182) hx hb d_K_node_53 hsw (by decide) ?_
            have hne0 : ¬ w = 0 := by rintro rfl; revert hsw; decide
            have hne1 : ¬ w = 1 := by rintro rfl; revert hsw; decide
            have hne2 : ¬ w = 2 := by rintro rfl; revert hsw; decide
            have hne3 : ¬ w = 3 := by rintro rfl; revert hsw; decide
            have hne4 : ¬ w = 4 := by rintro rfl; revert hsw; decide
            have hne5 : ¬ w = 5 := by rintro rfl; revert hsw; decide
            have hne6 : ¬ w = 6 := by rintro rfl; revert hsw; decide
            have hne7 : ¬ w = 7 := by rintro rfl; revert hsw; decide
            refine lv_iconst (v := (-1)) hx hb d_K_node_182 (by decide) ?_
            exact x_rp (by rw [hG]; first | (simp only [k_nodeT, hI, if_neg hne0, if_neg hne1, if_neg hne2, if_neg hne3, if_neg hne4, if_neg hne5, if_neg hne6, if_neg hne7]; done) | (simp only [k_nodeT, hI, if_neg hne0, if_neg hne1, if_neg hne2, if_neg hne3, if_neg hne4, if_neg hne5, if_neg hne6, if_neg hne7]; with_reducible rfl)) hx hb hr hlk hP hD hS d_K_node_183
          · subst ejj
            match jj, hjj with
            | 0, _ =>
              refine lv_tableIn (off := 47) (tgt := 100) hx hb d_K_node_53 (by decide) (by decide) rfl (by decide) ?_
              refine lv_aload_n hx hb d_K_node_100 rfl (lv_at hl 2 rfl) ?_
              refine va_get (D := D) (ci := 5) (C := R_K) (T := T_K) (N := 21) hx hb hts in_K hown hK hP 0 k_h0 rfl 4 (by decide) (hts _ gm_404) (fun _ h9 => h9) rfl d_K_node_101 ?_
              refine lv_iload_n hx hb d_K_node_104 rfl (lv_at hl 3 rfl) ?_
              refine va_zald (D := D) hx hb hK hP 4 1 k_h4 rfl (x_in2 hk) d_K_node_105 ?_
              refine x_top (k_col_at hk) ?_
              refine lv_if_eq (tgt := 113) hx hb d_K_node_106 (by decide) (fun c2 => ?_) (fun c2 => ?_)
              · refine lv_iconst (v := 1) hx hb d_K_node_113 (by decide) ?_
                exact x_rp (by rw [hG]; first | (simp only [k_nodeT, hI, if_pos (by decide : nI 0 = 0), if_pos c2]; done) | (simp only [k_nodeT, hI, if_pos (by decide : nI 0 = 0), if_pos c2]; with_reducible rfl)) hx hb hr hlk hP hD hS d_K_node_114
              · refine lv_iconst (v := 0) hx hb d_K_node_109 (by decide) ?_
                refine lv_goto (tgt := 114) hx hb d_K_node_110 (by decide) ?_
                exact x_rp (by rw [hG]; first | (simp only [k_nodeT, hI, if_pos (by decide : nI 0 = 0), if_neg c2]; done) | (simp only [k_nodeT, hI, if_pos (by decide : nI 0 = 0), if_neg c2]; with_reducible rfl)) hx hb hr hlk hP hD hS d_K_node_114
            | 1, _ =>
              refine lv_tableIn (off := 62) (tgt := 115) hx hb d_K_node_53 (by decide) (by decide) rfl (by decide) ?_
              refine lv_aload_n hx hb d_K_node_115 rfl (lv_at hl 2 rfl) ?_
              refine va_get (D := D) (ci := 5) (C := R_K) (T := T_K) (N := 21) hx hb hts in_K hown hK hP 0 k_h0 rfl 10 (by decide) (hts _ gm_410) (fun _ h9 => h9) rfl d_K_node_116 ?_
              refine lv_iload_n hx hb d_K_node_119 rfl (lv_at hl 3 rfl) ?_
              refine lv_icmp_ne (tgt := 127) hx hb d_K_node_120 (by decide) (fun c3 => ?_) (fun c3 => ?_)
              · refine lv_iconst (v := 0) hx hb d_K_node_127 (by decide) ?_
                exact x_rp (by rw [hG]; first | (simp only [k_nodeT, hI, if_neg (by decide : ¬ nI 1 = 0), if_pos (by decide : nI 1 = 1), if_neg c3]; done) | (simp only [k_nodeT, hI, if_neg (by decide : ¬ nI 1 = 0), if_pos (by decide : nI 1 = 1), if_neg c3]; with_reducible rfl)) hx hb hr hlk hP hD hS d_K_node_128
              · refine lv_iconst (v := 1) hx hb d_K_node_123 (by decide) ?_
                refine lv_goto (tgt := 128) hx hb d_K_node_124 (by decide) ?_
                exact x_rp (by rw [hG]; first | (simp only [k_nodeT, hI, if_neg (by decide : ¬ nI 1 = 0), if_pos (by decide : nI 1 = 1), if_pos c3]; done) | (simp only [k_nodeT, hI, if_neg (by decide : ¬ nI 1 = 0), if_pos (by decide : nI 1 = 1), if_pos c3]; with_reducible rfl)) hx hb hr hlk hP hD hS d_K_node_128
            | 2, _ =>
              refine lv_tableIn (off := 76) (tgt := 129) hx hb d_K_node_53 (by decide) (by decide) rfl (by decide) ?_
              refine lv_aload_n hx hb d_K_node_129 rfl (lv_at hl 2 rfl) ?_
              refine va_get (D := D) (ci := 5) (C := R_K) (T := T_K) (N := 21) hx hb hts in_K hown hK hP 0 k_h0 rfl 7 (by decide) (hts _ gm_407) (fun _ h9 => h9) rfl d_K_node_130 ?_
              refine lv_iload_n hx hb d_K_node_133 rfl (lv_at hl 3 rfl) ?_
              refine va_iald (D := D) hx hb hK hP 7 0 k_h7 rfl (x_in2 hk) d_K_node_134 ?_
              refine x_top (k_col_at hk) ?_
              exact x_rp (by rw [hG]; first | (simp only [k_nodeT, hI, if_neg (by decide : ¬ nI 2 = 0), if_neg (by decide : ¬ nI 2 = 1), if_pos (by decide : nI 2 = 2)]; done) | (simp only [k_nodeT, hI, if_neg (by decide : ¬ nI 2 = 0), if_neg (by decide : ¬ nI 2 = 1), if_pos (by decide : nI 2 = 2)]; with_reducible rfl)) hx hb hr hlk hP hD hS d_K_node_135
            | 3, _ =>
              refine lv_tableIn (off := 83) (tgt := 136) hx hb d_K_node_53 (by decide) (by decide) rfl (by decide) ?_
              refine lv_aload_n hx hb d_K_node_136 rfl (lv_at hl 2 rfl) ?_
              refine va_get (D := D) (ci := 5) (C := R_K) (T := T_K) (N := 21) hx hb hts in_K hown hK hP 0 k_h0 rfl 8 (by decide) (hts _ gm_408) (fun _ h9 => h9) rfl d_K_node_137 ?_
              refine lv_iload_n hx hb d_K_node_140 rfl (lv_at hl 3 rfl) ?_
              refine va_iald (D := D) hx hb hK hP 8 0 k_h8 rfl (x_in2 hk) d_K_node_141 ?_
              refine x_top (k_col_at hk) ?_
              exact x_rp (by rw [hG]; first | (simp only [k_nodeT, hI, if_neg (by decide : ¬ nI 3 = 0), if_neg (by decide : ¬ nI 3 = 1), if_neg (by decide : ¬ nI 3 = 2), if_pos (by decide : nI 3 = 3)]; done) | (simp only [k_nodeT, hI, if_neg (by decide : ¬ nI 3 = 0), if_neg (by decide : ¬ nI 3 = 1), if_neg (by decide : ¬ nI 3 = 2), if_pos (by decide : nI 3 = 3)]; with_reducible rfl)) hx hb hr hlk hP hD hS d_K_node_142
            | 4, _ =>
              refine lv_tableIn (off := 90) (tgt := 143) hx hb d_K_node_53 (by decide) (by decide) rfl (by decide) ?_
              refine lv_aload_n hx hb d_K_node_143 rfl (lv_at hl 2 rfl) ?_
              refine va_get (D := D) (ci := 5) (C := R_K) (T := T_K) (N := 21) hx hb hts in_K hown hK hP 0 k_h0 rfl 5 (by decide) (hts _ gm_405) (fun _ h9 => h9) rfl d_K_node_144 ?_
              refine lv_iload_n hx hb d_K_node_147 rfl (lv_at hl 3 rfl) ?_
              refine va_zald (D := D) hx hb hK hP 5 1 k_h5 rfl (x_in2 hk) d_K_node_148 ?_
              refine x_top (k_col_at hk) ?_
              refine lv_if_eq (tgt := 156) hx hb d_K_node_149 (by decide) (fun c4 => ?_) (fun c4 => ?_)
              · refine lv_iconst (v := 0) hx hb d_K_node_156 (by decide) ?_
                exact x_rp (by rw [hG]; first | (simp only [k_nodeT, hI, if_neg (by decide : ¬ nI 4 = 0), if_neg (by decide : ¬ nI 4 = 1), if_neg (by decide : ¬ nI 4 = 2), if_neg (by decide : ¬ nI 4 = 3), if_pos (by decide : nI 4 = 4), if_pos c4]; done) | (simp only [k_nodeT, hI, if_neg (by decide : ¬ nI 4 = 0), if_neg (by decide : ¬ nI 4 = 1), if_neg (by decide : ¬ nI 4 = 2), if_neg (by decide : ¬ nI 4 = 3), if_pos (by decide : nI 4 = 4), if_pos c4]; with_reducible rfl)) hx hb hr hlk hP hD hS d_K_node_157
              · refine lv_iconst (v := 1) hx hb d_K_node_152 (by decide) ?_
                refine lv_goto (tgt := 157) hx hb d_K_node_153 (by decide) ?_
                exact x_rp (by rw [hG]; first | (simp only [k_nodeT, hI, if_neg (by decide : ¬ nI 4 = 0), if_neg (by decide : ¬ nI 4 = 1), if_neg (by decide : ¬ nI 4 = 2), if_neg (by decide : ¬ nI 4 = 3), if_pos (by decide : nI 4 = 4), if_neg c4]; done) | (simp only [k_nodeT, hI, if_neg (by decide : ¬ nI 4 = 0), if_neg (by decide : ¬ nI 4 = 1), if_neg (by decide : ¬ nI 4 = 2), if_neg (by decide : ¬ nI 4 = 3), if_pos (by decide : nI 4 = 4), if_neg c4]; with_reducible rfl)) hx hb hr hlk hP hD hS d_K_node_157
            | 5, _ =>
              refine lv_tableIn (off := 105) (tgt := 158) hx hb d_K_node_53 (by decide) (by decide) rfl (by decide) ?_
              refine lv_aload_n hx hb d_K_node_158 rfl (lv_at hl 2 rfl) ?_
              refine va_get (D := D) (ci := 5) (C := R_K) (T := T_K) (N := 21) hx hb hts in_K hown hK hP 0 k_h0 rfl 9 (by decide) (hts _ gm_409) (fun _ h9 => h9) rfl d_K_node_159 ?_
              refine lv_iload_n hx hb d_K_node_162 rfl (lv_at hl 3 rfl) ?_
              refine va_iald (D := D) hx hb hK hP 9 0 k_h9 rfl (x_in2 hk) d_K_node_163 ?_
              refine x_top (k_col_at hk) ?_
              exact x_rp (by rw [hG]; first | (simp only [k_nodeT, hI, if_neg (by decide : ¬ nI 5 = 0), if_neg (by decide : ¬ nI 5 = 1), if_neg (by decide : ¬ nI 5 = 2), if_neg (by decide : ¬ nI 5 = 3), if_neg (by decide : ¬ nI 5 = 4), if_pos (by decide : nI 5 = 5)]; done) | (simp only [k_nodeT, hI, if_neg (by decide : ¬ nI 5 = 0), if_neg (by decide : ¬ nI 5 = 1), if_neg (by decide : ¬ nI 5 = 2), if_neg (by decide : ¬ nI 5 = 3), if_neg (by decide : ¬ nI 5 = 4), if_pos (by decide : nI 5 = 5)]; with_reducible rfl)) hx hb hr hlk hP hD hS d_K_node_164
            | 6, _ =>
              refine lv_tableIn (off := 112) (tgt := 165) hx hb d_K_node_53 (by decide) (by decide) rfl (by decide) ?_
              refine lv_iload_n hx hb d_K_node_165 rfl (lv_at hl 1 rfl) ?_
              exact x_rp (by rw [hG]; first | (simp only [k_nodeT, hI, if_neg (by decide : ¬ nI 6 = 0), if_neg (by decide : ¬ nI 6 = 1), if_neg (by decide : ¬ nI 6 = 2), if_neg (by decide : ¬ nI 6 = 3), if_neg (by decide : ¬ nI 6 = 4), if_neg (by decide : ¬ nI 6 = 5), if_pos (by decide : nI 6 = 6)]; done) | (simp only [k_nodeT, hI, if_neg (by decide : ¬ nI 6 = 0), if_neg (by decide : ¬ nI 6 = 1), if_neg (by decide : ¬ nI 6 = 2), if_neg (by decide : ¬ nI 6 = 3), if_neg (by decide : ¬ nI 6 = 4), if_neg (by decide : ¬ nI 6 = 5), if_pos (by decide : nI 6 = 6)]; with_reducible rfl)) hx hb hr hlk hP hD hS d_K_node_166
            | 7, _ =>
              refine lv_tableIn (off := 114) (tgt := 167) hx hb d_K_node_53 (by decide) (by decide) rfl (by decide) ?_
              refine lv_aload_n hx hb d_K_node_167 rfl (lv_at hl 2 rfl) ?_
              refine va_get (D := D) (ci := 5) (C := R_K) (T := T_K) (N := 21) hx hb hts in_K hown hK hP 0 k_h0 rfl 6 (by decide) (hts _ gm_406) (fun _ h9 => h9) rfl d_K_node_168 ?_
              refine lv_iload_n hx hb d_K_node_171 rfl (lv_at hl 3 rfl) ?_
              refine va_zald (D := D) hx hb hK hP 6 1 k_h6 rfl (x_in2 hk) d_K_node_172 ?_
              refine x_top (k_col_at hk) ?_
              refine lv_if_eq (tgt := 180) hx hb d_K_node_173 (by decide) (fun c5 => ?_) (fun c5 => ?_)
              · refine lv_iconst (v := 1) hx hb d_K_node_180 (by decide) ?_
                exact x_rp (by rw [hG]; first | (simp only [k_nodeT, hI, if_neg (by decide : ¬ nI 7 = 0), if_neg (by decide : ¬ nI 7 = 1), if_neg (by decide : ¬ nI 7 = 2), if_neg (by decide : ¬ nI 7 = 3), if_neg (by decide : ¬ nI 7 = 4), if_neg (by decide : ¬ nI 7 = 5), if_neg (by decide : ¬ nI 7 = 6), if_pos (by decide : nI 7 = 7), if_pos c5]; done) | (simp only [k_nodeT, hI, if_neg (by decide : ¬ nI 7 = 0), if_neg (by decide : ¬ nI 7 = 1), if_neg (by decide : ¬ nI 7 = 2), if_neg (by decide : ¬ nI 7 = 3), if_neg (by decide : ¬ nI 7 = 4), if_neg (by decide : ¬ nI 7 = 5), if_neg (by decide : ¬ nI 7 = 6), if_pos (by decide : nI 7 = 7), if_pos c5]; with_reducible rfl)) hx hb hr hlk hP hD hS d_K_node_181
              · refine lv_iconst (v := 0) hx hb d_K_node_176 (by decide) ?_
                refine lv_goto (tgt := 181) hx hb d_K_node_177 (by decide) ?_
                exact x_rp (by rw [hG]; first | (simp only [k_nodeT, hI, if_neg (by decide : ¬ nI 7 = 0), if_neg (by decide : ¬ nI 7 = 1), if_neg (by decide : ¬ nI 7 = 2), if_neg (by decide : ¬ nI 7 = 3), if_neg (by decide : ¬ nI 7 = 4), if_neg (by decide : ¬ nI 7 = 5), if_neg (by decide : ¬ nI 7 = 6), if_pos (by decide : nI 7 = 7), if_neg c5]; done) | (simp only [k_nodeT, hI, if_neg (by decide : ¬ nI 7 = 0), if_neg (by decide : ¬ nI 7 = 1), if_neg (by decide : ¬ nI 7 = 2), if_neg (by decide : ¬ nI 7 = 3), if_neg (by decide : ¬ nI 7 = 4), if_neg (by decide : ¬ nI 7 = 5), if_neg (by decide : ¬ nI 7 = 6), if_pos (by decide : nI 7 = 7), if_neg c5]; with_reducible rfl)) hx hb hr hlk hP hD hS d_K_node_181
            | jj + 8, h => exact absurd h (by omega)
        · exact absurd (show (32 : Int32) ≤ nI i from nI_le (a := 32) (by omega) (by omega)) c1
      | succ n ih =>
        intro i q H locs ls hn hI hP hD hS hl
        have hi : i < 32 := by omega
        refine lv_iload hx hb d_K_node_16 (lv_at hl 0 rfl) ?_
        refine lv_bipush (v := 32) hx hb d_K_node_18 (by decide) ?_
        refine lv_icmp_ge (tgt := 52) hx hb d_K_node_20 (by decide) (fun c6 => ?_) (fun c6 => ?_)
        · exact absurd c6 (show ¬ (32 : Int32) ≤ nI i from nI_ge (b := 32) (by omega) (by decide))
        · refine lv_iload_n hx hb d_K_node_23 rfl (lv_at hl 1 rfl) ?_
          refine lv_aload_n hx hb d_K_node_24 rfl (lv_at hl 2 rfl) ?_
          refine va_get (D := D) (ci := 5) (C := R_K) (T := T_K) (N := 21) hx hb hts in_K hown hK hP 0 k_h0 rfl 3 (by decide) (hts _ gm_403) (fun _ h9 => h9) rfl d_K_node_25 ?_
          refine lv_iload_n hx hb d_K_node_28 rfl (lv_at hl 3 rfl) ?_
          refine lv_bipush (v := 32) hx hb d_K_node_29 (by decide) ?_
          refine lv_imul hx hb d_K_node_31 ?_
          refine lv_iload hx hb d_K_node_32 (lv_at hl 0 rfl) ?_
          refine lv_iadd hx hb d_K_node_34 ?_
          refine x_top (show ((nI k) * 32) + (nI i) = nI (32 * k + i) from k_ix) ?_
          refine va_zald (D := D) hx hb hK hP 3 1 k_h3 rfl (k_in64 hk hi) d_K_node_35 ?_
          refine x_top (k_b_at hk hi) ?_
          refine lv_if_eq (tgt := 43) hx hb d_K_node_36 (by decide) (fun c7 => ?_) (fun c7 => ?_)
          · refine lv_iconst (v := 0) hx hb d_K_node_43 (by decide) ?_
            refine lv_iadd hx hb d_K_node_44 ?_
            refine lv_istore_n (lv' := [(3, .int (q + 0)), (4, .int (nI i)), (0, .ref (kd 0)), (1, .int (nI k)), (2, .int w)]) hx hb d_K_node_45 rfl hl (by decide) rfl (fun ls hl => ?_)
            refine lv_iinc (v := nI (i + 1)) (lv' := [(4, .int (nI (i + 1))), (3, .int (q + 0)), (0, .ref (kd 0)), (1, .int (nI k)), (2, .int w)]) hx hb d_K_node_46 hl (k := 1) rfl (nI_1 _) (by decide) rfl (fun ls hl => ?_)
            refine lv_goto (tgt := 16) hx hb d_K_node_49 (by decide) ?_
            exact ih (i + 1) (q + 0) H locs ls (by omega) (by rw [hI]; simp only [k_hasL, if_pos c7]) hP hD hS (lv_sub hl [0, 1, 2, 3, 4] rfl)
          · refine lv_iconst (v := 1) hx hb d_K_node_39 (by decide) ?_
            refine lv_goto (tgt := 44) hx hb d_K_node_40 (by decide) ?_
            refine lv_iadd hx hb d_K_node_44 ?_
            refine lv_istore_n (lv' := [(3, .int (q + 1)), (4, .int (nI i)), (0, .ref (kd 0)), (1, .int (nI k)), (2, .int w)]) hx hb d_K_node_45 rfl hl (by decide) rfl (fun ls hl => ?_)
            refine lv_iinc (v := nI (i + 1)) (lv' := [(4, .int (nI (i + 1))), (3, .int (q + 1)), (0, .ref (kd 0)), (1, .int (nI k)), (2, .int w)]) hx hb d_K_node_46 hl (k := 1) rfl (nI_1 _) (by decide) rfl (fun ls hl => ?_)
            refine lv_goto (tgt := 16) hx hb d_K_node_49 (by decide) ?_
            exact ih (i + 1) (q + 1) H locs ls (by omega) (by rw [hI]; simp only [k_hasL, if_neg c7]) hP hD hS (lv_sub hl [0, 1, 2, 3, 4] rfl)
    intro H locs ls hP hD hS hl
    exact lp 32 0 0 H locs ls rfl rfl hP hD hS hl
  refine lv_aload_n hx hb d_K_node_0 rfl (lv_at hl 0 rfl) ?_
  refine lv_iload_n hx hb d_K_node_1 rfl (lv_at hl 1 rfl) ?_
  refine lv_iconst (v := 2) hx hb d_K_node_2 (by decide) ?_
  refine x_V (rest := []) ⟨hx, hb, hml, hown, hts⟩ (c_K_out_ok l D cI cZ kd z a 2) gm_469 gm_471 gm_15 gm_34 gm_472 ⟨rfl, rfl⟩ hd_K_out ⟨Nat.le_of_ble_eq_true rfl, Nat.le_of_ble_eq_true rfl⟩ hK hP hD hS hA (va_recv hK hP (ci := 5) (q0 := 0) rfl k_h0) rfl hl.1 rfl (Nat.le_of_ble_eq_true rfl) d_K_node_3 ⟨Nat.le_of_ble_eq_true rfl, Nat.le_of_ble_eq_true rfl⟩ (fun H locs hP hD hS => ?_)
  refine lv_topi (fun r8 er8 => ?_)
  refine lv_if_eq (tgt := 11) hx hb d_K_node_6 (by decide) (fun c9 => ?_) (fun c9 => ?_)
  · obtain ⟨k, hk, ek⟩ := k_out2 (v := a) (by rw [← er8]; exact c9)
    subst ek
    refine lv_iconst (v := 0) hx hb d_K_node_11 (by decide) ?_
    refine lv_istore_n (lv' := [(3, .int 0), (0, .ref (kd 0)), (1, .int (nI k)), (2, .int w)]) hx hb d_K_node_12 rfl hl (by decide) rfl (fun ls hl => ?_)
    refine lv_iconst (v := 0) hx hb d_K_node_13 (by decide) ?_
    refine lv_istore (lv' := [(4, .int 0), (3, .int 0), (0, .ref (kd 0)), (1, .int (nI k)), (2, .int w)]) hx hb d_K_node_14 hl (by decide) rfl (fun ls hl => ?_)
    exact lpo k hk rfl (by subst er8; simp only [k_node, if_pos c9, x_cl hk]) _ _ ls hP hD hS (lv_sub hl [0, 1, 2, 3, 4] rfl)
  · refine lv_iconst (v := (-1)) hx hb d_K_node_9 (by decide) ?_
    exact x_rp (by subst er8; first | (simp only [k_node, if_neg c9]; done) | (with_reducible rfl) | (simp only [k_node, if_neg c9]; with_reducible rfl)) hx hb hr hlk hP hD hS d_K_node_10
