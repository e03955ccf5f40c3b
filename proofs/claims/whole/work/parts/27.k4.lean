-- ===== 27.k4: the reference: resync
set_option maxHeartbeats 4000000 in
set_option maxRecDepth 100000 in
theorem c_K_resync_ok (l : Launch) (D : va_G) (cI cZ : ClassId) (kd : Nat → Nat) (z : x_S) (s0 : Nat) (hs0 : s0 < 2) (hqs : ¬ z 0 7 = 2 → z 0 7 = nI s0) (a : Int32) : x_C l y_K_resync c_K_resync 7 (some .int) { frames := 3, cells := 0, slots := 0, locals := 66 } D (k_ty cI cZ) (k_w cI cZ kd z) [.ref (kd 0), .int a] (some (.int (k_resync z s0 a).1)) (k_w cI cZ kd (k_resync z s0 a).2) := by
  refine x_C.of (by decide) (Nat.le_of_ble_eq_true rfl) ?_
  intro p e s m below meth c hx hb hr hml hts hown hlk A hA hK hS hP hD ls hl
  have hown : s.vm.findClass R_K = some m.cls := hown
  have hl : lv_has ls 7 [(0, .ref (kd 0)), (1, .int a)] := hl
  have left : ∀ (y : x_S), k_resync z s0 a = k_rsT y s0 → ∀ (n i : Nat) (q : Int32) (H : Heap) (locs : List Loc) (ls : Array Slot), i + n = 8 → k_cntL (y (5 + s0) 5) 8 0 0 = k_cntL (y (5 + s0) 5) n i q → va_P D vwCl (k_w cI cZ kd y) H → va_D A (k_w cI cZ kd y) → va_S A s.heap H locs → lv_has ls 7 [(5, .int (nI i)), (4, .int q), (2, .int (nI s0)), (0, .ref (kd 0))] → W p l e { frames := 3, cells := 0, slots := 0, locals := 66 } s m [.ref (kd 0), .int a].toArray below meth c H locs 0 0 (MQ below (x_Q (some (.int (k_resync z s0 a).1)) D (k_w cI cZ kd (k_resync z s0 a).2) A) [.ref (kd 0), .int a].toArray s 0 0 A) (F0 m 136 ls []) := by
    intro y hG n
    induction n with
    | zero =>
      intro i q H locs ls hn hI hP hD hS hl
      have hI : k_cntL (y (5 + s0) 5) 8 0 0 = q := hI
      refine lv_iload hx hb d_K_resync_136 (lv_at hl 0 rfl) ?_
      refine lv_bipush (v := 8) hx hb d_K_resync_138 (by decide) ?_
      refine lv_icmp_ge (tgt := 165) hx hb d_K_resync_140 (by decide) (fun c1 => ?_) (fun c1 => ?_)
      · have c1 : 8 ≤ i := (nI_leI (a := 8) (b := i) (by omega) (by omega)).mp c1
        refine lv_iload hx hb d_K_resync_165 (lv_at hl 1 rfl) ?_
        refine lv_if_ne (tgt := 175) hx hb d_K_resync_167 (by decide) (fun c2 => ?_) (fun c2 => ?_)
        · refine lv_iload hx hb d_K_resync_175 (lv_at hl 1 rfl) ?_
          exact x_ri (w := k_w cI cZ kd) (by rw [hG]; unfold k_rsT; rw [hI]; simp only [if_neg c2]) hx hb hr hlk hP hD hS d_K_resync_177
        · refine lv_aload_n hx hb d_K_resync_170 rfl (lv_at hl 3 rfl) ?_
          refine lv_iload_n hx hb d_K_resync_171 rfl (lv_at hl 2 rfl) ?_
          refine x_V (rest := []) ⟨hx, hb, hml, hown, hts⟩ (c_K_finished_ok l D cI cZ kd y s0 hs0) gm_547 gm_549 gm_26 gm_34 gm_550 ⟨rfl, rfl⟩ hd_K_finished ⟨Nat.le_of_ble_eq_true rfl, Nat.le_of_ble_eq_true rfl⟩ hK hP hD hS hA (va_recv hK hP (ci := 5) (q0 := 0) rfl k_h0) rfl hl.1 rfl (Nat.le_of_ble_eq_true rfl) d_K_resync_172 ⟨Nat.le_of_ble_eq_true rfl, Nat.le_of_ble_eq_true rfl⟩ (fun H locs hP hD hS => ?_)
          obtain ⟨z3, ez3⟩ : ∃ zt_ : x_S, zt_ = k_fin y s0 := ⟨_, rfl⟩
          rw [← ez3] at hP hD
          refine lv_iload hx hb d_K_resync_175 (lv_at hl 1 rfl) ?_
          exact x_ri (w := k_w cI cZ kd) (by subst ez3; rw [hG]; unfold k_rsT; rw [hI]; simp only [if_pos c2]) hx hb hr hlk hP hD hS d_K_resync_177
      · have c1 : ¬ 8 ≤ i := fun h => c1 ((nI_leI (a := 8) (b := i) (by omega) (by omega)).mpr h)
        exact absurd (show 8 ≤ i by omega) c1
    | succ n ih =>
      intro i q H locs ls hn hI hP hD hS hl
      refine lv_iload hx hb d_K_resync_136 (lv_at hl 0 rfl) ?_
      refine lv_bipush (v := 8) hx hb d_K_resync_138 (by decide) ?_
      refine lv_icmp_ge (tgt := 165) hx hb d_K_resync_140 (by decide) (fun c4 => ?_) (fun c4 => ?_)
      · have c4 : 8 ≤ i := (nI_leI (a := 8) (b := i) (by omega) (by omega)).mp c4
        exact absurd c4 (by omega)
      · have c4 : ¬ 8 ≤ i := fun h => c4 ((nI_leI (a := 8) (b := i) (by omega) (by omega)).mpr h)
        refine lv_iload hx hb d_K_resync_143 (lv_at hl 1 rfl) ?_
        refine lv_aload_n hx hb d_K_resync_145 rfl (lv_at hl 3 rfl) ?_
        refine va_get (D := D) (ci := 5) (C := R_K) (T := T_K) (N := 21) hx hb hts in_K hown hK hP 0 k_h0 rfl 9 (by decide) (hts _ gm_409) (fun _ h9 => h9) rfl d_K_resync_146 ?_
        refine lv_iload_n hx hb d_K_resync_149 rfl (lv_at hl 2 rfl) ?_
        refine va_iald (D := D) hx hb hK hP 9 0 k_h9 rfl (x_in2 hs0) d_K_resync_150 ?_
        refine x_top (k_col_at hs0) ?_
        refine lv_iload hx hb d_K_resync_151 (lv_at hl 0 rfl) ?_
        refine lv_ishr hx hb d_K_resync_153 ?_
        refine lv_iconst (v := 1) hx hb d_K_resync_154 (by decide) ?_
        refine lv_iand hx hb d_K_resync_155 ?_
        refine lv_iadd hx hb d_K_resync_156 ?_
        refine lv_istore (lv' := [(4, .int (q + (((y (5 + s0) 5) >>> (nI i &&& 31)) &&& 1))), (5, .int (nI i)), (2, .int (nI s0)), (0, .ref (kd 0))]) hx hb d_K_resync_157 hl (by decide) rfl (fun ls hl => ?_)
        refine lv_iinc (v := nI (i + 1)) (lv' := [(5, .int (nI (i + 1))), (4, .int (q + (((y (5 + s0) 5) >>> (nI i &&& 31)) &&& 1))), (2, .int (nI s0)), (0, .ref (kd 0))]) hx hb d_K_resync_159 hl (k := 1) rfl (nI_1 _) (by decide) rfl (fun ls hl => ?_)
        refine lv_goto (tgt := 136) hx hb d_K_resync_162 (by decide) ?_
        exact ih (i + 1) (q + (((y (5 + s0) 5) >>> (nI i &&& 31)) &&& 1)) H locs ls (by omega) (by rw [hI]; rfl) hP hD hS (lv_sub hl [0, 1, 2, 3] rfl)
  have inner : ∀ (i cp cn : Nat) (n j : Nat) (w : x_S) (H : Heap) (locs : List Loc) (ls : Array Slot), i < 8 → j + n = 4 * i + 4 → va_P D vwCl (k_w cI cZ kd w) H → va_D A (k_w cI cZ kd w) → va_S A s.heap H locs → lv_has ls 7 [(6, .int (nI j)), (4, .int (nI i)), (3, .int (nI cp)), (2, .int (nI s0)), (1, .int (nI cn)), (0, .ref (kd 0))] → (∀ (x : x_S) (H : Heap) (locs : List Loc) (ls : Array Slot), x = k_cpL s0 n j w → va_P D vwCl (k_w cI cZ kd x) H → va_D A (k_w cI cZ kd x) → va_S A s.heap H locs → lv_has ls 7 [(4, .int (nI i)), (3, .int (nI cp)), (2, .int (nI s0)), (1, .int (nI cn)), (0, .ref (kd 0))] → W p l e { frames := 3, cells := 0, slots := 0, locals := 66 } s m [.ref (kd 0), .int a].toArray below meth c H locs 0 0 (MQ below (x_Q (some (.int (k_resync z s0 a).1)) D (k_w cI cZ kd (k_resync z s0 a).2) A) [.ref (kd 0), .int a].toArray s 0 0 A) (F0 m 124 ls [])) → W p l e { frames := 3, cells := 0, slots := 0, locals := 66 } s m [.ref (kd 0), .int a].toArray below meth c H locs 0 0 (MQ below (x_Q (some (.int (k_resync z s0 a).1)) D (k_w cI cZ kd (k_resync z s0 a).2) A) [.ref (kd 0), .int a].toArray s 0 0 A) (F0 m 91 ls []) := by
    intro i cp cn n
    induction n with
    | zero =>
      intro j w H locs ls hi8 hn hP hD hS hl hKont
      refine lv_iload hx hb d_K_resync_91 (lv_at hl 0 rfl) ?_
      refine lv_iconst (v := 4) hx hb d_K_resync_93 (by decide) ?_
      refine lv_iload hx hb d_K_resync_94 (lv_at hl 1 rfl) ?_
      refine lv_imul hx hb d_K_resync_96 ?_
      refine lv_iconst (v := 4) hx hb d_K_resync_97 (by decide) ?_
      refine lv_iadd hx hb d_K_resync_98 ?_
      refine x_top (show (4 * (nI i)) + 4 = nI (4 * i + 4) by rw [show (4 : Int32) * nI i = nI (4 * i) from x_nmul 4 i]; exact x_nadd (4 * i) 4) ?_
      refine lv_icmp_ge (tgt := 124) hx hb d_K_resync_99 (by decide) (fun c5 => ?_) (fun c5 => ?_)
      · have c5 : (4 * i + 4) ≤ j := (nI_leI (a := 4 * i + 4) (b := j) (by omega) (by omega)).mp c5
        exact hKont w H locs ls rfl hP hD hS (lv_sub hl [1, 2, 3, 4, 5] rfl)
      · have c5 : ¬ (4 * i + 4) ≤ j := fun h => c5 ((nI_leI (a := 4 * i + 4) (b := j) (by omega) (by omega)).mpr h)
        exact absurd (show 4 * i + 4 ≤ j by omega) c5
    | succ n ih =>
      intro j w H locs ls hi8 hn hP hD hS hl hKont
      refine lv_iload hx hb d_K_resync_91 (lv_at hl 0 rfl) ?_
      refine lv_iconst (v := 4) hx hb d_K_resync_93 (by decide) ?_
      refine lv_iload hx hb d_K_resync_94 (lv_at hl 1 rfl) ?_
      refine lv_imul hx hb d_K_resync_96 ?_
      refine lv_iconst (v := 4) hx hb d_K_resync_97 (by decide) ?_
      refine lv_iadd hx hb d_K_resync_98 ?_
      refine x_top (show (4 * (nI i)) + 4 = nI (4 * i + 4) by rw [show (4 : Int32) * nI i = nI (4 * i) from x_nmul 4 i]; exact x_nadd (4 * i) 4) ?_
      refine lv_icmp_ge (tgt := 124) hx hb d_K_resync_99 (by decide) (fun c6 => ?_) (fun c6 => ?_)
      · have c6 : (4 * i + 4) ≤ j := (nI_leI (a := 4 * i + 4) (b := j) (by omega) (by omega)).mp c6
        exact absurd c6 (by omega)
      · have c6 : ¬ (4 * i + 4) ≤ j := fun h => c6 ((nI_leI (a := 4 * i + 4) (b := j) (by omega) (by omega)).mpr h)
        refine lv_aload_n hx hb d_K_resync_102 rfl (lv_at hl 5 rfl) ?_
        refine lv_iconst (v := 1) hx hb d_K_resync_103 (by decide) ?_
        refine lv_iload_n hx hb d_K_resync_104 rfl (lv_at hl 3 rfl) ?_
        refine lv_isub hx hb d_K_resync_105 ?_
        refine x_top (x_1k hs0) ?_
        refine lv_iload hx hb d_K_resync_106 (lv_at hl 0 rfl) ?_
        refine lv_aload_n hx hb d_K_resync_108 rfl (lv_at hl 5 rfl) ?_
        refine lv_iload_n hx hb d_K_resync_109 rfl (lv_at hl 3 rfl) ?_
        refine lv_iload hx hb d_K_resync_110 (lv_at hl 0 rfl) ?_
        refine x_V (rest := [.int (nI j), .int (nI (1 - s0)), .ref (kd 0)]) ⟨hx, hb, hml, hown, hts⟩ (c_K_holds_ok l D cI cZ kd w s0 hs0 j (by omega)) gm_493 gm_495 gm_20 gm_34 gm_496 ⟨rfl, rfl⟩ hd_K_holds ⟨Nat.le_of_ble_eq_true rfl, Nat.le_of_ble_eq_true rfl⟩ hK hP hD hS hA (va_recv hK hP (ci := 5) (q0 := 0) rfl k_h0) rfl hl.1 rfl (Nat.le_of_ble_eq_true rfl) d_K_resync_112 ⟨Nat.le_of_ble_eq_true rfl, Nat.le_of_ble_eq_true rfl⟩ (fun H locs hP hD hS => ?_)
        refine lv_topi (fun r7 er7 => ?_)
        refine x_V (rest := []) ⟨hx, hb, hml, hown, hts⟩ (c_K_keepIn_ok l D cI cZ kd w (1 - s0) (x_1lt hs0) j (by omega) r7) gm_501 gm_503 gm_22 gm_34 gm_504 ⟨rfl, rfl⟩ hd_K_keepIn ⟨Nat.le_of_ble_eq_true rfl, Nat.le_of_ble_eq_true rfl⟩ hK hP hD hS hA (va_recv hK hP (ci := 5) (q0 := 0) rfl k_h0) rfl hl.1 rfl (Nat.le_of_ble_eq_true rfl) d_K_resync_115 ⟨Nat.le_of_ble_eq_true rfl, Nat.le_of_ble_eq_true rfl⟩ (fun H locs hP hD hS => ?_)
        obtain ⟨z8, ez8⟩ : ∃ zt_ : x_S, zt_ = k_keep w (1 - s0) j r7 := ⟨_, rfl⟩
        rw [← ez8] at hP hD
        refine lv_iinc (v := nI (j + 1)) (lv' := [(6, .int (nI (j + 1))), (4, .int (nI i)), (3, .int (nI cp)), (2, .int (nI s0)), (1, .int (nI cn)), (0, .ref (kd 0))]) hx hb d_K_resync_118 hl (k := 0) rfl (nI_1 _) (by decide) rfl (fun ls hl => ?_)
        refine lv_goto (tgt := 91) hx hb d_K_resync_121 (by decide) ?_
        exact ih (j + 1) z8 H locs ls hi8 (by omega) hP hD hS (lv_sub hl [0, 1, 2, 3, 4, 5] rfl) (fun x H locs ls ex => hKont x H locs ls (by rw [ex]; subst er7 ez8; rfl))
  have outer : ∀ (cn : Nat), cn ≤ 4 → ∀ (n i cp : Nat) (y : x_S) (H : Heap) (locs : List Loc) (ls : Array Slot), i + n = 8 → cp ≤ i → k_resync z s0 a = k_rsT (k_rsL s0 cn n i y cp) s0 → va_P D vwCl (k_w cI cZ kd y) H → va_D A (k_w cI cZ kd y) → va_S A s.heap H locs → lv_has ls 7 [(4, .int (nI i)), (3, .int (nI cp)), (2, .int (nI s0)), (1, .int (nI cn)), (0, .ref (kd 0))] → W p l e { frames := 3, cells := 0, slots := 0, locals := 66 } s m [.ref (kd 0), .int a].toArray below meth c H locs 0 0 (MQ below (x_Q (some (.int (k_resync z s0 a).1)) D (k_w cI cZ kd (k_resync z s0 a).2) A) [.ref (kd 0), .int a].toArray s 0 0 A) (F0 m 30 ls []) := by
    intro cn hcn n
    induction n with
    | zero =>
      intro i cp y H locs ls hn hcp hI hP hD hS hl
      refine lv_iload hx hb d_K_resync_30 (lv_at hl 0 rfl) ?_
      refine lv_bipush (v := 8) hx hb d_K_resync_32 (by decide) ?_
      refine lv_icmp_ge (tgt := 130) hx hb d_K_resync_34 (by decide) (fun c9 => ?_) (fun c9 => ?_)
      · have c9 : 8 ≤ i := (nI_leI (a := 8) (b := i) (by omega) (by omega)).mp c9
        refine lv_iconst (v := 0) hx hb d_K_resync_130 (by decide) ?_
        refine lv_istore (lv' := [(4, .int 0), (3, .int (nI cp)), (2, .int (nI s0)), (1, .int (nI cn)), (0, .ref (kd 0))]) hx hb d_K_resync_131 hl (by decide) rfl (fun ls hl => ?_)
        refine lv_iconst (v := 0) hx hb d_K_resync_133 (by decide) ?_
        refine lv_istore (lv' := [(5, .int 0), (4, .int 0), (3, .int (nI cp)), (2, .int (nI s0)), (1, .int (nI cn)), (0, .ref (kd 0))]) hx hb d_K_resync_134 hl (by decide) rfl (fun ls hl => ?_)
        exact left y hI 8 0 0 _ _ ls rfl rfl hP hD hS (lv_sub hl [0, 1, 3, 5] rfl)
      · have c9 : ¬ 8 ≤ i := fun h => c9 ((nI_leI (a := 8) (b := i) (by omega) (by omega)).mpr h)
        exact absurd (show 8 ≤ i by omega) c9
    | succ n ih =>
      intro i cp y H locs ls hn hcp hI hP hD hS hl
      refine lv_iload hx hb d_K_resync_30 (lv_at hl 0 rfl) ?_
      refine lv_bipush (v := 8) hx hb d_K_resync_32 (by decide) ?_
      refine lv_icmp_ge (tgt := 130) hx hb d_K_resync_34 (by decide) (fun c10 => ?_) (fun c10 => ?_)
      · have c10 : 8 ≤ i := (nI_leI (a := 8) (b := i) (by omega) (by omega)).mp c10
        exact absurd c10 (by omega)
      · have c10 : ¬ 8 ≤ i := fun h => c10 ((nI_leI (a := 8) (b := i) (by omega) (by omega)).mpr h)
        refine lv_aload_n hx hb d_K_resync_37 rfl (lv_at hl 4 rfl) ?_
        refine va_get (D := D) (ci := 5) (C := R_K) (T := T_K) (N := 21) hx hb hts in_K hown hK hP 0 k_h0 rfl 9 (by decide) (hts _ gm_409) (fun _ h9 => h9) rfl d_K_resync_38 ?_
        refine lv_iload_n hx hb d_K_resync_41 rfl (lv_at hl 2 rfl) ?_
        refine va_iald (D := D) hx hb hK hP 9 0 k_h9 rfl (x_in2 hs0) d_K_resync_42 ?_
        refine x_top (k_col_at hs0) ?_
        refine lv_iload hx hb d_K_resync_43 (lv_at hl 0 rfl) ?_
        refine lv_ishr hx hb d_K_resync_45 ?_
        refine lv_iconst (v := 1) hx hb d_K_resync_46 (by decide) ?_
        refine lv_iand hx hb d_K_resync_47 ?_
        refine lv_iconst (v := 1) hx hb d_K_resync_48 (by decide) ?_
        refine lv_icmp_ne (tgt := 56) hx hb d_K_resync_49 (by decide) (fun c11 => ?_) (fun c11 => ?_)
        · refine lv_iconst (v := 0) hx hb d_K_resync_56 (by decide) ?_
          refine lv_istore (lv' := [(5, .int 0), (4, .int (nI i)), (3, .int (nI cp)), (2, .int (nI s0)), (1, .int (nI cn)), (0, .ref (kd 0))]) hx hb d_K_resync_57 hl (by decide) rfl (fun ls hl => ?_)
          refine lv_iload hx hb d_K_resync_59 (lv_at hl 0 rfl) ?_
          refine lv_if_eq (tgt := 124) hx hb d_K_resync_61 (by decide) (fun c12 => ?_) (fun c12 => ?_)
          · refine lv_iinc (v := nI (i + 1)) (lv' := [(4, .int (nI (i + 1))), (5, .int 0), (3, .int (nI cp)), (2, .int (nI s0)), (1, .int (nI cn)), (0, .ref (kd 0))]) hx hb d_K_resync_124 hl (k := 1) rfl (nI_1 _) (by decide) rfl (fun ls hl => ?_)
            refine lv_goto (tgt := 30) hx hb d_K_resync_127 (by decide) ?_
            exact ih (i + 1) (cp) y H locs ls (by omega) (by omega) (by rw [hI]; simp only [k_rsL, if_neg c11]) hP hD hS (lv_sub hl [0, 2, 3, 4, 5] rfl)
          · exact (c12 (by decide)).elim
        · refine lv_iconst (v := 1) hx hb d_K_resync_52 (by decide) ?_
          refine lv_goto (tgt := 57) hx hb d_K_resync_53 (by decide) ?_
          refine lv_istore (lv' := [(5, .int 1), (4, .int (nI i)), (3, .int (nI cp)), (2, .int (nI s0)), (1, .int (nI cn)), (0, .ref (kd 0))]) hx hb d_K_resync_57 hl (by decide) rfl (fun ls hl => ?_)
          refine lv_iload hx hb d_K_resync_59 (lv_at hl 0 rfl) ?_
          refine lv_if_eq (tgt := 124) hx hb d_K_resync_61 (by decide) (fun c13 => ?_) (fun c13 => ?_)
          · exact absurd c13 (by decide)
          · refine lv_iload_n hx hb d_K_resync_64 rfl (lv_at hl 2 rfl) ?_
            refine lv_iload_n hx hb d_K_resync_65 rfl (lv_at hl 4 rfl) ?_
            refine lv_icmp_ge (tgt := 124) hx hb d_K_resync_66 (by decide) (fun c14 => ?_) (fun c14 => ?_)
            · have c14 : cn ≤ cp := (nI_leI (a := cn) (b := cp) (by omega) (by omega)).mp c14
              refine lv_iinc (v := nI (i + 1)) (lv' := [(4, .int (nI (i + 1))), (5, .int 1), (3, .int (nI cp)), (2, .int (nI s0)), (1, .int (nI cn)), (0, .ref (kd 0))]) hx hb d_K_resync_124 hl (k := 1) rfl (nI_1 _) (by decide) rfl (fun ls hl => ?_)
              refine lv_goto (tgt := 30) hx hb d_K_resync_127 (by decide) ?_
              exact ih (i + 1) (cp) y H locs ls (by omega) (by omega) (by rw [hI]; simp only [k_rsL, if_pos c11, if_pos c14]) hP hD hS (lv_sub hl [0, 2, 3, 4, 5] rfl)
            · have c14 : ¬ cn ≤ cp := fun h => c14 ((nI_leI (a := cn) (b := cp) (by omega) (by omega)).mpr h)
              refine lv_iinc (v := nI (cp + 1)) (lv' := [(3, .int (nI (cp + 1))), (5, .int 1), (4, .int (nI i)), (2, .int (nI s0)), (1, .int (nI cn)), (0, .ref (kd 0))]) hx hb d_K_resync_69 hl (k := 2) rfl (nI_1 _) (by decide) rfl (fun ls hl => ?_)
              refine lv_aload_n hx hb d_K_resync_72 rfl (lv_at hl 5 rfl) ?_
              refine va_get (D := D) (ci := 5) (C := R_K) (T := T_K) (N := 21) hx hb hts in_K hown hK hP 0 k_h0 rfl 9 (by decide) (hts _ gm_409) (fun _ h9 => h9) rfl d_K_resync_73 ?_
              refine lv_iload_n hx hb d_K_resync_76 rfl (lv_at hl 3 rfl) ?_
              refine lv_dup2_11 hx hb d_K_resync_77 rfl rfl ?_
              refine va_iald (D := D) hx hb hK hP 9 0 k_h9 rfl (x_in2 hs0) d_K_resync_78 ?_
              refine x_top (k_col_at hs0) ?_
              refine lv_iconst (v := 1) hx hb d_K_resync_79 (by decide) ?_
              refine lv_iload hx hb d_K_resync_80 (lv_at hl 2 rfl) ?_
              refine lv_ishl hx hb d_K_resync_82 ?_
              refine lv_isub hx hb d_K_resync_83 ?_
              refine va_iast (D := D) hx hb hK hP hD hS 9 0 k_h9 rfl (x_in2 (k := s0) hs0) d_K_resync_84 (fun H locs hP hD hS => ?_)
              obtain ⟨z15, ez15⟩ : ∃ zt_ : x_S, zt_ = x_up y (5 + s0) 5 ((y (5 + s0) 5) - (1 <<< (nI i &&& 31))) := ⟨_, rfl⟩
              rw [x_cl (k := s0) hs0] at hP hD
              have hP : va_P D vwCl (k_w cI cZ kd z15) H := by rw [ez15]; exact (k_s9 (k := s0) hs0 ((y (5 + s0) 5) - (1 <<< (nI i &&& 31)))) ▸ hP
              have hD : va_D A (k_w cI cZ kd z15) := by rw [ez15]; exact (k_s9 (k := s0) hs0 ((y (5 + s0) 5) - (1 <<< (nI i &&& 31)))) ▸ hD
              refine lv_iconst (v := 4) hx hb d_K_resync_85 (by decide) ?_
              refine lv_iload hx hb d_K_resync_86 (lv_at hl 2 rfl) ?_
              refine lv_imul hx hb d_K_resync_88 ?_
              refine x_top (show 4 * (nI i) = nI (4 * i) from x_nmul 4 i) ?_
              refine lv_istore (lv' := [(6, .int (nI (4 * i))), (3, .int (nI (cp + 1))), (5, .int 1), (4, .int (nI i)), (2, .int (nI s0)), (1, .int (nI cn)), (0, .ref (kd 0))]) hx hb d_K_resync_89 hl (by decide) rfl (fun ls hl => ?_)
              refine inner i (cp + 1) cn 4 (4 * i) z15 H locs ls (by omega) (by omega) hP hD hS (lv_sub hl [0, 3, 1, 4, 5, 6] rfl) (fun x H locs ls ex hP hD hS hl => ?_)
              refine lv_iinc (v := nI (i + 1)) (lv' := [(4, .int (nI (i + 1))), (3, .int (nI (cp + 1))), (2, .int (nI s0)), (1, .int (nI cn)), (0, .ref (kd 0))]) hx hb d_K_resync_124 hl (k := 0) rfl (nI_1 _) (by decide) rfl (fun ls hl => ?_)
              refine lv_goto (tgt := 30) hx hb d_K_resync_127 (by decide) ?_
              exact ih (i + 1) (cp + 1) x H locs ls (by omega) (by omega) (by rw [ex]; subst ez15; rw [hI]; simp only [k_rsL, if_pos c11, if_neg c14]) hP hD hS (lv_sub hl [0, 1, 2, 3, 4] rfl)
  refine lv_iload_n hx hb d_K_resync_0 rfl (lv_at hl 1 rfl) ?_
  refine lv_iconst (v := 1) hx hb d_K_resync_1 (by decide) ?_
  refine lv_icmp_lt (tgt := 18) hx hb d_K_resync_2 (by decide) (fun c16 => ?_) (fun c16 => ?_)
  · refine lv_iconst (v := (-1)) hx hb d_K_resync_18 (by decide) ?_
    exact x_ri (w := k_w cI cZ kd) (by first | (simp only [k_resync, if_pos c16]; done) | (with_reducible rfl) | (simp only [k_resync, if_pos c16]; with_reducible rfl)) hx hb hr hlk hP hD hS d_K_resync_19
  · refine lv_iload_n hx hb d_K_resync_5 rfl (lv_at hl 1 rfl) ?_
    refine lv_iconst (v := 4) hx hb d_K_resync_6 (by decide) ?_
    refine lv_icmp_gt (tgt := 18) hx hb d_K_resync_7 (by decide) (fun c17 => ?_) (fun c17 => ?_)
    · refine lv_iconst (v := (-1)) hx hb d_K_resync_18 (by decide) ?_
      exact x_ri (w := k_w cI cZ kd) (by first | (simp only [k_resync, if_neg c16, if_pos c17]; done) | (with_reducible rfl) | (simp only [k_resync, if_neg c16, if_pos c17]; with_reducible rfl)) hx hb hr hlk hP hD hS d_K_resync_19
    · obtain ⟨cn, hc1, hc4, ecn⟩ := x_oneTo4 c16 c17
      subst ecn
      refine lv_aload_n hx hb d_K_resync_10 rfl (lv_at hl 0 rfl) ?_
      refine va_get (D := D) (ci := 5) (C := R_K) (T := T_K) (N := 21) hx hb hts in_K hown hK hP 0 k_h0 rfl 11 (by decide) (hts _ gm_411) (fun _ h9 => h9) rfl d_K_resync_11 ?_
      refine lv_iconst (v := 2) hx hb d_K_resync_14 (by decide) ?_
      refine lv_icmp_ne (tgt := 20) hx hb d_K_resync_15 (by decide) (fun c18 => ?_) (fun c18 => ?_)
      · have hs := hqs c18
        refine lv_aload_n hx hb d_K_resync_20 rfl (lv_at hl 0 rfl) ?_
        refine va_get (D := D) (ci := 5) (C := R_K) (T := T_K) (N := 21) hx hb hts in_K hown hK hP 0 k_h0 rfl 11 (by decide) (hts _ gm_411) (fun _ h9 => h9) rfl d_K_resync_21 ?_
        refine x_top (show z 0 7 = nI s0 from hs) ?_
        refine lv_istore_n (lv' := [(2, .int (nI s0)), (0, .ref (kd 0)), (1, .int (nI cn))]) hx hb d_K_resync_24 rfl hl (by decide) rfl (fun ls hl => ?_)
        refine lv_iconst (v := 0) hx hb d_K_resync_25 (by decide) ?_
        refine lv_istore_n (lv' := [(3, .int 0), (2, .int (nI s0)), (0, .ref (kd 0)), (1, .int (nI cn))]) hx hb d_K_resync_26 rfl hl (by decide) rfl (fun ls hl => ?_)
        refine lv_iconst (v := 0) hx hb d_K_resync_27 (by decide) ?_
        refine lv_istore (lv' := [(4, .int 0), (3, .int 0), (2, .int (nI s0)), (0, .ref (kd 0)), (1, .int (nI cn))]) hx hb d_K_resync_28 hl (by decide) rfl (fun ls hl => ?_)
        exact outer cn hc4 8 0 0 z _ _ ls rfl (by omega) (by simp only [k_resync, if_neg c16, if_neg c17, if_neg c18, nI_clamp (show cn < 2 ^ 31 by omega)]) hP hD hS (lv_sub hl [0, 1, 2, 4, 3] rfl)
      · refine lv_iconst (v := (-1)) hx hb d_K_resync_18 (by decide) ?_
        exact x_ri (w := k_w cI cZ kd) (by first | (simp only [k_resync, if_neg c16, if_neg c17, if_pos c18, nI_clamp (show cn < 2 ^ 31 by omega)]; done) | (with_reducible rfl) | (simp only [k_resync, if_neg c16, if_neg c17, if_pos c18, nI_clamp (show cn < 2 ^ 31 by omega)]; with_reducible rfl)) hx hb hr hlk hP hD hS d_K_resync_19
