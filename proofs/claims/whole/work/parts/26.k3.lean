-- ===== 26.k3: the reference: commit, connect, promote
set_option maxHeartbeats 4000000 in
set_option maxRecDepth 100000 in
theorem c_K_commit_ok (l : Launch) (D : va_G) (cI cZ : ClassId) (kd : Nat → Nat) (z : x_S) (k : Nat) (hk : k < 2) (hq : ¬ z 0 6 = 2 → z 0 6 = nI k) (sz : Nat) (hsz : sz ≤ 3) (hz : z 2 0 = nI sz) (hcell : ∀ j, j < sz → ∃ b, b < 24 ∧ z 3 j = nI b) (cut keep : Int32) : x_C l y_K_commit c_K_commit 7 (some .int) { frames := 4, cells := 0, slots := 0, locals := 89 } D (k_ty cI cZ) (k_w cI cZ kd z) [.ref (kd 0), .int cut, .int keep] (some (.int (k_commit z k sz cut keep).1)) (k_w cI cZ kd (k_commit z k sz cut keep).2) := by
  refine x_C.of (by decide) (Nat.le_of_ble_eq_true rfl) ?_
  intro p e s m below meth c hx hb hr hml hts hown hlk A hA hK hS hP hD ls hl
  have hown : s.vm.findClass R_K = some m.cls := hown
  have hl : lv_has ls 7 [(0, .ref (kd 0)), (1, .int cut), (2, .int keep)] := hl
  have body : ∀ (y : x_S) (H : Heap) (locs : List Loc) (ls : Array Slot), y 0 6 = nI k → y 2 0 = nI sz → (∀ j, j < sz → ∃ b, b < 24 ∧ y 3 j = nI b) → k_commit z k sz cut keep = k_comB y k sz cut keep → va_P D vwCl (k_w cI cZ kd y) H → va_D A (k_w cI cZ kd y) → va_S A s.heap H locs → lv_has ls 7 [(0, .ref (kd 0)), (1, .int cut), (2, .int keep)] → W p l e { frames := 4, cells := 0, slots := 0, locals := 89 } s m [.ref (kd 0), .int cut, .int keep].toArray below meth c H locs 0 0 (MQ below (x_Q (some (.int (k_commit z k sz cut keep).1)) D (k_w cI cZ kd (k_commit z k sz cut keep).2) A) [.ref (kd 0), .int cut, .int keep].toArray s 0 0 A) (F0 m 59 ls []) := by
    intro y H locs ls hpy hzy hcy hG hP hD hS hl
    have lp0 : ∀ (n i : Nat) (w : x_S) (H : Heap) (locs : List Loc) (ls : Array Slot), i + n = 3 * sz + 7 → w 0 6 = nI k → (∀ j, j < sz → ∃ b, b < 24 ∧ w 3 j = nI b) → k_commit z k sz cut keep = (0, x_up (k_comL k sz n i w) 2 0 0) → va_P D vwCl (k_w cI cZ kd w) H → va_D A (k_w cI cZ kd w) → va_S A s.heap H locs → lv_has ls 7 [(6, .int (nI i)), (5, .int 0), (4, .int (nI (3 * sz + 7))), (3, .int (nI sz)), (0, .ref (kd 0)), (1, .int cut), (2, .int keep)] → W p l e { frames := 4, cells := 0, slots := 0, locals := 89 } s m [.ref (kd 0), .int cut, .int keep].toArray below meth c H locs 0 0 (MQ below (x_Q (some (.int (k_commit z k sz cut keep).1)) D (k_w cI cZ kd (k_commit z k sz cut keep).2) A) [.ref (kd 0), .int cut, .int keep].toArray s 0 0 A) (F0 m 92 ls []) := by
      intro n
      induction n with
      | zero =>
        intro i w  H locs ls hn hpw hcw hI hP hD hS hl
        refine lv_iload hx hb d_K_commit_92 (lv_at hl 0 rfl) ?_
        refine lv_iload hx hb d_K_commit_94 (lv_at hl 1 rfl) ?_
        refine lv_if_eq (tgt := 103) hx hb d_K_commit_96 (by decide) (fun c1 => ?_) (fun c1 => ?_)
        · refine lv_iload hx hb d_K_commit_103 (lv_at hl 2 rfl) ?_
          refine lv_icmp_ge (tgt := 121) hx hb d_K_commit_105 (by decide) (fun c2 => ?_) (fun c2 => ?_)
          · have c2 : (3 * sz + 7) ≤ i := (nI_leI (a := 3 * sz + 7) (b := i) (by omega) (by omega)).mp c2
            refine lv_iload hx hb d_K_commit_121 (lv_at hl 1 rfl) ?_
            refine lv_if_eq (tgt := 140) hx hb d_K_commit_123 (by decide) (fun c3 => ?_) (fun c3 => ?_)
            · refine lv_aload_n hx hb d_K_commit_140 rfl (lv_at hl 4 rfl) ?_
              refine lv_iconst (v := 0) hx hb d_K_commit_141 (by decide) ?_
              refine va_put (D := D) (ci := 5) (v := .int 0) (ty := .int) (C := R_K) (T := T_K) (N := 21) hx hb hts in_K fy_K fy_K_ok n_K hown hK hP hD hS 0 k_h0 rfl 18 (by decide) (hts _ gm_418) (fun _ h9 => h9) rfl (by decide +kernel) rfl rfl (Nat.le_of_ble_eq_true rfl) d_K_commit_142 (fun H locs hP hD hS => ?_)
              obtain ⟨z4, ez4⟩ : ∃ zt_ : x_S, zt_ = x_up w 2 0 0 := ⟨_, rfl⟩
              have hP : va_P D vwCl (k_w cI cZ kd z4) H := by rw [ez4]; exact (k_s0_18 0) ▸ hP
              have hD : va_D A (k_w cI cZ kd z4) := by rw [ez4]; exact (k_s0_18 0) ▸ hD
              refine lv_iconst (v := 0) hx hb d_K_commit_145 (by decide) ?_
              exact x_ri (w := k_w cI cZ kd) (by subst ez4; rw [hI]; rfl) hx hb hr hlk hP hD hS d_K_commit_146
            · exact (c3 (by decide)).elim
          · have c2 : ¬ (3 * sz + 7) ≤ i := fun h => c2 ((nI_leI (a := 3 * sz + 7) (b := i) (by omega) (by omega)).mpr h)
            exact absurd (show 3 * sz + 7 ≤ i by omega) c2
        · exact (c1 (by decide)).elim
      | succ n ih =>
        intro i w  H locs ls hn hpw hcw hI hP hD hS hl
        refine lv_iload hx hb d_K_commit_92 (lv_at hl 0 rfl) ?_
        refine lv_iload hx hb d_K_commit_94 (lv_at hl 1 rfl) ?_
        refine lv_if_eq (tgt := 103) hx hb d_K_commit_96 (by decide) (fun c5 => ?_) (fun c5 => ?_)
        · refine lv_iload hx hb d_K_commit_103 (lv_at hl 2 rfl) ?_
          refine lv_icmp_ge (tgt := 121) hx hb d_K_commit_105 (by decide) (fun c6 => ?_) (fun c6 => ?_)
          · have c6 : (3 * sz + 7) ≤ i := (nI_leI (a := 3 * sz + 7) (b := i) (by omega) (by omega)).mp c6
            exact absurd c6 (by omega)
          · have c6 : ¬ (3 * sz + 7) ≤ i := fun h => c6 ((nI_leI (a := 3 * sz + 7) (b := i) (by omega) (by omega)).mpr h)
            refine lv_aload_n hx hb d_K_commit_108 rfl (lv_at hl 4 rfl) ?_
            refine lv_iload hx hb d_K_commit_109 (lv_at hl 0 rfl) ?_
            refine lv_iload_n hx hb d_K_commit_111 rfl (lv_at hl 3 rfl) ?_
            refine x_V (rest := []) ⟨hx, hb, hml, hown, hts⟩ (c_K_step_ok l D cI cZ kd w k hk hpw sz hsz hcw i (by omega)) gm_481 gm_483 gm_17 gm_34 gm_484 ⟨rfl, rfl⟩ hd_K_step ⟨Nat.le_of_ble_eq_true rfl, Nat.le_of_ble_eq_true rfl⟩ hK hP hD hS hA (va_recv hK hP (ci := 5) (q0 := 0) rfl k_h0) rfl hl.1 rfl (Nat.le_of_ble_eq_true rfl) d_K_commit_112 ⟨Nat.le_of_ble_eq_true rfl, Nat.le_of_ble_eq_true rfl⟩ (fun H locs hP hD hS => ?_)
            obtain ⟨z7, ez7⟩ : ∃ zt_ : x_S, zt_ = k_step w k sz i := ⟨_, rfl⟩
            rw [← ez7] at hP hD
            refine lv_iinc (v := nI (i + 1)) (lv' := [(6, .int (nI (i + 1))), (5, .int 0), (4, .int (nI (3 * sz + 7))), (3, .int (nI sz)), (0, .ref (kd 0)), (1, .int cut), (2, .int keep)]) hx hb d_K_commit_115 hl (k := 0) rfl (nI_1 _) (by decide) rfl (fun ls hl => ?_)
            refine lv_goto (tgt := 92) hx hb d_K_commit_118 (by decide) ?_
            exact ih (i + 1) z7 H locs ls (by omega) (by subst ez7; rw [k_step_low (by decide)]; exact hpw) (by subst ez7; rw [k_step_low (by decide)]; exact hcw) (by subst ez7; rw [hI]; rfl) hP hD hS (lv_sub hl [0, 1, 2, 3, 4, 5, 6] rfl)
        · exact (c5 (by decide)).elim
    have lp1 : ∀ (n i : Nat) (w : x_S) (d : Nat) (H : Heap) (locs : List Loc) (ls : Array Slot), i + n = d → d ≤ 3 * sz + 7 → cut = nI d → w 0 6 = nI k → (∀ j, j < sz → ∃ b, b < 24 ∧ w 3 j = nI b) → k_commit z k sz cut keep = (-7, (k_crash (k_comL k sz n i w) (nI k) keep).2) → va_P D vwCl (k_w cI cZ kd w) H → va_D A (k_w cI cZ kd w) → va_S A s.heap H locs → lv_has ls 7 [(6, .int (nI i)), (5, .int 1), (4, .int (nI (3 * sz + 7))), (3, .int (nI sz)), (0, .ref (kd 0)), (1, .int cut), (2, .int keep)] → W p l e { frames := 4, cells := 0, slots := 0, locals := 89 } s m [.ref (kd 0), .int cut, .int keep].toArray below meth c H locs 0 0 (MQ below (x_Q (some (.int (k_commit z k sz cut keep).1)) D (k_w cI cZ kd (k_commit z k sz cut keep).2) A) [.ref (kd 0), .int cut, .int keep].toArray s 0 0 A) (F0 m 92 ls []) := by
      intro n
      induction n with
      | zero =>
        intro i w d H locs ls hn hd hcut hpw hcw hI hP hD hS hl
        refine lv_iload hx hb d_K_commit_92 (lv_at hl 0 rfl) ?_
        refine lv_iload hx hb d_K_commit_94 (lv_at hl 1 rfl) ?_
        refine lv_if_eq (tgt := 103) hx hb d_K_commit_96 (by decide) (fun c8 => ?_) (fun c8 => ?_)
        · exact absurd c8 (by decide)
        · refine lv_iload_n hx hb d_K_commit_99 rfl (lv_at hl 5 rfl) ?_
          refine lv_goto (tgt := 105) hx hb d_K_commit_100 (by decide) ?_
          refine x_top (show cut = nI d from hcut) ?_
          refine lv_icmp_ge (tgt := 121) hx hb d_K_commit_105 (by decide) (fun c9 => ?_) (fun c9 => ?_)
          · have c9 : d ≤ i := (nI_leI (a := d) (b := i) (by omega) (by omega)).mp c9
            refine lv_iload hx hb d_K_commit_121 (lv_at hl 1 rfl) ?_
            refine lv_if_eq (tgt := 140) hx hb d_K_commit_123 (by decide) (fun c10 => ?_) (fun c10 => ?_)
            · exact absurd c10 (by decide)
            · refine lv_aload_n hx hb d_K_commit_126 rfl (lv_at hl 4 rfl) ?_
              refine lv_aload_n hx hb d_K_commit_127 rfl (lv_at hl 4 rfl) ?_
              refine va_get (D := D) (ci := 5) (C := R_K) (T := T_K) (N := 21) hx hb hts in_K hown hK hP 0 k_h0 rfl 10 (by decide) (hts _ gm_410) (fun _ h9 => h9) rfl d_K_commit_128 ?_
              refine x_top (show w 0 6 = nI k from hpw) ?_
              refine lv_iload_n hx hb d_K_commit_131 rfl (lv_at hl 6 rfl) ?_
              refine x_V (rest := []) ⟨hx, hb, hml, hown, hts⟩ (c_K_crash_ok l D cI cZ kd w (nI k) keep) gm_509 gm_510 gm_511 gm_34 gm_512 ⟨rfl, rfl⟩ hd_K_crash ⟨Nat.le_of_ble_eq_true rfl, Nat.le_of_ble_eq_true rfl⟩ hK hP hD hS hA (va_recv hK hP (ci := 5) (q0 := 0) rfl k_h0) rfl hl.1 rfl (Nat.le_of_ble_eq_true rfl) d_K_commit_132 ⟨Nat.le_of_ble_eq_true rfl, Nat.le_of_ble_eq_true rfl⟩ (fun H locs hP hD hS => ?_)
              obtain ⟨z11, ez11⟩ : ∃ zt_ : x_S, zt_ = (k_crash w (nI k) keep).2 := ⟨_, rfl⟩
              rw [← ez11] at hP hD
              refine lv_topi (fun r12 er12 => ?_)
              refine lv_istore (lv' := [(6, .int r12), (5, .int 1), (4, .int (nI (3 * sz + 7))), (3, .int (nI sz)), (0, .ref (kd 0)), (1, .int cut), (2, .int keep)]) hx hb d_K_commit_135 hl (by decide) rfl (fun ls hl => ?_)
              refine lv_bipush (v := (-7)) hx hb d_K_commit_137 (by decide) ?_
              exact x_ri (w := k_w cI cZ kd) (by subst ez11 er12; rw [hI]; rfl) hx hb hr hlk hP hD hS d_K_commit_139
          · have c9 : ¬ d ≤ i := fun h => c9 ((nI_leI (a := d) (b := i) (by omega) (by omega)).mpr h)
            exact absurd (show d ≤ i by omega) c9
      | succ n ih =>
        intro i w d H locs ls hn hd hcut hpw hcw hI hP hD hS hl
        refine lv_iload hx hb d_K_commit_92 (lv_at hl 0 rfl) ?_
        refine lv_iload hx hb d_K_commit_94 (lv_at hl 1 rfl) ?_
        refine lv_if_eq (tgt := 103) hx hb d_K_commit_96 (by decide) (fun c13 => ?_) (fun c13 => ?_)
        · exact absurd c13 (by decide)
        · refine lv_iload_n hx hb d_K_commit_99 rfl (lv_at hl 5 rfl) ?_
          refine lv_goto (tgt := 105) hx hb d_K_commit_100 (by decide) ?_
          refine x_top (show cut = nI d from hcut) ?_
          refine lv_icmp_ge (tgt := 121) hx hb d_K_commit_105 (by decide) (fun c14 => ?_) (fun c14 => ?_)
          · have c14 : d ≤ i := (nI_leI (a := d) (b := i) (by omega) (by omega)).mp c14
            exact absurd c14 (by omega)
          · have c14 : ¬ d ≤ i := fun h => c14 ((nI_leI (a := d) (b := i) (by omega) (by omega)).mpr h)
            refine lv_aload_n hx hb d_K_commit_108 rfl (lv_at hl 4 rfl) ?_
            refine lv_iload hx hb d_K_commit_109 (lv_at hl 0 rfl) ?_
            refine lv_iload_n hx hb d_K_commit_111 rfl (lv_at hl 3 rfl) ?_
            refine x_V (rest := []) ⟨hx, hb, hml, hown, hts⟩ (c_K_step_ok l D cI cZ kd w k hk hpw sz hsz hcw i (by omega)) gm_481 gm_483 gm_17 gm_34 gm_484 ⟨rfl, rfl⟩ hd_K_step ⟨Nat.le_of_ble_eq_true rfl, Nat.le_of_ble_eq_true rfl⟩ hK hP hD hS hA (va_recv hK hP (ci := 5) (q0 := 0) rfl k_h0) rfl hl.1 rfl (Nat.le_of_ble_eq_true rfl) d_K_commit_112 ⟨Nat.le_of_ble_eq_true rfl, Nat.le_of_ble_eq_true rfl⟩ (fun H locs hP hD hS => ?_)
            obtain ⟨z15, ez15⟩ : ∃ zt_ : x_S, zt_ = k_step w k sz i := ⟨_, rfl⟩
            rw [← ez15] at hP hD
            refine lv_iinc (v := nI (i + 1)) (lv' := [(6, .int (nI (i + 1))), (5, .int 1), (4, .int (nI (3 * sz + 7))), (3, .int (nI sz)), (0, .ref (kd 0)), (1, .int cut), (2, .int keep)]) hx hb d_K_commit_115 hl (k := 0) rfl (nI_1 _) (by decide) rfl (fun ls hl => ?_)
            refine lv_goto (tgt := 92) hx hb d_K_commit_118 (by decide) ?_
            exact ih (i + 1) z15 d H locs ls (by omega) hd hcut (by subst ez15; rw [k_step_low (by decide)]; exact hpw) (by subst ez15; rw [k_step_low (by decide)]; exact hcw) (by subst ez15; rw [hI]; rfl) hP hD hS (lv_sub hl [0, 1, 2, 3, 4, 5, 6] rfl)
    refine lv_aload_n hx hb d_K_commit_59 rfl (lv_at hl 0 rfl) ?_
    refine va_get (D := D) (ci := 5) (C := R_K) (T := T_K) (N := 21) hx hb hts in_K hown hK hP 0 k_h0 rfl 18 (by decide) (hts _ gm_418) (fun _ h9 => h9) rfl d_K_commit_60 ?_
    refine x_top (show y 2 0 = nI sz from hzy) ?_
    refine lv_istore_n (lv' := [(3, .int (nI sz)), (0, .ref (kd 0)), (1, .int cut), (2, .int keep)]) hx hb d_K_commit_63 rfl hl (by decide) rfl (fun ls hl => ?_)
    refine lv_iconst (v := 3) hx hb d_K_commit_64 (by decide) ?_
    refine lv_iload_n hx hb d_K_commit_65 rfl (lv_at hl 0 rfl) ?_
    refine lv_imul hx hb d_K_commit_66 ?_
    refine lv_bipush (v := 7) hx hb d_K_commit_67 (by decide) ?_
    refine lv_iadd hx hb d_K_commit_69 ?_
    refine x_top (show (3 * (nI sz)) + 7 = nI (3 * sz + 7) by rw [show (3 : Int32) * nI sz = nI (3 * sz) from x_nmul 3 sz]; exact x_nadd (3 * sz) 7) ?_
    refine lv_istore (lv' := [(4, .int (nI (3 * sz + 7))), (3, .int (nI sz)), (0, .ref (kd 0)), (1, .int cut), (2, .int keep)]) hx hb d_K_commit_70 hl (by decide) rfl (fun ls hl => ?_)
    refine lv_iload_n hx hb d_K_commit_72 rfl (lv_at hl 3 rfl) ?_
    refine lv_if_lt (tgt := 86) hx hb d_K_commit_73 (by decide) (fun c16 => ?_) (fun c16 => ?_)
    · refine lv_iconst (v := 0) hx hb d_K_commit_86 (by decide) ?_
      refine lv_istore (lv' := [(5, .int 0), (4, .int (nI (3 * sz + 7))), (3, .int (nI sz)), (0, .ref (kd 0)), (1, .int cut), (2, .int keep)]) hx hb d_K_commit_87 hl (by decide) rfl (fun ls hl => ?_)
      refine lv_iconst (v := 0) hx hb d_K_commit_89 (by decide) ?_
      refine lv_istore (lv' := [(6, .int 0), (5, .int 0), (4, .int (nI (3 * sz + 7))), (3, .int (nI sz)), (0, .ref (kd 0)), (1, .int cut), (2, .int keep)]) hx hb d_K_commit_90 hl (by decide) rfl (fun ls hl => ?_)
      exact lp0 (3 * sz + 7) 0 y H locs ls (by omega) hpy hcy (by rw [hG]; simp only [k_comB, if_pos c16]) hP hD hS (lv_sub hl [0, 1, 2, 3, 4, 5, 6] rfl)
    · refine lv_iload_n hx hb d_K_commit_76 rfl (lv_at hl 3 rfl) ?_
      refine lv_iload hx hb d_K_commit_77 (lv_at hl 0 rfl) ?_
      refine lv_icmp_ge (tgt := 86) hx hb d_K_commit_79 (by decide) (fun c17 => ?_) (fun c17 => ?_)
      · refine lv_iconst (v := 0) hx hb d_K_commit_86 (by decide) ?_
        refine lv_istore (lv' := [(5, .int 0), (4, .int (nI (3 * sz + 7))), (3, .int (nI sz)), (0, .ref (kd 0)), (1, .int cut), (2, .int keep)]) hx hb d_K_commit_87 hl (by decide) rfl (fun ls hl => ?_)
        refine lv_iconst (v := 0) hx hb d_K_commit_89 (by decide) ?_
        refine lv_istore (lv' := [(6, .int 0), (5, .int 0), (4, .int (nI (3 * sz + 7))), (3, .int (nI sz)), (0, .ref (kd 0)), (1, .int cut), (2, .int keep)]) hx hb d_K_commit_90 hl (by decide) rfl (fun ls hl => ?_)
        exact lp0 (3 * sz + 7) 0 y H locs ls (by omega) hpy hcy (by rw [hG]; simp only [k_comB, if_neg c16, if_pos c17]) hP hD hS (lv_sub hl [0, 1, 2, 3, 4, 5, 6] rfl)
      · obtain ⟨d, hd, ed⟩ : ∃ d : Nat, d < 3 * sz + 7 ∧ cut = nI d := by
          rcases pk_ix cut (n := 3 * sz + 7) (by omega) with q | q | q
          · exact absurd q c16
          · exact absurd q c17
          · exact q
        refine lv_iconst (v := 1) hx hb d_K_commit_82 (by decide) ?_
        refine lv_goto (tgt := 87) hx hb d_K_commit_83 (by decide) ?_
        refine lv_istore (lv' := [(5, .int 1), (4, .int (nI (3 * sz + 7))), (3, .int (nI sz)), (0, .ref (kd 0)), (1, .int cut), (2, .int keep)]) hx hb d_K_commit_87 hl (by decide) rfl (fun ls hl => ?_)
        refine lv_iconst (v := 0) hx hb d_K_commit_89 (by decide) ?_
        refine lv_istore (lv' := [(6, .int 0), (5, .int 1), (4, .int (nI (3 * sz + 7))), (3, .int (nI sz)), (0, .ref (kd 0)), (1, .int cut), (2, .int keep)]) hx hb d_K_commit_90 hl (by decide) rfl (fun ls hl => ?_)
        exact lp1 d 0 y d H locs ls (by omega) (by omega) ed hpy hcy (by rw [hG]; simp only [k_comB, if_neg c16, if_neg c17]; rw [ed, nI_clamp (show d < 2 ^ 31 by omega)]) hP hD hS (lv_sub hl [0, 1, 2, 3, 4, 5, 6] rfl)
  refine lv_aload_n hx hb d_K_commit_0 rfl (lv_at hl 0 rfl) ?_
  refine va_get (D := D) (ci := 5) (C := R_K) (T := T_K) (N := 21) hx hb hts in_K hown hK hP 0 k_h0 rfl 10 (by decide) (hts _ gm_410) (fun _ h9 => h9) rfl d_K_commit_1 ?_
  refine lv_iconst (v := 2) hx hb d_K_commit_4 (by decide) ?_
  refine lv_icmp_eq (tgt := 15) hx hb d_K_commit_5 (by decide) (fun c18 => ?_) (fun c18 => ?_)
  · refine lv_iconst (v := (-1)) hx hb d_K_commit_15 (by decide) ?_
    exact x_ri (w := k_w cI cZ kd) (by first | (simp only [k_commit, if_pos c18]; done) | (with_reducible rfl) | (simp only [k_commit, if_pos c18]; with_reducible rfl)) hx hb hr hlk hP hD hS d_K_commit_16
  · have hp := hq c18
    refine lv_aload_n hx hb d_K_commit_8 rfl (lv_at hl 0 rfl) ?_
    refine va_get (D := D) (ci := 5) (C := R_K) (T := T_K) (N := 21) hx hb hts in_K hown hK hP 0 k_h0 rfl 18 (by decide) (hts _ gm_418) (fun _ h9 => h9) rfl d_K_commit_9 ?_
    refine x_top (show z 2 0 = nI sz by exact hz) ?_
    refine lv_if_ne (tgt := 17) hx hb d_K_commit_12 (by decide) (fun c19 => ?_) (fun c19 => ?_)
    · have c19 : ¬ sz = 0 := fun h => c19 ((nI_eq (a := sz) (b := 0) (by omega) (by omega)).mpr h)
      refine lv_aload_n hx hb d_K_commit_17 rfl (lv_at hl 0 rfl) ?_
      refine va_get (D := D) (ci := 5) (C := R_K) (T := T_K) (N := 21) hx hb hts in_K hown hK hP 0 k_h0 rfl 13 (by decide) (hts _ gm_413) (fun _ h9 => h9) rfl d_K_commit_18 ?_
      refine lv_if_ne (tgt := 59) hx hb d_K_commit_21 (by decide) (fun c20 => ?_) (fun c20 => ?_)
      · exact body z _ _ ls hp hz hcell (by simp only [k_commit, if_neg c18, if_neg c19, if_neg c20]) hP hD hS (lv_sub hl [0, 1, 2] rfl)
      · refine lv_aload_n hx hb d_K_commit_24 rfl (lv_at hl 0 rfl) ?_
        refine va_get (D := D) (ci := 5) (C := R_K) (T := T_K) (N := 21) hx hb hts in_K hown hK hP 0 k_h0 rfl 5 (by decide) (hts _ gm_405) (fun _ h9 => h9) rfl d_K_commit_25 ?_
        refine lv_aload_n hx hb d_K_commit_28 rfl (lv_at hl 0 rfl) ?_
        refine va_get (D := D) (ci := 5) (C := R_K) (T := T_K) (N := 21) hx hb hts in_K hown hK hP 0 k_h0 rfl 10 (by decide) (hts _ gm_410) (fun _ h9 => h9) rfl d_K_commit_29 ?_
        refine x_top (show z 0 6 = nI k by first | exact hp | (rw [k_keep_low (by decide)]; exact hp) | (rw [k_settle_low (by decide)]; exact hp)) ?_
        refine va_zald (D := D) hx hb hK hP 5 1 k_h5 rfl (x_in2 hk) d_K_commit_32 ?_
        refine x_top (k_col_at hk) ?_
        refine lv_if_ne (tgt := 59) hx hb d_K_commit_33 (by decide) (fun c21 => ?_) (fun c21 => ?_)
        · exact body z _ _ ls hp hz hcell (by simp only [k_commit, if_neg c18, if_neg c19, if_pos c20, if_neg c21]) hP hD hS (lv_sub hl [0, 1, 2] rfl)
        · refine lv_aload_n hx hb d_K_commit_36 rfl (lv_at hl 0 rfl) ?_
          refine va_get (D := D) (ci := 5) (C := R_K) (T := T_K) (N := 21) hx hb hts in_K hown hK hP 0 k_h0 rfl 6 (by decide) (hts _ gm_406) (fun _ h9 => h9) rfl d_K_commit_37 ?_
          refine lv_aload_n hx hb d_K_commit_40 rfl (lv_at hl 0 rfl) ?_
          refine va_get (D := D) (ci := 5) (C := R_K) (T := T_K) (N := 21) hx hb hts in_K hown hK hP 0 k_h0 rfl 10 (by decide) (hts _ gm_410) (fun _ h9 => h9) rfl d_K_commit_41 ?_
          refine x_top (show z 0 6 = nI k by first | exact hp | (rw [k_keep_low (by decide)]; exact hp) | (rw [k_settle_low (by decide)]; exact hp)) ?_
          refine va_zald (D := D) hx hb hK hP 6 1 k_h6 rfl (x_in2 hk) d_K_commit_44 ?_
          refine x_top (k_col_at hk) ?_
          refine lv_if_eq (tgt := 51) hx hb d_K_commit_45 (by decide) (fun c22 => ?_) (fun c22 => ?_)
          · refine lv_aload_n hx hb d_K_commit_51 rfl (lv_at hl 0 rfl) ?_
            refine lv_aload_n hx hb d_K_commit_52 rfl (lv_at hl 0 rfl) ?_
            refine va_get (D := D) (ci := 5) (C := R_K) (T := T_K) (N := 21) hx hb hts in_K hown hK hP 0 k_h0 rfl 10 (by decide) (hts _ gm_410) (fun _ h9 => h9) rfl d_K_commit_53 ?_
            refine x_top (show z 0 6 = nI k by first | exact hp | (rw [k_keep_low (by decide)]; exact hp) | (rw [k_settle_low (by decide)]; exact hp)) ?_
            refine x_V (rest := []) ⟨hx, hb, hml, hown, hts⟩ (c_K_goAlone_ok l D cI cZ kd z k hk) gm_477 gm_479 gm_16 gm_34 gm_480 ⟨rfl, rfl⟩ hd_K_goAlone ⟨Nat.le_of_ble_eq_true rfl, Nat.le_of_ble_eq_true rfl⟩ hK hP hD hS hA (va_recv hK hP (ci := 5) (q0 := 0) rfl k_h0) rfl hl.1 rfl (Nat.le_of_ble_eq_true rfl) d_K_commit_56 ⟨Nat.le_of_ble_eq_true rfl, Nat.le_of_ble_eq_true rfl⟩ (fun H locs hP hD hS => ?_)
            obtain ⟨z23, ez23⟩ : ∃ zt_ : x_S, zt_ = x_goAl z k := ⟨_, rfl⟩
            rw [← ez23] at hP hD
            exact body z23 _ _ ls (by subst ez23; rw [x_goAl_low (by decide) (by decide)]; exact hp) (by subst ez23; rw [x_goAl_low (by decide) (by decide)]; exact hz) (by subst ez23; rw [x_goAl_low (by decide) (by decide)]; exact hcell) (by subst ez23; simp only [k_commit, if_neg c18, if_neg c19, if_pos c20, if_pos c21, if_pos c22]) hP hD hS (lv_sub hl [0, 1, 2] rfl)
          · refine lv_bipush (v := (-3)) hx hb d_K_commit_48 (by decide) ?_
            exact x_ri (w := k_w cI cZ kd) (by first | (simp only [k_commit, if_neg c18, if_neg c19, if_pos c20, if_pos c21, if_neg c22]; done) | (with_reducible rfl) | (simp only [k_commit, if_neg c18, if_neg c19, if_pos c20, if_pos c21, if_neg c22]; with_reducible rfl)) hx hb hr hlk hP hD hS d_K_commit_50
    · have c19 : sz = 0 := (nI_eq (a := sz) (b := 0) (by omega) (by omega)).mp c19
      refine lv_iconst (v := (-1)) hx hb d_K_commit_15 (by decide) ?_
      exact x_ri (w := k_w cI cZ kd) (by first | (simp only [k_commit, if_neg c18, if_pos c19]; done) | (with_reducible rfl) | (simp only [k_commit, if_neg c18, if_pos c19]; with_reducible rfl)) hx hb hr hlk hP hD hS d_K_commit_16
set_option maxHeartbeats 4000000 in
set_option maxRecDepth 100000 in
theorem c_K_connect_ok (l : Launch) (D : va_G) (cI cZ : ClassId) (kd : Nat → Nat) (z : x_S)  : x_C l y_K_connect c_K_connect 5 (some .int) { frames := 3, cells := 0, slots := 0, locals := 66 } D (k_ty cI cZ) (k_w cI cZ kd z) [.ref (kd 0)] (some (.int (k_connect z).1)) (k_w cI cZ kd (k_connect z).2) := by
  refine x_C.of (by decide) (Nat.le_of_ble_eq_true rfl) ?_
  intro p e s m below meth c hx hb hr hml hts hown hlk A hA hK hS hP hD ls hl
  have hown : s.vm.findClass R_K = some m.cls := hown
  have hl : lv_has ls 5 [(0, .ref (kd 0))] := hl
  have tail : ∀ (s0 : Nat) (hs0 : s0 < 2) (u : Int32) (H : Heap) (locs : List Loc) (ls : Array Slot), k_connect z = k_conT z s0 u → va_P D vwCl (k_w cI cZ kd z) H → va_D A (k_w cI cZ kd z) → va_S A s.heap H locs → lv_has ls 5 [(2, .int (nI s0)), (1, .int u), (0, .ref (kd 0))] → W p l e { frames := 3, cells := 0, slots := 0, locals := 66 } s m [.ref (kd 0)].toArray below meth c H locs 0 0 (MQ below (x_Q (some (.int (k_connect z).1)) D (k_w cI cZ kd (k_connect z).2) A) [.ref (kd 0)].toArray s 0 0 A) (F0 m 152 ls []) := by
    intro s0 hs0 u H locs ls hG hP hD hS hl
    have lp : ∀ (n i : Nat) (q : Int32) (H : Heap) (locs : List Loc) (ls : Array Slot), i + n = 8 → k_cntL u 8 0 0 = k_cntL u n i q → va_P D vwCl (k_w cI cZ kd (x_up z 0 1 1)) H → va_D A (k_w cI cZ kd (x_up z 0 1 1)) → va_S A s.heap H locs → lv_has ls 5 [(4, .int (nI i)), (3, .int q), (2, .int (nI s0)), (1, .int u), (0, .ref (kd 0))] → W p l e { frames := 3, cells := 0, slots := 0, locals := 66 } s m [.ref (kd 0)].toArray below meth c H locs 0 0 (MQ below (x_Q (some (.int (k_connect z).1)) D (k_w cI cZ kd (k_connect z).2) A) [.ref (kd 0)].toArray s 0 0 A) (F0 m 162 ls []) := by
      intro n
      induction n with
      | zero =>
        intro i q H locs ls hn hI hP hD hS hl
        have hI : k_cntL u 8 0 0 = q := hI
        refine lv_iload hx hb d_K_connect_162 (lv_at hl 0 rfl) ?_
        refine lv_bipush (v := 8) hx hb d_K_connect_164 (by decide) ?_
        refine lv_icmp_ge (tgt := 184) hx hb d_K_connect_166 (by decide) (fun c1 => ?_) (fun c1 => ?_)
        · refine lv_iload_n hx hb d_K_connect_184 rfl (lv_at hl 3 rfl) ?_
          refine lv_if_ne (tgt := 195) hx hb d_K_connect_185 (by decide) (fun c2 => ?_) (fun c2 => ?_)
          · refine lv_aload_n hx hb d_K_connect_195 rfl (lv_at hl 4 rfl) ?_
            refine va_get (D := D) (ci := 5) (C := R_K) (T := T_K) (N := 21) hx hb hts in_K hown hK hP 0 k_h0 rfl 9 (by decide) (hts _ gm_409) (fun _ h9 => h9) rfl d_K_connect_196 ?_
            refine lv_iload_n hx hb d_K_connect_199 rfl (lv_at hl 2 rfl) ?_
            refine lv_iload_n hx hb d_K_connect_200 rfl (lv_at hl 3 rfl) ?_
            refine va_iast (D := D) hx hb hK hP hD hS 9 0 k_h9 rfl (x_in2 (k := s0) hs0) d_K_connect_201 (fun H locs hP hD hS => ?_)
            obtain ⟨z3, ez3⟩ : ∃ zt_ : x_S, zt_ = x_up (x_up z 0 1 1) (5 + s0) 5 u := ⟨_, rfl⟩
            rw [x_cl (k := s0) hs0] at hP hD
            have hP : va_P D vwCl (k_w cI cZ kd z3) H := by rw [ez3]; exact (k_s9 (k := s0) hs0 u) ▸ hP
            have hD : va_D A (k_w cI cZ kd z3) := by rw [ez3]; exact (k_s9 (k := s0) hs0 u) ▸ hD
            refine lv_aload_n hx hb d_K_connect_202 rfl (lv_at hl 4 rfl) ?_
            refine va_get (D := D) (ci := 5) (C := R_K) (T := T_K) (N := 21) hx hb hts in_K hown hK hP 0 k_h0 rfl 9 (by decide) (hts _ gm_409) (fun _ h9 => h9) rfl d_K_connect_203 ?_
            refine lv_iconst (v := 1) hx hb d_K_connect_206 (by decide) ?_
            refine lv_iload_n hx hb d_K_connect_207 rfl (lv_at hl 2 rfl) ?_
            refine lv_isub hx hb d_K_connect_208 ?_
            refine x_top (x_1k hs0) ?_
            refine lv_iconst (v := 0) hx hb d_K_connect_209 (by decide) ?_
            refine va_iast (D := D) hx hb hK hP hD hS 9 0 k_h9 rfl (x_in2 (k := 1 - s0) (x_1lt hs0)) d_K_connect_210 (fun H locs hP hD hS => ?_)
            obtain ⟨z4, ez4⟩ : ∃ zt_ : x_S, zt_ = x_up z3 (5 + (1 - s0)) 5 0 := ⟨_, rfl⟩
            rw [x_cl (k := 1 - s0) (x_1lt hs0)] at hP hD
            have hP : va_P D vwCl (k_w cI cZ kd z4) H := by rw [ez4]; exact (k_s9 (k := 1 - s0) (x_1lt hs0) 0) ▸ hP
            have hD : va_D A (k_w cI cZ kd z4) := by rw [ez4]; exact (k_s9 (k := 1 - s0) (x_1lt hs0) 0) ▸ hD
            refine lv_aload_n hx hb d_K_connect_211 rfl (lv_at hl 4 rfl) ?_
            refine va_get (D := D) (ci := 5) (C := R_K) (T := T_K) (N := 21) hx hb hts in_K hown hK hP 0 k_h0 rfl 7 (by decide) (hts _ gm_407) (fun _ h9 => h9) rfl d_K_connect_212 ?_
            refine lv_iconst (v := 1) hx hb d_K_connect_215 (by decide) ?_
            refine lv_iload_n hx hb d_K_connect_216 rfl (lv_at hl 2 rfl) ?_
            refine lv_isub hx hb d_K_connect_217 ?_
            refine x_top (x_1k hs0) ?_
            refine lv_iconst (v := 0) hx hb d_K_connect_218 (by decide) ?_
            refine va_iast (D := D) hx hb hK hP hD hS 7 0 k_h7 rfl (x_in2 (k := 1 - s0) (x_1lt hs0)) d_K_connect_219 (fun H locs hP hD hS => ?_)
            obtain ⟨z5, ez5⟩ : ∃ zt_ : x_S, zt_ = x_up z4 (5 + (1 - s0)) 2 0 := ⟨_, rfl⟩
            rw [x_cl (k := 1 - s0) (x_1lt hs0)] at hP hD
            have hP : va_P D vwCl (k_w cI cZ kd z5) H := by rw [ez5]; exact (k_s7 (k := 1 - s0) (x_1lt hs0) 0) ▸ hP
            have hD : va_D A (k_w cI cZ kd z5) := by rw [ez5]; exact (k_s7 (k := 1 - s0) (x_1lt hs0) 0) ▸ hD
            refine lv_aload_n hx hb d_K_connect_220 rfl (lv_at hl 4 rfl) ?_
            refine va_get (D := D) (ci := 5) (C := R_K) (T := T_K) (N := 21) hx hb hts in_K hown hK hP 0 k_h0 rfl 5 (by decide) (hts _ gm_405) (fun _ h9 => h9) rfl d_K_connect_221 ?_
            refine lv_iconst (v := 1) hx hb d_K_connect_224 (by decide) ?_
            refine lv_iload_n hx hb d_K_connect_225 rfl (lv_at hl 2 rfl) ?_
            refine lv_isub hx hb d_K_connect_226 ?_
            refine x_top (x_1k hs0) ?_
            refine lv_iconst (v := 0) hx hb d_K_connect_227 (by decide) ?_
            refine va_zast (D := D) hx hb hK hP hD hS 5 1 k_h5 rfl (x_in2 (k := 1 - s0) (x_1lt hs0)) d_K_connect_228 (fun H locs hP hD hS => ?_)
            obtain ⟨z6, ez6⟩ : ∃ zt_ : x_S, zt_ = x_up z5 (5 + (1 - s0)) 4 0 := ⟨_, rfl⟩
            rw [x_cl (k := 1 - s0) (x_1lt hs0)] at hP hD
            have hP : va_P D vwCl (k_w cI cZ kd z6) H := by rw [ez6]; exact (k_s5 (k := 1 - s0) (x_1lt hs0) 0) ▸ hP
            have hD : va_D A (k_w cI cZ kd z6) := by rw [ez6]; exact (k_s5 (k := 1 - s0) (x_1lt hs0) 0) ▸ hD
            refine lv_aload_n hx hb d_K_connect_229 rfl (lv_at hl 4 rfl) ?_
            refine lv_iload_n hx hb d_K_connect_230 rfl (lv_at hl 2 rfl) ?_
            refine va_put (D := D) (ci := 5) (v := .int (nI s0)) (ty := .int) (C := R_K) (T := T_K) (N := 21) hx hb hts in_K fy_K fy_K_ok n_K hown hK hP hD hS 0 k_h0 rfl 11 (by decide) (hts _ gm_411) (fun _ h9 => h9) rfl (by decide +kernel) rfl rfl (Nat.le_of_ble_eq_true rfl) d_K_connect_231 (fun H locs hP hD hS => ?_)
            obtain ⟨z7, ez7⟩ : ∃ zt_ : x_S, zt_ = x_up z6 0 7 (nI s0) := ⟨_, rfl⟩
            have hP : va_P D vwCl (k_w cI cZ kd z7) H := by rw [ez7]; exact (k_s0_11 (nI s0)) ▸ hP
            have hD : va_D A (k_w cI cZ kd z7) := by rw [ez7]; exact (k_s0_11 (nI s0)) ▸ hD
            refine lv_iload_n hx hb d_K_connect_234 rfl (lv_at hl 1 rfl) ?_
            exact x_ri (w := k_w cI cZ kd) (by subst ez3 ez4 ez5 ez6 ez7; rw [hG]; simp only [k_conT, hI, if_neg c2]) hx hb hr hlk hP hD hS d_K_connect_235
          · refine lv_aload_n hx hb d_K_connect_188 rfl (lv_at hl 4 rfl) ?_
            refine lv_iload_n hx hb d_K_connect_189 rfl (lv_at hl 2 rfl) ?_
            refine x_V (rest := []) ⟨hx, hb, hml, hown, hts⟩ (c_K_finished_ok l D cI cZ kd (x_up z 0 1 1) s0 hs0) gm_547 gm_549 gm_26 gm_34 gm_550 ⟨rfl, rfl⟩ hd_K_finished ⟨Nat.le_of_ble_eq_true rfl, Nat.le_of_ble_eq_true rfl⟩ hK hP hD hS hA (va_recv hK hP (ci := 5) (q0 := 0) rfl k_h0) rfl hl.1 rfl (Nat.le_of_ble_eq_true rfl) d_K_connect_190 ⟨Nat.le_of_ble_eq_true rfl, Nat.le_of_ble_eq_true rfl⟩ (fun H locs hP hD hS => ?_)
            obtain ⟨z8, ez8⟩ : ∃ zt_ : x_S, zt_ = k_fin (x_up z 0 1 1) s0 := ⟨_, rfl⟩
            rw [← ez8] at hP hD
            refine lv_iconst (v := 0) hx hb d_K_connect_193 (by decide) ?_
            exact x_ri (w := k_w cI cZ kd) (by subst ez8; rw [hG]; simp only [k_conT, hI, if_pos c2]) hx hb hr hlk hP hD hS d_K_connect_194
        · exact absurd (show (8 : Int32) ≤ nI i from nI_le (a := 8) (by omega) (by omega)) c1
      | succ n ih =>
        intro i q H locs ls hn hI hP hD hS hl
        refine lv_iload hx hb d_K_connect_162 (lv_at hl 0 rfl) ?_
        refine lv_bipush (v := 8) hx hb d_K_connect_164 (by decide) ?_
        refine lv_icmp_ge (tgt := 184) hx hb d_K_connect_166 (by decide) (fun c9 => ?_) (fun c9 => ?_)
        · exact absurd c9 (show ¬ (8 : Int32) ≤ nI i from nI_ge (b := 8) (by omega) (by decide))
        · refine lv_iload_n hx hb d_K_connect_169 rfl (lv_at hl 1 rfl) ?_
          refine lv_iload_n hx hb d_K_connect_170 rfl (lv_at hl 3 rfl) ?_
          refine lv_iload hx hb d_K_connect_171 (lv_at hl 0 rfl) ?_
          refine lv_ishr hx hb d_K_connect_173 ?_
          refine lv_iconst (v := 1) hx hb d_K_connect_174 (by decide) ?_
          refine lv_iand hx hb d_K_connect_175 ?_
          refine lv_iadd hx hb d_K_connect_176 ?_
          refine lv_istore_n (lv' := [(3, .int (q + ((u >>> (nI i &&& 31)) &&& 1))), (4, .int (nI i)), (2, .int (nI s0)), (1, .int u), (0, .ref (kd 0))]) hx hb d_K_connect_177 rfl hl (by decide) rfl (fun ls hl => ?_)
          refine lv_iinc (v := nI (i + 1)) (lv' := [(4, .int (nI (i + 1))), (3, .int (q + ((u >>> (nI i &&& 31)) &&& 1))), (2, .int (nI s0)), (1, .int u), (0, .ref (kd 0))]) hx hb d_K_connect_178 hl (k := 1) rfl (nI_1 _) (by decide) rfl (fun ls hl => ?_)
          refine lv_goto (tgt := 162) hx hb d_K_connect_181 (by decide) ?_
          exact ih (i + 1) (q + ((u >>> (nI i &&& 31)) &&& 1)) H locs ls (by omega) (by rw [hI]; rfl) hP hD hS (lv_sub hl [0, 1, 2, 3, 4] rfl)
    refine lv_aload_n hx hb d_K_connect_152 rfl (lv_at hl 2 rfl) ?_
    refine lv_iconst (v := 1) hx hb d_K_connect_153 (by decide) ?_
    refine va_put (D := D) (ci := 5) (v := .int 1) (ty := .boolean) (C := R_K) (T := T_K) (N := 21) hx hb hts in_K fy_K fy_K_ok n_K hown hK hP hD hS 0 k_h0 rfl 13 (by decide) (hts _ gm_413) (fun _ h9 => h9) rfl (by decide +kernel) rfl rfl (Nat.le_of_ble_eq_true rfl) d_K_connect_154 (fun H locs hP hD hS => ?_)
    obtain ⟨z10, ez10⟩ : ∃ zt_ : x_S, zt_ = x_up z 0 1 1 := ⟨_, rfl⟩
    have hP : va_P D vwCl (k_w cI cZ kd z10) H := by rw [ez10]; exact (k_s0_13 1) ▸ hP
    have hD : va_D A (k_w cI cZ kd z10) := by rw [ez10]; exact (k_s0_13 1) ▸ hD
    refine lv_iconst (v := 0) hx hb d_K_connect_157 (by decide) ?_
    refine lv_istore_n (lv' := [(3, .int 0), (2, .int (nI s0)), (1, .int u), (0, .ref (kd 0))]) hx hb d_K_connect_158 rfl hl (by decide) rfl (fun ls hl => ?_)
    refine lv_iconst (v := 0) hx hb d_K_connect_159 (by decide) ?_
    refine lv_istore (lv' := [(4, .int 0), (3, .int 0), (2, .int (nI s0)), (1, .int u), (0, .ref (kd 0))]) hx hb d_K_connect_160 hl (by decide) rfl (fun ls hl => ?_)
    subst ez10
    exact lp 8 0 0 _ _ ls rfl rfl hP hD hS (lv_sub hl [0, 1, 2, 3, 4] rfl)
  refine lv_aload_n hx hb d_K_connect_0 rfl (lv_at hl 0 rfl) ?_
  refine va_get (D := D) (ci := 5) (C := R_K) (T := T_K) (N := 21) hx hb hts in_K hown hK hP 0 k_h0 rfl 13 (by decide) (hts _ gm_413) (fun _ h9 => h9) rfl d_K_connect_1 ?_
  refine lv_if_ne (tgt := 32) hx hb d_K_connect_4 (by decide) (fun c11 => ?_) (fun c11 => ?_)
  · refine lv_iconst (v := (-1)) hx hb d_K_connect_32 (by decide) ?_
    exact x_ri (w := k_w cI cZ kd) (by first | (simp only [k_connect, if_neg c11]; done) | (with_reducible rfl) | (simp only [k_connect, if_neg c11]; with_reducible rfl)) hx hb hr hlk hP hD hS d_K_connect_33
  · refine lv_aload_n hx hb d_K_connect_7 rfl (lv_at hl 0 rfl) ?_
    refine va_get (D := D) (ci := 5) (C := R_K) (T := T_K) (N := 21) hx hb hts in_K hown hK hP 0 k_h0 rfl 14 (by decide) (hts _ gm_414) (fun _ h9 => h9) rfl d_K_connect_8 ?_
    refine lv_if_eq (tgt := 32) hx hb d_K_connect_11 (by decide) (fun c12 => ?_) (fun c12 => ?_)
    · refine lv_iconst (v := (-1)) hx hb d_K_connect_32 (by decide) ?_
      exact x_ri (w := k_w cI cZ kd) (by first | (simp only [k_connect, if_pos c11, if_pos c12]; done) | (with_reducible rfl) | (simp only [k_connect, if_pos c11, if_pos c12]; with_reducible rfl)) hx hb hr hlk hP hD hS d_K_connect_33
    · refine lv_aload_n hx hb d_K_connect_14 rfl (lv_at hl 0 rfl) ?_
      refine va_get (D := D) (ci := 5) (C := R_K) (T := T_K) (N := 21) hx hb hts in_K hown hK hP 0 k_h0 rfl 4 (by decide) (hts _ gm_404) (fun _ h9 => h9) rfl d_K_connect_15 ?_
      refine lv_iconst (v := 0) hx hb d_K_connect_18 (by decide) ?_
      refine x_top (show (0 : Int32) = nI 0 from rfl) ?_
      refine va_zald (D := D) hx hb hK hP 4 1 k_h4 rfl (x_in2 (by decide)) d_K_connect_19 ?_
      refine x_top (show k_col z 0 (nI 0).toNatClampNeg = z 5 0 from k_col_at (k := 0) (by decide)) ?_
      refine lv_if_ne (tgt := 32) hx hb d_K_connect_20 (by decide) (fun c13 => ?_) (fun c13 => ?_)
      · refine lv_iconst (v := (-1)) hx hb d_K_connect_32 (by decide) ?_
        exact x_ri (w := k_w cI cZ kd) (by first | (simp only [k_connect, if_pos c11, if_neg c12, if_neg c13]; done) | (with_reducible rfl) | (simp only [k_connect, if_pos c11, if_neg c12, if_neg c13]; with_reducible rfl)) hx hb hr hlk hP hD hS d_K_connect_33
      · refine lv_aload_n hx hb d_K_connect_23 rfl (lv_at hl 0 rfl) ?_
        refine va_get (D := D) (ci := 5) (C := R_K) (T := T_K) (N := 21) hx hb hts in_K hown hK hP 0 k_h0 rfl 4 (by decide) (hts _ gm_404) (fun _ h9 => h9) rfl d_K_connect_24 ?_
        refine lv_iconst (v := 1) hx hb d_K_connect_27 (by decide) ?_
        refine x_top (show (1 : Int32) = nI 1 from rfl) ?_
        refine va_zald (D := D) hx hb hK hP 4 1 k_h4 rfl (x_in2 (by decide)) d_K_connect_28 ?_
        refine x_top (show k_col z 0 (nI 1).toNatClampNeg = z 6 0 from k_col_at (k := 1) (by decide)) ?_
        refine lv_if_eq (tgt := 34) hx hb d_K_connect_29 (by decide) (fun c14 => ?_) (fun c14 => ?_)
        · refine lv_aload_n hx hb d_K_connect_34 rfl (lv_at hl 0 rfl) ?_
          refine va_get (D := D) (ci := 5) (C := R_K) (T := T_K) (N := 21) hx hb hts in_K hown hK hP 0 k_h0 rfl 7 (by decide) (hts _ gm_407) (fun _ h9 => h9) rfl d_K_connect_35 ?_
          refine lv_iconst (v := 0) hx hb d_K_connect_38 (by decide) ?_
          refine x_top (show (0 : Int32) = nI 0 from rfl) ?_
          refine va_iald (D := D) hx hb hK hP 7 0 k_h7 rfl (x_in2 (by decide)) d_K_connect_39 ?_
          refine x_top (show k_col z 2 (nI 0).toNatClampNeg = z 5 2 from k_col_at (k := 0) (by decide)) ?_
          refine lv_if_ne (tgt := 55) hx hb d_K_connect_40 (by decide) (fun c15 => ?_) (fun c15 => ?_)
          · refine lv_aload_n hx hb d_K_connect_55 rfl (lv_at hl 0 rfl) ?_
            refine va_get (D := D) (ci := 5) (C := R_K) (T := T_K) (N := 21) hx hb hts in_K hown hK hP 0 k_h0 rfl 9 (by decide) (hts _ gm_409) (fun _ h9 => h9) rfl d_K_connect_56 ?_
            refine lv_iconst (v := 0) hx hb d_K_connect_59 (by decide) ?_
            refine x_top (show (0 : Int32) = nI 0 from rfl) ?_
            refine va_iald (D := D) hx hb hK hP 9 0 k_h9 rfl (x_in2 (by decide)) d_K_connect_60 ?_
            refine x_top (show k_col z 5 (nI 0).toNatClampNeg = z 5 5 from k_col_at (k := 0) (by decide)) ?_
            refine lv_aload_n hx hb d_K_connect_61 rfl (lv_at hl 0 rfl) ?_
            refine va_get (D := D) (ci := 5) (C := R_K) (T := T_K) (N := 21) hx hb hts in_K hown hK hP 0 k_h0 rfl 9 (by decide) (hts _ gm_409) (fun _ h9 => h9) rfl d_K_connect_62 ?_
            refine lv_iconst (v := 1) hx hb d_K_connect_65 (by decide) ?_
            refine x_top (show (1 : Int32) = nI 1 from rfl) ?_
            refine va_iald (D := D) hx hb hK hP 9 0 k_h9 rfl (x_in2 (by decide)) d_K_connect_66 ?_
            refine x_top (show k_col z 5 (nI 1).toNatClampNeg = z 6 5 from k_col_at (k := 1) (by decide)) ?_
            refine lv_ior hx hb d_K_connect_67 ?_
            refine lv_istore_n (lv' := [(1, .int ((z 5 5) ||| (z 6 5))), (0, .ref (kd 0))]) hx hb d_K_connect_68 rfl hl (by decide) rfl (fun ls hl => ?_)
            refine lv_aload_n hx hb d_K_connect_69 rfl (lv_at hl 1 rfl) ?_
            refine va_get (D := D) (ci := 5) (C := R_K) (T := T_K) (N := 21) hx hb hts in_K hown hK hP 0 k_h0 rfl 7 (by decide) (hts _ gm_407) (fun _ h9 => h9) rfl d_K_connect_70 ?_
            refine lv_iconst (v := 1) hx hb d_K_connect_73 (by decide) ?_
            refine x_top (show (1 : Int32) = nI 1 from rfl) ?_
            refine va_iald (D := D) hx hb hK hP 7 0 k_h7 rfl (x_in2 (by decide)) d_K_connect_74 ?_
            refine x_top (show k_col z 2 (nI 1).toNatClampNeg = z 6 2 from k_col_at (k := 1) (by decide)) ?_
            refine lv_aload_n hx hb d_K_connect_75 rfl (lv_at hl 1 rfl) ?_
            refine va_get (D := D) (ci := 5) (C := R_K) (T := T_K) (N := 21) hx hb hts in_K hown hK hP 0 k_h0 rfl 7 (by decide) (hts _ gm_407) (fun _ h9 => h9) rfl d_K_connect_76 ?_
            refine lv_iconst (v := 0) hx hb d_K_connect_79 (by decide) ?_
            refine x_top (show (0 : Int32) = nI 0 from rfl) ?_
            refine va_iald (D := D) hx hb hK hP 7 0 k_h7 rfl (x_in2 (by decide)) d_K_connect_80 ?_
            refine x_top (show k_col z 2 (nI 0).toNatClampNeg = z 5 2 from k_col_at (k := 0) (by decide)) ?_
            refine lv_icmp_le (tgt := 88) hx hb d_K_connect_81 (by decide) (fun c16 => ?_) (fun c16 => ?_)
            · refine lv_iconst (v := 0) hx hb d_K_connect_88 (by decide) ?_
              refine lv_istore_n (lv' := [(2, .int 0), (1, .int ((z 5 5) ||| (z 6 5))), (0, .ref (kd 0))]) hx hb d_K_connect_89 rfl hl (by decide) rfl (fun ls hl => ?_)
              refine lv_aload_n hx hb d_K_connect_90 rfl (lv_at hl 2 rfl) ?_
              refine va_get (D := D) (ci := 5) (C := R_K) (T := T_K) (N := 21) hx hb hts in_K hown hK hP 0 k_h0 rfl 7 (by decide) (hts _ gm_407) (fun _ h9 => h9) rfl d_K_connect_91 ?_
              refine lv_iconst (v := 0) hx hb d_K_connect_94 (by decide) ?_
              refine x_top (show (0 : Int32) = nI 0 from rfl) ?_
              refine va_iald (D := D) hx hb hK hP 7 0 k_h7 rfl (x_in2 (by decide)) d_K_connect_95 ?_
              refine x_top (show k_col z 2 (nI 0).toNatClampNeg = z 5 2 from k_col_at (k := 0) (by decide)) ?_
              refine lv_aload_n hx hb d_K_connect_96 rfl (lv_at hl 2 rfl) ?_
              refine va_get (D := D) (ci := 5) (C := R_K) (T := T_K) (N := 21) hx hb hts in_K hown hK hP 0 k_h0 rfl 7 (by decide) (hts _ gm_407) (fun _ h9 => h9) rfl d_K_connect_97 ?_
              refine lv_iconst (v := 1) hx hb d_K_connect_100 (by decide) ?_
              refine x_top (show (1 : Int32) = nI 1 from rfl) ?_
              refine va_iald (D := D) hx hb hK hP 7 0 k_h7 rfl (x_in2 (by decide)) d_K_connect_101 ?_
              refine x_top (show k_col z 2 (nI 1).toNatClampNeg = z 6 2 from k_col_at (k := 1) (by decide)) ?_
              refine lv_icmp_ne (tgt := 122) hx hb d_K_connect_102 (by decide) (fun c17 => ?_) (fun c17 => ?_)
              · refine lv_aload_n hx hb d_K_connect_122 rfl (lv_at hl 2 rfl) ?_
                refine va_get (D := D) (ci := 5) (C := R_K) (T := T_K) (N := 21) hx hb hts in_K hown hK hP 0 k_h0 rfl 5 (by decide) (hts _ gm_405) (fun _ h9 => h9) rfl d_K_connect_123 ?_
                refine lv_iload_n hx hb d_K_connect_126 rfl (lv_at hl 0 rfl) ?_
                refine x_top (show (0 : Int32) = nI 0 from rfl) ?_
                refine va_zald (D := D) hx hb hK hP 5 1 k_h5 rfl (x_in2 (by decide)) d_K_connect_127 ?_
                refine x_top (show k_col z 4 (nI 0).toNatClampNeg = z 5 4 from k_col_at (k := 0) (by decide)) ?_
                refine lv_if_eq (tgt := 148) hx hb d_K_connect_128 (by decide) (fun c18 => ?_) (fun c18 => ?_)
                · refine lv_sipush (v := 255) hx hb d_K_connect_148 (by decide) ?_
                  refine lv_istore_n (lv' := [(1, .int 255), (2, .int 0), (0, .ref (kd 0))]) hx hb d_K_connect_151 rfl hl (by decide) rfl (fun ls hl => ?_)
                  exact tail 0 (by decide) (255) _ _ ls (by simp only [k_connect, k_con3, k_con40, k_con41, if_pos c11, if_neg c12, if_pos c13, if_pos c14, if_neg c15, if_pos c16, if_neg c17, if_pos c18]) hP hD hS (lv_sub hl [1, 0, 2] rfl)
                · refine lv_aload_n hx hb d_K_connect_131 rfl (lv_at hl 2 rfl) ?_
                  refine va_get (D := D) (ci := 5) (C := R_K) (T := T_K) (N := 21) hx hb hts in_K hown hK hP 0 k_h0 rfl 8 (by decide) (hts _ gm_408) (fun _ h9 => h9) rfl d_K_connect_132 ?_
                  refine lv_iload_n hx hb d_K_connect_135 rfl (lv_at hl 0 rfl) ?_
                  refine x_top (show (0 : Int32) = nI 0 from rfl) ?_
                  refine va_iald (D := D) hx hb hK hP 8 0 k_h8 rfl (x_in2 (by decide)) d_K_connect_136 ?_
                  refine x_top (show k_col z 3 (nI 0).toNatClampNeg = z 5 3 from k_col_at (k := 0) (by decide)) ?_
                  refine lv_aload_n hx hb d_K_connect_137 rfl (lv_at hl 2 rfl) ?_
                  refine va_get (D := D) (ci := 5) (C := R_K) (T := T_K) (N := 21) hx hb hts in_K hown hK hP 0 k_h0 rfl 7 (by decide) (hts _ gm_407) (fun _ h9 => h9) rfl d_K_connect_138 ?_
                  refine lv_iconst (v := 1) hx hb d_K_connect_141 (by decide) ?_
                  refine lv_iload_n hx hb d_K_connect_142 rfl (lv_at hl 0 rfl) ?_
                  refine lv_isub hx hb d_K_connect_143 ?_
                  refine x_top (show (1 : Int32) - 0 = 1 from by decide) ?_
                  refine x_top (show (1 : Int32) = nI 1 from rfl) ?_
                  refine va_iald (D := D) hx hb hK hP 7 0 k_h7 rfl (x_in2 (by decide)) d_K_connect_144 ?_
                  refine x_top (show k_col z 2 (nI 1).toNatClampNeg = z 6 2 from k_col_at (k := 1) (by decide)) ?_
                  refine lv_icmp_eq (tgt := 152) hx hb d_K_connect_145 (by decide) (fun c19 => ?_) (fun c19 => ?_)
                  · exact tail 0 (by decide) ((z 5 5) ||| (z 6 5)) _ _ ls (by simp only [k_connect, k_con3, k_con40, k_con41, if_pos c11, if_neg c12, if_pos c13, if_pos c14, if_neg c15, if_pos c16, if_neg c17, if_neg c18, if_pos c19]) hP hD hS (lv_sub hl [0, 1, 2] rfl)
                  · refine lv_sipush (v := 255) hx hb d_K_connect_148 (by decide) ?_
                    refine lv_istore_n (lv' := [(1, .int 255), (2, .int 0), (0, .ref (kd 0))]) hx hb d_K_connect_151 rfl hl (by decide) rfl (fun ls hl => ?_)
                    exact tail 0 (by decide) (255) _ _ ls (by simp only [k_connect, k_con3, k_con40, k_con41, if_pos c11, if_neg c12, if_pos c13, if_pos c14, if_neg c15, if_pos c16, if_neg c17, if_neg c18, if_neg c19]) hP hD hS (lv_sub hl [1, 0, 2] rfl)
              · refine lv_aload_n hx hb d_K_connect_105 rfl (lv_at hl 2 rfl) ?_
                refine va_get (D := D) (ci := 5) (C := R_K) (T := T_K) (N := 21) hx hb hts in_K hown hK hP 0 k_h0 rfl 10 (by decide) (hts _ gm_410) (fun _ h9 => h9) rfl d_K_connect_106 ?_
                refine lv_iconst (v := 1) hx hb d_K_connect_109 (by decide) ?_
                refine lv_icmp_ne (tgt := 117) hx hb d_K_connect_110 (by decide) (fun c20 => ?_) (fun c20 => ?_)
                · refine lv_iconst (v := 0) hx hb d_K_connect_117 (by decide) ?_
                  refine lv_istore_n (lv' := [(2, .int 0), (1, .int ((z 5 5) ||| (z 6 5))), (0, .ref (kd 0))]) hx hb d_K_connect_118 rfl hl (by decide) rfl (fun ls hl => ?_)
                  refine lv_goto (tgt := 152) hx hb d_K_connect_119 (by decide) ?_
                  exact tail 0 (by decide) ((z 5 5) ||| (z 6 5)) _ _ ls (by simp only [k_connect, k_con3, k_con40, k_con41, if_pos c11, if_neg c12, if_pos c13, if_pos c14, if_neg c15, if_pos c16, if_pos c17, if_neg c20]) hP hD hS (lv_sub hl [0, 1, 2] rfl)
                · refine lv_iconst (v := 1) hx hb d_K_connect_113 (by decide) ?_
                  refine lv_goto (tgt := 118) hx hb d_K_connect_114 (by decide) ?_
                  refine lv_istore_n (lv' := [(2, .int 1), (1, .int ((z 5 5) ||| (z 6 5))), (0, .ref (kd 0))]) hx hb d_K_connect_118 rfl hl (by decide) rfl (fun ls hl => ?_)
                  refine lv_goto (tgt := 152) hx hb d_K_connect_119 (by decide) ?_
                  exact tail 1 (by decide) ((z 5 5) ||| (z 6 5)) _ _ ls (by simp only [k_connect, k_con3, k_con40, k_con41, if_pos c11, if_neg c12, if_pos c13, if_pos c14, if_neg c15, if_pos c16, if_pos c17, if_pos c20]) hP hD hS (lv_sub hl [0, 1, 2] rfl)
            · refine lv_iconst (v := 1) hx hb d_K_connect_84 (by decide) ?_
              refine lv_goto (tgt := 89) hx hb d_K_connect_85 (by decide) ?_
              refine lv_istore_n (lv' := [(2, .int 1), (1, .int ((z 5 5) ||| (z 6 5))), (0, .ref (kd 0))]) hx hb d_K_connect_89 rfl hl (by decide) rfl (fun ls hl => ?_)
              refine lv_aload_n hx hb d_K_connect_90 rfl (lv_at hl 2 rfl) ?_
              refine va_get (D := D) (ci := 5) (C := R_K) (T := T_K) (N := 21) hx hb hts in_K hown hK hP 0 k_h0 rfl 7 (by decide) (hts _ gm_407) (fun _ h9 => h9) rfl d_K_connect_91 ?_
              refine lv_iconst (v := 0) hx hb d_K_connect_94 (by decide) ?_
              refine x_top (show (0 : Int32) = nI 0 from rfl) ?_
              refine va_iald (D := D) hx hb hK hP 7 0 k_h7 rfl (x_in2 (by decide)) d_K_connect_95 ?_
              refine x_top (show k_col z 2 (nI 0).toNatClampNeg = z 5 2 from k_col_at (k := 0) (by decide)) ?_
              refine lv_aload_n hx hb d_K_connect_96 rfl (lv_at hl 2 rfl) ?_
              refine va_get (D := D) (ci := 5) (C := R_K) (T := T_K) (N := 21) hx hb hts in_K hown hK hP 0 k_h0 rfl 7 (by decide) (hts _ gm_407) (fun _ h9 => h9) rfl d_K_connect_97 ?_
              refine lv_iconst (v := 1) hx hb d_K_connect_100 (by decide) ?_
              refine x_top (show (1 : Int32) = nI 1 from rfl) ?_
              refine va_iald (D := D) hx hb hK hP 7 0 k_h7 rfl (x_in2 (by decide)) d_K_connect_101 ?_
              refine x_top (show k_col z 2 (nI 1).toNatClampNeg = z 6 2 from k_col_at (k := 1) (by decide)) ?_
              refine lv_icmp_ne (tgt := 122) hx hb d_K_connect_102 (by decide) (fun c21 => ?_) (fun c21 => ?_)
              · refine lv_aload_n hx hb d_K_connect_122 rfl (lv_at hl 2 rfl) ?_
                refine va_get (D := D) (ci := 5) (C := R_K) (T := T_K) (N := 21) hx hb hts in_K hown hK hP 0 k_h0 rfl 5 (by decide) (hts _ gm_405) (fun _ h9 => h9) rfl d_K_connect_123 ?_
                refine lv_iload_n hx hb d_K_connect_126 rfl (lv_at hl 0 rfl) ?_
                refine x_top (show (1 : Int32) = nI 1 from rfl) ?_
                refine va_zald (D := D) hx hb hK hP 5 1 k_h5 rfl (x_in2 (by decide)) d_K_connect_127 ?_
                refine x_top (show k_col z 4 (nI 1).toNatClampNeg = z 6 4 from k_col_at (k := 1) (by decide)) ?_
                refine lv_if_eq (tgt := 148) hx hb d_K_connect_128 (by decide) (fun c22 => ?_) (fun c22 => ?_)
                · refine lv_sipush (v := 255) hx hb d_K_connect_148 (by decide) ?_
                  refine lv_istore_n (lv' := [(1, .int 255), (2, .int 1), (0, .ref (kd 0))]) hx hb d_K_connect_151 rfl hl (by decide) rfl (fun ls hl => ?_)
                  exact tail 1 (by decide) (255) _ _ ls (by simp only [k_connect, k_con3, k_con40, k_con41, if_pos c11, if_neg c12, if_pos c13, if_pos c14, if_neg c15, if_neg c16, if_neg c21, if_pos c22]) hP hD hS (lv_sub hl [1, 0, 2] rfl)
                · refine lv_aload_n hx hb d_K_connect_131 rfl (lv_at hl 2 rfl) ?_
                  refine va_get (D := D) (ci := 5) (C := R_K) (T := T_K) (N := 21) hx hb hts in_K hown hK hP 0 k_h0 rfl 8 (by decide) (hts _ gm_408) (fun _ h9 => h9) rfl d_K_connect_132 ?_
                  refine lv_iload_n hx hb d_K_connect_135 rfl (lv_at hl 0 rfl) ?_
                  refine x_top (show (1 : Int32) = nI 1 from rfl) ?_
                  refine va_iald (D := D) hx hb hK hP 8 0 k_h8 rfl (x_in2 (by decide)) d_K_connect_136 ?_
                  refine x_top (show k_col z 3 (nI 1).toNatClampNeg = z 6 3 from k_col_at (k := 1) (by decide)) ?_
                  refine lv_aload_n hx hb d_K_connect_137 rfl (lv_at hl 2 rfl) ?_
                  refine va_get (D := D) (ci := 5) (C := R_K) (T := T_K) (N := 21) hx hb hts in_K hown hK hP 0 k_h0 rfl 7 (by decide) (hts _ gm_407) (fun _ h9 => h9) rfl d_K_connect_138 ?_
                  refine lv_iconst (v := 1) hx hb d_K_connect_141 (by decide) ?_
                  refine lv_iload_n hx hb d_K_connect_142 rfl (lv_at hl 0 rfl) ?_
                  refine lv_isub hx hb d_K_connect_143 ?_
                  refine x_top (show (1 : Int32) - 1 = 0 from by decide) ?_
                  refine x_top (show (0 : Int32) = nI 0 from rfl) ?_
                  refine va_iald (D := D) hx hb hK hP 7 0 k_h7 rfl (x_in2 (by decide)) d_K_connect_144 ?_
                  refine x_top (show k_col z 2 (nI 0).toNatClampNeg = z 5 2 from k_col_at (k := 0) (by decide)) ?_
                  refine lv_icmp_eq (tgt := 152) hx hb d_K_connect_145 (by decide) (fun c23 => ?_) (fun c23 => ?_)
                  · exact tail 1 (by decide) ((z 5 5) ||| (z 6 5)) _ _ ls (by simp only [k_connect, k_con3, k_con40, k_con41, if_pos c11, if_neg c12, if_pos c13, if_pos c14, if_neg c15, if_neg c16, if_neg c21, if_neg c22, if_pos c23]) hP hD hS (lv_sub hl [0, 1, 2] rfl)
                  · refine lv_sipush (v := 255) hx hb d_K_connect_148 (by decide) ?_
                    refine lv_istore_n (lv' := [(1, .int 255), (2, .int 1), (0, .ref (kd 0))]) hx hb d_K_connect_151 rfl hl (by decide) rfl (fun ls hl => ?_)
                    exact tail 1 (by decide) (255) _ _ ls (by simp only [k_connect, k_con3, k_con40, k_con41, if_pos c11, if_neg c12, if_pos c13, if_pos c14, if_neg c15, if_neg c16, if_neg c21, if_neg c22, if_neg c23]) hP hD hS (lv_sub hl [1, 0, 2] rfl)
              · refine lv_aload_n hx hb d_K_connect_105 rfl (lv_at hl 2 rfl) ?_
                refine va_get (D := D) (ci := 5) (C := R_K) (T := T_K) (N := 21) hx hb hts in_K hown hK hP 0 k_h0 rfl 10 (by decide) (hts _ gm_410) (fun _ h9 => h9) rfl d_K_connect_106 ?_
                refine lv_iconst (v := 1) hx hb d_K_connect_109 (by decide) ?_
                refine lv_icmp_ne (tgt := 117) hx hb d_K_connect_110 (by decide) (fun c24 => ?_) (fun c24 => ?_)
                · refine lv_iconst (v := 0) hx hb d_K_connect_117 (by decide) ?_
                  refine lv_istore_n (lv' := [(2, .int 0), (1, .int ((z 5 5) ||| (z 6 5))), (0, .ref (kd 0))]) hx hb d_K_connect_118 rfl hl (by decide) rfl (fun ls hl => ?_)
                  refine lv_goto (tgt := 152) hx hb d_K_connect_119 (by decide) ?_
                  exact tail 0 (by decide) ((z 5 5) ||| (z 6 5)) _ _ ls (by simp only [k_connect, k_con3, k_con40, k_con41, if_pos c11, if_neg c12, if_pos c13, if_pos c14, if_neg c15, if_neg c16, if_pos c21, if_neg c24]) hP hD hS (lv_sub hl [0, 1, 2] rfl)
                · refine lv_iconst (v := 1) hx hb d_K_connect_113 (by decide) ?_
                  refine lv_goto (tgt := 118) hx hb d_K_connect_114 (by decide) ?_
                  refine lv_istore_n (lv' := [(2, .int 1), (1, .int ((z 5 5) ||| (z 6 5))), (0, .ref (kd 0))]) hx hb d_K_connect_118 rfl hl (by decide) rfl (fun ls hl => ?_)
                  refine lv_goto (tgt := 152) hx hb d_K_connect_119 (by decide) ?_
                  exact tail 1 (by decide) ((z 5 5) ||| (z 6 5)) _ _ ls (by simp only [k_connect, k_con3, k_con40, k_con41, if_pos c11, if_neg c12, if_pos c13, if_pos c14, if_neg c15, if_neg c16, if_pos c21, if_pos c24]) hP hD hS (lv_sub hl [0, 1, 2] rfl)
          · refine lv_aload_n hx hb d_K_connect_43 rfl (lv_at hl 0 rfl) ?_
            refine va_get (D := D) (ci := 5) (C := R_K) (T := T_K) (N := 21) hx hb hts in_K hown hK hP 0 k_h0 rfl 7 (by decide) (hts _ gm_407) (fun _ h9 => h9) rfl d_K_connect_44 ?_
            refine lv_iconst (v := 1) hx hb d_K_connect_47 (by decide) ?_
            refine x_top (show (1 : Int32) = nI 1 from rfl) ?_
            refine va_iald (D := D) hx hb hK hP 7 0 k_h7 rfl (x_in2 (by decide)) d_K_connect_48 ?_
            refine x_top (show k_col z 2 (nI 1).toNatClampNeg = z 6 2 from k_col_at (k := 1) (by decide)) ?_
            refine lv_if_ne (tgt := 55) hx hb d_K_connect_49 (by decide) (fun c25 => ?_) (fun c25 => ?_)
            · refine lv_aload_n hx hb d_K_connect_55 rfl (lv_at hl 0 rfl) ?_
              refine va_get (D := D) (ci := 5) (C := R_K) (T := T_K) (N := 21) hx hb hts in_K hown hK hP 0 k_h0 rfl 9 (by decide) (hts _ gm_409) (fun _ h9 => h9) rfl d_K_connect_56 ?_
              refine lv_iconst (v := 0) hx hb d_K_connect_59 (by decide) ?_
              refine x_top (show (0 : Int32) = nI 0 from rfl) ?_
              refine va_iald (D := D) hx hb hK hP 9 0 k_h9 rfl (x_in2 (by decide)) d_K_connect_60 ?_
              refine x_top (show k_col z 5 (nI 0).toNatClampNeg = z 5 5 from k_col_at (k := 0) (by decide)) ?_
              refine lv_aload_n hx hb d_K_connect_61 rfl (lv_at hl 0 rfl) ?_
              refine va_get (D := D) (ci := 5) (C := R_K) (T := T_K) (N := 21) hx hb hts in_K hown hK hP 0 k_h0 rfl 9 (by decide) (hts _ gm_409) (fun _ h9 => h9) rfl d_K_connect_62 ?_
              refine lv_iconst (v := 1) hx hb d_K_connect_65 (by decide) ?_
              refine x_top (show (1 : Int32) = nI 1 from rfl) ?_
              refine va_iald (D := D) hx hb hK hP 9 0 k_h9 rfl (x_in2 (by decide)) d_K_connect_66 ?_
              refine x_top (show k_col z 5 (nI 1).toNatClampNeg = z 6 5 from k_col_at (k := 1) (by decide)) ?_
              refine lv_ior hx hb d_K_connect_67 ?_
              refine lv_istore_n (lv' := [(1, .int ((z 5 5) ||| (z 6 5))), (0, .ref (kd 0))]) hx hb d_K_connect_68 rfl hl (by decide) rfl (fun ls hl => ?_)
              refine lv_aload_n hx hb d_K_connect_69 rfl (lv_at hl 1 rfl) ?_
              refine va_get (D := D) (ci := 5) (C := R_K) (T := T_K) (N := 21) hx hb hts in_K hown hK hP 0 k_h0 rfl 7 (by decide) (hts _ gm_407) (fun _ h9 => h9) rfl d_K_connect_70 ?_
              refine lv_iconst (v := 1) hx hb d_K_connect_73 (by decide) ?_
              refine x_top (show (1 : Int32) = nI 1 from rfl) ?_
              refine va_iald (D := D) hx hb hK hP 7 0 k_h7 rfl (x_in2 (by decide)) d_K_connect_74 ?_
              refine x_top (show k_col z 2 (nI 1).toNatClampNeg = z 6 2 from k_col_at (k := 1) (by decide)) ?_
              refine lv_aload_n hx hb d_K_connect_75 rfl (lv_at hl 1 rfl) ?_
              refine va_get (D := D) (ci := 5) (C := R_K) (T := T_K) (N := 21) hx hb hts in_K hown hK hP 0 k_h0 rfl 7 (by decide) (hts _ gm_407) (fun _ h9 => h9) rfl d_K_connect_76 ?_
              refine lv_iconst (v := 0) hx hb d_K_connect_79 (by decide) ?_
              refine x_top (show (0 : Int32) = nI 0 from rfl) ?_
              refine va_iald (D := D) hx hb hK hP 7 0 k_h7 rfl (x_in2 (by decide)) d_K_connect_80 ?_
              refine x_top (show k_col z 2 (nI 0).toNatClampNeg = z 5 2 from k_col_at (k := 0) (by decide)) ?_
              refine lv_icmp_le (tgt := 88) hx hb d_K_connect_81 (by decide) (fun c26 => ?_) (fun c26 => ?_)
              · refine lv_iconst (v := 0) hx hb d_K_connect_88 (by decide) ?_
                refine lv_istore_n (lv' := [(2, .int 0), (1, .int ((z 5 5) ||| (z 6 5))), (0, .ref (kd 0))]) hx hb d_K_connect_89 rfl hl (by decide) rfl (fun ls hl => ?_)
                refine lv_aload_n hx hb d_K_connect_90 rfl (lv_at hl 2 rfl) ?_
                refine va_get (D := D) (ci := 5) (C := R_K) (T := T_K) (N := 21) hx hb hts in_K hown hK hP 0 k_h0 rfl 7 (by decide) (hts _ gm_407) (fun _ h9 => h9) rfl d_K_connect_91 ?_
                refine lv_iconst (v := 0) hx hb d_K_connect_94 (by decide) ?_
                refine x_top (show (0 : Int32) = nI 0 from rfl) ?_
                refine va_iald (D := D) hx hb hK hP 7 0 k_h7 rfl (x_in2 (by decide)) d_K_connect_95 ?_
                refine x_top (show k_col z 2 (nI 0).toNatClampNeg = z 5 2 from k_col_at (k := 0) (by decide)) ?_
                refine lv_aload_n hx hb d_K_connect_96 rfl (lv_at hl 2 rfl) ?_
                refine va_get (D := D) (ci := 5) (C := R_K) (T := T_K) (N := 21) hx hb hts in_K hown hK hP 0 k_h0 rfl 7 (by decide) (hts _ gm_407) (fun _ h9 => h9) rfl d_K_connect_97 ?_
                refine lv_iconst (v := 1) hx hb d_K_connect_100 (by decide) ?_
                refine x_top (show (1 : Int32) = nI 1 from rfl) ?_
                refine va_iald (D := D) hx hb hK hP 7 0 k_h7 rfl (x_in2 (by decide)) d_K_connect_101 ?_
                refine x_top (show k_col z 2 (nI 1).toNatClampNeg = z 6 2 from k_col_at (k := 1) (by decide)) ?_
                refine lv_icmp_ne (tgt := 122) hx hb d_K_connect_102 (by decide) (fun c27 => ?_) (fun c27 => ?_)
                · refine lv_aload_n hx hb d_K_connect_122 rfl (lv_at hl 2 rfl) ?_
                  refine va_get (D := D) (ci := 5) (C := R_K) (T := T_K) (N := 21) hx hb hts in_K hown hK hP 0 k_h0 rfl 5 (by decide) (hts _ gm_405) (fun _ h9 => h9) rfl d_K_connect_123 ?_
                  refine lv_iload_n hx hb d_K_connect_126 rfl (lv_at hl 0 rfl) ?_
                  refine x_top (show (0 : Int32) = nI 0 from rfl) ?_
                  refine va_zald (D := D) hx hb hK hP 5 1 k_h5 rfl (x_in2 (by decide)) d_K_connect_127 ?_
                  refine x_top (show k_col z 4 (nI 0).toNatClampNeg = z 5 4 from k_col_at (k := 0) (by decide)) ?_
                  refine lv_if_eq (tgt := 148) hx hb d_K_connect_128 (by decide) (fun c28 => ?_) (fun c28 => ?_)
                  · refine lv_sipush (v := 255) hx hb d_K_connect_148 (by decide) ?_
                    refine lv_istore_n (lv' := [(1, .int 255), (2, .int 0), (0, .ref (kd 0))]) hx hb d_K_connect_151 rfl hl (by decide) rfl (fun ls hl => ?_)
                    exact tail 0 (by decide) (255) _ _ ls (by simp only [k_connect, k_con3, k_con40, k_con41, if_pos c11, if_neg c12, if_pos c13, if_pos c14, if_pos c15, if_neg c25, if_pos c26, if_neg c27, if_pos c28]) hP hD hS (lv_sub hl [1, 0, 2] rfl)
                  · refine lv_aload_n hx hb d_K_connect_131 rfl (lv_at hl 2 rfl) ?_
                    refine va_get (D := D) (ci := 5) (C := R_K) (T := T_K) (N := 21) hx hb hts in_K hown hK hP 0 k_h0 rfl 8 (by decide) (hts _ gm_408) (fun _ h9 => h9) rfl d_K_connect_132 ?_
                    refine lv_iload_n hx hb d_K_connect_135 rfl (lv_at hl 0 rfl) ?_
                    refine x_top (show (0 : Int32) = nI 0 from rfl) ?_
                    refine va_iald (D := D) hx hb hK hP 8 0 k_h8 rfl (x_in2 (by decide)) d_K_connect_136 ?_
                    refine x_top (show k_col z 3 (nI 0).toNatClampNeg = z 5 3 from k_col_at (k := 0) (by decide)) ?_
                    refine lv_aload_n hx hb d_K_connect_137 rfl (lv_at hl 2 rfl) ?_
                    refine va_get (D := D) (ci := 5) (C := R_K) (T := T_K) (N := 21) hx hb hts in_K hown hK hP 0 k_h0 rfl 7 (by decide) (hts _ gm_407) (fun _ h9 => h9) rfl d_K_connect_138 ?_
                    refine lv_iconst (v := 1) hx hb d_K_connect_141 (by decide) ?_
                    refine lv_iload_n hx hb d_K_connect_142 rfl (lv_at hl 0 rfl) ?_
                    refine lv_isub hx hb d_K_connect_143 ?_
                    refine x_top (show (1 : Int32) - 0 = 1 from by decide) ?_
                    refine x_top (show (1 : Int32) = nI 1 from rfl) ?_
                    refine va_iald (D := D) hx hb hK hP 7 0 k_h7 rfl (x_in2 (by decide)) d_K_connect_144 ?_
                    refine x_top (show k_col z 2 (nI 1).toNatClampNeg = z 6 2 from k_col_at (k := 1) (by decide)) ?_
                    refine lv_icmp_eq (tgt := 152) hx hb d_K_connect_145 (by decide) (fun c29 => ?_) (fun c29 => ?_)
                    · exact tail 0 (by decide) ((z 5 5) ||| (z 6 5)) _ _ ls (by simp only [k_connect, k_con3, k_con40, k_con41, if_pos c11, if_neg c12, if_pos c13, if_pos c14, if_pos c15, if_neg c25, if_pos c26, if_neg c27, if_neg c28, if_pos c29]) hP hD hS (lv_sub hl [0, 1, 2] rfl)
                    · refine lv_sipush (v := 255) hx hb d_K_connect_148 (by decide) ?_
                      refine lv_istore_n (lv' := [(1, .int 255), (2, .int 0), (0, .ref (kd 0))]) hx hb d_K_connect_151 rfl hl (by decide) rfl (fun ls hl => ?_)
                      exact tail 0 (by decide) (255) _ _ ls (by simp only [k_connect, k_con3, k_con40, k_con41, if_pos c11, if_neg c12, if_pos c13, if_pos c14, if_pos c15, if_neg c25, if_pos c26, if_neg c27, if_neg c28, if_neg c29]) hP hD hS (lv_sub hl [1, 0, 2] rfl)
                · refine lv_aload_n hx hb d_K_connect_105 rfl (lv_at hl 2 rfl) ?_
                  refine va_get (D := D) (ci := 5) (C := R_K) (T := T_K) (N := 21) hx hb hts in_K hown hK hP 0 k_h0 rfl 10 (by decide) (hts _ gm_410) (fun _ h9 => h9) rfl d_K_connect_106 ?_
                  refine lv_iconst (v := 1) hx hb d_K_connect_109 (by decide) ?_
                  refine lv_icmp_ne (tgt := 117) hx hb d_K_connect_110 (by decide) (fun c30 => ?_) (fun c30 => ?_)
                  · refine lv_iconst (v := 0) hx hb d_K_connect_117 (by decide) ?_
                    refine lv_istore_n (lv' := [(2, .int 0), (1, .int ((z 5 5) ||| (z 6 5))), (0, .ref (kd 0))]) hx hb d_K_connect_118 rfl hl (by decide) rfl (fun ls hl => ?_)
                    refine lv_goto (tgt := 152) hx hb d_K_connect_119 (by decide) ?_
                    exact tail 0 (by decide) ((z 5 5) ||| (z 6 5)) _ _ ls (by simp only [k_connect, k_con3, k_con40, k_con41, if_pos c11, if_neg c12, if_pos c13, if_pos c14, if_pos c15, if_neg c25, if_pos c26, if_pos c27, if_neg c30]) hP hD hS (lv_sub hl [0, 1, 2] rfl)
                  · refine lv_iconst (v := 1) hx hb d_K_connect_113 (by decide) ?_
                    refine lv_goto (tgt := 118) hx hb d_K_connect_114 (by decide) ?_
                    refine lv_istore_n (lv' := [(2, .int 1), (1, .int ((z 5 5) ||| (z 6 5))), (0, .ref (kd 0))]) hx hb d_K_connect_118 rfl hl (by decide) rfl (fun ls hl => ?_)
                    refine lv_goto (tgt := 152) hx hb d_K_connect_119 (by decide) ?_
                    exact tail 1 (by decide) ((z 5 5) ||| (z 6 5)) _ _ ls (by simp only [k_connect, k_con3, k_con40, k_con41, if_pos c11, if_neg c12, if_pos c13, if_pos c14, if_pos c15, if_neg c25, if_pos c26, if_pos c27, if_pos c30]) hP hD hS (lv_sub hl [0, 1, 2] rfl)
              · refine lv_iconst (v := 1) hx hb d_K_connect_84 (by decide) ?_
                refine lv_goto (tgt := 89) hx hb d_K_connect_85 (by decide) ?_
                refine lv_istore_n (lv' := [(2, .int 1), (1, .int ((z 5 5) ||| (z 6 5))), (0, .ref (kd 0))]) hx hb d_K_connect_89 rfl hl (by decide) rfl (fun ls hl => ?_)
                refine lv_aload_n hx hb d_K_connect_90 rfl (lv_at hl 2 rfl) ?_
                refine va_get (D := D) (ci := 5) (C := R_K) (T := T_K) (N := 21) hx hb hts in_K hown hK hP 0 k_h0 rfl 7 (by decide) (hts _ gm_407) (fun _ h9 => h9) rfl d_K_connect_91 ?_
                refine lv_iconst (v := 0) hx hb d_K_connect_94 (by decide) ?_
                refine x_top (show (0 : Int32) = nI 0 from rfl) ?_
                refine va_iald (D := D) hx hb hK hP 7 0 k_h7 rfl (x_in2 (by decide)) d_K_connect_95 ?_
                refine x_top (show k_col z 2 (nI 0).toNatClampNeg = z 5 2 from k_col_at (k := 0) (by decide)) ?_
                refine lv_aload_n hx hb d_K_connect_96 rfl (lv_at hl 2 rfl) ?_
                refine va_get (D := D) (ci := 5) (C := R_K) (T := T_K) (N := 21) hx hb hts in_K hown hK hP 0 k_h0 rfl 7 (by decide) (hts _ gm_407) (fun _ h9 => h9) rfl d_K_connect_97 ?_
                refine lv_iconst (v := 1) hx hb d_K_connect_100 (by decide) ?_
                refine x_top (show (1 : Int32) = nI 1 from rfl) ?_
                refine va_iald (D := D) hx hb hK hP 7 0 k_h7 rfl (x_in2 (by decide)) d_K_connect_101 ?_
                refine x_top (show k_col z 2 (nI 1).toNatClampNeg = z 6 2 from k_col_at (k := 1) (by decide)) ?_
                refine lv_icmp_ne (tgt := 122) hx hb d_K_connect_102 (by decide) (fun c31 => ?_) (fun c31 => ?_)
                · refine lv_aload_n hx hb d_K_connect_122 rfl (lv_at hl 2 rfl) ?_
                  refine va_get (D := D) (ci := 5) (C := R_K) (T := T_K) (N := 21) hx hb hts in_K hown hK hP 0 k_h0 rfl 5 (by decide) (hts _ gm_405) (fun _ h9 => h9) rfl d_K_connect_123 ?_
                  refine lv_iload_n hx hb d_K_connect_126 rfl (lv_at hl 0 rfl) ?_
                  refine x_top (show (1 : Int32) = nI 1 from rfl) ?_
                  refine va_zald (D := D) hx hb hK hP 5 1 k_h5 rfl (x_in2 (by decide)) d_K_connect_127 ?_
                  refine x_top (show k_col z 4 (nI 1).toNatClampNeg = z 6 4 from k_col_at (k := 1) (by decide)) ?_
                  refine lv_if_eq (tgt := 148) hx hb d_K_connect_128 (by decide) (fun c32 => ?_) (fun c32 => ?_)
                  · refine lv_sipush (v := 255) hx hb d_K_connect_148 (by decide) ?_
                    refine lv_istore_n (lv' := [(1, .int 255), (2, .int 1), (0, .ref (kd 0))]) hx hb d_K_connect_151 rfl hl (by decide) rfl (fun ls hl => ?_)
                    exact tail 1 (by decide) (255) _ _ ls (by simp only [k_connect, k_con3, k_con40, k_con41, if_pos c11, if_neg c12, if_pos c13, if_pos c14, if_pos c15, if_neg c25, if_neg c26, if_neg c31, if_pos c32]) hP hD hS (lv_sub hl [1, 0, 2] rfl)
                  · refine lv_aload_n hx hb d_K_connect_131 rfl (lv_at hl 2 rfl) ?_
                    refine va_get (D := D) (ci := 5) (C := R_K) (T := T_K) (N := 21) hx hb hts in_K hown hK hP 0 k_h0 rfl 8 (by decide) (hts _ gm_408) (fun _ h9 => h9) rfl d_K_connect_132 ?_
                    refine lv_iload_n hx hb d_K_connect_135 rfl (lv_at hl 0 rfl) ?_
                    refine x_top (show (1 : Int32) = nI 1 from rfl) ?_
                    refine va_iald (D := D) hx hb hK hP 8 0 k_h8 rfl (x_in2 (by decide)) d_K_connect_136 ?_
                    refine x_top (show k_col z 3 (nI 1).toNatClampNeg = z 6 3 from k_col_at (k := 1) (by decide)) ?_
                    refine lv_aload_n hx hb d_K_connect_137 rfl (lv_at hl 2 rfl) ?_
                    refine va_get (D := D) (ci := 5) (C := R_K) (T := T_K) (N := 21) hx hb hts in_K hown hK hP 0 k_h0 rfl 7 (by decide) (hts _ gm_407) (fun _ h9 => h9) rfl d_K_connect_138 ?_
                    refine lv_iconst (v := 1) hx hb d_K_connect_141 (by decide) ?_
                    refine lv_iload_n hx hb d_K_connect_142 rfl (lv_at hl 0 rfl) ?_
                    refine lv_isub hx hb d_K_connect_143 ?_
                    refine x_top (show (1 : Int32) - 1 = 0 from by decide) ?_
                    refine x_top (show (0 : Int32) = nI 0 from rfl) ?_
                    refine va_iald (D := D) hx hb hK hP 7 0 k_h7 rfl (x_in2 (by decide)) d_K_connect_144 ?_
                    refine x_top (show k_col z 2 (nI 0).toNatClampNeg = z 5 2 from k_col_at (k := 0) (by decide)) ?_
                    refine lv_icmp_eq (tgt := 152) hx hb d_K_connect_145 (by decide) (fun c33 => ?_) (fun c33 => ?_)
                    · exact tail 1 (by decide) ((z 5 5) ||| (z 6 5)) _ _ ls (by simp only [k_connect, k_con3, k_con40, k_con41, if_pos c11, if_neg c12, if_pos c13, if_pos c14, if_pos c15, if_neg c25, if_neg c26, if_neg c31, if_neg c32, if_pos c33]) hP hD hS (lv_sub hl [0, 1, 2] rfl)
                    · refine lv_sipush (v := 255) hx hb d_K_connect_148 (by decide) ?_
                      refine lv_istore_n (lv' := [(1, .int 255), (2, .int 1), (0, .ref (kd 0))]) hx hb d_K_connect_151 rfl hl (by decide) rfl (fun ls hl => ?_)
                      exact tail 1 (by decide) (255) _ _ ls (by simp only [k_connect, k_con3, k_con40, k_con41, if_pos c11, if_neg c12, if_pos c13, if_pos c14, if_pos c15, if_neg c25, if_neg c26, if_neg c31, if_neg c32, if_neg c33]) hP hD hS (lv_sub hl [1, 0, 2] rfl)
                · refine lv_aload_n hx hb d_K_connect_105 rfl (lv_at hl 2 rfl) ?_
                  refine va_get (D := D) (ci := 5) (C := R_K) (T := T_K) (N := 21) hx hb hts in_K hown hK hP 0 k_h0 rfl 10 (by decide) (hts _ gm_410) (fun _ h9 => h9) rfl d_K_connect_106 ?_
                  refine lv_iconst (v := 1) hx hb d_K_connect_109 (by decide) ?_
                  refine lv_icmp_ne (tgt := 117) hx hb d_K_connect_110 (by decide) (fun c34 => ?_) (fun c34 => ?_)
                  · refine lv_iconst (v := 0) hx hb d_K_connect_117 (by decide) ?_
                    refine lv_istore_n (lv' := [(2, .int 0), (1, .int ((z 5 5) ||| (z 6 5))), (0, .ref (kd 0))]) hx hb d_K_connect_118 rfl hl (by decide) rfl (fun ls hl => ?_)
                    refine lv_goto (tgt := 152) hx hb d_K_connect_119 (by decide) ?_
                    exact tail 0 (by decide) ((z 5 5) ||| (z 6 5)) _ _ ls (by simp only [k_connect, k_con3, k_con40, k_con41, if_pos c11, if_neg c12, if_pos c13, if_pos c14, if_pos c15, if_neg c25, if_neg c26, if_pos c31, if_neg c34]) hP hD hS (lv_sub hl [0, 1, 2] rfl)
                  · refine lv_iconst (v := 1) hx hb d_K_connect_113 (by decide) ?_
                    refine lv_goto (tgt := 118) hx hb d_K_connect_114 (by decide) ?_
                    refine lv_istore_n (lv' := [(2, .int 1), (1, .int ((z 5 5) ||| (z 6 5))), (0, .ref (kd 0))]) hx hb d_K_connect_118 rfl hl (by decide) rfl (fun ls hl => ?_)
                    refine lv_goto (tgt := 152) hx hb d_K_connect_119 (by decide) ?_
                    exact tail 1 (by decide) ((z 5 5) ||| (z 6 5)) _ _ ls (by simp only [k_connect, k_con3, k_con40, k_con41, if_pos c11, if_neg c12, if_pos c13, if_pos c14, if_pos c15, if_neg c25, if_neg c26, if_pos c31, if_pos c34]) hP hD hS (lv_sub hl [0, 1, 2] rfl)
            · refine lv_bipush (v := (-6)) hx hb d_K_connect_52 (by decide) ?_
              exact x_ri (w := k_w cI cZ kd) (by first | (simp only [k_connect, if_pos c11, if_neg c12, if_pos c13, if_pos c14, if_pos c15, if_pos c25]; done) | (with_reducible rfl) | (simp only [k_connect, if_pos c11, if_neg c12, if_pos c13, if_pos c14, if_pos c15, if_pos c25]; with_reducible rfl)) hx hb hr hlk hP hD hS d_K_connect_54
        · refine lv_iconst (v := (-1)) hx hb d_K_connect_32 (by decide) ?_
          exact x_ri (w := k_w cI cZ kd) (by first | (simp only [k_connect, if_pos c11, if_neg c12, if_pos c13, if_neg c14]; done) | (with_reducible rfl) | (simp only [k_connect, if_pos c11, if_neg c12, if_pos c13, if_neg c14]; with_reducible rfl)) hx hb hr hlk hP hD hS d_K_connect_33
set_option maxHeartbeats 4000000 in
set_option maxRecDepth 100000 in
theorem c_K_promote_ok (l : Launch) (D : va_G) (cI cZ : ClassId) (kd : Nat → Nat) (z : x_S) (a f : Int32) : x_C l y_K_promote c_K_promote 7 (some .int) { frames := 3, cells := 0, slots := 0, locals := 64 } D (k_ty cI cZ) (k_w cI cZ kd z) [.ref (kd 0), .int a, .int f] (some (.int (k_promote z a f).1)) (k_w cI cZ kd (k_promote z a f).2) := by
  refine x_C.of (by decide) (Nat.le_of_ble_eq_true rfl) ?_
  intro p e s m below meth c hx hb hr hml hts hown hlk A hA hK hS hP hD ls hl
  have hown : s.vm.findClass R_K = some m.cls := hown
  have hl : lv_has ls 7 [(0, .ref (kd 0)), (1, .int a), (2, .int f)] := hl
  have t163 : ∀ (k : Nat) (hk : k < 2) (y : x_S) (H : Heap) (locs : List Loc) (ls : Array Slot), y 0 6 = nI k → k_promote z a f = k_redo (k_fl y k) k → va_P D vwCl (k_w cI cZ kd y) H → va_D A (k_w cI cZ kd y) → va_S A s.heap H locs → lv_has ls 7 [(0, .ref (kd 0)), (1, .int (nI k))] → W p l e { frames := 3, cells := 0, slots := 0, locals := 64 } s m [.ref (kd 0), .int a, .int f].toArray below meth c H locs 0 0 (MQ below (x_Q (some (.int (k_promote z a f).1)) D (k_w cI cZ kd (k_promote z a f).2) A) [.ref (kd 0), .int a, .int f].toArray s 0 0 A) (F0 m 163 ls []) := by
    intro k hk y H locs ls hpy hG hP hD hS hl
    have lpo : ∀ e0 : Nat, 1 ≤ e0 → e0 ≤ 3 → ∀ x : x_S, x 0 6 = nI k → k_promote z a f = (nI e0, k_prL k e0 0 x) → ∀ (H : Heap) (locs : List Loc) (ls : Array Slot), va_P D vwCl (k_w cI cZ kd x) H → va_D A (k_w cI cZ kd x) → va_S A s.heap H locs → lv_has ls 7 [(5, .int (nI 0)), (4, .int (nI e0)), (0, .ref (kd 0)), (1, .int (nI k))] → W p l e { frames := 3, cells := 0, slots := 0, locals := 64 } s m [.ref (kd 0), .int a, .int f].toArray below meth c H locs 0 0 (MQ below (x_Q (some (.int (k_promote z a f).1)) D (k_w cI cZ kd (k_promote z a f).2) A) [.ref (kd 0), .int a, .int f].toArray s 0 0 A) (F0 m 193 ls []) := by
      intro e0 he1 he3 x hpx hG2
      have lp : ∀ (n i : Nat) (w : x_S) (H : Heap) (locs : List Loc) (ls : Array Slot), i + n = e0 → w 0 6 = nI k → k_promote z a f = (nI e0, k_prL k n i w) → va_P D vwCl (k_w cI cZ kd w) H → va_D A (k_w cI cZ kd w) → va_S A s.heap H locs → lv_has ls 7 [(5, .int (nI i)), (4, .int (nI e0)), (0, .ref (kd 0)), (1, .int (nI k))] → W p l e { frames := 3, cells := 0, slots := 0, locals := 64 } s m [.ref (kd 0), .int a, .int f].toArray below meth c H locs 0 0 (MQ below (x_Q (some (.int (k_promote z a f).1)) D (k_w cI cZ kd (k_promote z a f).2) A) [.ref (kd 0), .int a, .int f].toArray s 0 0 A) (F0 m 193 ls []) := by
        intro n
        induction n with
        | zero =>
          intro i w  H locs ls hn hpw hI hP hD hS hl
          refine lv_iload hx hb d_K_promote_193 (lv_at hl 0 rfl) ?_
          refine lv_iload hx hb d_K_promote_195 (lv_at hl 1 rfl) ?_
          refine lv_icmp_ge (tgt := 249) hx hb d_K_promote_197 (by decide) (fun c1 => ?_) (fun c1 => ?_)
          · have c1 : e0 ≤ i := (nI_leI (a := e0) (b := i) (by omega) (by omega)).mp c1
            refine lv_iload hx hb d_K_promote_249 (lv_at hl 1 rfl) ?_
            exact x_ri (w := k_w cI cZ kd) (by rw [hI]; rfl) hx hb hr hlk hP hD hS d_K_promote_251
          · have c1 : ¬ e0 ≤ i := fun h => c1 ((nI_leI (a := e0) (b := i) (by omega) (by omega)).mpr h)
            exact absurd (show e0 ≤ i by omega) c1
        | succ n ih =>
          intro i w  H locs ls hn hpw hI hP hD hS hl
          refine lv_iload hx hb d_K_promote_193 (lv_at hl 0 rfl) ?_
          refine lv_iload hx hb d_K_promote_195 (lv_at hl 1 rfl) ?_
          refine lv_icmp_ge (tgt := 249) hx hb d_K_promote_197 (by decide) (fun c2 => ?_) (fun c2 => ?_)
          · have c2 : e0 ≤ i := (nI_leI (a := e0) (b := i) (by omega) (by omega)).mp c2
            exact absurd c2 (by omega)
          · have c2 : ¬ e0 ≤ i := fun h => c2 ((nI_leI (a := e0) (b := i) (by omega) (by omega)).mpr h)
            refine lv_aload_n hx hb d_K_promote_200 rfl (lv_at hl 2 rfl) ?_
            refine lv_iload_n hx hb d_K_promote_201 rfl (lv_at hl 3 rfl) ?_
            refine lv_bipush (v := 25) hx hb d_K_promote_202 (by decide) ?_
            refine lv_iconst (v := 2) hx hb d_K_promote_204 (by decide) ?_
            refine lv_iload hx hb d_K_promote_205 (lv_at hl 0 rfl) ?_
            refine lv_imul hx hb d_K_promote_207 ?_
            refine lv_iadd hx hb d_K_promote_208 ?_
            refine x_top (show 25 + (2 * (nI i)) = nI (25 + 2 * i) by rw [show (2 : Int32) * nI i = nI (2 * i) from x_nmul 2 i]; exact x_nadd 25 (2 * i)) ?_
            refine x_V (rest := []) ⟨hx, hb, hml, hown, hts⟩ (c_K_holds_ok l D cI cZ kd w k hk (25 + 2 * i) (by omega)) gm_493 gm_495 gm_20 gm_34 gm_496 ⟨rfl, rfl⟩ hd_K_holds ⟨Nat.le_of_ble_eq_true rfl, Nat.le_of_ble_eq_true rfl⟩ hK hP hD hS hA (va_recv hK hP (ci := 5) (q0 := 0) rfl k_h0) rfl hl.1 rfl (Nat.le_of_ble_eq_true rfl) d_K_promote_209 ⟨Nat.le_of_ble_eq_true rfl, Nat.le_of_ble_eq_true rfl⟩ (fun H locs hP hD hS => ?_)
            refine lv_topi (fun r3 er3 => ?_)
            refine lv_istore (lv' := [(6, .int r3), (5, .int (nI i)), (4, .int (nI e0)), (0, .ref (kd 0)), (1, .int (nI k))]) hx hb d_K_promote_212 hl (by decide) rfl (fun ls hl => ?_)
            refine lv_aload_n hx hb d_K_promote_214 rfl (lv_at hl 3 rfl) ?_
            refine lv_iload hx hb d_K_promote_215 (lv_at hl 0 rfl) ?_
            refine lv_bipush (v := 24) hx hb d_K_promote_217 (by decide) ?_
            refine x_V (rest := []) ⟨hx, hb, hml, hown, hts⟩ (c_K_out_ok l D cI cZ kd w r3 24) gm_469 gm_471 gm_15 gm_34 gm_472 ⟨rfl, rfl⟩ hd_K_out ⟨Nat.le_of_ble_eq_true rfl, Nat.le_of_ble_eq_true rfl⟩ hK hP hD hS hA (va_recv hK hP (ci := 5) (q0 := 0) rfl k_h0) rfl hl.1 rfl (Nat.le_of_ble_eq_true rfl) d_K_promote_219 ⟨Nat.le_of_ble_eq_true rfl, Nat.le_of_ble_eq_true rfl⟩ (fun H locs hP hD hS => ?_)
            refine lv_topi (fun r4 er4 => ?_)
            refine lv_if_ne (tgt := 243) hx hb d_K_promote_222 (by decide) (fun c5 => ?_) (fun c5 => ?_)
            · refine lv_iinc (v := nI (i + 1)) (lv' := [(5, .int (nI (i + 1))), (6, .int r3), (4, .int (nI e0)), (0, .ref (kd 0)), (1, .int (nI k))]) hx hb d_K_promote_243 hl (k := 1) rfl (nI_1 _) (by decide) rfl (fun ls hl => ?_)
              refine lv_goto (tgt := 193) hx hb d_K_promote_246 (by decide) ?_
              exact ih (i + 1) w H locs ls (by omega) (by subst er3 er4; first | exact hpw | (rw [k_wr_low (by decide)]; exact hpw)) (by subst er3 er4; rw [hI]; simp only [k_prL, k_prB, if_neg c2, if_neg c5]) hP hD hS (lv_sub hl [0, 2, 3, 4] rfl)
            · obtain ⟨cc, hcc, ec⟩ := k_out24 (v := r3) (by subst er4; exact c5)
              subst ec
              refine lv_aload_n hx hb d_K_promote_225 rfl (lv_at hl 3 rfl) ?_
              refine lv_iload hx hb d_K_promote_226 (lv_at hl 0 rfl) ?_
              refine lv_aload_n hx hb d_K_promote_228 rfl (lv_at hl 3 rfl) ?_
              refine lv_iload_n hx hb d_K_promote_229 rfl (lv_at hl 4 rfl) ?_
              refine lv_bipush (v := 26) hx hb d_K_promote_230 (by decide) ?_
              refine lv_iconst (v := 2) hx hb d_K_promote_232 (by decide) ?_
              refine lv_iload hx hb d_K_promote_233 (lv_at hl 1 rfl) ?_
              refine lv_imul hx hb d_K_promote_235 ?_
              refine lv_iadd hx hb d_K_promote_236 ?_
              refine x_top (show 26 + (2 * (nI i)) = nI (26 + 2 * i) by rw [show (2 : Int32) * nI i = nI (2 * i) from x_nmul 2 i]; exact x_nadd 26 (2 * i)) ?_
              refine x_V (rest := [.int (nI cc), .ref (kd 0)]) ⟨hx, hb, hml, hown, hts⟩ (c_K_holds_ok l D cI cZ kd w k hk (26 + 2 * i) (by omega)) gm_493 gm_495 gm_20 gm_34 gm_496 ⟨rfl, rfl⟩ hd_K_holds ⟨Nat.le_of_ble_eq_true rfl, Nat.le_of_ble_eq_true rfl⟩ hK hP hD hS hA (va_recv hK hP (ci := 5) (q0 := 0) rfl k_h0) rfl hl.1 rfl (Nat.le_of_ble_eq_true rfl) d_K_promote_237 ⟨Nat.le_of_ble_eq_true rfl, Nat.le_of_ble_eq_true rfl⟩ (fun H locs hP hD hS => ?_)
              refine lv_topi (fun r6 er6 => ?_)
              refine x_V (rest := []) ⟨hx, hb, hml, hown, hts⟩ (c_K_writeStep_ok l D cI cZ kd w k hk hpw cc (by omega) r6) gm_497 gm_499 gm_21 gm_34 gm_500 ⟨rfl, rfl⟩ hd_K_writeStep ⟨Nat.le_of_ble_eq_true rfl, Nat.le_of_ble_eq_true rfl⟩ hK hP hD hS hA (va_recv hK hP (ci := 5) (q0 := 0) rfl k_h0) rfl hl.1 rfl (Nat.le_of_ble_eq_true rfl) d_K_promote_240 ⟨Nat.le_of_ble_eq_true rfl, Nat.le_of_ble_eq_true rfl⟩ (fun H locs hP hD hS => ?_)
              obtain ⟨z7, ez7⟩ : ∃ zt_ : x_S, zt_ = k_wr w k cc r6 := ⟨_, rfl⟩
              rw [← ez7] at hP hD
              refine lv_iinc (v := nI (i + 1)) (lv' := [(5, .int (nI (i + 1))), (6, .int (nI cc)), (4, .int (nI e0)), (0, .ref (kd 0)), (1, .int (nI k))]) hx hb d_K_promote_243 hl (k := 1) rfl (nI_1 _) (by decide) rfl (fun ls hl => ?_)
              refine lv_goto (tgt := 193) hx hb d_K_promote_246 (by decide) ?_
              exact ih (i + 1) z7 H locs ls (by omega) (by subst er4 er6 ez7; first | exact hpw | (rw [k_wr_low (by decide)]; exact hpw)) (by subst er4 er6 ez7; rw [hI]; simp only [k_prL, k_prB, if_neg c2, if_pos c5, ← er3, x_cl32 (show cc < 32 by omega)]) hP hD hS (lv_sub hl [0, 2, 3, 4] rfl)
      intro H locs ls hP hD hS hl
      exact lp e0 0 x H locs ls (by omega) hpx hG2 hP hD hS hl
    refine lv_aload_n hx hb d_K_promote_163 rfl (lv_at hl 0 rfl) ?_
    refine x_V (rest := []) ⟨hx, hb, hml, hown, hts⟩ (c_K_flushStep_ok l D cI cZ kd y k hk hpy) gm_485 gm_487 gm_18 gm_34 gm_488 ⟨rfl, rfl⟩ hd_K_flushStep ⟨Nat.le_of_ble_eq_true rfl, Nat.le_of_ble_eq_true rfl⟩ hK hP hD hS hA (va_recv hK hP (ci := 5) (q0 := 0) rfl k_h0) rfl hl.1 rfl (Nat.le_of_ble_eq_true rfl) d_K_promote_164 ⟨Nat.le_of_ble_eq_true rfl, Nat.le_of_ble_eq_true rfl⟩ (fun H locs hP hD hS => ?_)
    obtain ⟨z8, ez8⟩ : ∃ zt_ : x_S, zt_ = k_fl y k := ⟨_, rfl⟩
    rw [← ez8] at hP hD
    refine lv_aload_n hx hb d_K_promote_167 rfl (lv_at hl 0 rfl) ?_
    refine lv_iload_n hx hb d_K_promote_168 rfl (lv_at hl 1 rfl) ?_
    refine lv_bipush (v := 24) hx hb d_K_promote_169 (by decide) ?_
    refine x_top (show (24 : Int32) = nI 24 from rfl) ?_
    refine x_V (rest := []) ⟨hx, hb, hml, hown, hts⟩ (c_K_holds_ok l D cI cZ kd z8 k hk 24 (by decide)) gm_493 gm_495 gm_20 gm_34 gm_496 ⟨rfl, rfl⟩ hd_K_holds ⟨Nat.le_of_ble_eq_true rfl, Nat.le_of_ble_eq_true rfl⟩ hK hP hD hS hA (va_recv hK hP (ci := 5) (q0 := 0) rfl k_h0) rfl hl.1 rfl (Nat.le_of_ble_eq_true rfl) d_K_promote_171 ⟨Nat.le_of_ble_eq_true rfl, Nat.le_of_ble_eq_true rfl⟩ (fun H locs hP hD hS => ?_)
    refine lv_topi (fun r9 er9 => ?_)
    refine lv_istore (lv' := [(4, .int r9), (0, .ref (kd 0)), (1, .int (nI k))]) hx hb d_K_promote_174 hl (by decide) rfl (fun ls hl => ?_)
    refine lv_iload hx hb d_K_promote_176 (lv_at hl 0 rfl) ?_
    refine lv_iconst (v := 1) hx hb d_K_promote_178 (by decide) ?_
    refine lv_icmp_lt (tgt := 188) hx hb d_K_promote_179 (by decide) (fun c10 => ?_) (fun c10 => ?_)
    · refine lv_iconst (v := 0) hx hb d_K_promote_188 (by decide) ?_
      exact x_ri (w := k_w cI cZ kd) (by subst ez8 er9; rw [hG]; simp only [k_redo, if_pos c10]) hx hb hr hlk hP hD hS d_K_promote_189
    · refine lv_iload hx hb d_K_promote_182 (lv_at hl 0 rfl) ?_
      refine lv_iconst (v := 3) hx hb d_K_promote_184 (by decide) ?_
      refine lv_icmp_le (tgt := 190) hx hb d_K_promote_185 (by decide) (fun c11 => ?_) (fun c11 => ?_)
      · obtain ⟨e0, he1, he3, ee⟩ := x_oneTo3 c10 c11
        have ee2 : k_held (k_fl y k) k 24 = nI e0 := by subst ez8; rw [← ee, er9]
        subst ee
        refine lv_iconst (v := 0) hx hb d_K_promote_190 (by decide) ?_
        refine lv_istore (lv' := [(5, .int 0), (4, .int (nI e0)), (0, .ref (kd 0)), (1, .int (nI k))]) hx hb d_K_promote_191 hl (by decide) rfl (fun ls hl => ?_)
        exact lpo e0 he1 he3 z8 (by rw [ez8, k_fl_low (by decide)]; exact hpy) (by rw [ez8, hG]; unfold k_redo; rw [ee2, if_neg (show ¬ nI e0 < 1 from nI_nlt (b := 1) he1 (by omega)), if_pos (show nI e0 ≤ 3 from nI_le (b := 3) he3 (by decide)), nI_clamp (by omega)]) _ _ ls hP hD hS (lv_sub hl [0, 1, 2, 3] rfl)
      · refine lv_iconst (v := 0) hx hb d_K_promote_188 (by decide) ?_
        exact x_ri (w := k_w cI cZ kd) (by subst ez8 er9; rw [hG]; simp only [k_redo, if_neg c10, if_neg c11]) hx hb hr hlk hP hD hS d_K_promote_189
  have t61 : ∀ (k : Nat) (hk : k < 2) (H : Heap) (locs : List Loc) (ls : Array Slot), k_promote z a f = k_pr3 z k f → va_P D vwCl (k_w cI cZ kd z) H → va_D A (k_w cI cZ kd z) → va_S A s.heap H locs → lv_has ls 7 [(0, .ref (kd 0)), (1, .int (nI k)), (2, .int f)] → W p l e { frames := 3, cells := 0, slots := 0, locals := 64 } s m [.ref (kd 0), .int a, .int f].toArray below meth c H locs 0 0 (MQ below (x_Q (some (.int (k_promote z a f).1)) D (k_w cI cZ kd (k_promote z a f).2) A) [.ref (kd 0), .int a, .int f].toArray s 0 0 A) (F0 m 61 ls []) := by
    intro k hk H locs ls hG hP hD hS hl
    refine lv_aload_n hx hb d_K_promote_61 rfl (lv_at hl 0 rfl) ?_
    refine va_get (D := D) (ci := 5) (C := R_K) (T := T_K) (N := 21) hx hb hts in_K hown hK hP 0 k_h0 rfl 7 (by decide) (hts _ gm_407) (fun _ h9 => h9) rfl d_K_promote_62 ?_
    refine lv_iload_n hx hb d_K_promote_65 rfl (lv_at hl 1 rfl) ?_
    refine va_iald (D := D) hx hb hK hP 7 0 k_h7 rfl (x_in2 hk) d_K_promote_66 ?_
    refine x_top (k_col_at hk) ?_
    refine lv_if_ne (tgt := 73) hx hb d_K_promote_67 (by decide) (fun c12 => ?_) (fun c12 => ?_)
    · refine lv_aload_n hx hb d_K_promote_73 rfl (lv_at hl 0 rfl) ?_
      refine va_get (D := D) (ci := 5) (C := R_K) (T := T_K) (N := 21) hx hb hts in_K hown hK hP 0 k_h0 rfl 7 (by decide) (hts _ gm_407) (fun _ h9 => h9) rfl d_K_promote_74 ?_
      refine lv_iload_n hx hb d_K_promote_77 rfl (lv_at hl 1 rfl) ?_
      refine va_iald (D := D) hx hb hK hP 7 0 k_h7 rfl (x_in2 hk) d_K_promote_78 ?_
      refine x_top (k_col_at hk) ?_
      refine lv_aload_n hx hb d_K_promote_79 rfl (lv_at hl 0 rfl) ?_
      refine va_get (D := D) (ci := 5) (C := R_K) (T := T_K) (N := 21) hx hb hts in_K hown hK hP 0 k_h0 rfl 15 (by decide) (hts _ gm_415) (fun _ h9 => h9) rfl d_K_promote_80 ?_
      refine lv_icmp_eq (tgt := 90) hx hb d_K_promote_83 (by decide) (fun c13 => ?_) (fun c13 => ?_)
      · refine lv_iconst (v := 0) hx hb d_K_promote_90 (by decide) ?_
        refine lv_istore_n (lv' := [(3, .int 0), (0, .ref (kd 0)), (1, .int (nI k)), (2, .int f)]) hx hb d_K_promote_91 rfl hl (by decide) rfl (fun ls hl => ?_)
        refine lv_iload_n hx hb d_K_promote_92 rfl (lv_at hl 0 rfl) ?_
        refine lv_if_eq (tgt := 103) hx hb d_K_promote_93 (by decide) (fun c14 => ?_) (fun c14 => ?_)
        · refine lv_aload_n hx hb d_K_promote_103 rfl (lv_at hl 1 rfl) ?_
          refine va_get (D := D) (ci := 5) (C := R_K) (T := T_K) (N := 21) hx hb hts in_K hown hK hP 0 k_h0 rfl 10 (by decide) (hts _ gm_410) (fun _ h9 => h9) rfl d_K_promote_104 ?_
          refine lv_iconst (v := 2) hx hb d_K_promote_107 (by decide) ?_
          refine lv_icmp_eq (tgt := 115) hx hb d_K_promote_108 (by decide) (fun c15 => ?_) (fun c15 => ?_)
          · refine lv_aload_n hx hb d_K_promote_115 rfl (lv_at hl 1 rfl) ?_
            refine lv_iload_n hx hb d_K_promote_116 rfl (lv_at hl 2 rfl) ?_
            refine va_put (D := D) (ci := 5) (v := .int (nI k)) (ty := .int) (C := R_K) (T := T_K) (N := 21) hx hb hts in_K fy_K fy_K_ok n_K hown hK hP hD hS 0 k_h0 rfl 10 (by decide) (hts _ gm_410) (fun _ h9 => h9) rfl (by decide +kernel) rfl rfl (Nat.le_of_ble_eq_true rfl) d_K_promote_117 (fun H locs hP hD hS => ?_)
            obtain ⟨z16, ez16⟩ : ∃ zt_ : x_S, zt_ = x_up z 0 6 (nI k) := ⟨_, rfl⟩
            have hP : va_P D vwCl (k_w cI cZ kd z16) H := by rw [ez16]; exact (k_s0_10 (nI k)) ▸ hP
            have hD : va_D A (k_w cI cZ kd z16) := by rw [ez16]; exact (k_s0_10 (nI k)) ▸ hD
            refine lv_aload_n hx hb d_K_promote_120 rfl (lv_at hl 1 rfl) ?_
            refine lv_iload_n hx hb d_K_promote_121 rfl (lv_at hl 2 rfl) ?_
            refine va_put (D := D) (ci := 5) (v := .int (nI k)) (ty := .int) (C := R_K) (T := T_K) (N := 21) hx hb hts in_K fy_K fy_K_ok n_K hown hK hP hD hS 0 k_h0 rfl 12 (by decide) (hts _ gm_412) (fun _ h9 => h9) rfl (by decide +kernel) rfl rfl (Nat.le_of_ble_eq_true rfl) d_K_promote_122 (fun H locs hP hD hS => ?_)
            obtain ⟨z17, ez17⟩ : ∃ zt_ : x_S, zt_ = x_up z16 1 3 (nI k) := ⟨_, rfl⟩
            have hP : va_P D vwCl (k_w cI cZ kd z17) H := by rw [ez17]; exact (k_s0_12 (nI k)) ▸ hP
            have hD : va_D A (k_w cI cZ kd z17) := by rw [ez17]; exact (k_s0_12 (nI k)) ▸ hD
            refine lv_aload_n hx hb d_K_promote_125 rfl (lv_at hl 1 rfl) ?_
            refine lv_aload_n hx hb d_K_promote_126 rfl (lv_at hl 1 rfl) ?_
            refine va_get (D := D) (ci := 5) (C := R_K) (T := T_K) (N := 21) hx hb hts in_K hown hK hP 0 k_h0 rfl 16 (by decide) (hts _ gm_416) (fun _ h9 => h9) rfl d_K_promote_127 ?_
            refine lv_aload_n hx hb d_K_promote_130 rfl (lv_at hl 1 rfl) ?_
            refine va_get (D := D) (ci := 5) (C := R_K) (T := T_K) (N := 21) hx hb hts in_K hown hK hP 0 k_h0 rfl 0 (by decide) (hts _ gm_400) (fun _ h9 => h9) rfl d_K_promote_131 ?_
            refine lv_iadd hx hb d_K_promote_134 ?_
            refine va_put (D := D) (ci := 5) (v := .int ((z17 1 2) + (z17 1 0))) (ty := .int) (C := R_K) (T := T_K) (N := 21) hx hb hts in_K fy_K fy_K_ok n_K hown hK hP hD hS 0 k_h0 rfl 17 (by decide) (hts _ gm_417) (fun _ h9 => h9) rfl (by decide +kernel) rfl rfl (Nat.le_of_ble_eq_true rfl) d_K_promote_135 (fun H locs hP hD hS => ?_)
            obtain ⟨z18, ez18⟩ : ∃ zt_ : x_S, zt_ = x_up z17 1 4 ((z17 1 2) + (z17 1 0)) := ⟨_, rfl⟩
            have hP : va_P D vwCl (k_w cI cZ kd z18) H := by rw [ez18]; exact (k_s0_17 ((z17 1 2) + (z17 1 0))) ▸ hP
            have hD : va_D A (k_w cI cZ kd z18) := by rw [ez18]; exact (k_s0_17 ((z17 1 2) + (z17 1 0))) ▸ hD
            refine lv_iload_n hx hb d_K_promote_138 rfl (lv_at hl 0 rfl) ?_
            refine lv_if_ne (tgt := 158) hx hb d_K_promote_139 (by decide) (fun c19 => ?_) (fun c19 => ?_)
            · exact (c19 (by decide)).elim
            · refine lv_aload_n hx hb d_K_promote_142 rfl (lv_at hl 1 rfl) ?_
              refine va_get (D := D) (ci := 5) (C := R_K) (T := T_K) (N := 21) hx hb hts in_K hown hK hP 0 k_h0 rfl 13 (by decide) (hts _ gm_413) (fun _ h9 => h9) rfl d_K_promote_143 ?_
              refine lv_if_ne (tgt := 163) hx hb d_K_promote_146 (by decide) (fun c20 => ?_) (fun c20 => ?_)
              · exact t163 k hk z18 _ _ ls (by subst ez16 ez17 ez18; first | rfl | (rw [x_goAl_low (by decide) (by decide)]; rfl)) (by subst ez16 ez17 ez18; rw [hG]; simp only [k_pr3, if_neg c12, if_pos c13, if_pos c15, if_neg c20]; simp only [k_pr4]; simp only [k_prA, k_prN, if_neg c12, if_pos c13, if_pos c15, if_neg c20]) hP hD hS (lv_sub hl [1, 2] rfl)
              · refine lv_aload_n hx hb d_K_promote_149 rfl (lv_at hl 1 rfl) ?_
                refine va_get (D := D) (ci := 5) (C := R_K) (T := T_K) (N := 21) hx hb hts in_K hown hK hP 0 k_h0 rfl 5 (by decide) (hts _ gm_405) (fun _ h9 => h9) rfl d_K_promote_150 ?_
                refine lv_iload_n hx hb d_K_promote_153 rfl (lv_at hl 2 rfl) ?_
                refine va_zald (D := D) hx hb hK hP 5 1 k_h5 rfl (x_in2 hk) d_K_promote_154 ?_
                refine x_top (k_col_at hk) ?_
                refine lv_if_ne (tgt := 163) hx hb d_K_promote_155 (by decide) (fun c21 => ?_) (fun c21 => ?_)
                · exact t163 k hk z18 _ _ ls (by subst ez16 ez17 ez18; first | rfl | (rw [x_goAl_low (by decide) (by decide)]; rfl)) (by subst ez16 ez17 ez18; rw [hG]; simp only [k_pr3, if_neg c12, if_pos c13, if_pos c15, if_pos c20, if_neg c21]; simp only [k_pr4]; simp only [k_prA, k_prN, if_neg c12, if_pos c13, if_pos c15, if_pos c20, if_neg c21]) hP hD hS (lv_sub hl [1, 2] rfl)
                · refine lv_aload_n hx hb d_K_promote_158 rfl (lv_at hl 1 rfl) ?_
                  refine lv_iload_n hx hb d_K_promote_159 rfl (lv_at hl 2 rfl) ?_
                  refine x_V (rest := []) ⟨hx, hb, hml, hown, hts⟩ (c_K_goAlone_ok l D cI cZ kd z18 k hk) gm_477 gm_479 gm_16 gm_34 gm_480 ⟨rfl, rfl⟩ hd_K_goAlone ⟨Nat.le_of_ble_eq_true rfl, Nat.le_of_ble_eq_true rfl⟩ hK hP hD hS hA (va_recv hK hP (ci := 5) (q0 := 0) rfl k_h0) rfl hl.1 rfl (Nat.le_of_ble_eq_true rfl) d_K_promote_160 ⟨Nat.le_of_ble_eq_true rfl, Nat.le_of_ble_eq_true rfl⟩ (fun H locs hP hD hS => ?_)
                  obtain ⟨z22, ez22⟩ : ∃ zt_ : x_S, zt_ = x_goAl z18 k := ⟨_, rfl⟩
                  rw [← ez22] at hP hD
                  exact t163 k hk z22 _ _ ls (by subst ez16 ez17 ez18 ez22; first | rfl | (rw [x_goAl_low (by decide) (by decide)]; rfl)) (by subst ez16 ez17 ez18 ez22; rw [hG]; simp only [k_pr3, if_neg c12, if_pos c13, if_pos c15, if_pos c20, if_pos c21]; simp only [k_pr4]; simp only [k_prA, k_prN, if_neg c12, if_pos c13, if_pos c15, if_pos c20, if_pos c21]) hP hD hS (lv_sub hl [1, 2] rfl)
          · refine lv_aload_n hx hb d_K_promote_111 rfl (lv_at hl 1 rfl) ?_
            refine x_V (rest := []) ⟨hx, hb, hml, hown, hts⟩ (c_K_noPrimary_ok l D cI cZ kd z) gm_513 gm_515 gm_24 gm_34 gm_516 ⟨rfl, rfl⟩ hd_K_noPrimary ⟨Nat.le_of_ble_eq_true rfl, Nat.le_of_ble_eq_true rfl⟩ hK hP hD hS hA (va_recv hK hP (ci := 5) (q0 := 0) rfl k_h0) rfl hl.1 rfl (Nat.le_of_ble_eq_true rfl) d_K_promote_112 ⟨Nat.le_of_ble_eq_true rfl, Nat.le_of_ble_eq_true rfl⟩ (fun H locs hP hD hS => ?_)
            obtain ⟨z23, ez23⟩ : ∃ zt_ : x_S, zt_ = k_noP z := ⟨_, rfl⟩
            rw [← ez23] at hP hD
            refine lv_aload_n hx hb d_K_promote_115 rfl (lv_at hl 1 rfl) ?_
            refine lv_iload_n hx hb d_K_promote_116 rfl (lv_at hl 2 rfl) ?_
            refine va_put (D := D) (ci := 5) (v := .int (nI k)) (ty := .int) (C := R_K) (T := T_K) (N := 21) hx hb hts in_K fy_K fy_K_ok n_K hown hK hP hD hS 0 k_h0 rfl 10 (by decide) (hts _ gm_410) (fun _ h9 => h9) rfl (by decide +kernel) rfl rfl (Nat.le_of_ble_eq_true rfl) d_K_promote_117 (fun H locs hP hD hS => ?_)
            obtain ⟨z24, ez24⟩ : ∃ zt_ : x_S, zt_ = x_up z23 0 6 (nI k) := ⟨_, rfl⟩
            have hP : va_P D vwCl (k_w cI cZ kd z24) H := by rw [ez24]; exact (k_s0_10 (nI k)) ▸ hP
            have hD : va_D A (k_w cI cZ kd z24) := by rw [ez24]; exact (k_s0_10 (nI k)) ▸ hD
            refine lv_aload_n hx hb d_K_promote_120 rfl (lv_at hl 1 rfl) ?_
            refine lv_iload_n hx hb d_K_promote_121 rfl (lv_at hl 2 rfl) ?_
            refine va_put (D := D) (ci := 5) (v := .int (nI k)) (ty := .int) (C := R_K) (T := T_K) (N := 21) hx hb hts in_K fy_K fy_K_ok n_K hown hK hP hD hS 0 k_h0 rfl 12 (by decide) (hts _ gm_412) (fun _ h9 => h9) rfl (by decide +kernel) rfl rfl (Nat.le_of_ble_eq_true rfl) d_K_promote_122 (fun H locs hP hD hS => ?_)
            obtain ⟨z25, ez25⟩ : ∃ zt_ : x_S, zt_ = x_up z24 1 3 (nI k) := ⟨_, rfl⟩
            have hP : va_P D vwCl (k_w cI cZ kd z25) H := by rw [ez25]; exact (k_s0_12 (nI k)) ▸ hP
            have hD : va_D A (k_w cI cZ kd z25) := by rw [ez25]; exact (k_s0_12 (nI k)) ▸ hD
            refine lv_aload_n hx hb d_K_promote_125 rfl (lv_at hl 1 rfl) ?_
            refine lv_aload_n hx hb d_K_promote_126 rfl (lv_at hl 1 rfl) ?_
            refine va_get (D := D) (ci := 5) (C := R_K) (T := T_K) (N := 21) hx hb hts in_K hown hK hP 0 k_h0 rfl 16 (by decide) (hts _ gm_416) (fun _ h9 => h9) rfl d_K_promote_127 ?_
            refine lv_aload_n hx hb d_K_promote_130 rfl (lv_at hl 1 rfl) ?_
            refine va_get (D := D) (ci := 5) (C := R_K) (T := T_K) (N := 21) hx hb hts in_K hown hK hP 0 k_h0 rfl 0 (by decide) (hts _ gm_400) (fun _ h9 => h9) rfl d_K_promote_131 ?_
            refine lv_iadd hx hb d_K_promote_134 ?_
            refine va_put (D := D) (ci := 5) (v := .int ((z25 1 2) + (z25 1 0))) (ty := .int) (C := R_K) (T := T_K) (N := 21) hx hb hts in_K fy_K fy_K_ok n_K hown hK hP hD hS 0 k_h0 rfl 17 (by decide) (hts _ gm_417) (fun _ h9 => h9) rfl (by decide +kernel) rfl rfl (Nat.le_of_ble_eq_true rfl) d_K_promote_135 (fun H locs hP hD hS => ?_)
            obtain ⟨z26, ez26⟩ : ∃ zt_ : x_S, zt_ = x_up z25 1 4 ((z25 1 2) + (z25 1 0)) := ⟨_, rfl⟩
            have hP : va_P D vwCl (k_w cI cZ kd z26) H := by rw [ez26]; exact (k_s0_17 ((z25 1 2) + (z25 1 0))) ▸ hP
            have hD : va_D A (k_w cI cZ kd z26) := by rw [ez26]; exact (k_s0_17 ((z25 1 2) + (z25 1 0))) ▸ hD
            refine lv_iload_n hx hb d_K_promote_138 rfl (lv_at hl 0 rfl) ?_
            refine lv_if_ne (tgt := 158) hx hb d_K_promote_139 (by decide) (fun c27 => ?_) (fun c27 => ?_)
            · exact (c27 (by decide)).elim
            · refine lv_aload_n hx hb d_K_promote_142 rfl (lv_at hl 1 rfl) ?_
              refine va_get (D := D) (ci := 5) (C := R_K) (T := T_K) (N := 21) hx hb hts in_K hown hK hP 0 k_h0 rfl 13 (by decide) (hts _ gm_413) (fun _ h9 => h9) rfl d_K_promote_143 ?_
              refine lv_if_ne (tgt := 163) hx hb d_K_promote_146 (by decide) (fun c28 => ?_) (fun c28 => ?_)
              · exact t163 k hk z26 _ _ ls (by subst ez23 ez24 ez25 ez26; first | rfl | (rw [x_goAl_low (by decide) (by decide)]; rfl)) (by subst ez23 ez24 ez25 ez26; rw [hG]; simp only [k_pr3, if_neg c12, if_pos c13, if_neg c15, if_neg c28]; simp only [k_pr4]; simp only [k_prA, k_prN, if_neg c12, if_pos c13, if_neg c15, if_neg c28]) hP hD hS (lv_sub hl [1, 2] rfl)
              · refine lv_aload_n hx hb d_K_promote_149 rfl (lv_at hl 1 rfl) ?_
                refine va_get (D := D) (ci := 5) (C := R_K) (T := T_K) (N := 21) hx hb hts in_K hown hK hP 0 k_h0 rfl 5 (by decide) (hts _ gm_405) (fun _ h9 => h9) rfl d_K_promote_150 ?_
                refine lv_iload_n hx hb d_K_promote_153 rfl (lv_at hl 2 rfl) ?_
                refine va_zald (D := D) hx hb hK hP 5 1 k_h5 rfl (x_in2 hk) d_K_promote_154 ?_
                refine x_top (k_col_at hk) ?_
                refine lv_if_ne (tgt := 163) hx hb d_K_promote_155 (by decide) (fun c29 => ?_) (fun c29 => ?_)
                · exact t163 k hk z26 _ _ ls (by subst ez23 ez24 ez25 ez26; first | rfl | (rw [x_goAl_low (by decide) (by decide)]; rfl)) (by subst ez23 ez24 ez25 ez26; rw [hG]; simp only [k_pr3, if_neg c12, if_pos c13, if_neg c15, if_pos c28, if_neg c29]; simp only [k_pr4]; simp only [k_prA, k_prN, if_neg c12, if_pos c13, if_neg c15, if_pos c28, if_neg c29]) hP hD hS (lv_sub hl [1, 2] rfl)
                · refine lv_aload_n hx hb d_K_promote_158 rfl (lv_at hl 1 rfl) ?_
                  refine lv_iload_n hx hb d_K_promote_159 rfl (lv_at hl 2 rfl) ?_
                  refine x_V (rest := []) ⟨hx, hb, hml, hown, hts⟩ (c_K_goAlone_ok l D cI cZ kd z26 k hk) gm_477 gm_479 gm_16 gm_34 gm_480 ⟨rfl, rfl⟩ hd_K_goAlone ⟨Nat.le_of_ble_eq_true rfl, Nat.le_of_ble_eq_true rfl⟩ hK hP hD hS hA (va_recv hK hP (ci := 5) (q0 := 0) rfl k_h0) rfl hl.1 rfl (Nat.le_of_ble_eq_true rfl) d_K_promote_160 ⟨Nat.le_of_ble_eq_true rfl, Nat.le_of_ble_eq_true rfl⟩ (fun H locs hP hD hS => ?_)
                  obtain ⟨z30, ez30⟩ : ∃ zt_ : x_S, zt_ = x_goAl z26 k := ⟨_, rfl⟩
                  rw [← ez30] at hP hD
                  exact t163 k hk z30 _ _ ls (by subst ez23 ez24 ez25 ez26 ez30; first | rfl | (rw [x_goAl_low (by decide) (by decide)]; rfl)) (by subst ez23 ez24 ez25 ez26 ez30; rw [hG]; simp only [k_pr3, if_neg c12, if_pos c13, if_neg c15, if_pos c28, if_pos c29]; simp only [k_pr4]; simp only [k_prA, k_prN, if_neg c12, if_pos c13, if_neg c15, if_pos c28, if_pos c29]) hP hD hS (lv_sub hl [1, 2] rfl)
        · exact (c14 (by decide)).elim
      · refine lv_iconst (v := 1) hx hb d_K_promote_86 (by decide) ?_
        refine lv_goto (tgt := 91) hx hb d_K_promote_87 (by decide) ?_
        refine lv_istore_n (lv' := [(3, .int 1), (0, .ref (kd 0)), (1, .int (nI k)), (2, .int f)]) hx hb d_K_promote_91 rfl hl (by decide) rfl (fun ls hl => ?_)
        refine lv_iload_n hx hb d_K_promote_92 rfl (lv_at hl 0 rfl) ?_
        refine lv_if_eq (tgt := 103) hx hb d_K_promote_93 (by decide) (fun c31 => ?_) (fun c31 => ?_)
        · exact absurd c31 (by decide)
        · refine lv_iload_n hx hb d_K_promote_96 rfl (lv_at hl 3 rfl) ?_
          refine lv_if_ne (tgt := 103) hx hb d_K_promote_97 (by decide) (fun c32 => ?_) (fun c32 => ?_)
          · refine lv_aload_n hx hb d_K_promote_103 rfl (lv_at hl 1 rfl) ?_
            refine va_get (D := D) (ci := 5) (C := R_K) (T := T_K) (N := 21) hx hb hts in_K hown hK hP 0 k_h0 rfl 10 (by decide) (hts _ gm_410) (fun _ h9 => h9) rfl d_K_promote_104 ?_
            refine lv_iconst (v := 2) hx hb d_K_promote_107 (by decide) ?_
            refine lv_icmp_eq (tgt := 115) hx hb d_K_promote_108 (by decide) (fun c33 => ?_) (fun c33 => ?_)
            · refine lv_aload_n hx hb d_K_promote_115 rfl (lv_at hl 1 rfl) ?_
              refine lv_iload_n hx hb d_K_promote_116 rfl (lv_at hl 2 rfl) ?_
              refine va_put (D := D) (ci := 5) (v := .int (nI k)) (ty := .int) (C := R_K) (T := T_K) (N := 21) hx hb hts in_K fy_K fy_K_ok n_K hown hK hP hD hS 0 k_h0 rfl 10 (by decide) (hts _ gm_410) (fun _ h9 => h9) rfl (by decide +kernel) rfl rfl (Nat.le_of_ble_eq_true rfl) d_K_promote_117 (fun H locs hP hD hS => ?_)
              obtain ⟨z34, ez34⟩ : ∃ zt_ : x_S, zt_ = x_up z 0 6 (nI k) := ⟨_, rfl⟩
              have hP : va_P D vwCl (k_w cI cZ kd z34) H := by rw [ez34]; exact (k_s0_10 (nI k)) ▸ hP
              have hD : va_D A (k_w cI cZ kd z34) := by rw [ez34]; exact (k_s0_10 (nI k)) ▸ hD
              refine lv_aload_n hx hb d_K_promote_120 rfl (lv_at hl 1 rfl) ?_
              refine lv_iload_n hx hb d_K_promote_121 rfl (lv_at hl 2 rfl) ?_
              refine va_put (D := D) (ci := 5) (v := .int (nI k)) (ty := .int) (C := R_K) (T := T_K) (N := 21) hx hb hts in_K fy_K fy_K_ok n_K hown hK hP hD hS 0 k_h0 rfl 12 (by decide) (hts _ gm_412) (fun _ h9 => h9) rfl (by decide +kernel) rfl rfl (Nat.le_of_ble_eq_true rfl) d_K_promote_122 (fun H locs hP hD hS => ?_)
              obtain ⟨z35, ez35⟩ : ∃ zt_ : x_S, zt_ = x_up z34 1 3 (nI k) := ⟨_, rfl⟩
              have hP : va_P D vwCl (k_w cI cZ kd z35) H := by rw [ez35]; exact (k_s0_12 (nI k)) ▸ hP
              have hD : va_D A (k_w cI cZ kd z35) := by rw [ez35]; exact (k_s0_12 (nI k)) ▸ hD
              refine lv_aload_n hx hb d_K_promote_125 rfl (lv_at hl 1 rfl) ?_
              refine lv_aload_n hx hb d_K_promote_126 rfl (lv_at hl 1 rfl) ?_
              refine va_get (D := D) (ci := 5) (C := R_K) (T := T_K) (N := 21) hx hb hts in_K hown hK hP 0 k_h0 rfl 16 (by decide) (hts _ gm_416) (fun _ h9 => h9) rfl d_K_promote_127 ?_
              refine lv_aload_n hx hb d_K_promote_130 rfl (lv_at hl 1 rfl) ?_
              refine va_get (D := D) (ci := 5) (C := R_K) (T := T_K) (N := 21) hx hb hts in_K hown hK hP 0 k_h0 rfl 0 (by decide) (hts _ gm_400) (fun _ h9 => h9) rfl d_K_promote_131 ?_
              refine lv_iadd hx hb d_K_promote_134 ?_
              refine va_put (D := D) (ci := 5) (v := .int ((z35 1 2) + (z35 1 0))) (ty := .int) (C := R_K) (T := T_K) (N := 21) hx hb hts in_K fy_K fy_K_ok n_K hown hK hP hD hS 0 k_h0 rfl 17 (by decide) (hts _ gm_417) (fun _ h9 => h9) rfl (by decide +kernel) rfl rfl (Nat.le_of_ble_eq_true rfl) d_K_promote_135 (fun H locs hP hD hS => ?_)
              obtain ⟨z36, ez36⟩ : ∃ zt_ : x_S, zt_ = x_up z35 1 4 ((z35 1 2) + (z35 1 0)) := ⟨_, rfl⟩
              have hP : va_P D vwCl (k_w cI cZ kd z36) H := by rw [ez36]; exact (k_s0_17 ((z35 1 2) + (z35 1 0))) ▸ hP
              have hD : va_D A (k_w cI cZ kd z36) := by rw [ez36]; exact (k_s0_17 ((z35 1 2) + (z35 1 0))) ▸ hD
              refine lv_iload_n hx hb d_K_promote_138 rfl (lv_at hl 0 rfl) ?_
              refine lv_if_ne (tgt := 158) hx hb d_K_promote_139 (by decide) (fun c37 => ?_) (fun c37 => ?_)
              · refine lv_aload_n hx hb d_K_promote_158 rfl (lv_at hl 1 rfl) ?_
                refine lv_iload_n hx hb d_K_promote_159 rfl (lv_at hl 2 rfl) ?_
                refine x_V (rest := []) ⟨hx, hb, hml, hown, hts⟩ (c_K_goAlone_ok l D cI cZ kd z36 k hk) gm_477 gm_479 gm_16 gm_34 gm_480 ⟨rfl, rfl⟩ hd_K_goAlone ⟨Nat.le_of_ble_eq_true rfl, Nat.le_of_ble_eq_true rfl⟩ hK hP hD hS hA (va_recv hK hP (ci := 5) (q0 := 0) rfl k_h0) rfl hl.1 rfl (Nat.le_of_ble_eq_true rfl) d_K_promote_160 ⟨Nat.le_of_ble_eq_true rfl, Nat.le_of_ble_eq_true rfl⟩ (fun H locs hP hD hS => ?_)
                obtain ⟨z38, ez38⟩ : ∃ zt_ : x_S, zt_ = x_goAl z36 k := ⟨_, rfl⟩
                rw [← ez38] at hP hD
                exact t163 k hk z38 _ _ ls (by subst ez34 ez35 ez36 ez38; first | rfl | (rw [x_goAl_low (by decide) (by decide)]; rfl)) (by subst ez34 ez35 ez36 ez38; rw [hG]; simp only [k_pr3, if_neg c12, if_neg c13, if_neg c32, if_pos c33]; simp only [k_pr4]; simp only [k_prA, k_prN, if_neg c12, if_neg c13, if_neg c32, if_pos c33]) hP hD hS (lv_sub hl [1, 2] rfl)
              · exact absurd c37 (by decide)
            · refine lv_aload_n hx hb d_K_promote_111 rfl (lv_at hl 1 rfl) ?_
              refine x_V (rest := []) ⟨hx, hb, hml, hown, hts⟩ (c_K_noPrimary_ok l D cI cZ kd z) gm_513 gm_515 gm_24 gm_34 gm_516 ⟨rfl, rfl⟩ hd_K_noPrimary ⟨Nat.le_of_ble_eq_true rfl, Nat.le_of_ble_eq_true rfl⟩ hK hP hD hS hA (va_recv hK hP (ci := 5) (q0 := 0) rfl k_h0) rfl hl.1 rfl (Nat.le_of_ble_eq_true rfl) d_K_promote_112 ⟨Nat.le_of_ble_eq_true rfl, Nat.le_of_ble_eq_true rfl⟩ (fun H locs hP hD hS => ?_)
              obtain ⟨z39, ez39⟩ : ∃ zt_ : x_S, zt_ = k_noP z := ⟨_, rfl⟩
              rw [← ez39] at hP hD
              refine lv_aload_n hx hb d_K_promote_115 rfl (lv_at hl 1 rfl) ?_
              refine lv_iload_n hx hb d_K_promote_116 rfl (lv_at hl 2 rfl) ?_
              refine va_put (D := D) (ci := 5) (v := .int (nI k)) (ty := .int) (C := R_K) (T := T_K) (N := 21) hx hb hts in_K fy_K fy_K_ok n_K hown hK hP hD hS 0 k_h0 rfl 10 (by decide) (hts _ gm_410) (fun _ h9 => h9) rfl (by decide +kernel) rfl rfl (Nat.le_of_ble_eq_true rfl) d_K_promote_117 (fun H locs hP hD hS => ?_)
              obtain ⟨z40, ez40⟩ : ∃ zt_ : x_S, zt_ = x_up z39 0 6 (nI k) := ⟨_, rfl⟩
              have hP : va_P D vwCl (k_w cI cZ kd z40) H := by rw [ez40]; exact (k_s0_10 (nI k)) ▸ hP
              have hD : va_D A (k_w cI cZ kd z40) := by rw [ez40]; exact (k_s0_10 (nI k)) ▸ hD
              refine lv_aload_n hx hb d_K_promote_120 rfl (lv_at hl 1 rfl) ?_
              refine lv_iload_n hx hb d_K_promote_121 rfl (lv_at hl 2 rfl) ?_
              refine va_put (D := D) (ci := 5) (v := .int (nI k)) (ty := .int) (C := R_K) (T := T_K) (N := 21) hx hb hts in_K fy_K fy_K_ok n_K hown hK hP hD hS 0 k_h0 rfl 12 (by decide) (hts _ gm_412) (fun _ h9 => h9) rfl (by decide +kernel) rfl rfl (Nat.le_of_ble_eq_true rfl) d_K_promote_122 (fun H locs hP hD hS => ?_)
              obtain ⟨z41, ez41⟩ : ∃ zt_ : x_S, zt_ = x_up z40 1 3 (nI k) := ⟨_, rfl⟩
              have hP : va_P D vwCl (k_w cI cZ kd z41) H := by rw [ez41]; exact (k_s0_12 (nI k)) ▸ hP
              have hD : va_D A (k_w cI cZ kd z41) := by rw [ez41]; exact (k_s0_12 (nI k)) ▸ hD
              refine lv_aload_n hx hb d_K_promote_125 rfl (lv_at hl 1 rfl) ?_
              refine lv_aload_n hx hb d_K_promote_126 rfl (lv_at hl 1 rfl) ?_
              refine va_get (D := D) (ci := 5) (C := R_K) (T := T_K) (N := 21) hx hb hts in_K hown hK hP 0 k_h0 rfl 16 (by decide) (hts _ gm_416) (fun _ h9 => h9) rfl d_K_promote_127 ?_
              refine lv_aload_n hx hb d_K_promote_130 rfl (lv_at hl 1 rfl) ?_
              refine va_get (D := D) (ci := 5) (C := R_K) (T := T_K) (N := 21) hx hb hts in_K hown hK hP 0 k_h0 rfl 0 (by decide) (hts _ gm_400) (fun _ h9 => h9) rfl d_K_promote_131 ?_
              refine lv_iadd hx hb d_K_promote_134 ?_
              refine va_put (D := D) (ci := 5) (v := .int ((z41 1 2) + (z41 1 0))) (ty := .int) (C := R_K) (T := T_K) (N := 21) hx hb hts in_K fy_K fy_K_ok n_K hown hK hP hD hS 0 k_h0 rfl 17 (by decide) (hts _ gm_417) (fun _ h9 => h9) rfl (by decide +kernel) rfl rfl (Nat.le_of_ble_eq_true rfl) d_K_promote_135 (fun H locs hP hD hS => ?_)
              obtain ⟨z42, ez42⟩ : ∃ zt_ : x_S, zt_ = x_up z41 1 4 ((z41 1 2) + (z41 1 0)) := ⟨_, rfl⟩
              have hP : va_P D vwCl (k_w cI cZ kd z42) H := by rw [ez42]; exact (k_s0_17 ((z41 1 2) + (z41 1 0))) ▸ hP
              have hD : va_D A (k_w cI cZ kd z42) := by rw [ez42]; exact (k_s0_17 ((z41 1 2) + (z41 1 0))) ▸ hD
              refine lv_iload_n hx hb d_K_promote_138 rfl (lv_at hl 0 rfl) ?_
              refine lv_if_ne (tgt := 158) hx hb d_K_promote_139 (by decide) (fun c43 => ?_) (fun c43 => ?_)
              · refine lv_aload_n hx hb d_K_promote_158 rfl (lv_at hl 1 rfl) ?_
                refine lv_iload_n hx hb d_K_promote_159 rfl (lv_at hl 2 rfl) ?_
                refine x_V (rest := []) ⟨hx, hb, hml, hown, hts⟩ (c_K_goAlone_ok l D cI cZ kd z42 k hk) gm_477 gm_479 gm_16 gm_34 gm_480 ⟨rfl, rfl⟩ hd_K_goAlone ⟨Nat.le_of_ble_eq_true rfl, Nat.le_of_ble_eq_true rfl⟩ hK hP hD hS hA (va_recv hK hP (ci := 5) (q0 := 0) rfl k_h0) rfl hl.1 rfl (Nat.le_of_ble_eq_true rfl) d_K_promote_160 ⟨Nat.le_of_ble_eq_true rfl, Nat.le_of_ble_eq_true rfl⟩ (fun H locs hP hD hS => ?_)
                obtain ⟨z44, ez44⟩ : ∃ zt_ : x_S, zt_ = x_goAl z42 k := ⟨_, rfl⟩
                rw [← ez44] at hP hD
                exact t163 k hk z44 _ _ ls (by subst ez39 ez40 ez41 ez42 ez44; first | rfl | (rw [x_goAl_low (by decide) (by decide)]; rfl)) (by subst ez39 ez40 ez41 ez42 ez44; rw [hG]; simp only [k_pr3, if_neg c12, if_neg c13, if_neg c32, if_neg c33]; simp only [k_pr4]; simp only [k_prA, k_prN, if_neg c12, if_neg c13, if_neg c32, if_neg c33]) hP hD hS (lv_sub hl [1, 2] rfl)
              · exact absurd c43 (by decide)
          · refine lv_bipush (v := (-5)) hx hb d_K_promote_100 (by decide) ?_
            exact x_ri (w := k_w cI cZ kd) (by rw [hG]; simp only [k_pr3, if_neg c12, if_neg c13, if_pos c32]) hx hb hr hlk hP hD hS d_K_promote_102
    · refine lv_bipush (v := (-6)) hx hb d_K_promote_70 (by decide) ?_
      exact x_ri (w := k_w cI cZ kd) (by rw [hG]; simp only [k_pr3, if_pos c12]) hx hb hr hlk hP hD hS d_K_promote_72
  refine lv_aload_n hx hb d_K_promote_0 rfl (lv_at hl 0 rfl) ?_
  refine lv_iload_n hx hb d_K_promote_1 rfl (lv_at hl 1 rfl) ?_
  refine lv_iconst (v := 2) hx hb d_K_promote_2 (by decide) ?_
  refine x_V (rest := []) ⟨hx, hb, hml, hown, hts⟩ (c_K_out_ok l D cI cZ kd z a 2) gm_469 gm_471 gm_15 gm_34 gm_472 ⟨rfl, rfl⟩ hd_K_out ⟨Nat.le_of_ble_eq_true rfl, Nat.le_of_ble_eq_true rfl⟩ hK hP hD hS hA (va_recv hK hP (ci := 5) (q0 := 0) rfl k_h0) rfl hl.1 rfl (Nat.le_of_ble_eq_true rfl) d_K_promote_3 ⟨Nat.le_of_ble_eq_true rfl, Nat.le_of_ble_eq_true rfl⟩ (fun H locs hP hD hS => ?_)
  refine lv_topi (fun r45 er45 => ?_)
  refine lv_if_ne (tgt := 35) hx hb d_K_promote_6 (by decide) (fun c46 => ?_) (fun c46 => ?_)
  · refine lv_iconst (v := (-1)) hx hb d_K_promote_35 (by decide) ?_
    exact x_ri (w := k_w cI cZ kd) (by subst er45; first | (simp only [k_promote, if_neg c46]; done) | (with_reducible rfl) | (simp only [k_promote, if_neg c46]; with_reducible rfl)) hx hb hr hlk hP hD hS d_K_promote_36
  · obtain ⟨k, hk, ek⟩ := k_out2 (v := a) (by rw [← er45]; exact c46)
    subst ek
    refine lv_aload_n hx hb d_K_promote_9 rfl (lv_at hl 0 rfl) ?_
    refine va_get (D := D) (ci := 5) (C := R_K) (T := T_K) (N := 21) hx hb hts in_K hown hK hP 0 k_h0 rfl 4 (by decide) (hts _ gm_404) (fun _ h9 => h9) rfl d_K_promote_10 ?_
    refine lv_iload_n hx hb d_K_promote_13 rfl (lv_at hl 1 rfl) ?_
    refine va_zald (D := D) hx hb hK hP 4 1 k_h4 rfl (x_in2 hk) d_K_promote_14 ?_
    refine x_top (k_col_at hk) ?_
    refine lv_if_ne (tgt := 35) hx hb d_K_promote_15 (by decide) (fun c47 => ?_) (fun c47 => ?_)
    · refine lv_iconst (v := (-1)) hx hb d_K_promote_35 (by decide) ?_
      exact x_ri (w := k_w cI cZ kd) (by subst er45; first | (simp only [k_promote, if_pos c46, if_neg c47, x_cl hk]; done) | (with_reducible rfl) | (simp only [k_promote, if_pos c46, if_neg c47, x_cl hk]; with_reducible rfl)) hx hb hr hlk hP hD hS d_K_promote_36
    · refine lv_aload_n hx hb d_K_promote_18 rfl (lv_at hl 0 rfl) ?_
      refine va_get (D := D) (ci := 5) (C := R_K) (T := T_K) (N := 21) hx hb hts in_K hown hK hP 0 k_h0 rfl 10 (by decide) (hts _ gm_410) (fun _ h9 => h9) rfl d_K_promote_19 ?_
      refine lv_iload_n hx hb d_K_promote_22 rfl (lv_at hl 1 rfl) ?_
      refine lv_icmp_eq (tgt := 35) hx hb d_K_promote_23 (by decide) (fun c48 => ?_) (fun c48 => ?_)
      · refine lv_iconst (v := (-1)) hx hb d_K_promote_35 (by decide) ?_
        exact x_ri (w := k_w cI cZ kd) (by subst er45; first | (simp only [k_promote, if_pos c46, if_pos c47, if_pos c48, x_cl hk]; done) | (with_reducible rfl) | (simp only [k_promote, if_pos c46, if_pos c47, if_pos c48, x_cl hk]; with_reducible rfl)) hx hb hr hlk hP hD hS d_K_promote_36
      · refine lv_aload_n hx hb d_K_promote_26 rfl (lv_at hl 0 rfl) ?_
        refine va_get (D := D) (ci := 5) (C := R_K) (T := T_K) (N := 21) hx hb hts in_K hown hK hP 0 k_h0 rfl 6 (by decide) (hts _ gm_406) (fun _ h9 => h9) rfl d_K_promote_27 ?_
        refine lv_iload_n hx hb d_K_promote_30 rfl (lv_at hl 1 rfl) ?_
        refine va_zald (D := D) hx hb hK hP 6 1 k_h6 rfl (x_in2 hk) d_K_promote_31 ?_
        refine x_top (k_col_at hk) ?_
        refine lv_if_eq (tgt := 37) hx hb d_K_promote_32 (by decide) (fun c49 => ?_) (fun c49 => ?_)
        · refine lv_aload_n hx hb d_K_promote_37 rfl (lv_at hl 0 rfl) ?_
          refine va_get (D := D) (ci := 5) (C := R_K) (T := T_K) (N := 21) hx hb hts in_K hown hK hP 0 k_h0 rfl 12 (by decide) (hts _ gm_412) (fun _ h9 => h9) rfl d_K_promote_38 ?_
          refine lv_iconst (v := 1) hx hb d_K_promote_41 (by decide) ?_
          refine lv_iload_n hx hb d_K_promote_42 rfl (lv_at hl 1 rfl) ?_
          refine lv_isub hx hb d_K_promote_43 ?_
          refine x_top (x_1k hk) ?_
          refine lv_icmp_ne (tgt := 61) hx hb d_K_promote_44 (by decide) (fun c50 => ?_) (fun c50 => ?_)
          · exact t61 k hk _ _ ls (by subst er45; simp only [k_promote, if_pos c46, if_pos c47, if_neg c48, if_pos c49, if_neg c50, x_cl hk]) hP hD hS (lv_sub hl [0, 1, 2] rfl)
          · refine lv_aload_n hx hb d_K_promote_47 rfl (lv_at hl 0 rfl) ?_
            refine va_get (D := D) (ci := 5) (C := R_K) (T := T_K) (N := 21) hx hb hts in_K hown hK hP 0 k_h0 rfl 17 (by decide) (hts _ gm_417) (fun _ h9 => h9) rfl d_K_promote_48 ?_
            refine lv_aload_n hx hb d_K_promote_51 rfl (lv_at hl 0 rfl) ?_
            refine va_get (D := D) (ci := 5) (C := R_K) (T := T_K) (N := 21) hx hb hts in_K hown hK hP 0 k_h0 rfl 16 (by decide) (hts _ gm_416) (fun _ h9 => h9) rfl d_K_promote_52 ?_
            refine lv_icmp_le (tgt := 61) hx hb d_K_promote_55 (by decide) (fun c51 => ?_) (fun c51 => ?_)
            · exact t61 k hk _ _ ls (by subst er45; simp only [k_promote, if_pos c46, if_pos c47, if_neg c48, if_pos c49, if_pos c50, if_pos c51, x_cl hk]) hP hD hS (lv_sub hl [0, 1, 2] rfl)
            · refine lv_bipush (v := (-4)) hx hb d_K_promote_58 (by decide) ?_
              exact x_ri (w := k_w cI cZ kd) (by subst er45; first | (simp only [k_promote, if_pos c46, if_pos c47, if_neg c48, if_pos c49, if_pos c50, if_neg c51, x_cl hk]; done) | (with_reducible rfl) | (simp only [k_promote, if_pos c46, if_pos c47, if_neg c48, if_pos c49, if_pos c50, if_neg c51, x_cl hk]; with_reducible rfl)) hx hb hr hlk hP hD hS d_K_promote_60
        · refine lv_iconst (v := (-1)) hx hb d_K_promote_35 (by decide) ?_
          exact x_ri (w := k_w cI cZ kd) (by subst er45; first | (simp only [k_promote, if_pos c46, if_pos c47, if_neg c48, if_neg c49, x_cl hk]; done) | (with_reducible rfl) | (simp only [k_promote, if_pos c46, if_pos c47, if_neg c48, if_neg c49, x_cl hk]; with_reducible rfl)) hx hb hr hlk hP hD hS d_K_promote_36
