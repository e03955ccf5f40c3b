-- ===== 15.x6: commit, resync
theorem x_oneTo4 {r : Int32} (h1 : ¬ r < 1) (h4 : ¬ 4 < r) : ∃ e : Nat, 1 ≤ e ∧ e ≤ 4 ∧ r = nI e := by
  have h0 : ¬ r < 0 := fun h => h1 (Int32.lt_trans h (by decide))
  obtain ⟨j, hj, rfl⟩ := nI_of h0
  refine ⟨j, ?_, ?_, rfl⟩
  · rcases Nat.lt_or_ge j 1 with q | q
    · exact absurd (show nI j < nI 1 from nI_lt q (by decide)) h1
    · exact q
  · rcases Nat.lt_or_ge 4 j with q | q
    · exact absurd (show nI 4 < nI j from nI_lt q (by omega)) h4
    · exact q
set_option maxHeartbeats 4000000 in
set_option maxRecDepth 100000 in
theorem c_M_commit_ok (l : Launch) (D : va_G) (cI cN : ClassId) (ad : Nat → Nat) (z : x_S) (sz : Nat) (hsz : sz ≤ 3) (hz : z 2 0 = nI sz) (hcell : ∀ j, j < sz → ∃ b, b < 24 ∧ z 3 j = nI b) (cut keep : Int32) : x_C l y_M_commit c_M_commit 8 (some .int) { frames := 5, cells := 0, slots := 0, locals := 111 } D (x_ty cI cN) (x_w cI cN ad z) [.ref (ad 0), .int cut, .int keep] (some (.int (x_commit z sz cut keep).1)) (x_w cI cN ad (x_commit z sz cut keep).2) := by
  refine x_C.of (by decide) (Nat.le_of_ble_eq_true rfl) ?_
  intro p e s m below meth c hx hb hr hml hts hown hlk A hA hK hS hP hD ls hl
  have hown : s.vm.findClass R_M = some m.cls := hown
  have hl : lv_has ls 8 [(0, .ref (ad 0)), (1, .int cut), (2, .int keep)] := hl
  have body : ∀ (y : x_S) (k : Nat) (hk : k < 2) (H : Heap) (locs : List Loc) (ls : Array Slot), y 2 0 = nI sz → (∀ j, j < sz → ∃ b, b < 24 ∧ y 3 j = nI b) → x_commit z sz cut keep = x_comB y k sz cut keep → va_P D vwCl (x_w cI cN ad y) H → va_D A (x_w cI cN ad y) → va_S A s.heap H locs → lv_has ls 8 [(3, .int (nI k)), (0, .ref (ad 0)), (1, .int cut), (2, .int keep)] → W p l e { frames := 5, cells := 0, slots := 0, locals := 111 } s m [.ref (ad 0), .int cut, .int keep].toArray below meth c H locs 0 0 (MQ below (x_Q (some (.int (x_commit z sz cut keep).1)) D (x_w cI cN ad (x_commit z sz cut keep).2) A) [.ref (ad 0), .int cut, .int keep].toArray s 0 0 A) (F0 m 50 ls []) := by
    intro y k hk H locs ls hzy hcy hG hP hD hS hl
    have lp0 : ∀ (n i : Nat) (w : x_S) (d : Nat) (H : Heap) (locs : List Loc) (ls : Array Slot), i + n = d → d ≤ 3 * sz + 7 → w 2 0 = nI sz → (∀ j, j < sz → ∃ b, b < 24 ∧ w 3 j = nI b) → x_commit z sz cut keep = (0, x_up (x_comL k sz n i w) 2 0 0) → va_P D vwCl (x_w cI cN ad w) H → va_D A (x_w cI cN ad w) → va_S A s.heap H locs → lv_has ls 8 [(7, .int (nI i)), (6, .int (nI d)), (5, .int 0), (3, .int (nI k)), (0, .ref (ad 0)), (2, .int keep)] → W p l e { frames := 5, cells := 0, slots := 0, locals := 111 } s m [.ref (ad 0), .int cut, .int keep].toArray below meth c H locs 0 0 (MQ below (x_Q (some (.int (x_commit z sz cut keep).1)) D (x_w cI cN ad (x_commit z sz cut keep).2) A) [.ref (ad 0), .int cut, .int keep].toArray s 0 0 A) (F0 m 97 ls []) := by
      intro n
      induction n with
      | zero =>
        intro i w d H locs ls hn hd hzw hcw hI hP hD hS hl
        refine lv_iload hx hb d_M_commit_97 (lv_at hl 0 rfl) ?_
        refine lv_iload hx hb d_M_commit_99 (lv_at hl 1 rfl) ?_
        refine lv_icmp_ge (tgt := 117) hx hb d_M_commit_101 (by decide) (fun c1 => ?_) (fun c1 => ?_)
        · have c1 : d ≤ i := (nI_leI (a := d) (b := i) (by omega) (by omega)).mp c1
          refine lv_iload hx hb d_M_commit_117 (lv_at hl 2 rfl) ?_
          refine lv_if_eq (tgt := 131) hx hb d_M_commit_119 (by decide) (fun c2 => ?_) (fun c2 => ?_)
          · refine lv_aload_n hx hb d_M_commit_131 rfl (lv_at hl 4 rfl) ?_
            refine va_get (D := D) (ci := 4) (C := R_M) (T := T_M) (N := 7) hx hb hts in_M hown hK hP 0 x_hM rfl 2 (by decide) (hts _ gm_156) (fun _ h9 => h9) rfl d_M_commit_132 ?_
            refine lv_iconst (v := 0) hx hb d_M_commit_135 (by decide) ?_
            refine va_put (D := D) (ci := 0) (v := .int 0) (ty := .int) (C := R_B) (T := T_B) (N := 3) hx hb hts in_B fy_B fy_B_ok n_B hown hK hP hD hS 3 x_hB rfl 2 (by decide) (hts _ gm_58) (fun _ h9 => h9) rfl (by decide +kernel) rfl rfl (Nat.le_of_ble_eq_true rfl) d_M_commit_136 (fun H locs hP hD hS => ?_)
            obtain ⟨z3, ez3⟩ : ∃ zt_ : x_S, zt_ = x_up w 2 0 0 := ⟨_, rfl⟩
            have hP : va_P D vwCl (x_w cI cN ad z3) H := by rw [ez3, ← x_sB 0]; exact hP
            have hD : va_D A (x_w cI cN ad z3) := by rw [ez3, ← x_sB 0]; exact hD
            refine lv_iconst (v := 0) hx hb d_M_commit_139 (by decide) ?_
            exact x_ri (w := x_w cI cN ad) (by subst ez3; rw [hI]; rfl) hx hb hr hlk hP hD hS d_M_commit_140
          · exact (c2 (by decide)).elim
        · have c1 : ¬ d ≤ i := fun h => c1 ((nI_leI (a := d) (b := i) (by omega) (by omega)).mpr h)
          exact absurd (show d ≤ i by omega) c1
      | succ n ih =>
        intro i w d H locs ls hn hd hzw hcw hI hP hD hS hl
        refine lv_iload hx hb d_M_commit_97 (lv_at hl 0 rfl) ?_
        refine lv_iload hx hb d_M_commit_99 (lv_at hl 1 rfl) ?_
        refine lv_icmp_ge (tgt := 117) hx hb d_M_commit_101 (by decide) (fun c4 => ?_) (fun c4 => ?_)
        · have c4 : d ≤ i := (nI_leI (a := d) (b := i) (by omega) (by omega)).mp c4
          exact absurd c4 (by omega)
        · have c4 : ¬ d ≤ i := fun h => c4 ((nI_leI (a := d) (b := i) (by omega) (by omega)).mpr h)
          refine lv_aload_n hx hb d_M_commit_104 rfl (lv_at hl 4 rfl) ?_
          refine lv_iload_n hx hb d_M_commit_105 rfl (lv_at hl 3 rfl) ?_
          refine lv_iload hx hb d_M_commit_106 (lv_at hl 0 rfl) ?_
          refine x_V (rest := []) ⟨hx, hb, hml, hown, hts⟩ (c_M_doCommitStep_ok l D cI cN ad w k hk sz hsz hzw hcw i (by omega)) gm_203 gm_205 gm_3 gm_28 gm_206 ⟨rfl, rfl⟩ hd_M_doCommitStep ⟨Nat.le_of_ble_eq_true rfl, Nat.le_of_ble_eq_true rfl⟩ hK hP hD hS hA (va_recv hK hP (ci := 4) (q0 := 0) rfl x_hM) rfl hl.1 rfl (Nat.le_of_ble_eq_true rfl) d_M_commit_108 ⟨Nat.le_of_ble_eq_true rfl, Nat.le_of_ble_eq_true rfl⟩ (fun H locs hP hD hS => ?_)
          obtain ⟨z5, ez5⟩ : ∃ zt_ : x_S, zt_ = x_step w k sz i := ⟨_, rfl⟩
          rw [← ez5] at hP hD
          refine lv_iinc (v := nI (i + 1)) (lv' := [(7, .int (nI (i + 1))), (6, .int (nI d)), (5, .int 0), (3, .int (nI k)), (0, .ref (ad 0)), (2, .int keep)]) hx hb d_M_commit_111 hl (k := 0) rfl (nI_1 _) (by decide) rfl (fun ls hl => ?_)
          refine lv_goto (tgt := 97) hx hb d_M_commit_114 (by decide) ?_
          exact ih (i + 1) z5 d H locs ls (by omega) hd (by subst ez5; rw [x_step_low (by decide)]; exact hzw) (by subst ez5; rw [x_step_low (by decide)]; exact hcw) (by subst ez5; rw [hI]; rfl) hP hD hS (lv_sub hl [0, 1, 2, 3, 4, 5] rfl)
    have lp1 : ∀ (n i : Nat) (w : x_S) (d : Nat) (H : Heap) (locs : List Loc) (ls : Array Slot), i + n = d → d ≤ 3 * sz + 7 → w 2 0 = nI sz → (∀ j, j < sz → ∃ b, b < 24 ∧ w 3 j = nI b) → x_commit z sz cut keep = (-7, x_bring (x_comL k sz n i w) k keep) → va_P D vwCl (x_w cI cN ad w) H → va_D A (x_w cI cN ad w) → va_S A s.heap H locs → lv_has ls 8 [(7, .int (nI i)), (6, .int (nI d)), (5, .int 1), (3, .int (nI k)), (0, .ref (ad 0)), (2, .int keep)] → W p l e { frames := 5, cells := 0, slots := 0, locals := 111 } s m [.ref (ad 0), .int cut, .int keep].toArray below meth c H locs 0 0 (MQ below (x_Q (some (.int (x_commit z sz cut keep).1)) D (x_w cI cN ad (x_commit z sz cut keep).2) A) [.ref (ad 0), .int cut, .int keep].toArray s 0 0 A) (F0 m 97 ls []) := by
      intro n
      induction n with
      | zero =>
        intro i w d H locs ls hn hd hzw hcw hI hP hD hS hl
        refine lv_iload hx hb d_M_commit_97 (lv_at hl 0 rfl) ?_
        refine lv_iload hx hb d_M_commit_99 (lv_at hl 1 rfl) ?_
        refine lv_icmp_ge (tgt := 117) hx hb d_M_commit_101 (by decide) (fun c6 => ?_) (fun c6 => ?_)
        · have c6 : d ≤ i := (nI_leI (a := d) (b := i) (by omega) (by omega)).mp c6
          refine lv_iload hx hb d_M_commit_117 (lv_at hl 2 rfl) ?_
          refine lv_if_eq (tgt := 131) hx hb d_M_commit_119 (by decide) (fun c7 => ?_) (fun c7 => ?_)
          · exact absurd c7 (by decide)
          · refine lv_aload_n hx hb d_M_commit_122 rfl (lv_at hl 4 rfl) ?_
            refine lv_iload_n hx hb d_M_commit_123 rfl (lv_at hl 3 rfl) ?_
            refine lv_iload_n hx hb d_M_commit_124 rfl (lv_at hl 5 rfl) ?_
            refine x_V (rest := []) ⟨hx, hb, hml, hown, hts⟩ (c_M_bringDown_ok l D cI cN ad w k hk keep) gm_231 gm_233 gm_6 gm_28 gm_234 ⟨rfl, rfl⟩ hd_M_bringDown ⟨Nat.le_of_ble_eq_true rfl, Nat.le_of_ble_eq_true rfl⟩ hK hP hD hS hA (va_recv hK hP (ci := 4) (q0 := 0) rfl x_hM) rfl hl.1 rfl (Nat.le_of_ble_eq_true rfl) d_M_commit_125 ⟨Nat.le_of_ble_eq_true rfl, Nat.le_of_ble_eq_true rfl⟩ (fun H locs hP hD hS => ?_)
            obtain ⟨z8, ez8⟩ : ∃ zt_ : x_S, zt_ = x_bring w k keep := ⟨_, rfl⟩
            rw [← ez8] at hP hD
            refine lv_bipush (v := (-7)) hx hb d_M_commit_128 (by decide) ?_
            exact x_ri (w := x_w cI cN ad) (by subst ez8; rw [hI]; rfl) hx hb hr hlk hP hD hS d_M_commit_130
        · have c6 : ¬ d ≤ i := fun h => c6 ((nI_leI (a := d) (b := i) (by omega) (by omega)).mpr h)
          exact absurd (show d ≤ i by omega) c6
      | succ n ih =>
        intro i w d H locs ls hn hd hzw hcw hI hP hD hS hl
        refine lv_iload hx hb d_M_commit_97 (lv_at hl 0 rfl) ?_
        refine lv_iload hx hb d_M_commit_99 (lv_at hl 1 rfl) ?_
        refine lv_icmp_ge (tgt := 117) hx hb d_M_commit_101 (by decide) (fun c9 => ?_) (fun c9 => ?_)
        · have c9 : d ≤ i := (nI_leI (a := d) (b := i) (by omega) (by omega)).mp c9
          exact absurd c9 (by omega)
        · have c9 : ¬ d ≤ i := fun h => c9 ((nI_leI (a := d) (b := i) (by omega) (by omega)).mpr h)
          refine lv_aload_n hx hb d_M_commit_104 rfl (lv_at hl 4 rfl) ?_
          refine lv_iload_n hx hb d_M_commit_105 rfl (lv_at hl 3 rfl) ?_
          refine lv_iload hx hb d_M_commit_106 (lv_at hl 0 rfl) ?_
          refine x_V (rest := []) ⟨hx, hb, hml, hown, hts⟩ (c_M_doCommitStep_ok l D cI cN ad w k hk sz hsz hzw hcw i (by omega)) gm_203 gm_205 gm_3 gm_28 gm_206 ⟨rfl, rfl⟩ hd_M_doCommitStep ⟨Nat.le_of_ble_eq_true rfl, Nat.le_of_ble_eq_true rfl⟩ hK hP hD hS hA (va_recv hK hP (ci := 4) (q0 := 0) rfl x_hM) rfl hl.1 rfl (Nat.le_of_ble_eq_true rfl) d_M_commit_108 ⟨Nat.le_of_ble_eq_true rfl, Nat.le_of_ble_eq_true rfl⟩ (fun H locs hP hD hS => ?_)
          obtain ⟨z10, ez10⟩ : ∃ zt_ : x_S, zt_ = x_step w k sz i := ⟨_, rfl⟩
          rw [← ez10] at hP hD
          refine lv_iinc (v := nI (i + 1)) (lv' := [(7, .int (nI (i + 1))), (6, .int (nI d)), (5, .int 1), (3, .int (nI k)), (0, .ref (ad 0)), (2, .int keep)]) hx hb d_M_commit_111 hl (k := 0) rfl (nI_1 _) (by decide) rfl (fun ls hl => ?_)
          refine lv_goto (tgt := 97) hx hb d_M_commit_114 (by decide) ?_
          exact ih (i + 1) z10 d H locs ls (by omega) hd (by subst ez10; rw [x_step_low (by decide)]; exact hzw) (by subst ez10; rw [x_step_low (by decide)]; exact hcw) (by subst ez10; rw [hI]; rfl) hP hD hS (lv_sub hl [0, 1, 2, 3, 4, 5] rfl)
    refine lv_iconst (v := 3) hx hb d_M_commit_50 (by decide) ?_
    refine lv_aload_n hx hb d_M_commit_51 rfl (lv_at hl 1 rfl) ?_
    refine va_get (D := D) (ci := 4) (C := R_M) (T := T_M) (N := 7) hx hb hts in_M hown hK hP 0 x_hM rfl 2 (by decide) (hts _ gm_156) (fun _ h9 => h9) rfl d_M_commit_52 ?_
    refine va_get (D := D) (ci := 0) (C := R_B) (T := T_B) (N := 3) hx hb hts in_B hown hK hP 3 x_hB rfl 2 (by decide) (hts _ gm_58) (fun _ h9 => h9) rfl d_M_commit_55 ?_
    refine x_top (show y 2 0 = nI sz from hzy) ?_
    refine lv_imul hx hb d_M_commit_58 ?_
    refine lv_bipush (v := 7) hx hb d_M_commit_59 (by decide) ?_
    refine lv_iadd hx hb d_M_commit_61 ?_
    refine x_top (show (3 * (nI sz)) + 7 = nI (3 * sz + 7) by rw [show (3 : Int32) * nI sz = nI (3 * sz) from x_nmul 3 sz]; exact x_nadd (3 * sz) 7) ?_
    refine lv_istore (lv' := [(4, .int (nI (3 * sz + 7))), (3, .int (nI k)), (0, .ref (ad 0)), (1, .int cut), (2, .int keep)]) hx hb d_M_commit_62 hl (by decide) rfl (fun ls hl => ?_)
    refine lv_iload_n hx hb d_M_commit_64 rfl (lv_at hl 3 rfl) ?_
    refine lv_if_lt (tgt := 78) hx hb d_M_commit_65 (by decide) (fun c11 => ?_) (fun c11 => ?_)
    · refine lv_iconst (v := 0) hx hb d_M_commit_78 (by decide) ?_
      refine lv_istore (lv' := [(5, .int 0), (4, .int (nI (3 * sz + 7))), (3, .int (nI k)), (0, .ref (ad 0)), (1, .int cut), (2, .int keep)]) hx hb d_M_commit_79 hl (by decide) rfl (fun ls hl => ?_)
      refine lv_iload hx hb d_M_commit_81 (lv_at hl 0 rfl) ?_
      refine lv_if_eq (tgt := 90) hx hb d_M_commit_83 (by decide) (fun c12 => ?_) (fun c12 => ?_)
      · refine lv_iload hx hb d_M_commit_90 (lv_at hl 1 rfl) ?_
        refine lv_istore (lv' := [(6, .int (nI (3 * sz + 7))), (5, .int 0), (4, .int (nI (3 * sz + 7))), (3, .int (nI k)), (0, .ref (ad 0)), (1, .int cut), (2, .int keep)]) hx hb d_M_commit_92 hl (by decide) rfl (fun ls hl => ?_)
        refine lv_iconst (v := 0) hx hb d_M_commit_94 (by decide) ?_
        refine lv_istore (lv' := [(7, .int 0), (6, .int (nI (3 * sz + 7))), (5, .int 0), (4, .int (nI (3 * sz + 7))), (3, .int (nI k)), (0, .ref (ad 0)), (1, .int cut), (2, .int keep)]) hx hb d_M_commit_95 hl (by decide) rfl (fun ls hl => ?_)
        exact lp0 (3 * sz + 7) 0 y (3 * sz + 7) H locs ls (by omega) (by omega) hzy hcy (by rw [hG]; simp only [x_comB, if_pos c11]) hP hD hS (lv_sub hl [0, 1, 2, 4, 5, 7] rfl)
      · exact (c12 (by decide)).elim
    · refine lv_iload_n hx hb d_M_commit_68 rfl (lv_at hl 3 rfl) ?_
      refine lv_iload hx hb d_M_commit_69 (lv_at hl 0 rfl) ?_
      refine lv_icmp_ge (tgt := 78) hx hb d_M_commit_71 (by decide) (fun c13 => ?_) (fun c13 => ?_)
      · refine lv_iconst (v := 0) hx hb d_M_commit_78 (by decide) ?_
        refine lv_istore (lv' := [(5, .int 0), (4, .int (nI (3 * sz + 7))), (3, .int (nI k)), (0, .ref (ad 0)), (1, .int cut), (2, .int keep)]) hx hb d_M_commit_79 hl (by decide) rfl (fun ls hl => ?_)
        refine lv_iload hx hb d_M_commit_81 (lv_at hl 0 rfl) ?_
        refine lv_if_eq (tgt := 90) hx hb d_M_commit_83 (by decide) (fun c14 => ?_) (fun c14 => ?_)
        · refine lv_iload hx hb d_M_commit_90 (lv_at hl 1 rfl) ?_
          refine lv_istore (lv' := [(6, .int (nI (3 * sz + 7))), (5, .int 0), (4, .int (nI (3 * sz + 7))), (3, .int (nI k)), (0, .ref (ad 0)), (1, .int cut), (2, .int keep)]) hx hb d_M_commit_92 hl (by decide) rfl (fun ls hl => ?_)
          refine lv_iconst (v := 0) hx hb d_M_commit_94 (by decide) ?_
          refine lv_istore (lv' := [(7, .int 0), (6, .int (nI (3 * sz + 7))), (5, .int 0), (4, .int (nI (3 * sz + 7))), (3, .int (nI k)), (0, .ref (ad 0)), (1, .int cut), (2, .int keep)]) hx hb d_M_commit_95 hl (by decide) rfl (fun ls hl => ?_)
          exact lp0 (3 * sz + 7) 0 y (3 * sz + 7) H locs ls (by omega) (by omega) hzy hcy (by rw [hG]; simp only [x_comB, if_neg c11, if_pos c13]) hP hD hS (lv_sub hl [0, 1, 2, 4, 5, 7] rfl)
        · exact (c14 (by decide)).elim
      · obtain ⟨d, hd, ed⟩ : ∃ d : Nat, d < 3 * sz + 7 ∧ cut = nI d := by
          rcases pk_ix cut (n := 3 * sz + 7) (by omega) with q | q | q
          · exact absurd q c11
          · exact absurd q c13
          · exact q
        subst ed
        refine lv_iconst (v := 1) hx hb d_M_commit_74 (by decide) ?_
        refine lv_goto (tgt := 79) hx hb d_M_commit_75 (by decide) ?_
        refine lv_istore (lv' := [(5, .int 1), (4, .int (nI (3 * sz + 7))), (3, .int (nI k)), (0, .ref (ad 0)), (1, .int (nI d)), (2, .int keep)]) hx hb d_M_commit_79 hl (by decide) rfl (fun ls hl => ?_)
        refine lv_iload hx hb d_M_commit_81 (lv_at hl 0 rfl) ?_
        refine lv_if_eq (tgt := 90) hx hb d_M_commit_83 (by decide) (fun c15 => ?_) (fun c15 => ?_)
        · exact absurd c15 (by decide)
        · refine lv_iload_n hx hb d_M_commit_86 rfl (lv_at hl 4 rfl) ?_
          refine lv_goto (tgt := 92) hx hb d_M_commit_87 (by decide) ?_
          refine lv_istore (lv' := [(6, .int (nI d)), (5, .int 1), (4, .int (nI (3 * sz + 7))), (3, .int (nI k)), (0, .ref (ad 0)), (1, .int (nI d)), (2, .int keep)]) hx hb d_M_commit_92 hl (by decide) rfl (fun ls hl => ?_)
          refine lv_iconst (v := 0) hx hb d_M_commit_94 (by decide) ?_
          refine lv_istore (lv' := [(7, .int 0), (6, .int (nI d)), (5, .int 1), (4, .int (nI (3 * sz + 7))), (3, .int (nI k)), (0, .ref (ad 0)), (1, .int (nI d)), (2, .int keep)]) hx hb d_M_commit_95 hl (by decide) rfl (fun ls hl => ?_)
          exact lp1 d 0 y d H locs ls (by omega) (by omega) hzy hcy (by rw [hG]; simp only [x_comB, if_neg c11, if_neg c13, nI_clamp (show d < 2 ^ 31 by omega)]) hP hD hS (lv_sub hl [0, 1, 2, 4, 5, 7] rfl)
  refine lv_aload_n hx hb d_M_commit_0 rfl (lv_at hl 0 rfl) ?_
  refine x_V (rest := []) ⟨hx, hb, hml, hown, hts⟩ (c_M_findPrimary_ok l D cI cN ad z) gm_183 gm_185 gm_0 gm_28 gm_186 ⟨rfl, rfl⟩ hd_M_findPrimary ⟨Nat.le_of_ble_eq_true rfl, Nat.le_of_ble_eq_true rfl⟩ hK hP hD hS hA (va_recv hK hP (ci := 4) (q0 := 0) rfl x_hM) rfl hl.1 rfl (Nat.le_of_ble_eq_true rfl) d_M_commit_1 ⟨Nat.le_of_ble_eq_true rfl, Nat.le_of_ble_eq_true rfl⟩ (fun H locs hP hD hS => ?_)
  refine lv_topi (fun r16 er16 => ?_)
  refine lv_istore_n (lv' := [(3, .int r16), (0, .ref (ad 0)), (1, .int cut), (2, .int keep)]) hx hb d_M_commit_4 rfl hl (by decide) rfl (fun ls hl => ?_)
  refine lv_iload_n hx hb d_M_commit_5 rfl (lv_at hl 0 rfl) ?_
  refine lv_iconst (v := 2) hx hb d_M_commit_6 (by decide) ?_
  refine lv_icmp_eq (tgt := 20) hx hb d_M_commit_7 (by decide) (fun c17 => ?_) (fun c17 => ?_)
  · refine lv_iconst (v := (-1)) hx hb d_M_commit_20 (by decide) ?_
    exact x_ri (w := x_w cI cN ad) (by subst er16; first | (simp only [x_commit, if_pos c17]; done) | rfl | (simp only [x_commit, if_pos c17]; rfl)) hx hb hr hlk hP hD hS d_M_commit_21
  · obtain ⟨k, hk, ek⟩ := x_findE er16 c17
    subst ek
    refine lv_aload_n hx hb d_M_commit_10 rfl (lv_at hl 1 rfl) ?_
    refine va_get (D := D) (ci := 4) (C := R_M) (T := T_M) (N := 7) hx hb hts in_M hown hK hP 0 x_hM rfl 2 (by decide) (hts _ gm_156) (fun _ h9 => h9) rfl d_M_commit_11 ?_
    refine va_get (D := D) (ci := 0) (C := R_B) (T := T_B) (N := 3) hx hb hts in_B hown hK hP 3 x_hB rfl 2 (by decide) (hts _ gm_58) (fun _ h9 => h9) rfl d_M_commit_14 ?_
    refine x_top (show z 2 0 = nI sz by exact hz) ?_
    refine lv_if_ne (tgt := 22) hx hb d_M_commit_17 (by decide) (fun c18 => ?_) (fun c18 => ?_)
    · have c18 : ¬ sz = 0 := fun h => c18 ((nI_eq (a := sz) (b := 0) (by omega) (by omega)).mpr h)
      refine lv_aload_n hx hb d_M_commit_22 rfl (lv_at hl 1 rfl) ?_
      refine lv_iload_n hx hb d_M_commit_23 rfl (lv_at hl 0 rfl) ?_
      refine x_V (rest := []) ⟨hx, hb, hml, hown, hts⟩ (c_M_isUnpaired_ok l D cI cN ad z k hk) gm_195 gm_197 gm_1 gm_28 gm_198 ⟨rfl, rfl⟩ hd_M_isUnpaired ⟨Nat.le_of_ble_eq_true rfl, Nat.le_of_ble_eq_true rfl⟩ hK hP hD hS hA (va_recv hK hP (ci := 4) (q0 := 0) rfl x_hM) rfl hl.1 rfl (Nat.le_of_ble_eq_true rfl) d_M_commit_24 ⟨Nat.le_of_ble_eq_true rfl, Nat.le_of_ble_eq_true rfl⟩ (fun H locs hP hD hS => ?_)
      refine lv_topi (fun r19 er19 => ?_)
      refine lv_if_eq (tgt := 50) hx hb d_M_commit_27 (by decide) (fun c20 => ?_) (fun c20 => ?_)
      · exact body z k hk _ _ ls hz hcell (by subst er19; simp only [x_commit, if_neg c17, if_neg c18, if_pos c20, ← er16, x_cl hk]) hP hD hS (lv_sub hl [0, 1, 2, 3] rfl)
      · refine lv_aload_n hx hb d_M_commit_30 rfl (lv_at hl 1 rfl) ?_
        refine va_get (D := D) (ci := 4) (C := R_M) (T := T_M) (N := 7) hx hb hts in_M hown hK hP 0 x_hM rfl 0 (by decide) (hts _ gm_154) (fun _ h9 => h9) rfl d_M_commit_31 ?_
        refine lv_iload_n hx hb d_M_commit_34 rfl (lv_at hl 0 rfl) ?_
        refine va_aldq (D := D) hx hb hK hP 1 1 x_hA rfl (x_in2 hk) d_M_commit_35 ?_
        refine x_topv (x_nf_at hk) ?_
        refine va_get (D := D) (ci := 2) (C := R_N) (T := T_N) (N := 8) hx hb hts in_N hown hK hP (6 + k) (x_hN hk) rfl 7 (by decide) (hts _ gm_104) (fun _ h9 => h9) rfl d_M_commit_36 ?_
        refine lv_if_ne (tgt := 45) hx hb d_M_commit_39 (by decide) (fun c21 => ?_) (fun c21 => ?_)
        · refine lv_aload_n hx hb d_M_commit_45 rfl (lv_at hl 1 rfl) ?_
          refine lv_iload_n hx hb d_M_commit_46 rfl (lv_at hl 0 rfl) ?_
          refine x_V (rest := []) ⟨hx, hb, hml, hown, hts⟩ (c_M_goAlone_ok l D cI cN ad z k hk) gm_199 gm_201 gm_2 gm_28 gm_202 ⟨rfl, rfl⟩ hd_M_goAlone ⟨Nat.le_of_ble_eq_true rfl, Nat.le_of_ble_eq_true rfl⟩ hK hP hD hS hA (va_recv hK hP (ci := 4) (q0 := 0) rfl x_hM) rfl hl.1 rfl (Nat.le_of_ble_eq_true rfl) d_M_commit_47 ⟨Nat.le_of_ble_eq_true rfl, Nat.le_of_ble_eq_true rfl⟩ (fun H locs hP hD hS => ?_)
          obtain ⟨z22, ez22⟩ : ∃ zt_ : x_S, zt_ = x_goAl z k := ⟨_, rfl⟩
          rw [← ez22] at hP hD
          exact body z22 k hk _ _ ls (by subst er19 ez22; rw [x_goAl_low (by decide) (by decide)]; exact hz) (by subst er19 ez22; rw [x_goAl_low (by decide) (by decide)]; exact hcell) (by subst er19 ez22; simp only [x_commit, if_neg c17, if_neg c18, if_neg c20, if_neg c21, ← er16, x_cl hk]) hP hD hS (lv_sub hl [0, 1, 2, 3] rfl)
        · refine lv_bipush (v := (-3)) hx hb d_M_commit_42 (by decide) ?_
          exact x_ri (w := x_w cI cN ad) (by subst er19; first | (simp only [x_commit, if_neg c17, if_neg c18, if_neg c20, if_pos c21, ← er16, x_cl hk]; done) | rfl | (simp only [x_commit, if_neg c17, if_neg c18, if_neg c20, if_pos c21, ← er16, x_cl hk]; rfl)) hx hb hr hlk hP hD hS d_M_commit_44
    · have c18 : sz = 0 := (nI_eq (a := sz) (b := 0) (by omega) (by omega)).mp c18
      refine lv_iconst (v := (-1)) hx hb d_M_commit_20 (by decide) ?_
      exact x_ri (w := x_w cI cN ad) (by first | (simp only [x_commit, if_neg c17, if_pos c18, ← er16, x_cl hk]; done) | rfl | (simp only [x_commit, if_neg c17, if_pos c18, ← er16, x_cl hk]; rfl)) hx hb hr hlk hP hD hS d_M_commit_21
set_option maxHeartbeats 4000000 in
set_option maxRecDepth 100000 in
theorem c_M_resync_ok (l : Launch) (D : va_G) (cI cN : ClassId) (ad : Nat → Nat) (z : x_S) (s0 : Nat) (hs0 : s0 < 2) (hs : z 0 3 = nI s0) (mm : Nat) (hmm : mm < 256) (hm : z (5 + s0) 5 = nI mm) (a : Int32) : x_C l y_M_resync c_M_resync 5 (some .int) { frames := 4, cells := 0, slots := 0, locals := 84 } D (x_ty cI cN) (x_w cI cN ad z) [.ref (ad 0), .int a] (some (.int (x_resync z a).1)) (x_w cI cN ad (x_resync z a).2) := by
  refine x_C.of (by decide) (Nat.le_of_ble_eq_true rfl) ?_
  intro p e s m below meth c hx hb hr hml hts hown hlk A hA hK hS hP hD ls hl
  have hown : s.vm.findClass R_M = some m.cls := hown
  have hl : lv_has ls 5 [(0, .ref (ad 0)), (1, .int a)] := hl
  have tail : ∀ (y : x_S) (s0 : Nat) (hs0 : s0 < 2) (H : Heap) (locs : List Loc) (ls : Array Slot) (cn : Nat), y 0 3 = nI s0 → x_resync z a = x_rsT y s0 → va_P D vwCl (x_w cI cN ad y) H → va_D A (x_w cI cN ad y) → va_S A s.heap H locs → lv_has ls 5 [(2, .ref (ad (6 + s0))), (0, .ref (ad 0)), (1, .int (nI cn))] → W p l e { frames := 4, cells := 0, slots := 0, locals := 84 } s m [.ref (ad 0), .int a].toArray below meth c H locs 0 0 (MQ below (x_Q (some (.int (x_resync z a).1)) D (x_w cI cN ad (x_resync z a).2) A) [.ref (ad 0), .int a].toArray s 0 0 A) (F0 m 79 ls []) := by
    intro y s0 hs0 H locs ls cn hsy hG hP hD hS hl
    refine lv_aload_n hx hb d_M_resync_79 rfl (lv_at hl 0 rfl) ?_
    refine va_get (D := D) (ci := 2) (C := R_N) (T := T_N) (N := 8) hx hb hts in_N hown hK hP (6 + s0) (x_hN hs0) rfl 6 (by decide) (hts _ gm_102) (fun _ h9 => h9) rfl d_M_resync_80 ?_
    refine x_T (rest := []) ⟨hx, hb, hml, hown, hts⟩ (c_J_bitCount_ok l D cI cN ad y (y (5 + s0) 5)) gm_311 gm_312 gm_36 gm_313 ⟨rfl, rfl⟩ hd_J_bitCount ⟨Nat.le_of_ble_eq_true rfl, Nat.le_of_ble_eq_true rfl⟩ hK hP hD hS hA rfl hl.1 rfl (Nat.le_of_ble_eq_true rfl) d_M_resync_83 ⟨Nat.le_of_ble_eq_true rfl, Nat.le_of_ble_eq_true rfl⟩ (fun H locs hP hD hS => ?_)
    refine lv_topi (fun r1 er1 => ?_)
    refine lv_istore_n (lv' := [(3, .int r1), (2, .ref (ad (6 + s0))), (0, .ref (ad 0)), (1, .int (nI cn))]) hx hb d_M_resync_86 rfl hl (by decide) rfl (fun ls hl => ?_)
    refine lv_iload_n hx hb d_M_resync_87 rfl (lv_at hl 0 rfl) ?_
    refine lv_if_ne (tgt := 95) hx hb d_M_resync_88 (by decide) (fun c2 => ?_) (fun c2 => ?_)
    · refine lv_iload_n hx hb d_M_resync_95 rfl (lv_at hl 0 rfl) ?_
      exact x_ri (w := x_w cI cN ad) (by subst er1; rw [hG]; simp only [x_rsT, if_neg c2]) hx hb hr hlk hP hD hS d_M_resync_96
    · refine lv_aload_n hx hb d_M_resync_91 rfl (lv_at hl 2 rfl) ?_
      refine x_V (rest := []) ⟨hx, hb, hml, hown, hts⟩ (c_M_finishSync_ok l D cI cN ad y s0 hs0 (by subst er1; first | exact hsy | (rw [x_up_row (by omega)]; exact hsy))) gm_303 gm_305 gm_11 gm_28 gm_306 ⟨rfl, rfl⟩ hd_M_finishSync ⟨Nat.le_of_ble_eq_true rfl, Nat.le_of_ble_eq_true rfl⟩ hK hP hD hS hA (va_recv hK hP (ci := 4) (q0 := 0) rfl x_hM) rfl hl.1 rfl (Nat.le_of_ble_eq_true rfl) d_M_resync_92 ⟨Nat.le_of_ble_eq_true rfl, Nat.le_of_ble_eq_true rfl⟩ (fun H locs hP hD hS => ?_)
      obtain ⟨z3, ez3⟩ : ∃ zt_ : x_S, zt_ = x_fin y s0 := ⟨_, rfl⟩
      rw [← ez3] at hP hD
      refine lv_iload_n hx hb d_M_resync_95 rfl (lv_at hl 0 rfl) ?_
      exact x_ri (w := x_w cI cN ad) (by subst er1 ez3; rw [hG]; simp only [x_rsT, if_pos c2]) hx hb hr hlk hP hD hS d_M_resync_96
  have lp : ∀ (n i : Nat) (y : x_S) (mm s0 cn : Nat) (hs0 : s0 < 2) (H : Heap) (locs : List Loc) (ls : Array Slot), i + n = cn → cn ≤ 4 → mm < 256 → y 0 3 = nI s0 → y (5 + s0) 5 = nI mm → x_resync z a = x_rsT (x_rsL s0 n y) s0 → va_P D vwCl (x_w cI cN ad y) H → va_D A (x_w cI cN ad y) → va_S A s.heap H locs → lv_has ls 5 [(3, .int (nI i)), (2, .ref (ad (6 + s0))), (0, .ref (ad 0)), (1, .int (nI cn))] → W p l e { frames := 4, cells := 0, slots := 0, locals := 84 } s m [.ref (ad 0), .int a].toArray below meth c H locs 0 0 (MQ below (x_Q (some (.int (x_resync z a).1)) D (x_w cI cN ad (x_resync z a).2) A) [.ref (ad 0), .int a].toArray s 0 0 A) (F0 m 31 ls []) := by
    intro n
    induction n with
    | zero =>
      intro i y mm s0 cn hs0 H locs ls hn hcn hmm hsy hmy hI hP hD hS hl
      refine lv_iload_n hx hb d_M_resync_31 rfl (lv_at hl 0 rfl) ?_
      refine lv_iload_n hx hb d_M_resync_32 rfl (lv_at hl 3 rfl) ?_
      refine lv_icmp_ge (tgt := 79) hx hb d_M_resync_33 (by decide) (fun c4 => ?_) (fun c4 => ?_)
      · have c4 : cn ≤ i := (nI_leI (a := cn) (b := i) (by omega) (by omega)).mp c4
        exact tail y s0 hs0 H locs ls cn hsy (by rw [hI]; simp only [x_rsL, if_pos c4]) hP hD hS (lv_sub hl [1, 2, 3] rfl)
      · have c4 : ¬ cn ≤ i := fun h => c4 ((nI_leI (a := cn) (b := i) (by omega) (by omega)).mpr h)
        exact absurd (show cn ≤ i by omega) c4
    | succ n ih =>
      intro i y mm s0 cn hs0 H locs ls hn hcn hmm hsy hmy hI hP hD hS hl
      refine lv_iload_n hx hb d_M_resync_31 rfl (lv_at hl 0 rfl) ?_
      refine lv_iload_n hx hb d_M_resync_32 rfl (lv_at hl 3 rfl) ?_
      refine lv_icmp_ge (tgt := 79) hx hb d_M_resync_33 (by decide) (fun c5 => ?_) (fun c5 => ?_)
      · have c5 : cn ≤ i := (nI_leI (a := cn) (b := i) (by omega) (by omega)).mp c5
        exact absurd c5 (by omega)
      · have c5 : ¬ cn ≤ i := fun h => c5 ((nI_leI (a := cn) (b := i) (by omega) (by omega)).mpr h)
        refine lv_aload_n hx hb d_M_resync_36 rfl (lv_at hl 1 rfl) ?_
        refine va_get (D := D) (ci := 2) (C := R_N) (T := T_N) (N := 8) hx hb hts in_N hown hK hP (6 + s0) (x_hN hs0) rfl 6 (by decide) (hts _ gm_102) (fun _ h9 => h9) rfl d_M_resync_37 ?_
        refine lv_if_eq (tgt := 79) hx hb d_M_resync_40 (by decide) (fun c6 => ?_) (fun c6 => ?_)
        · exact tail y s0 hs0 H locs ls cn hsy (by rw [hI]; simp only [x_rsL, if_neg c5, if_pos c6]) hP hD hS (lv_sub hl [1, 2, 3] rfl)
        · have hm0 : 0 < mm := Nat.pos_of_ne_zero (fun q => by rw [q] at hmy; exact c6 hmy)
          refine lv_aload_n hx hb d_M_resync_43 rfl (lv_at hl 1 rfl) ?_
          refine va_get (D := D) (ci := 2) (C := R_N) (T := T_N) (N := 8) hx hb hts in_N hown hK hP (6 + s0) (x_hN hs0) rfl 6 (by decide) (hts _ gm_102) (fun _ h9 => h9) rfl d_M_resync_44 ?_
          refine x_T (rest := []) ⟨hx, hb, hml, hown, hts⟩ (c_J_numberOfTrailingZeros_ok l D cI cN ad y (y (5 + s0) 5)) gm_321 gm_322 gm_36 gm_323 ⟨rfl, rfl⟩ hd_J_numberOfTrailingZeros ⟨Nat.le_of_ble_eq_true rfl, Nat.le_of_ble_eq_true rfl⟩ hK hP hD hS hA rfl hl.1 rfl (Nat.le_of_ble_eq_true rfl) d_M_resync_47 ⟨Nat.le_of_ble_eq_true rfl, Nat.le_of_ble_eq_true rfl⟩ (fun H locs hP hD hS => ?_)
          refine lv_topi (fun r7 er7 => ?_)
          have en : r7 = nI (x_low mm) := by rw [er7, hmy]; exact x_ntz_low mm hmm (by omega)
          subst en
          refine lv_istore (lv' := [(4, .int (nI (x_low mm))), (3, .int (nI i)), (2, .ref (ad (6 + s0))), (0, .ref (ad 0)), (1, .int (nI cn))]) hx hb d_M_resync_50 hl (by decide) rfl (fun ls hl => ?_)
          refine lv_aload_n hx hb d_M_resync_52 rfl (lv_at hl 2 rfl) ?_
          refine lv_dup hx hb d_M_resync_53 rfl ?_
          refine va_get (D := D) (ci := 2) (C := R_N) (T := T_N) (N := 8) hx hb hts in_N hown hK hP (6 + s0) (x_hN hs0) rfl 6 (by decide) (hts _ gm_102) (fun _ h9 => h9) rfl d_M_resync_54 ?_
          refine lv_iconst (v := 1) hx hb d_M_resync_57 (by decide) ?_
          refine lv_iload hx hb d_M_resync_58 (lv_at hl 0 rfl) ?_
          refine lv_ishl hx hb d_M_resync_60 ?_
          refine lv_iconst (v := (-1)) hx hb d_M_resync_61 (by decide) ?_
          refine lv_ixor hx hb d_M_resync_62 ?_
          refine lv_iand hx hb d_M_resync_63 ?_
          refine va_put (D := D) (ci := 2) (v := .int ((y (5 + s0) 5) &&& ((1 <<< (nI (x_low mm) &&& 31)) ^^^ (-1)))) (ty := .int) (C := R_N) (T := T_N) (N := 8) hx hb hts in_N fy_N fy_N_ok n_N hown hK hP hD hS (6 + s0) (x_hN hs0) rfl 6 (by decide) (hts _ gm_102) (fun _ h9 => h9) rfl (by decide +kernel) rfl rfl (Nat.le_of_ble_eq_true rfl) d_M_resync_64 (fun H locs hP hD hS => ?_)
          obtain ⟨z8, ez8⟩ : ∃ zt_ : x_S, zt_ = x_up y (5 + s0) 5 ((y (5 + s0) 5) &&& ((1 <<< (nI (x_low mm) &&& 31)) ^^^ (-1))) := ⟨_, rfl⟩
          have hP : va_P D vwCl (x_w cI cN ad z8) H := by rw [ez8, ← x_sN (i := 5) hs0 (by decide) ((y (5 + s0) 5) &&& ((1 <<< (nI (x_low mm) &&& 31)) ^^^ (-1)))]; exact hP
          have hD : va_D A (x_w cI cN ad z8) := by rw [ez8, ← x_sN (i := 5) hs0 (by decide) ((y (5 + s0) 5) &&& ((1 <<< (nI (x_low mm) &&& 31)) ^^^ (-1)))]; exact hD
          refine lv_aload_n hx hb d_M_resync_67 rfl (lv_at hl 3 rfl) ?_
          refine lv_iload hx hb d_M_resync_68 (lv_at hl 0 rfl) ?_
          refine x_V (rest := []) ⟨hx, hb, hml, hown, hts⟩ (c_M_copyExtent_ok l D cI cN ad z8 s0 hs0 (by subst ez8; first | exact hsy | (rw [x_up_row (by omega)]; exact hsy)) (x_low mm) (x_low_lt mm)) gm_325 gm_327 gm_13 gm_28 gm_328 ⟨rfl, rfl⟩ hd_M_copyExtent ⟨Nat.le_of_ble_eq_true rfl, Nat.le_of_ble_eq_true rfl⟩ hK hP hD hS hA (va_recv hK hP (ci := 4) (q0 := 0) rfl x_hM) rfl hl.1 rfl (Nat.le_of_ble_eq_true rfl) d_M_resync_70 ⟨Nat.le_of_ble_eq_true rfl, Nat.le_of_ble_eq_true rfl⟩ (fun H locs hP hD hS => ?_)
          obtain ⟨z9, ez9⟩ : ∃ zt_ : x_S, zt_ = x_cp z8 s0 (x_low mm) := ⟨_, rfl⟩
          rw [← ez9] at hP hD
          refine lv_iinc (v := nI (i + 1)) (lv' := [(3, .int (nI (i + 1))), (4, .int (nI (x_low mm))), (2, .ref (ad (6 + s0))), (0, .ref (ad 0)), (1, .int (nI cn))]) hx hb d_M_resync_73 hl (k := 1) rfl (nI_1 _) (by decide) rfl (fun ls hl => ?_)
          refine lv_goto (tgt := 31) hx hb d_M_resync_76 (by decide) ?_
          exact ih (i + 1) z9 (mm - 2 ^ x_low mm) s0 cn hs0 H locs ls (by omega) hcn (Nat.lt_of_le_of_lt (Nat.sub_le _ _) hmm) (by have hzq : z9 = x_rsB y s0 := by { subst ez8 ez9; simp only [x_rsB, ← er7, nI_clamp (show x_low mm < 2 ^ 31 by have := x_low_lt mm; omega)] }; rw [hzq]; exact (congrFun (x_rsB_0 hs0) 3).trans hsy) (by have hzq : z9 = x_rsB y s0 := by { subst ez8 ez9; simp only [x_rsB, ← er7, nI_clamp (show x_low mm < 2 ^ 31 by have := x_low_lt mm; omega)] }; rw [hzq]; exact x_rsB_m hs0 hmm hm0 hmy) (by have hzq : z9 = x_rsB y s0 := by { subst ez8 ez9; simp only [x_rsB, ← er7, nI_clamp (show x_low mm < 2 ^ 31 by have := x_low_lt mm; omega)] }; rw [hI, hzq]; simp only [x_rsL, if_neg c6]) hP hD hS (lv_sub hl [0, 2, 3, 4] rfl)
  refine lv_iload_n hx hb d_M_resync_0 rfl (lv_at hl 1 rfl) ?_
  refine lv_iconst (v := 1) hx hb d_M_resync_1 (by decide) ?_
  refine lv_icmp_lt (tgt := 17) hx hb d_M_resync_2 (by decide) (fun c10 => ?_) (fun c10 => ?_)
  · refine lv_iconst (v := (-1)) hx hb d_M_resync_17 (by decide) ?_
    exact x_ri (w := x_w cI cN ad) (by first | (simp only [x_resync, if_pos c10]; done) | rfl | (simp only [x_resync, if_pos c10]; rfl)) hx hb hr hlk hP hD hS d_M_resync_18
  · refine lv_iload_n hx hb d_M_resync_5 rfl (lv_at hl 1 rfl) ?_
    refine lv_iconst (v := 4) hx hb d_M_resync_6 (by decide) ?_
    refine lv_icmp_gt (tgt := 17) hx hb d_M_resync_7 (by decide) (fun c11 => ?_) (fun c11 => ?_)
    · refine lv_iconst (v := (-1)) hx hb d_M_resync_17 (by decide) ?_
      exact x_ri (w := x_w cI cN ad) (by first | (simp only [x_resync, if_neg c10, if_pos c11]; done) | rfl | (simp only [x_resync, if_neg c10, if_pos c11]; rfl)) hx hb hr hlk hP hD hS d_M_resync_18
    · obtain ⟨cn, hc1, hc4, ecn⟩ := x_oneTo4 c10 c11
      subst ecn
      refine lv_aload_n hx hb d_M_resync_10 rfl (lv_at hl 0 rfl) ?_
      refine va_get (D := D) (ci := 4) (C := R_M) (T := T_M) (N := 7) hx hb hts in_M hown hK hP 0 x_hM rfl 5 (by decide) (hts _ gm_159) (fun _ h9 => h9) rfl d_M_resync_11 ?_
      refine lv_if_ne (tgt := 19) hx hb d_M_resync_14 (by decide) (fun c12 => ?_) (fun c12 => ?_)
      · refine lv_aload_n hx hb d_M_resync_19 rfl (lv_at hl 0 rfl) ?_
        refine va_get (D := D) (ci := 4) (C := R_M) (T := T_M) (N := 7) hx hb hts in_M hown hK hP 0 x_hM rfl 0 (by decide) (hts _ gm_154) (fun _ h9 => h9) rfl d_M_resync_20 ?_
        refine lv_aload_n hx hb d_M_resync_23 rfl (lv_at hl 0 rfl) ?_
        refine va_get (D := D) (ci := 4) (C := R_M) (T := T_M) (N := 7) hx hb hts in_M hown hK hP 0 x_hM rfl 6 (by decide) (hts _ gm_160) (fun _ h9 => h9) rfl d_M_resync_24 ?_
        refine x_top (show z 0 3 = nI s0 from hs) ?_
        refine va_aldq (D := D) hx hb hK hP 1 1 x_hA rfl (x_in2 hs0) d_M_resync_27 ?_
        refine x_topv (x_nf_at hs0) ?_
        refine lv_astore_n (lv' := [(2, .ref (ad (6 + s0))), (0, .ref (ad 0)), (1, .int (nI cn))]) hx hb d_M_resync_28 rfl hl (by decide) rfl (fun ls hl => ?_)
        refine lv_iconst (v := 0) hx hb d_M_resync_29 (by decide) ?_
        refine lv_istore_n (lv' := [(3, .int 0), (2, .ref (ad (6 + s0))), (0, .ref (ad 0)), (1, .int (nI cn))]) hx hb d_M_resync_30 rfl hl (by decide) rfl (fun ls hl => ?_)
        exact lp cn 0 z mm s0 cn hs0 _ _ ls (by omega) hc4 hmm hs hm (by simp only [x_resync, if_neg c10, if_neg c11, if_neg c12, nI_clamp (show cn < 2 ^ 31 by omega), hs, x_cl hs0]) hP hD hS (lv_sub hl [0, 1, 2, 3] rfl)
      · refine lv_iconst (v := (-1)) hx hb d_M_resync_17 (by decide) ?_
        exact x_ri (w := x_w cI cN ad) (by first | (simp only [x_resync, if_neg c10, if_neg c11, if_pos c12, nI_clamp (show cn < 2 ^ 31 by omega)]; done) | rfl | (simp only [x_resync, if_neg c10, if_neg c11, if_pos c12, nI_clamp (show cn < 2 ^ 31 by omega)]; rfl)) hx hb hr hlk hP hD hS d_M_resync_18
