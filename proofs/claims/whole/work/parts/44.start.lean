-- ===== 44.start: the law's loop, and the law from its entry
set_option maxHeartbeats 4000000 in
set_option maxRecDepth 100000 in
theorem law_loop {p : Program} {l : Launch} {e : Env} {s : State} {m : MethodId} {below : List Frame} {meth : Method} {c : Code} {D : va_G} {cI cN cZ : ClassId} {ad kd : Nat → Nat} {b L : Nat} {xs : Nat → Int32} (hL : L ≤ 2049) (C0 : lw_At p s m meth c b L xs) (hKx : va_K D vwCl (x_ty cI cN) s) (hKk : va_K D vwCl (k_ty cI cZ) s) :
    ∀ (n i : Nat), L + 1 ≤ i + n → i ≤ 3000 → ∀ (z y : x_S), r_I z → r_A z y → ∀ (H : Heap) (locs : List Loc) (ls : Array Slot), va_P D vwCl (x_w cI cN ad z ++ k_w cI cZ kd y) H → va_D (fun q : Nat => s.heap.size ≤ q) (x_w cI cN ad z ++ k_w cI cZ kd y) → va_S (fun q : Nat => s.heap.size ≤ q) s.heap H locs → lv_has ls 4 [(3, .int (nI i)), (2, .ref (kd 0)), (1, .ref (ad 0)), (0, .ref b)] → W p l e room_1 s m #[Value.ref b] below meth c H locs 26 404 (lw_Z below #[Value.ref b] s) (F0 m 28 ls []) := by
  obtain ⟨hx, hb, hr, hml, hown, hts, hX, hbl, hlocks, hgv⟩ := C0
  have hb : c.code = c_L_law := hb
  have hown : s.vm.findClass R_L = some m.cls := hown
  have htg : ∀ w ∈ gT, w.before #[Value.ref b] s = true := fun w h => hts w (gT_in w h)
  have hbA : ¬ (fun q : Nat => s.heap.size ≤ q) b := Nat.not_le.mpr hbl
  intro n
  induction n with
  | zero =>
    intro i hn hi z y hI hA H locs ls hP hD hS hl
    -- i is beyond the script
    refine lv_iload_n hx hb d_L_law_28 rfl (lv_at hl 0 rfl) ?_
    refine lv_aload_n hx hb d_L_law_29 rfl (lv_at hl 3 rfl) ?_
    refine va_slen hx hb hX hbl hbA hS d_L_law_30 ?_
    refine lv_iconst (v := 4) hx hb d_L_law_31 (by decide) ?_
    refine lv_isub hx hb d_L_law_32 ?_
    refine lv_icmp_gt (tgt := 647) hx hb d_L_law_33 (by decide) (fun c1 => ?_) (fun c1 => ?_)
    · refine lv_iconst (v := 1) hx hb d_L_law_647 (by decide) ?_
      refine va_forget (fun q hq => hS.2.2 q hq) ?_
      exact lw_ret hx hb hr hlocks d_L_law_648
    · exfalso
      apply c1
      rw [Int32.lt_iff_toInt_lt, show (Int32.ofNat L - 4).toInt = (L : Int) - 4 from pk_sub_toInt (a := L) (b := 4) (by omega) (by decide), nI_toInt (by omega)]
      omega
  | succ n ih =>
    intro i hn hi z y hI hA H locs ls hP hD hS hl
    refine lv_iload_n hx hb d_L_law_28 rfl (lv_at hl 0 rfl) ?_
    refine lv_aload_n hx hb d_L_law_29 rfl (lv_at hl 3 rfl) ?_
    refine va_slen hx hb hX hbl hbA hS d_L_law_30 ?_
    refine lv_iconst (v := 4) hx hb d_L_law_31 (by decide) ?_
    refine lv_isub hx hb d_L_law_32 ?_
    refine lv_icmp_gt (tgt := 647) hx hb d_L_law_33 (by decide) (fun c1 => ?_) (fun c1 => ?_)
    · refine lv_iconst (v := 1) hx hb d_L_law_647 (by decide) ?_
      refine va_forget (fun q hq => hS.2.2 q hq) ?_
      exact lw_ret hx hb hr hlocks d_L_law_648
    · have hiL : i + 4 ≤ L := by
        rw [Int32.lt_iff_toInt_lt, show (Int32.ofNat L - 4).toInt = (L : Int) - 4 from pk_sub_toInt (a := L) (b := 4) (by omega) (by decide), nI_toInt (by omega)] at c1
        omega
      refine law_step hx hb hml hown htg hX hbl hL hiL hKx hKk hI hA hP hD hS hl ?_
      intro z y H locs ls hI hA hP hD hS hl
      refine lv_iinc (v := nI (i + 4)) (lv' := [(3, .int (nI (i + 4))), (2, .ref (kd 0)), (1, .ref (ad 0)), (0, .ref b)]) hx hb d_L_law_641 hl (k := 0) rfl (x_nadd i 4) (by decide) rfl (fun ls hl => ?_)
      refine lv_goto (tgt := 28) hx hb d_L_law_644 (by decide) ?_
      exact ih (i + 4) (by omega) (by omega) z y hI hA H locs ls hP hD hS hl
def l_ad (q0 q1 q2 q3 q4 q5 q6 q7 q8 q9 q10 q11 q12 q13 : Nat) : Nat → Nat := fun i => match i with
  | 0 => q0 | 1 => q1 | 2 => q2 | 3 => q3 | 4 => q4 | 5 => q5 | 6 => q6 | 7 => q7 | 8 => q8 | 9 => q9 | 10 => q10 | 11 => q11 | 12 => q12 | _ => q13
def l_kd (q0 q1 q2 q3 q4 q5 q6 q7 q8 q9 q10 q11 : Nat) : Nat → Nat := fun i => match i with
  | 0 => q0 | 1 => q1 | 2 => q2 | 3 => q3 | 4 => q4 | 5 => q5 | 6 => q6 | 7 => q7 | 8 => q8 | 9 => q9 | 10 => q10 | _ => q11
set_option maxHeartbeats 8000000 in
set_option maxRecDepth 100000 in
/-- THE LAW, from its entry -/
theorem whole_start {p : Program} {e : Env} {s : State} {m : MethodId} {below : List Frame} {meth : Method} {c : Code} (l : Launch) {b L : Nat} {xs : Nat → Int32} (hL : L ≤ 2049) (C0 : lw_At p s m meth c b L xs) : W p l e room_1 s m #[Value.ref b] below meth c s.heap [] 0 0 (lw_Z below #[Value.ref b] s) (entryFrame m ([Value.ref b] : List Value).toArray 4) := by
  obtain ⟨hx, hb, hr, hml, hown, htl, hX, hbl, hlocks, hgv⟩ := id C0
  have hb : c.code = c_L_law := hb
  have hown : s.vm.findClass R_L = some m.cls := hown
  have hts : ∀ w ∈ gT, w.before #[Value.ref b] s = true := fun w h => htl w (gT_in w h)
  have hA : ∀ q : Nat, s.heap.size ≤ q → (fun q : Nat => s.heap.size ≤ q) q := fun _ h => h
  have hbA : ¬ (fun q : Nat => s.heap.size ≤ q) b := Nat.not_le.mpr hbl
  obtain ⟨c0, iS0, hKn0⟩ := u_known (C := R_B) (T := T_B) (N := 3) (n := 3) hts in_B (hts _ gm_48)
  obtain ⟨c1, iS1, hKn1⟩ := u_known (C := R_D) (T := T_D) (N := 3) (n := 3) hts in_D (hts _ gm_73)
  obtain ⟨c2, iS2, hKn2⟩ := u_known (C := R_N) (T := T_N) (N := 8) (n := 8) hts in_N (hts _ gm_67)
  obtain ⟨c3, iS3, hKn3⟩ := u_known (C := R_T) (T := T_T) (N := 5) (n := 5) hts in_T (hts _ gm_123)
  obtain ⟨c4, iS4, hKn4⟩ := u_known (C := R_M) (T := T_M) (N := 7) (n := 7) hts in_M (hts _ gm_38)
  obtain ⟨c5, iS5, hKn5⟩ := u_known (C := R_K) (T := T_K) (N := 21) (n := 21) hts in_K (hts _ gm_395)
  obtain ⟨D, hKc⟩ : ∃ D : va_G, ∀ (k : Nat) (q : vw_C), vwCl[k]? = some q → u_Kn s q.1 q.2.1 q.2.2 (D.1 k) (D.2 k) := by
    refine ⟨(fun k => if k = 0 then c0 else if k = 1 then c1 else if k = 2 then c2 else if k = 3 then c3 else if k = 4 then c4 else c5, fun k => if k = 0 then iS0 else if k = 1 then iS1 else if k = 2 then iS2 else if k = 3 then iS3 else if k = 4 then iS4 else iS5), ?_⟩
    intro k q hq
    match k, hq with
    | 0, hq => cases hq; exact hKn0
    | 1, hq => cases hq; exact hKn1
    | 2, hq => cases hq; exact hKn2
    | 3, hq => cases hq; exact hKn3
    | 4, hq => cases hq; exact hKn4
    | 5, hq => cases hq; exact hKn5
    | k + 6, hq => simp [vwCl] at hq
  obtain ⟨cI, kI, comI, i1, i2, i3⟩ := Cond.arrayClass_spec (hts _ gm_66)
  obtain ⟨cZ, kZ, comZ, z1, z2, z3⟩ := Cond.arrayClass_spec (hts _ gm_464)
  have hao : va_AO R_N s := va_AO.of (htl (.arrayOver (.object R_N)) (List.mem_append_right _ (List.mem_append_left _ (List.mem_of_getElem? (i := 19) rfl))))
  obtain ⟨comN, cN, kN, n1, n2, n3, n4, n5⟩ := Cond.arrayOver_spec hao
  have hK : va_K D vwCl [(cI, .int), (cN, .object R_N), (cZ, .boolean)] s := by
    refine ⟨hKc, fun k q h => ?_⟩
    match k, h with
    | 0, h => cases h; exact ⟨fun n z => ⟨fun k h => (by cases h), kI, i2, comI, i3⟩, i1⟩
    | 1, h => cases h; exact ⟨fun n z => ⟨fun k h => (by cases h), kN, n3, comN, n4⟩, kN, comN, n3, n4, n1, n5⟩
    | 2, h => cases h; exact ⟨fun n z => ⟨fun k h => (by cases h), kZ, z2, comZ, z3⟩, z1⟩
    | k + 3, h => simp at h
  have hE : n_E [.methodLinkNest R_M 17 y_B_init R_M, .methodLinkNest R_M 36 y_N_init R_M, .methodLinkNest R_N 9 y_D_init R_M] [R_N] s := by
    refine ⟨fun x hx => ?_, fun n hn => by rcases List.mem_cons.mp hn with rfl | h; exact hao; simp at h⟩
    rcases List.mem_cons.mp hx with rfl | hx
    · exact ⟨rfl, va_Nw.of rfl (htl _ (List.mem_append_right _ (List.mem_append_left _ (List.mem_of_getElem? (i := 22) rfl))))⟩
    rcases List.mem_cons.mp hx with rfl | hx
    · exact ⟨rfl, va_Nw.of rfl (htl _ (List.mem_append_right _ (List.mem_append_left _ (List.mem_of_getElem? (i := 41) rfl))))⟩
    rcases List.mem_cons.mp hx with rfl | hx
    · exact ⟨rfl, va_Nw.of rfl (htl _ (List.mem_append_right _ (List.mem_append_left _ (List.mem_of_getElem? (i := 47) rfl))))⟩
    · simp at hx
  have hS : va_S (fun q : Nat => s.heap.size ≤ q) s.heap s.heap [] := va_S.rf
  have hP : va_P D vwCl [] s.heap := fun k q h => by simp at h
  have hD : va_D (fun q : Nat => s.heap.size ≤ q) [] := ⟨fun i j p q h => by simp at h, fun k q h => by simp at h⟩
  have hl := lv_entry ([.ref b]) (n := 4) (Nat.le_of_ble_eq_true rfl)
  rw [lg_entry_eq]
  generalize (lg_sl ([.ref b]) ++ List.replicate (4 - (lg_sl ([.ref b])).length) Slot.unset).toArray = ls at hl ⊢
  have hl : lv_has ls 4 [(0, .ref b)] := hl
  refine va_new (ci := 4) (fs := [.null, .null, .null, .int 0, .int 0, .int 0, .int 0]) (C := R_M) (T := T_M) (N := 7) hx hb hts in_M fy_M fy_M_ok hown (hts _ gm_37) (hts _ gm_38) (hts _ gm_28) hK hP hD hS hA rfl (fun j hj => by rcases (show j = 0 ∨ j = 1 ∨ j = 2 ∨ j = 3 ∨ j = 4 ∨ j = 5 ∨ j = 6 by omega) with rfl | rfl | rfl | rfl | rfl | rfl | rfl <;> rfl) (Nat.le_of_ble_eq_true rfl) (Nat.le_of_ble_eq_true rfl) d_L_law_0 (fun q1 H hP hD hS => ?_)
  have hP : va_P D vwCl [(q1, .inr (4, [.null, .null, .null, .int 0, .int 0, .int 0, .int 0]))] H := hP
  have hD : va_D (fun q : Nat => s.heap.size ≤ q) [(q1, .inr (4, [.null, .null, .null, .int 0, .int 0, .int 0, .int 0]))] := hD
  refine lv_dup hx hb d_L_law_3 rfl ?_
  refine lv_aload_n hx hb d_L_law_4 rfl (lv_at hl 0 rfl) ?_
  refine lv_iconst (v := 0) hx hb d_L_law_5 (by decide) ?_
  refine l_S (As := [.ref b, .int 0]) (rest := [.ref q1, .ref q1]) (Pc := l_Pc b L xs) ⟨hx, hb, hml, hown, hts⟩ (c_L_cell_ok l D b L xs) gm_391 gm_392 gm_27 gm_393 ⟨rfl, rfl⟩ hd_L_cell ⟨Nat.le_of_ble_eq_true rfl, Nat.le_of_ble_eq_true rfl⟩ l_Pc_blind (fun U hU hW => ⟨rfl, by rw [hU]; exact (hX.kept (hS.2.1 b hbl hbA)).moved hW.alike, by rw [hU]; exact Nat.lt_of_lt_of_le hbl hS.1, by omega⟩) hP hD hS hA rfl hl.1 rfl (Nat.le_of_ble_eq_true rfl) d_L_law_6 ⟨Nat.le_of_ble_eq_true rfl, Nat.le_of_ble_eq_true rfl⟩ (fun H locs hP hS => ?_)
  refine n_I (n := 1) (rest := [.ref q1]) (wr := []) ⟨hx, hb, hml, hown, hts⟩ (n_M_init l D cI cN cZ q1 (l_first L xs)) gm_39 gm_40 gm_28 gm_41 ⟨rfl, rfl⟩ rfl (by decide +kernel) ⟨Nat.le_of_ble_eq_true rfl, Nat.le_of_ble_eq_true rfl⟩ hK hE hP hD hS hA [0] [] rfl rfl rfl rfl rfl (by decide) rfl hl.1 rfl (Nat.le_of_ble_eq_true rfl) d_L_law_9 ⟨Nat.le_of_ble_eq_true rfl, Nat.le_of_ble_eq_true rfl⟩ (fun w1 H locs hB hP hD hS => ?_)
  obtain ⟨q2, q3, q4, q5, q6, q7, q8, q9, q10, q11, q12, q13, q14, rfl⟩ := hB
  have hP : va_P D vwCl [(q1, .inr (4, [.ref q2, .ref q14, .ref q3, .int 1, .int 1, .int 0, .int 0])), (q2, .inl (cN, 2, .inr (.inr (.inr (.inr (va_up (va_up (fun _ => none) 0 (some q6)) 1 (some q10))))))), (q3, .inr (0, [.ref q4, .ref q5, .int 0])), (q4, .inl (cI, 3, .inl (fun _ => 0))), (q5, .inl (cI, 3, .inl (fun _ => 0))), (q6, .inr (2, [.ref q7, .int 1, .int 0, .int 1, .int 0, .int 0, .int 0, .int 1])), (q7, .inr (1, [.ref q8, .ref q9, .int 0])), (q8, .inl (cI, 32, .inl (fun _ => 0))), (q9, .inl (cI, 32, .inl (fun _ => 0))), (q10, .inr (2, [.ref q11, .int 1, .int 0, .int 1, .int 0, .int 0, .int 0, .int 1])), (q11, .inr (1, [.ref q12, .ref q13, .int 0])), (q12, .inl (cI, 32, .inl (fun _ => 0))), (q13, .inl (cI, 32, .inl (fun _ => 0))), (q14, .inr (3, [.int (x_len (l_first L xs)), .int 1, .int 0, .int 2, .int 0]))] H := hP
  have hD : va_D (fun q : Nat => s.heap.size ≤ q) [(q1, .inr (4, [.ref q2, .ref q14, .ref q3, .int 1, .int 1, .int 0, .int 0])), (q2, .inl (cN, 2, .inr (.inr (.inr (.inr (va_up (va_up (fun _ => none) 0 (some q6)) 1 (some q10))))))), (q3, .inr (0, [.ref q4, .ref q5, .int 0])), (q4, .inl (cI, 3, .inl (fun _ => 0))), (q5, .inl (cI, 3, .inl (fun _ => 0))), (q6, .inr (2, [.ref q7, .int 1, .int 0, .int 1, .int 0, .int 0, .int 0, .int 1])), (q7, .inr (1, [.ref q8, .ref q9, .int 0])), (q8, .inl (cI, 32, .inl (fun _ => 0))), (q9, .inl (cI, 32, .inl (fun _ => 0))), (q10, .inr (2, [.ref q11, .int 1, .int 0, .int 1, .int 0, .int 0, .int 0, .int 1])), (q11, .inr (1, [.ref q12, .ref q13, .int 0])), (q12, .inl (cI, 32, .inl (fun _ => 0))), (q13, .inl (cI, 32, .inl (fun _ => 0))), (q14, .inr (3, [.int (x_len (l_first L xs)), .int 1, .int 0, .int 2, .int 0]))] := hD
  refine lv_astore_n (lv' := [(1, .ref q1), (0, .ref b)]) hx hb d_L_law_12 rfl hl (by decide) rfl (fun ls hl => ?_)
  refine va_new (ci := 5) (fs := [.int 0, .null, .null, .null, .null, .null, .null, .null, .null, .null, .int 0, .int 0, .int 0, .int 0, .int 0, .int 0, .int 0, .int 0, .int 0, .null, .null]) (C := R_K) (T := T_K) (N := 21) hx hb hts in_K fy_K fy_K_ok hown (hts _ gm_394) (hts _ gm_395) (hts _ gm_34) hK hP hD hS hA rfl (fun j hj => by rcases (show j = 0 ∨ j = 1 ∨ j = 2 ∨ j = 3 ∨ j = 4 ∨ j = 5 ∨ j = 6 ∨ j = 7 ∨ j = 8 ∨ j = 9 ∨ j = 10 ∨ j = 11 ∨ j = 12 ∨ j = 13 ∨ j = 14 ∨ j = 15 ∨ j = 16 ∨ j = 17 ∨ j = 18 ∨ j = 19 ∨ j = 20 by omega) with rfl | rfl | rfl | rfl | rfl | rfl | rfl | rfl | rfl | rfl | rfl | rfl | rfl | rfl | rfl | rfl | rfl | rfl | rfl | rfl | rfl <;> rfl) (Nat.le_of_ble_eq_true rfl) (Nat.le_of_ble_eq_true rfl) d_L_law_13 (fun q15 H hP hD hS => ?_)
  have hP : va_P D vwCl [(q1, .inr (4, [.ref q2, .ref q14, .ref q3, .int 1, .int 1, .int 0, .int 0])), (q2, .inl (cN, 2, .inr (.inr (.inr (.inr (va_up (va_up (fun _ => none) 0 (some q6)) 1 (some q10))))))), (q3, .inr (0, [.ref q4, .ref q5, .int 0])), (q4, .inl (cI, 3, .inl (fun _ => 0))), (q5, .inl (cI, 3, .inl (fun _ => 0))), (q6, .inr (2, [.ref q7, .int 1, .int 0, .int 1, .int 0, .int 0, .int 0, .int 1])), (q7, .inr (1, [.ref q8, .ref q9, .int 0])), (q8, .inl (cI, 32, .inl (fun _ => 0))), (q9, .inl (cI, 32, .inl (fun _ => 0))), (q10, .inr (2, [.ref q11, .int 1, .int 0, .int 1, .int 0, .int 0, .int 0, .int 1])), (q11, .inr (1, [.ref q12, .ref q13, .int 0])), (q12, .inl (cI, 32, .inl (fun _ => 0))), (q13, .inl (cI, 32, .inl (fun _ => 0))), (q14, .inr (3, [.int (x_len (l_first L xs)), .int 1, .int 0, .int 2, .int 0])), (q15, .inr (5, [.int 0, .null, .null, .null, .null, .null, .null, .null, .null, .null, .int 0, .int 0, .int 0, .int 0, .int 0, .int 0, .int 0, .int 0, .int 0, .null, .null]))] H := hP
  have hD : va_D (fun q : Nat => s.heap.size ≤ q) [(q1, .inr (4, [.ref q2, .ref q14, .ref q3, .int 1, .int 1, .int 0, .int 0])), (q2, .inl (cN, 2, .inr (.inr (.inr (.inr (va_up (va_up (fun _ => none) 0 (some q6)) 1 (some q10))))))), (q3, .inr (0, [.ref q4, .ref q5, .int 0])), (q4, .inl (cI, 3, .inl (fun _ => 0))), (q5, .inl (cI, 3, .inl (fun _ => 0))), (q6, .inr (2, [.ref q7, .int 1, .int 0, .int 1, .int 0, .int 0, .int 0, .int 1])), (q7, .inr (1, [.ref q8, .ref q9, .int 0])), (q8, .inl (cI, 32, .inl (fun _ => 0))), (q9, .inl (cI, 32, .inl (fun _ => 0))), (q10, .inr (2, [.ref q11, .int 1, .int 0, .int 1, .int 0, .int 0, .int 0, .int 1])), (q11, .inr (1, [.ref q12, .ref q13, .int 0])), (q12, .inl (cI, 32, .inl (fun _ => 0))), (q13, .inl (cI, 32, .inl (fun _ => 0))), (q14, .inr (3, [.int (x_len (l_first L xs)), .int 1, .int 0, .int 2, .int 0])), (q15, .inr (5, [.int 0, .null, .null, .null, .null, .null, .null, .null, .null, .null, .int 0, .int 0, .int 0, .int 0, .int 0, .int 0, .int 0, .int 0, .int 0, .null, .null]))] := hD
  refine lv_dup hx hb d_L_law_16 rfl ?_
  refine lv_aload_n hx hb d_L_law_17 rfl (lv_at hl 1 rfl) ?_
  refine lv_iconst (v := 0) hx hb d_L_law_18 (by decide) ?_
  refine l_S (As := [.ref b, .int 0]) (rest := [.ref q15, .ref q15]) (Pc := l_Pc b L xs) ⟨hx, hb, hml, hown, hts⟩ (c_L_cell_ok l D b L xs) gm_391 gm_392 gm_27 gm_393 ⟨rfl, rfl⟩ hd_L_cell ⟨Nat.le_of_ble_eq_true rfl, Nat.le_of_ble_eq_true rfl⟩ l_Pc_blind (fun U hU hW => ⟨rfl, by rw [hU]; exact (hX.kept (hS.2.1 b hbl hbA)).moved hW.alike, by rw [hU]; exact Nat.lt_of_lt_of_le hbl hS.1, by omega⟩) hP hD hS hA rfl hl.1 rfl (Nat.le_of_ble_eq_true rfl) d_L_law_19 ⟨Nat.le_of_ble_eq_true rfl, Nat.le_of_ble_eq_true rfl⟩ (fun H locs hP hS => ?_)
  refine n_I (n := 1) (rest := [.ref q15]) (wr := [(q1, .inr (4, [.ref q2, .ref q14, .ref q3, .int 1, .int 1, .int 0, .int 0])), (q2, .inl (cN, 2, .inr (.inr (.inr (.inr (va_up (va_up (fun _ => none) 0 (some q6)) 1 (some q10))))))), (q3, .inr (0, [.ref q4, .ref q5, .int 0])), (q4, .inl (cI, 3, .inl (fun _ => 0))), (q5, .inl (cI, 3, .inl (fun _ => 0))), (q6, .inr (2, [.ref q7, .int 1, .int 0, .int 1, .int 0, .int 0, .int 0, .int 1])), (q7, .inr (1, [.ref q8, .ref q9, .int 0])), (q8, .inl (cI, 32, .inl (fun _ => 0))), (q9, .inl (cI, 32, .inl (fun _ => 0))), (q10, .inr (2, [.ref q11, .int 1, .int 0, .int 1, .int 0, .int 0, .int 0, .int 1])), (q11, .inr (1, [.ref q12, .ref q13, .int 0])), (q12, .inl (cI, 32, .inl (fun _ => 0))), (q13, .inl (cI, 32, .inl (fun _ => 0))), (q14, .inr (3, [.int (x_len (l_first L xs)), .int 1, .int 0, .int 2, .int 0]))]) ⟨hx, hb, hml, hown, hts⟩ (n_K_init l D cI cN cZ q15 (l_first L xs)) gm_396 gm_397 gm_34 gm_398 ⟨rfl, rfl⟩ rfl (by decide +kernel) ⟨Nat.le_of_ble_eq_true rfl, Nat.le_of_ble_eq_true rfl⟩ hK hE hP hD hS hA [14] [0, 1, 2, 3, 4, 5, 6, 7, 8, 9, 10, 11, 12, 13] rfl rfl rfl rfl rfl (by decide) rfl hl.1 rfl (Nat.le_of_ble_eq_true rfl) d_L_law_22 ⟨Nat.le_of_ble_eq_true rfl, Nat.le_of_ble_eq_true rfl⟩ (fun w1 H locs hB hP hD hS => ?_)
  obtain ⟨q16, q17, q18, q19, q20, q21, q22, q23, q24, q25, q26, rfl⟩ := hB
  have hP : va_P D vwCl [(q1, .inr (4, [.ref q2, .ref q14, .ref q3, .int 1, .int 1, .int 0, .int 0])), (q2, .inl (cN, 2, .inr (.inr (.inr (.inr (va_up (va_up (fun _ => none) 0 (some q6)) 1 (some q10))))))), (q3, .inr (0, [.ref q4, .ref q5, .int 0])), (q4, .inl (cI, 3, .inl (fun _ => 0))), (q5, .inl (cI, 3, .inl (fun _ => 0))), (q6, .inr (2, [.ref q7, .int 1, .int 0, .int 1, .int 0, .int 0, .int 0, .int 1])), (q7, .inr (1, [.ref q8, .ref q9, .int 0])), (q8, .inl (cI, 32, .inl (fun _ => 0))), (q9, .inl (cI, 32, .inl (fun _ => 0))), (q10, .inr (2, [.ref q11, .int 1, .int 0, .int 1, .int 0, .int 0, .int 0, .int 1])), (q11, .inr (1, [.ref q12, .ref q13, .int 0])), (q12, .inl (cI, 32, .inl (fun _ => 0))), (q13, .inl (cI, 32, .inl (fun _ => 0))), (q14, .inr (3, [.int (x_len (l_first L xs)), .int 1, .int 0, .int 2, .int 0])), (q15, .inr (5, [.int (k_len (l_first L xs)), .ref q16, .ref q17, .ref q18, .ref q19, .ref q20, .ref q21, .ref q22, .ref q23, .ref q24, .int 2, .int 2, .int 2, .int 1, .int 1, .int 1, .int 0, .int 0, .int 0, .ref q25, .ref q26])), (q16, .inl (cI, 64, .inl (fun _ => 0))), (q17, .inl (cI, 64, .inl (fun _ => 0))), (q18, .inl (cZ, 64, .inl (fun _ => 0))), (q19, .inl (cZ, 2, .inl (fun _ => 0))), (q20, .inl (cZ, 2, .inl (fun _ => 0))), (q21, .inl (cZ, 2, .inl (fun _ => 0))), (q22, .inl (cI, 2, .inl (upd (upd (fun _ => 0) 0 1) 1 1))), (q23, .inl (cI, 2, .inl (fun _ => 0))), (q24, .inl (cI, 2, .inl (fun _ => 0))), (q25, .inl (cI, 3, .inl (fun _ => 0))), (q26, .inl (cI, 3, .inl (fun _ => 0)))] H := hP
  have hD : va_D (fun q : Nat => s.heap.size ≤ q) [(q1, .inr (4, [.ref q2, .ref q14, .ref q3, .int 1, .int 1, .int 0, .int 0])), (q2, .inl (cN, 2, .inr (.inr (.inr (.inr (va_up (va_up (fun _ => none) 0 (some q6)) 1 (some q10))))))), (q3, .inr (0, [.ref q4, .ref q5, .int 0])), (q4, .inl (cI, 3, .inl (fun _ => 0))), (q5, .inl (cI, 3, .inl (fun _ => 0))), (q6, .inr (2, [.ref q7, .int 1, .int 0, .int 1, .int 0, .int 0, .int 0, .int 1])), (q7, .inr (1, [.ref q8, .ref q9, .int 0])), (q8, .inl (cI, 32, .inl (fun _ => 0))), (q9, .inl (cI, 32, .inl (fun _ => 0))), (q10, .inr (2, [.ref q11, .int 1, .int 0, .int 1, .int 0, .int 0, .int 0, .int 1])), (q11, .inr (1, [.ref q12, .ref q13, .int 0])), (q12, .inl (cI, 32, .inl (fun _ => 0))), (q13, .inl (cI, 32, .inl (fun _ => 0))), (q14, .inr (3, [.int (x_len (l_first L xs)), .int 1, .int 0, .int 2, .int 0])), (q15, .inr (5, [.int (k_len (l_first L xs)), .ref q16, .ref q17, .ref q18, .ref q19, .ref q20, .ref q21, .ref q22, .ref q23, .ref q24, .int 2, .int 2, .int 2, .int 1, .int 1, .int 1, .int 0, .int 0, .int 0, .ref q25, .ref q26])), (q16, .inl (cI, 64, .inl (fun _ => 0))), (q17, .inl (cI, 64, .inl (fun _ => 0))), (q18, .inl (cZ, 64, .inl (fun _ => 0))), (q19, .inl (cZ, 2, .inl (fun _ => 0))), (q20, .inl (cZ, 2, .inl (fun _ => 0))), (q21, .inl (cZ, 2, .inl (fun _ => 0))), (q22, .inl (cI, 2, .inl (upd (upd (fun _ => 0) 0 1) 1 1))), (q23, .inl (cI, 2, .inl (fun _ => 0))), (q24, .inl (cI, 2, .inl (fun _ => 0))), (q25, .inl (cI, 3, .inl (fun _ => 0))), (q26, .inl (cI, 3, .inl (fun _ => 0)))] := hD
  refine lv_astore_n (lv' := [(2, .ref q15), (1, .ref q1), (0, .ref b)]) hx hb d_L_law_25 rfl hl (by decide) rfl (fun ls hl => ?_)
  refine lv_iconst (v := 1) hx hb d_L_law_26 (by decide) ?_
  refine lv_istore_n (lv' := [(3, .int 1), (2, .ref q15), (1, .ref q1), (0, .ref b)]) hx hb d_L_law_27 rfl hl (by decide) rfl (fun ls hl => ?_)
  have hP2 : va_P D vwCl (x_w cI cN (l_ad q1 q2 q14 q3 q4 q5 q6 q10 q7 q11 q8 q12 q9 q13) (z_0 (x_len (l_first L xs))) ++ k_w cI cZ (l_kd q15 q16 q17 q18 q19 q20 q21 q22 q23 q24 q25 q26) (y_0 (k_len (l_first L xs)))) H := by rw [k_w_0]; exact hP.sub [0, 1, 13, 2, 3, 4, 5, 9, 6, 10, 7, 11, 8, 12, 14, 15, 16, 17, 18, 19, 20, 21, 22, 23, 24, 25] rfl
  have hD2 : va_D (fun q : Nat => s.heap.size ≤ q) (x_w cI cN (l_ad q1 q2 q14 q3 q4 q5 q6 q10 q7 q11 q8 q12 q9 q13) (z_0 (x_len (l_first L xs))) ++ k_w cI cZ (l_kd q15 q16 q17 q18 q19 q20 q21 q22 q23 q24 q25 q26) (y_0 (k_len (l_first L xs)))) := by rw [k_w_0]; exact hD.sub [0, 1, 13, 2, 3, 4, 5, 9, 6, 10, 7, 11, 8, 12, 14, 15, 16, 17, 18, 19, 20, 21, 22, 23, 24, 25] (by decide) rfl
  rw [x_len_k] at hP2 hD2
  exact law_loop (ad := (l_ad q1 q2 q14 q3 q4 q5 q6 q10 q7 q11 q8 q12 q9 q13)) (kd := (l_kd q15 q16 q17 q18 q19 q20 q21 q22 q23 q24 q25 q26)) hL C0 (hK.sub [0, 1] rfl) (hK.sub [0, 2] rfl) (L + 1) 1 (by omega) (by decide) _ _ (r_I_0 _) (r_A_0 _) _ _ ls hP2 hD2 hS (lv_sub hl [0, 1, 2, 3] rfl)
-- ===== YOUR PART ENDS =====
set_option maxHeartbeats 4000000 in
theorem lw_walk (l : Launch) (b : Addr) (xs : List Int32) : MetFree l x (headSpec (Jvm.Cond.code x code maxLocals ret :: tables_1) room_1) (lw_P b xs) (fun _ _ _ _ _ => True) lw_Q := by
  refine MetFree.of_bodyS (code := code) (maxLocals := maxLocals) (ret := ret) (by decide) ?_ ?_
  · intro args s m h hn
    obtain ⟨meth, c, h1, h2, h3, h4, h5, h6, -, -⟩ := Cond.code_spec hn (atoms_spec (ws := Jvm.Cond.code x code maxLocals ret :: tables_1) h _ List.mem_cons_self)
    exact ⟨meth, c, h1, h2, h3, h4, h5, h6⟩
  · intro p e s m args below meth c s₁ B hml0 hP _
    obtain ⟨rfl, hx, hbd, hgv⟩ := hP
    obtain ⟨scr, harrAt, hlist, hof, hsmall⟩ := hx
    obtain ⟨hcb, hkn, -, -⟩ := State.arrayAt?_spec harrAt
    have hown : s.vm.findClass R_law = some m.cls := findClass_of_methodNamed B.named
    have hts0 : ∀ c ∈ (Jvm.Cond.code x code maxLocals ret :: tables_1), c.before #[Value.ref b] s = true := atoms_spec (ws := Jvm.Cond.code x code maxLocals ret :: tables_1) B.pre
    have hts : ∀ w ∈ lw_tbl, w.before #[Value.ref b] s = true := k2_hts_sels lw_privs (fun w hw => hts0 w (List.mem_cons_of_mem _ hw)) lw_privs_ok
    have hml : c.maxLocals = 4 := B.maxLocals_eq (hts0 _ List.mem_cons_self)
    have X₀ : Stand p l e room_1 s m #[Value.ref b] below meth c s₁ [] 0 0 := Stand.of_body B
    have hh0 : s₁.heap = s.heap := by rw [B.state]; rfl
    have hsz : scr.slots.size = xs.length := by rw [← Array.length_toList, hlist, List.length_map]
    have hval : ∀ j : Nat, j < xs.length → scr.slots[j]? = some (.int (xs.getD j 0)) := fun j hj => by
      rw [← Array.getElem?_toList, hlist]
      simp [hj]
    have hbl : b < s.heap.size := (Array.getElem?_eq_some_iff.mp hcb).1
    have hX : va_X b xs.length (fun j => xs.getD j 0) s s.heap := ⟨scr, hcb, hof, hkn, hsz, hval⟩
    have K : W p l e room_1 s m #[Value.ref b] below meth c s₁.heap [] 0 0 (lw_Z below #[Value.ref b] s) (entryFrame m ([Value.ref b] : List Value).toArray 4) := by
      rw [hh0]
      exact whole_start l hbd ⟨B.exec, B.bytes, B.returns, hml, hown, hts, hX, hbl, B.notSynchronized, hgv⟩
    obtain ⟨t, a1, o, b1, b2, b3⟩ := K s₁ rfl X₀
    exact ⟨t, o, a1, b1, b2, b3⟩
theorem lw_pre_spec {args : Array Value} {s : State} (h : (Jvm.Cond.and given_1 narrow_1).before args s = true) (hr : rest_1_c.before args s = true) : ∃ (b : Addr) (xs : List Int32), lw_P b xs args s := by
  have hs := flat_of_before _ h
  have hq := flat_of_before _ hr
  have hc : (Cond.count 1).before args s = true := hs _ (by decide +kernel)
  have harr : (Cond.arrayOf (.arg 0) .int).before args s = true := hs _ (by decide +kernel)
  have hle : (Cond.le (.length (.arg 0)) (.int 2049)).before args s = true := hs _ (by decide +kernel)
  have hlen : (Cond.isInt (.length (.arg 0))).before args s = true := hq _ (by decide +kernel)
  have hall : (Cond.all (.arg 0) (.isInt (.elem (.arg 0) (.index 0)))).before args s = true := hq _ (by decide +kernel)
  obtain ⟨b, xs, hb, hx⟩ := State.ints_of_pre rfl harr hlen hall
  have hsm : xs.length < 2 ^ 31 := hx.choose_spec.2.2.2
  have hev : (Term.length (.arg 0)).eval args s none [] s = some (.int xs.length.toInt32) := hx.length_eval hb
  have hv := Cond.le_ints hev (show (Term.int 2049).eval args s none [] s = some (.int 2049) from rfl)
  have hd : xs.length.toInt32 ≤ 2049 := by
    simpa [Cond.before, Cond.holds, hv] using hle
  have hN : xs.length ≤ 2049 := (Int32.ofNat_le_ofNat hsm (by decide)).mp (show Int32.ofNat xs.length ≤ Int32.ofNat 2049 from hd)
  exact ⟨b, xs, Cond.one_arg hc (show args[0]? = some (.ref b) from hb), hx, hN, h⟩
theorem lw_comes (l : Launch) : Comes l x (Jvm.Cond.code x code maxLocals ret :: tables_1) room_1 (fun tb e args s => Calls_1 tb e args s ∧ rest_1 tb e args s ∧ Pre_1 tb e args s)
    (fun _ _ args s o t => lw_Q args s o t) := by
  intro p e ha hc hk s m args below hf hfit hheap happ hpre
  obtain ⟨b, xs, hP⟩ := lw_pre_spec hpre.2.2 hpre.2.1
  obtain ⟨k, o, h1, h2, h3, hQ⟩ := lw_walk l b xs p e ha hc hk s m args below hf ((Spec.applies_iff_loose hf).mp happ).1 hP trivial
  exact ⟨k, o, h1, h2, h3, hQ⟩
theorem lw_frame {s t : State} {o : Outcome} {args : Array Value} (h : Framed s o t [] 26 404) :
    Framed s o t (fieldLocs frame_1_writes args s ++ arrayLocs frame_1_arrays args s ++ staticLocs frame_1_statics s) 26 404 := h
theorem lw_limb (L : Cond) (hL : ∀ (args : Array Value) (s t : State), L.after args s (.returned (some (.int 1))) t = true) :
    ArmFor flags0 classFile x code maxLocals ret World_1 tables_1 room_1 Calls_1 rest_1 Pre_1
      (fun tb e a s o t => postC L tb e a s o t ∧ Framed s o t (fieldLocs frame_1_writes a s ++ arrayLocs frame_1_arrays a s ++ staticLocs frame_1_statics s) 26 404) := by
  intro l _ _ _ p e ha hc hk s m args below hf hfit hheap happ hpre
  obtain ⟨k, o, h1, h2, h3, rfl, hF⟩ := lw_comes l p e ha hc hk s m args below hf hfit hheap happ hpre
  exact ⟨k, _, h1, h2, h3, hL args s _, lw_frame hF⟩
theorem i_vc : Claimed_1_1 ∧ Claimed_1_2 := ⟨lw_limb limb_1_1 (fun args s t => by simp [limb_1_1, Cond.after, Cond.holds, Cond.value]), lw_limb limb_1_2 (fun args s t => Cond.after_iff.mpr (by
  first | (rw [show limb_1_2 = Cond.eq .result (.int 1) from rfl, Cond.eq_ints (x := 1) (y := 1) rfl rfl]; simp; done) | (simp [limb_1_2, Cond.value, Term.eval]; done)))⟩
