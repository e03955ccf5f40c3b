-- ===== 42.lbase: calls out of the law, beside other cells; the start
section LB
variable {p : Program} {l : Launch} {e : Env} {R : Room} {s : State} {m : MethodId} {args : Array Value} {below : List Frame} {meth : Method} {c : Code} {H : Heap} {locs : List Loc} {cells slots : Nat} {Q : State → Prop}
variable {pc : Nat} {ls : Array Slot} {rest st0 : List Value} {A : Nat → Prop} {H0 : Heap} {D : va_G} {tys : List (ClassId × FieldType)} {cc : ByteArray}
variable {y : MethodName} {bytes : ByteArray} {maxL nL n index : Nat} {ret : Option FieldType} {rm : Room} {own C : String} {b : Addr} {As : List Value} {o : Option Value} {wc wr ws w1 : va_W}
theorem l_call {a : Array Value} (hr : va_Run p l e R s m args below meth c H locs cells slots 0 0 (F0 m pc ls st0) rest (x_Q o D w1 (va_A wc H.size) a) (va_A wc H.size)) (hP : va_P D vwCl ws H) (hD : va_D A ws) (hS : va_S A H0 H locs) (hA : ∀ q : Nat, H0.size ≤ q → A q) (isC isR : List Nat) (hC : isC.map (fun i => ws[i]?) = wc.map some) (hR : isR.map (fun i => ws[i]?) = wr.map some) (hn : va_nd isR = true) (hdis : ∀ i ∈ isR, i ∉ isC)
    (kk : ∀ (H1 : Heap) (locs1 : List Loc), va_P D vwCl (wr ++ w1) H1 → va_D A (wr ++ w1) → va_S A H0 H1 locs1 → W p l e R s m args below meth c H1 locs1 cells slots Q (F0 m (pc + 3) ls (o.toList ++ rest))) : W p l e R s m args below meth c H locs cells slots Q (F0 m pc ls st0) := by
  have hf : ∀ q, va_A wc H.size q → A q := va_free hD hS hA isC hC
  intro T hT X
  obtain ⟨v, st₀, t, T', L, h0, X', hL, e1, e2, ⟨⟨hv, hp, hd⟩, hz, hk⟩, st⟩ := hr T hT X
  cases hv
  rw [h0] at hz hk
  obtain ⟨gP, gD⟩ := va_join hP hD isC isR hC hR hn hdis hk hf hp hd
  obtain ⟨t2, a1, b1⟩ := kk T'.heap (locs ++ L) (by rw [e1]; exact gP) gD
    ⟨Nat.le_trans hS.1 (by rw [e1]; exact hz), fun q h1 h2 => by rw [e1, hk q (Nat.lt_of_lt_of_le h1 hS.1) (fun z => h2 (hf q z))]; exact hS.2.1 q h1 h2, fun q hq => by
      rcases List.mem_append.mp hq with h | h
      · exact hS.2.2 q h
      · exact hf _ (hL q h)⟩ T' rfl X'
  exact ⟨t2, st t2 a1, b1⟩
theorem l_V (S : CallFix p m c cc nL s args gT own) (hM : x_C l y bytes maxL ret rm D tys wc (.ref b :: As) o w1) (h1 : Cond.methodLink own index y ∈ gT) (h2 : Cond.instanceMethod y ∈ gT) (h3 : Cond.selects C y y ∈ gT) (h4 : Cond.initialized C ∈ gT) (h5 : Cond.code y bytes maxL ret ∈ gT) (hrc : rm.cells = 0 ∧ rm.slots = 0) (hd : y.cls = C ∧ y.cls ≠ "java/lang/invoke/MethodHandle" ∧ y.cls ≠ "java/lang/invoke/VarHandle" ∧ (parseMethodDescriptor y.desc).map (fun d => d.parameters.length) = some n) (hR0 : rm.frames + 1 ≤ R.frames ∧ 8 + (maxL + 11) + rm.locals ≤ R.locals)
    (hK : va_K D vwCl tys s) (hP : va_P D vwCl ws H) (hD : va_D A ws) (hS : va_S A H0 H locs) (hA : ∀ q : Nat, H0.size ≤ q → A q) (isC isR : List Nat) (hPc : isC.filterMap (fun i => ws[i]?) = wc) (hndc : va_nd isC = true) (hC : isC.map (fun i => ws[i]?) = wc.map some) (hR : isR.map (fun i => ws[i]?) = wr.map some) (hnd : va_nd isR = true) (hdis : ∀ i ∈ isR, i ∉ isC) (hb : ∃ cell : Cell, H[b]? = some cell ∧ cell.vm.isStatics = false ∧ s.vm.findClass C = some cell.cls)
    (hn : As.length = n) (hsize : ls.size = nL) (hstack : st0 = As.reverse ++ .ref b :: rest) (hW : (rest.map fun v => v.category).sum ≤ 8) (hdg : decode cc pc = .ok (.invokevirtual index, 3)) (hf : cells ≤ R.cells ∧ slots ≤ R.slots)
    (kk : ∀ (H1 : Heap) (locs1 : List Loc), va_P D vwCl (wr ++ w1) H1 → va_D A (wr ++ w1) → va_S A H0 H1 locs1 → W p l e R s m args below meth c H1 locs1 cells slots Q (F0 m (pc + 3) ls (o.toList ++ rest))) : W p l e R s m args below meth c H locs cells slots Q (F0 m pc ls st0) :=
  l_call (va_runV S (hM H.size) (x_cwV S.2.2.2.2 h1 h2 h3 h4 h5 hrc hd hR0) ⟨x_blind, hb, x_pre hK (hP.sub isC hPc) (hD.sub isC hndc hC) _⟩ rfl hn hsize hstack (lv_room hW) hdg hf) hP hD hS hA isC isR hC hR hnd hdis kk
/-- a static call that leaves every cell as it was -/
theorem l_S {Pc : Array Value → State → Prop} (S : CallFix p m c cc nL s args gT own) (hM : ∀ sz, Met l y (Cond.code y bytes maxL ret :: gT) rm (Pc) (x_Q o D [] (va_A [] sz)) 0 0 (va_A [] sz)) (h1 : Cond.methodLink own index y ∈ gT) (h2 : Cond.static y ∈ gT) (h3 : Cond.initialized y.cls ∈ gT) (h5 : Cond.code y bytes maxL ret ∈ gT) (hrc : rm.cells = 0 ∧ rm.slots = 0) (hd : y.cls ≠ "java/lang/invoke/MethodHandle" ∧ y.cls ≠ "java/lang/invoke/VarHandle" ∧ (parseMethodDescriptor y.desc).map (fun d => d.parameters.length) = some n) (hR0 : rm.frames + 1 ≤ R.frames ∧ 8 + (maxL + 11) + rm.locals ≤ R.locals)
    (hbl : FrameBlind Pc) (hpre : ∀ U : State, U.heap = H → s.WarmedH U.vm → Pc As.toArray U) (hP : va_P D vwCl ws H) (hD : va_D A ws) (hS : va_S A H0 H locs) (hA : ∀ q : Nat, H0.size ≤ q → A q)
    (hn : As.length = n) (hsize : ls.size = nL) (hstack : st0 = As.reverse ++ rest) (hW : (rest.map fun v => v.category).sum ≤ 8) (hdg : decode cc pc = .ok (.invokestatic index, 3)) (hf : cells ≤ R.cells ∧ slots ≤ R.slots)
    (kk : ∀ (H1 : Heap) (locs1 : List Loc), va_P D vwCl ws H1 → va_S A H0 H1 locs1 → W p l e R s m args below meth c H1 locs1 cells slots Q (F0 m (pc + 3) ls (o.toList ++ rest))) : W p l e R s m args below meth c H locs cells slots Q (F0 m pc ls st0) := by
  have hf2 : ∀ q, va_A [] H.size q → A q := by
    intro q h
    rcases h with ⟨k, e, h⟩ | h
    · simp at h
    · exact hA q (Nat.le_trans hS.1 h)
  have hr := va_runS (g := F0 m pc ls st0) (rest := rest) (H := H) (locs := locs) (cells := cells) (slots := slots) (l := l) (e := e) (below := below) (meth := meth) S (hM H.size) (x_cwS (R := R) S.2.2.2.2 h1 h2 h3 h5 hrc hd hR0) ⟨hbl, hpre⟩ rfl hn hsize hstack (lv_room hW) hdg hf
  intro T hT X
  obtain ⟨v, st₀, t, T', L, h0, X', hL, e1, e2, ⟨⟨hv, hp, hd2⟩, hz, hk⟩, st⟩ := hr T hT X
  cases hv
  rw [h0] at hz hk
  have hno : ∀ q : Nat, q < H.size → T'.heap[q]? = H[q]? := fun q hq => by
    rw [e1]
    exact hk q hq (fun z => by rcases z with ⟨k, e, h⟩ | h; · simp at h
                               · omega)
  obtain ⟨t2, a1, b1⟩ := kk T'.heap (locs ++ L) (hP.kept (fun k x hx => hno x.1 ((hP k x hx).lt)))
    ⟨Nat.le_trans hS.1 (by rw [e1]; exact hz), fun q h1 h2 => (hno q (Nat.lt_of_lt_of_le h1 hS.1)).trans (hS.2.1 q h1 h2), fun q hq => by
      rcases List.mem_append.mp hq with h | h
      · exact hS.2.2 q h
      · exact hf2 _ (hL q h)⟩ T' rfl X'
  exact ⟨t2, st t2 a1, b1⟩
end LB
def l_Pc (b L : Nat) (xs : Nat → Int32) : Array Value → State → Prop := va_Pc [.ref b, .int 0] (fun U => va_X b L xs U U.heap ∧ b < U.heap.size ∧ L < 2 ^ 31)
theorem l_Pc_blind {b L : Nat} {xs : Nat → Int32} : FrameBlind (l_Pc b L xs) := by
  intro a U g mk q
  obtain ⟨q0, q1, q2⟩ := q
  exact ⟨q0, va_X.moved (u := U) (U := U.calling g mk a) (Vm.Alike.refl U.vm) q1, q2⟩
def l_first (L : Nat) (xs : Nat → Int32) : Int32 := if L ≤ 0 then 0 else xs 0
set_option maxHeartbeats 4000000 in
set_option maxRecDepth 100000 in
theorem c_L_cell_ok (l : Launch) (D : va_G) (b L : Nat) (xs : Nat → Int32) : ∀ sz, Met l y_L_cell (Cond.code y_L_cell c_L_cell 2 (some .int) :: gT) { frames := 0, cells := 0, slots := 0, locals := 0 } (l_Pc b L xs) (x_Q (some (.int (l_first L xs))) D [] (va_A [] sz)) 0 0 (va_A [] sz) := by
  intro sz
  refine Met.ofW (cc := c_L_cell) (maxL := 2) (ret := some .int) (by decide) rfl ?_
  intro p e s m args below meth c s₁ B hml hv
  obtain ⟨rfl, hX, hbl, hL⟩ := hv
  have hx := B.exec
  have hb := B.bytes
  have hr := B.returns
  have hlk := B.notSynchronized
  rw [lg_entry_eq]
  have hl := lv_entry ([.ref b, .int 0]) (n := 2) (Nat.le_of_ble_eq_true rfl)
  generalize (lg_sl ([.ref b, .int 0]) ++ List.replicate (2 - (lg_sl ([.ref b, .int 0])).length) Slot.unset).toArray = ls at hl ⊢
  have hl : lv_has ls 2 [(0, .ref b), (1, .int 0)] := hl
  have hS : va_S (fun _ => False) s.heap s.heap [] := va_S.rf
  have hbA : ¬ (fun _ : Nat => False) b := id
  have fin : ∀ v : Int32, l_first L xs = v → ∀ (t : State), t.heap = s.heap → s.WarmedH t.vm → x_Q (some (.int (l_first L xs))) D [] (va_A [] sz) [Value.ref b, .int 0].toArray s (.returned (some (.int v))) t := by
    intro v hv t ht _
    subst hv
    refine ⟨⟨rfl, fun k q h => by simp at h, ⟨fun i j p q h => by simp at h, fun k q h => by simp at h⟩⟩, by rw [ht]; exact Nat.le_refl _, fun q _ _ => by rw [ht]⟩
  refine lv_iload_n hx hb d_L_cell_0 rfl (lv_at hl 1 rfl) ?_
  refine lv_aload_n hx hb d_L_cell_1 rfl (lv_at hl 0 rfl) ?_
  refine va_slen hx hb hX hbl hbA hS d_L_cell_2 ?_
  refine lv_icmp_ge (tgt := 12) hx hb d_L_cell_3 (by decide) (fun c1 => ?_) (fun c1 => ?_)
  · have c2 : L ≤ 0 := (nI_leI (a := L) (b := 0) hL (by decide)).mp c1
    refine lv_iconst (v := 0) hx hb d_L_cell_12 (by decide) ?_
    exact W.iret hx hb hr (fin 0 (if_pos c2)) (fun q hq => absurd hq List.not_mem_nil) d_L_cell_13 hlk
  · have c2 : ¬ L ≤ 0 := fun h => c1 ((nI_leI (a := L) (b := 0) hL (by decide)).mpr h)
    refine lv_aload_n hx hb d_L_cell_6 rfl (lv_at hl 0 rfl) ?_
    refine lv_iload_n hx hb d_L_cell_7 rfl (lv_at hl 1 rfl) ?_
    refine va_sld hx hb hX hbl hbA hS (show vp_in 0 L from vp_in_nI (n := 0) (by omega) hL) d_L_cell_8 ?_
    refine lv_goto (tgt := 13) hx hb d_L_cell_9 (by decide) ?_
    exact W.iret hx hb hr (fin _ (if_neg c2)) (fun q hq => absurd hq List.not_mem_nil) d_L_cell_13 hlk
-- the first states
def z_0 (a : Int32) : x_S := fun r => if r = 0 then (fun c => if c = 0 then 1 else if c = 1 then 1 else 0) else if r = 1 then (fun c => if c = 0 then a else if c = 1 then 1 else if c = 3 then 2 else 0) else if r = 5 then (fun c => if c = 0 then 1 else if c = 2 then 1 else if c = 6 then 1 else 0) else if r = 6 then (fun c => if c = 0 then 1 else if c = 2 then 1 else if c = 6 then 1 else 0) else fun _ => 0
def y_0 (a : Int32) : x_S := fun r => if r = 0 then (fun c => if c = 0 then 1 else if c = 1 then 1 else if c = 6 then 2 else if c = 7 then 2 else 0) else if r = 1 then (fun c => if c = 0 then a else if c = 1 then 1 else if c = 3 then 2 else 0) else if r = 5 then (fun c => if c = 2 then 1 else 0) else if r = 6 then (fun c => if c = 2 then 1 else 0) else fun _ => 0
theorem z_0_hi {a : Int32} {r c : Nat} (h : r = 2 ∨ r = 3 ∨ r = 4 ∨ 7 ≤ r) : z_0 a r c = 0 := by
  unfold z_0
  rw [if_neg (show ¬ r = 0 by omega), if_neg (show ¬ r = 1 by omega), if_neg (show ¬ r = 5 by omega), if_neg (show ¬ r = 6 by omega)]
theorem y_0_hi {a : Int32} {r c : Nat} (h : r = 2 ∨ r = 3 ∨ r = 4 ∨ 7 ≤ r) : y_0 a r c = 0 := by
  unfold y_0
  rw [if_neg (show ¬ r = 0 by omega), if_neg (show ¬ r = 1 by omega), if_neg (show ¬ r = 5 by omega), if_neg (show ¬ r = 6 by omega)]
theorem r_A_0 (a : Int32) : r_A (z_0 a) (y_0 a) := by
  refine ⟨fun r c h => ?_, rfl, rfl, fun k hk => ?_, fun k hk => ?_, fun k hk b hb => ?_⟩
  · unfold r_sh at h
    by_cases q : r = 2 ∨ r = 3 ∨ r = 4 ∨ 7 ≤ r
    · rw [z_0_hi q, y_0_hi q]
    · rcases (show r = 0 ∨ r = 1 ∨ r = 5 ∨ r = 6 by omega) with rfl | rfl | rfl | rfl
      · rcases (show c = 0 ∨ c = 1 by omega) with rfl | rfl <;> rfl
      · rfl
      · rcases (show c = 2 ∨ c = 3 ∨ c = 4 ∨ c = 5 by omega) with rfl | rfl | rfl | rfl <;> rfl
      · rcases (show c = 2 ∨ c = 3 ∨ c = 4 ∨ c = 5 by omega) with rfl | rfl | rfl | rfl <;> rfl
  · match k, hk with
    | 0, _ => exact Or.inl ⟨rfl, rfl⟩
    | 1, _ => exact Or.inl ⟨rfl, rfl⟩
  · match k, hk with
    | 0, _ => exact Or.inl ⟨rfl, rfl⟩
    | 1, _ => exact Or.inl ⟨rfl, rfl⟩
  · rw [y_0_hi (by omega)]
    match k, hk with
    | 0, _ => rw [show z_0 a (5 + 0) 7 = 0 from rfl, b_0]; rfl
    | 1, _ => rw [show z_0 a (5 + 1) 7 = 0 from rfl, b_0]; rfl
theorem r_I_0 (a : Int32) : r_I (z_0 a) := by
  refine ⟨Or.inl rfl, fun k hk => ?_, ⟨0, by decide, rfl⟩, ⟨0, by decide, rfl, fun i hi => absurd hi (Nat.not_lt_zero i)⟩, fun k hk => ?_, fun h => absurd (show (1 : Int32) = 0 from h) (by decide)⟩
  · match k, hk with
    | 0, _ => exact fun h => absurd rfl h
    | 1, _ => exact fun h => absurd rfl h
  · match k, hk with
    | 0, _ => exact r_m_0
    | 1, _ => exact r_m_0
theorem x_len_k (a : Int32) : x_len a = k_len a := by
  unfold x_len k_len
  by_cases h1 : a < 50
  · rw [if_pos h1]
    by_cases h2 : (2 : Int32) ≤ a
    · rw [if_pos h2, if_pos (Int32.le_of_lt h1)]
      by_cases h3 : 2 < a
      · rw [if_pos h3]
      · rw [if_neg h3]; exact Int32.le_antisymm h2 (Int32.not_lt.mp h3)
    · rw [if_neg h2, if_neg (fun h => h2 (Int32.le_of_lt h))]
  · have h50 := Int32.not_lt.mp h1
    rw [if_neg h1, if_pos (by decide), if_pos (Int32.le_trans (by decide) h50)]
    by_cases h3 : a ≤ 50
    · rw [if_pos h3]; exact Int32.le_antisymm h50 h3
    · rw [if_neg h3]
theorem k_w_0 (cI cZ : ClassId) (kd : Nat → Nat) (a : Int32) : k_w cI cZ kd (y_0 a) = k_W cI cZ kd [.int a, .ref (kd 1), .ref (kd 2), .ref (kd 3), .ref (kd 4), .ref (kd 5), .ref (kd 6), .ref (kd 7), .ref (kd 8), .ref (kd 9), .int 2, .int 2, .int 2, .int 1, .int 1, .int 1, .int 0, .int 0, .int 0, .ref (kd 10), .ref (kd 11)] (fun _ => 0) (fun _ => 0) (fun _ => 0) (fun _ => 0) (fun _ => 0) (fun _ => 0) (upd (upd (fun _ => 0) 0 1) 1 1) (fun _ => 0) (fun _ => 0) (fun _ => 0) (fun _ => 0) := by
  have hb : ∀ r, 7 ≤ r → k_b (y_0 a) r = fun _ => 0 := by
    intro r hr
    funext j
    unfold k_b
    split
    · exact y_0_hi (by omega)
    · rfl
  have hc : ∀ c, c ≠ 2 → k_col (y_0 a) c = fun _ => 0 := by
    intro c hc
    funext j
    unfold k_col
    by_cases q : j < 2
    · rw [if_pos q]
      rcases (show j = 0 ∨ j = 1 by omega) with rfl | rfl
      · show (if c = 2 then (1 : Int32) else 0) = 0; rw [if_neg hc]
      · show (if c = 2 then (1 : Int32) else 0) = 0; rw [if_neg hc]
    · rw [if_neg q]
  have h2 : k_col (y_0 a) 2 = upd (upd (fun _ => 0) 0 1) 1 1 := by
    funext j
    unfold k_col upd
    by_cases q : j < 2
    · rw [if_pos q]
      rcases (show j = 0 ∨ j = 1 by omega) with rfl | rfl <;> rfl
    · rw [if_neg q, if_neg (show ¬ j = 1 by omega), if_neg (show ¬ j = 0 by omega)]
  unfold k_w
  rw [hb 7 (by decide), hb 9 (by decide), hb 11 (by decide), hc 0 (by decide), hc 4 (by decide), hc 6 (by decide), hc 3 (by decide), hc 5 (by decide), h2]
  rfl
