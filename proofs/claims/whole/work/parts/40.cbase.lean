-- ===== 40.cbase: contracts of constructors
theorem n_uniq {D : va_G} {tys : List (ClassId × FieldType)} {s : State} (hK : va_K D vwCl tys s) (i j : Nat) {c1 c2 : ClassId} {ty : FieldType} (h1 : tys[i]? = some (c1, ty)) (h2 : tys[j]? = some (c2, ty)) : c1 = c2 := by
  have a := (hK.2 i _ h1).2
  have b := (hK.2 j _ h2).2
  cases ty with
  | object C =>
    obtain ⟨_, _, _, _, _, a4⟩ := a
    obtain ⟨_, _, _, _, _, b4⟩ := b
    exact Option.some.inj (a4.symm.trans b4)
  | _ => exact Option.some.inj (a.symm.trans b)
def x_isN : Cond → Bool
  | .methodLinkNest .. => true
  | _ => false
/-- links of nest mates and the array class over nodes, carried from state to state -/
def n_E (nw : List Cond) (ao : List String) (U : State) : Prop := (∀ x ∈ nw, x_isN x = true ∧ va_Nw x U) ∧ ∀ n ∈ ao, va_AO n U
theorem n_E.warm {nw : List Cond} {ao : List String} {s U : State} (hW : s.WarmedH U.vm) (h : n_E nw ao s) : n_E nw ao U := by
  refine ⟨fun x hx => ?_, fun n hn => va_AO.moved hW.alike (h.2 n hn)⟩
  obtain ⟨h1, h2⟩ := h.1 x hx
  refine ⟨h1, ?_⟩
  cases x <;> first | exact va_Nw.warmM hW h2 | exact absurd h1 (by simp [x_isN])
theorem n_E.same {nw : List Cond} {ao : List String} {u U : State} (e : u.vm = U.vm) (h : n_E nw ao u) : n_E nw ao U := by
  refine ⟨fun x hx => ?_, fun n hn => va_AO.moved (by rw [e]; exact Vm.Alike.refl U.vm) (h.2 n hn)⟩
  obtain ⟨h1, h2⟩ := h.1 x hx
  refine ⟨h1, ?_⟩
  cases x <;> first | exact va_Nw.same rfl e h2 | exact absurd h1 (by simp [x_isN])
def n_Pre (D : va_G) (tys : List (ClassId × FieldType)) (nw : List Cond) (ao : List String) (w0 : va_W) (sz : Nat) (U : State) : Prop := x_Pre D tys w0 sz U ∧ n_E nw ao U
def n_Q (D : va_G) (B : va_W → Prop) (A : Nat → Prop) : Array Value → State → Outcome → State → Prop := fun _ st oc t => (oc = .returned none ∧ ∃ w1, B w1 ∧ va_P D vwCl w1 t.heap ∧ va_D A w1) ∧ va_F A st t
def n_C (l : Launch) (y : MethodName) (cc : ByteArray) (maxL : Nat) (rm : Room) (D : va_G) (tys : List (ClassId × FieldType)) (nw : List Cond) (ao : List String) (w0 : va_W) (av : List Value) (B : va_W → Prop) (mc ms : Nat) : Prop := ∀ sz : Nat, Met l y (Cond.code y cc maxL none :: gT) rm (va_Pc av (n_Pre D tys nw ao w0 sz)) (n_Q D B (va_A w0 sz)) mc ms (va_A w0 sz)
theorem n_blind {av : List Value} {D : va_G} {tys : List (ClassId × FieldType)} {nw : List Cond} {ao : List String} {w0 : va_W} {sz : Nat} : FrameBlind (va_Pc av (n_Pre D tys nw ao w0 sz)) := by
  intro a U g mk q
  obtain ⟨q0, ⟨q1, qP, qK, qD⟩, qE⟩ := q
  exact ⟨q0, ⟨q1, qP, va_K.moved (u := U) (U := U.calling g mk a) (Vm.Alike.refl U.vm) qK, qD⟩, n_E.same (u := U) (U := U.calling g mk a) rfl qE⟩
theorem n_C.of {l : Launch} {y : MethodName} {rm : Room} {D : va_G} {tys : List (ClassId × FieldType)} {nw : List Cond} {ao : List String} {w0 : va_W} {av : List Value} {B : va_W → Prop} {mc ms : Nat} {cc : ByteArray} {maxL : Nat} (hy : plainName y.cls = true) (hni : y.name = "<init>") (hlen : (lg_sl av).length ≤ maxL)
    (body : ∀ (p : Program) (e : Env) (s : State) (m : MethodId) (below : List Frame) (meth : Method) (c : Code), p.tables.exec = Jvm.exec → c.code = cc → meth.sig.returnType = none → c.maxLocals = maxL → (∀ x ∈ gT, x.before av.toArray s = true) → s.vm.findClass y.cls = some m.cls → meth.locks = false → meth.name = "<init>" → ∀ A : Nat → Prop, (∀ q : Nat, s.heap.size ≤ q → A q) → va_K D vwCl tys s → n_E nw ao s → va_S A s.heap s.heap [] → va_P D vwCl w0 s.heap → va_D A w0 → ∀ ls : Array Slot, lv_has ls maxL (lv_args 0 av) →
      W p l e rm s m av.toArray below meth c s.heap [] 0 0 (MQ below (n_Q D B A) av.toArray s mc ms A) (F0 m 0 ls [])) : n_C l y cc maxL rm D tys nw ao w0 av B mc ms := by
  intro sz
  refine Met.ofW (cc := cc) (maxL := maxL) (ret := none) hy rfl ?_
  intro p e s m args below meth c s₁ B hml hv
  obtain ⟨rfl, ⟨hsz, hP, hK, hD0⟩, hE⟩ := hv
  subst hsz
  rw [lg_entry_eq]
  have hts := atoms_spec (ws := Cond.code y cc maxL none :: gT) B.pre
  exact body p e s m below meth c B.exec B.bytes B.returns hml (fun x hx => hts x (List.mem_cons_of_mem _ hx)) (findClass_of_methodNamed B.named) B.notSynchronized ((name_of_methodNamed B.named B.method).1.trans hni) (va_A w0 s.heap.size) (fun q h => Or.inr h) hK hE va_S.rf hP hD0.self _ (lv_entry av hlen)
section NB
variable {p : Program} {l : Launch} {e : Env} {R : Room} {s : State} {m : MethodId} {args : Array Value} {below : List Frame} {meth : Method} {c : Code} {H : Heap} {locs : List Loc} {cells slots : Nat} {Q : State → Prop}
variable {pc : Nat} {ls : Array Slot} {rest st0 : List Value} {A : Nat → Prop} {H0 : Heap} {D : va_G} {tys : List (ClassId × FieldType)} {nw : List Cond} {ao : List String} {cc : ByteArray}
theorem n_rv {B : va_W → Prop} {w1 : va_W} (hB : B w1) (hx : p.tables.exec = Jvm.exec) (hb : c.code = cc) (hr : meth.sig.returnType = none) (hk : meth.locks = false) (hP : va_P D vwCl w1 H) (hD : va_D A w1) (hS : va_S A s.heap H locs) (hdg : decode cc pc = .ok (.return_, 1)) : W p l e R s m args below meth c H locs cells slots (MQ below (n_Q D B A) args s cells slots A) (F0 m pc ls []) :=
  W.vret hx hb hr (fun t ht hW => ⟨⟨rfl, w1, hB, by rw [ht]; exact hP, hD⟩, hS.F ht⟩) hS.2.2 hdg hk
variable {y : MethodName} {bytes : ByteArray} {maxL nL n index : Nat} {rm : Room} {own host : String} {b : Addr} {As : List Value} {mc ms : Nat} {B : va_W → Prop}
/-- behind the call of a constructor: its cells come behind the others -/
theorem n_call {wc wr ws : va_W} {a : Array Value} (hr : va_Run p l e R s m args below meth c H locs cells slots mc ms (F0 m pc ls st0) rest (n_Q D B (va_A wc H.size) a) (va_A wc H.size)) (hP : va_P D vwCl ws H) (hD : va_D A ws) (hS : va_S A H0 H locs) (hA : ∀ q : Nat, H0.size ≤ q → A q) (isC isR : List Nat) (hC : isC.map (fun i => ws[i]?) = wc.map some) (hR : isR.map (fun i => ws[i]?) = wr.map some) (hn : va_nd isR = true) (hdis : ∀ i ∈ isR, i ∉ isC)
    (kk : ∀ (w1 : va_W) (H1 : Heap) (locs1 : List Loc), B w1 → va_P D vwCl (wr ++ w1) H1 → va_D A (wr ++ w1) → va_S A H0 H1 locs1 → W p l e R s m args below meth c H1 locs1 (cells + mc) (slots + ms) Q (F0 m (pc + 3) ls rest)) : W p l e R s m args below meth c H locs cells slots Q (F0 m pc ls st0) := by
  have hf : ∀ q, va_A wc H.size q → A q := va_free hD hS hA isC hC
  intro T hT X
  obtain ⟨v, st₀, t, T', L, h0, X', hL, e1, e2, ⟨⟨hv, w1, hB, hp, hd⟩, hz, hk⟩, st⟩ := hr T hT X
  cases hv
  rw [h0] at hz hk
  obtain ⟨gP, gD⟩ := va_join hP hD isC isR hC hR hn hdis hk hf hp hd
  obtain ⟨t2, a1, b1⟩ := kk w1 T'.heap (locs ++ L) hB (by rw [e1]; exact gP) gD
    ⟨Nat.le_trans hS.1 (by rw [e1]; exact hz), fun q h1 h2 => by rw [e1, hk q (Nat.lt_of_lt_of_le h1 hS.1) (fun z => h2 (hf q z))]; exact hS.2.1 q h1 h2, fun q hq => by
      rcases List.mem_append.mp hq with h | h
      · exact hS.2.2 q h
      · exact hf _ (hL q h)⟩ T' rfl X'
  exact ⟨t2, st t2 a1, b1⟩
theorem n_pre {w0 : va_W} (hK : va_K D vwCl tys s) (hE : n_E nw ao s) (hP : va_P D vwCl w0 H) (hD : va_D A w0) (av : List Value) : ∀ U : State, U.heap = H → s.WarmedH U.vm → va_Pc av (n_Pre D tys nw ao w0 H.size) av.toArray U := fun U hU hW => ⟨rfl, ⟨by rw [hU], by rw [hU]; exact hP, va_K.moved hW.alike hK, hD.weaken (fun _ _ _ _ => trivial)⟩, hE.warm hW⟩
/-- invokespecial <init>, of a class that shows it -/
theorem n_I {wc wr ws : va_W} (S : CallFix p m c cc nL s args gT own) (hM : n_C l y bytes maxL rm D tys nw ao wc (.ref b :: As) B mc ms) (h1 : Cond.methodLink own index y ∈ gT) (h2 : Cond.instanceMethod y ∈ gT) (h4 : Cond.initialized y.cls ∈ gT) (h5 : Cond.code y bytes maxL none ∈ gT) (hrc : rm.cells = mc ∧ rm.slots = ms) (hni : y.name = "<init>") (hd : y.cls ≠ "java/lang/invoke/MethodHandle" ∧ y.cls ≠ "java/lang/invoke/VarHandle" ∧ (parseMethodDescriptor y.desc).map (fun d => d.parameters.length) = some n) (hR0 : rm.frames + 1 ≤ R.frames ∧ 8 + (maxL + 11) + rm.locals ≤ R.locals)
    (hK : va_K D vwCl tys s) (hE : n_E nw ao s) (hP : va_P D vwCl ws H) (hD : va_D A ws) (hS : va_S A H0 H locs) (hA : ∀ q : Nat, H0.size ≤ q → A q) (isC isR : List Nat) (hPc : isC.filterMap (fun i => ws[i]?) = wc) (hndc : va_nd isC = true) (hC : isC.map (fun i => ws[i]?) = wc.map some) (hR : isR.map (fun i => ws[i]?) = wr.map some) (hnd : va_nd isR = true) (hdis : ∀ i ∈ isR, i ∉ isC)
    (hn : As.length = n) (hsize : ls.size = nL) (hstack : st0 = As.reverse ++ .ref b :: rest) (hW : (rest.map fun v => v.category).sum ≤ 8) (hdg : decode cc pc = .ok (.invokespecial index, 3)) (hf : cells + mc ≤ R.cells ∧ slots + ms ≤ R.slots)
    (kk : ∀ (w1 : va_W) (H1 : Heap) (locs1 : List Loc), B w1 → va_P D vwCl (wr ++ w1) H1 → va_D A (wr ++ w1) → va_S A H0 H1 locs1 → W p l e R s m args below meth c H1 locs1 (cells + mc) (slots + ms) Q (F0 m (pc + 3) ls rest)) : W p l e R s m args below meth c H locs cells slots Q (F0 m pc ls st0) := by
  have gd : GoodIn gT (Cond.code y bytes maxL none :: gT) := x_good (fun w hw => by rcases List.mem_cons.mp hw with rfl | h; exact h5; exact h)
  have hts := S.2.2.2.2
  exact n_call (va_runI S (hM H.size) (cwI n hts gd rfl hrc.1 hrc.2 (hts _ h4) (hts _ h1) (hts _ h2) hni hd hR0) ⟨n_blind, n_pre hK hE (hP.sub isC hPc) (hD.sub isC hndc hC) _⟩ rfl hn hsize hstack (lv_room hW) hdg hf) hP hD hS hA isC isR hC hR hnd hdis kk
/-- the same, of a nest mate -/
theorem n_IN {wc wr ws : va_W} (S : CallFix p m c cc nL s args gT own) (hM : n_C l y bytes maxL rm D tys nw ao wc (.ref b :: As) B mc ms) (h1 : Cond.methodLinkNest own index y host ∈ nw) (h2 : Cond.instanceMethod y ∈ gT) (h4 : Cond.initialized y.cls ∈ gT) (h5 : Cond.code y bytes maxL none ∈ gT) (hrc : rm.cells = mc ∧ rm.slots = ms) (hni : y.name = "<init>") (hd : y.cls ≠ "java/lang/invoke/MethodHandle" ∧ y.cls ≠ "java/lang/invoke/VarHandle" ∧ (parseMethodDescriptor y.desc).map (fun d => d.parameters.length) = some n) (hR0 : rm.frames + 1 ≤ R.frames ∧ 8 + (maxL + 11) + rm.locals ≤ R.locals)
    (hK : va_K D vwCl tys s) (hE : n_E nw ao s) (hP : va_P D vwCl ws H) (hD : va_D A ws) (hS : va_S A H0 H locs) (hA : ∀ q : Nat, H0.size ≤ q → A q) (isC isR : List Nat) (hPc : isC.filterMap (fun i => ws[i]?) = wc) (hndc : va_nd isC = true) (hC : isC.map (fun i => ws[i]?) = wc.map some) (hR : isR.map (fun i => ws[i]?) = wr.map some) (hnd : va_nd isR = true) (hdis : ∀ i ∈ isR, i ∉ isC)
    (hn : As.length = n) (hsize : ls.size = nL) (hstack : st0 = As.reverse ++ .ref b :: rest) (hW : (rest.map fun v => v.category).sum ≤ 8) (hdg : decode cc pc = .ok (.invokespecial index, 3)) (hf : cells + mc ≤ R.cells ∧ slots + ms ≤ R.slots)
    (kk : ∀ (w1 : va_W) (H1 : Heap) (locs1 : List Loc), B w1 → va_P D vwCl (wr ++ w1) H1 → va_D A (wr ++ w1) → va_S A H0 H1 locs1 → W p l e R s m args below meth c H1 locs1 (cells + mc) (slots + ms) Q (F0 m (pc + 3) ls rest)) : W p l e R s m args below meth c H locs cells slots Q (F0 m pc ls st0) := by
  have gd : GoodIn gT (Cond.code y bytes maxL none :: gT) := x_good (fun w hw => by rcases List.mem_cons.mp hw with rfl | h; exact h5; exact h)
  have hts := S.2.2.2.2
  exact n_call (va_runIN S (hM H.size) ⟨va_cnB n hts gd rfl hrc.1 hrc.2 (hE.1 _ h1).2 (hts _ h4) hd hR0, hni, hts _ h2⟩ ⟨n_blind, n_pre hK hE (hP.sub isC hPc) (hD.sub isC hndc hC) _⟩ rfl hn hsize hstack (lv_room hW) hdg hf) hP hD hS hA isC isR hC hR hnd hdis kk
end NB
