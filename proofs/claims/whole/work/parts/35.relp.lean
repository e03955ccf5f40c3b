-- ===== 35.relp: promote and the small calls
theorem x_isNode_out (a : Int32) : x_isNode a = 0 ↔ ¬ k_out a 2 = 0 := by
  unfold x_isNode k_out
  by_cases q : a < 0
  · rw [if_pos q, if_pos q]; decide
  · rw [if_neg q, if_neg q]
    by_cases p : (2 : Int32) ≤ a
    · rw [if_pos p, if_neg (Int32.not_lt.mpr p)]; decide
    · rw [if_neg p, if_pos (Int32.not_le.mp p)]; decide
theorem x_isCell_out (a : Int32) : x_isCell a = 0 ↔ ¬ k_out a 24 = 0 := by
  unfold x_isCell k_out
  by_cases q : a < 0
  · rw [if_pos q, if_pos q]; decide
  · rw [if_neg q, if_neg q]
    by_cases p : (24 : Int32) ≤ a
    · rw [if_pos p, if_neg (Int32.not_lt.mpr p)]; decide
    · rw [if_neg p, if_pos (Int32.not_le.mp p)]; decide
theorem r_A.redoB {z y : x_S} {k i : Nat} (hk : k < 2) (hi : i < 3) (h : r_A z y) : r_A (x_redoB z k i) (k_prB y k i) := by
  unfold x_redoB k_prB
  rw [h.held hk (b := 25 + 2 * i) (by omega), h.held hk (b := 26 + 2 * i) (by omega)]
  by_cases q : x_isCell (x_held z k (25 + 2 * i)) = 0
  · rw [if_pos q, if_neg ((x_isCell_out _).mp q)]; exact h
  · rw [if_neg q, if_pos (Decidable.byContradiction fun r => q ((x_isCell_out _).mpr r))]
    obtain ⟨b, hb, eb⟩ := x_cellE q
    rw [eb, nI_clamp (by omega)]
    exact h.wr hk (by omega) (by rw [show 25 + 2 * i + 1 = 26 + 2 * i by omega])
theorem r_A.redoL {k : Nat} (hk : k < 2) : ∀ (n i : Nat) (z y : x_S), i + n ≤ 3 → r_A z y → r_A (x_redoL k n i z) (k_prL k n i y) := by
  intro n
  induction n with
  | zero => intro i z y _ h; exact h
  | succ n ih => intro i z y hi h; exact ih (i + 1) _ _ (by omega) (h.redoB hk (by omega))
theorem r_A.redo {z y : x_S} {k : Nat} (hk : k < 2) (h : r_A z y) : r_ok (x_redo z k) (k_redo y k) := by
  unfold x_redo k_redo
  rw [h.held hk (b := 24) (by decide)]
  by_cases q : x_held z k 24 < 1
  · rw [if_pos q, if_pos q]; exact ⟨rfl, h⟩
  · rw [if_neg q, if_neg q]
    by_cases p : x_held z k 24 ≤ 3
    · rw [if_pos p, if_pos p]
      obtain ⟨e0, h1, h3, ee⟩ := x_oneTo3 q p
      refine ⟨rfl, ?_⟩
      show r_A (x_redoL k (x_held z k 24).toNatClampNeg 0 z) (k_prL k (x_held z k 24).toNatClampNeg 0 y)
      rw [ee, nI_clamp (by omega)]
      exact r_A.redoL hk e0 0 z y (by omega) h
    · rw [if_neg p, if_neg p]; exact ⟨rfl, h⟩
/-- the node becomes the primary: what the lease, the flags and the batch are then -/
theorem r_A.pr4 {z y : x_S} {k : Nat} (hk : k < 2) (ho : r_one z) (hn : z (5 + k) 1 = 0) (h : r_A z y) : r_A (x_lend (x_up (x_sec z (1 - k)) (5 + k) 1 1) (nI k)) (k_pr4 (if y 0 6 = 2 then y else k_noP y) k) := by
  have hk1 : 1 - k < 2 := by omega
  have gs := h.sec hk1 ho
  have e1 : (if y 0 6 = nI (1 - k) then k_noP y else y) = (if y 0 6 = 2 then y else k_noP y) := by
    rw [h.2.1]
    by_cases q : z (5 + (1 - k)) 1 = 0
    · rw [if_neg (fun p => (r_find ho hk1).mp p q)]
      have e2 : x_findP z = 2 := by
        unfold x_findP
        match k, hk with
        | 0, _ => rw [if_pos hn, if_pos q]
        | 1, _ => rw [if_pos q, if_pos hn]
      rw [if_pos e2]
    · have e3 := (r_find ho hk1).mpr q
      rw [if_pos e3, if_neg (by rw [e3]; match k, hk with | 0, _ => decide | 1, _ => decide)]
  rw [e1] at gs
  generalize (if y 0 6 = 2 then y else k_noP y) = w at gs ⊢
  have ho1 : x_sec z (1 - k) (5 + (1 - k)) 1 = 0 := by
    unfold x_sec
    by_cases q : z (5 + (1 - k)) 1 = 0
    · rw [if_pos q]; exact q
    · rw [if_neg q, x_up_ne (by omega), x_up_eq]
  have g1 := gs.prim1 hk ho1
  have g2 := g1.up (r := 1) (c := 3) (v := nI k) (w := nI k) (r_sh.lo (by decide) (by decide)) rfl
  unfold x_lend x_ext k_pr4
  exact g2.up (r_sh.lo (by decide) (by decide)) (by rw [g2.at (r := 1) (c := 2) (r_sh.lo (by decide) (by decide)), g2.at (r := 1) (c := 0) (r_sh.lo (by decide) (by decide))])
theorem r_prA {z y : x_S} {k : Nat} (hk : k < 2) (h : r_A z y) : r_ok (x_redo (x_fl (x_goAl z k) k) k) (k_prA y k) := ((h.goAl hk).fl hk).redo hk
theorem r_prN {z y : x_S} {k : Nat} (hk : k < 2) (h : r_A z y) : r_ok (if x_unp z k = 0 then x_redo (x_fl z k) k else x_redo (x_fl (x_goAl z k) k) k) (k_prN y k) := by
  unfold x_unp k_prN
  rw [h.at (r := 0) (c := 1) (Or.inl ⟨rfl, by decide⟩), h.at (r := 5 + k) (c := 4) (r_sh.n hk (by decide) (by decide))]
  by_cases q : z 0 1 = 0
  · rw [if_pos q, if_pos q]
    by_cases p : z (5 + k) 4 = 0
    · rw [if_pos p, if_pos p, if_neg (by decide)]; exact r_prA hk h
    · rw [if_neg p, if_neg p, if_pos rfl]; exact (h.fl hk).redo hk
  · rw [if_neg q, if_neg q, if_pos rfl]; exact (h.fl hk).redo hk
theorem x_prom2_t (z : x_S) (k : Nat) : x_prom2 z k true = x_redo (x_fl (x_goAl (x_lend (x_up (x_sec z (1 - k)) (5 + k) 1 1) (nI k)) k) k) k := rfl
theorem x_prom2_f (z : x_S) (k : Nat) : x_prom2 z k false = (if x_unp (x_lend (x_up (x_sec z (1 - k)) (5 + k) 1 1) (nI k)) k = 0 then x_redo (x_fl (x_lend (x_up (x_sec z (1 - k)) (5 + k) 1 1) (nI k)) k) k else x_redo (x_fl (x_goAl (x_lend (x_up (x_sec z (1 - k)) (5 + k) 1 1) (nI k)) k) k) k) := by
  unfold x_prom2
  simp only [Bool.false_eq_true, if_false]
theorem r_pr3 {z y : x_S} {k : Nat} {f : Int32} (hk : k < 2) (ho : r_one z) (hn : z (5 + k) 1 = 0) (h : r_A z y) : r_ok (if z (5 + k) 2 = 0 then (-6, z) else if z (5 + k) 2 = z 1 1 then x_prom2 z k false else if f = 0 then (-5, z) else x_prom2 z k true) (k_pr3 y k f) := by
  have g := h.pr4 hk ho hn
  unfold k_pr3
  rw [h.at (r := 5 + k) (c := 2) (r_sh.n hk (by decide) (by decide)), h.at (r := 1) (c := 1) (r_sh.lo (by decide) (by decide)), x_prom2_t, x_prom2_f]
  generalize x_lend (x_up (x_sec z (1 - k)) (5 + k) 1 1) (nI k) = z1 at g ⊢
  by_cases q1 : z (5 + k) 2 = 0
  · rw [if_pos q1, if_pos q1]; exact ⟨rfl, h⟩
  rw [if_neg q1, if_neg q1]
  by_cases q2 : z (5 + k) 2 = z 1 1
  · rw [if_pos q2, if_pos q2]
    by_cases q3 : y 0 6 = 2
    · rw [if_pos q3] at g ⊢; exact r_prN hk g
    · rw [if_neg q3] at g ⊢; exact r_prN hk g
  · rw [if_neg q2, if_neg q2]
    by_cases q4 : f = 0
    · rw [if_pos q4, if_pos q4]; exact ⟨rfl, h⟩
    · rw [if_neg q4, if_neg q4]
      by_cases q3 : y 0 6 = 2
      · rw [if_pos q3] at g ⊢; exact r_prA hk g
      · rw [if_neg q3] at g ⊢; exact r_prA hk g
theorem r_promote {z y : x_S} {a f : Int32} (ho : r_one z) (h : r_A z y) : r_ok (x_promote z a f) (k_promote y a f) := by
  have e : x_promote z a f = if x_isNode a = 0 then (-1, z) else if x_may z a.toNatClampNeg = 0 then (-1, z) else if x_lent z (nI (1 - a.toNatClampNeg)) = 0 then (if z (5 + a.toNatClampNeg) 2 = 0 then (-6, z) else if z (5 + a.toNatClampNeg) 2 = z 1 1 then x_prom2 z a.toNatClampNeg false else if f = 0 then (-5, z) else x_prom2 z a.toNatClampNeg true) else (-4, z) := rfl
  rw [e]
  unfold k_promote
  by_cases q : x_isNode a = 0
  · rw [if_pos q, if_neg ((x_isNode_out a).mp q)]; exact ⟨rfl, h⟩
  rw [if_neg q, if_pos (Decidable.byContradiction fun r => q ((x_isNode_out a).mpr r))]
  obtain ⟨k, hk, ek⟩ := x_nodeE q
  subst ek
  rw [x_cl hk]
  have u := r_neg0 (h.2.2.2.1 k hk)
  have w := r_neg0 (h.2.2.2.2.1 k hk)
  have a12 : y 1 2 = z 1 2 := h.at (r_sh.lo (by decide) (by decide))
  have a13 : y 1 3 = z 1 3 := h.at (r_sh.lo (by decide) (by decide))
  have a14 : y 1 4 = z 1 4 := h.at (r_sh.lo (by decide) (by decide))
  have ap : y 0 6 = nI k ↔ ¬ z (5 + k) 1 = 0 := by rw [h.2.1]; exact r_find ho hk
  by_cases q1 : z (5 + k) 0 = 0
  · have m0 : x_may z k = 0 := by unfold x_may; rw [if_pos q1]
    rw [if_pos m0, if_neg (u.mp q1)]; exact ⟨rfl, h⟩
  have y0 : y (5 + k) 0 = 0 := Decidable.byContradiction fun r => q1 (u.mpr r)
  rw [if_pos y0]
  by_cases q2 : z (5 + k) 1 = 0
  · rw [if_neg (fun r => ap.mp r q2)]
    by_cases q3 : z (5 + k) 6 = 0
    · have m0 : x_may z k = 0 := by unfold x_may; rw [if_neg q1, if_pos q2, if_pos q3]
      rw [if_pos m0, if_neg (w.mp q3)]; exact ⟨rfl, h⟩
    · have m1 : ¬ x_may z k = 0 := by unfold x_may; rw [if_neg q1, if_pos q2, if_neg q3]; decide
      have y6 : y (5 + k) 6 = 0 := Decidable.byContradiction fun r => q3 (w.mpr r)
      rw [if_neg m1, if_pos y6, a12, a13, a14]
      have main := r_pr3 (f := f) hk ho q2 h
      by_cases q4 : z 1 3 = nI (1 - k)
      · rw [if_pos q4]
        have n2 : ¬ z 1 3 = 2 := by rw [q4]; match k, hk with | 0, _ => decide | 1, _ => decide
        by_cases q5 : z 1 4 ≤ z 1 2
        · have l0 : x_lent z (nI (1 - k)) = 0 := by unfold x_lent x_run; rw [if_pos q4, if_neg n2, if_pos q5, if_pos rfl]
          rw [if_pos l0, if_pos q5]; exact main
        · have l1 : ¬ x_lent z (nI (1 - k)) = 0 := by unfold x_lent x_run; rw [if_pos q4, if_neg n2, if_neg q5, if_neg (by decide)]; decide
          rw [if_neg l1, if_neg q5]; exact ⟨rfl, h⟩
      · have l0 : x_lent z (nI (1 - k)) = 0 := by unfold x_lent; rw [if_neg q4]
        rw [if_pos l0, if_neg q4]; exact main
  · have m0 : x_may z k = 0 := by unfold x_may; rw [if_neg q1, if_neg q2]
    rw [if_pos m0, if_pos (ap.mpr q2)]; exact ⟨rfl, h⟩
-- the small calls
theorem r_stage {z y : x_S} {n : Nat} {a v : Int32} (hn : n ≤ 3) (h : r_A z y) : r_ok (x_stage z n a v) (k_stage y n a v) := by
  unfold x_stage k_stage
  rw [h.2.1]
  by_cases q : x_isCell a = 0
  · rw [if_pos q, if_neg ((x_isCell_out a).mp q)]; exact ⟨rfl, h⟩
  rw [if_neg q, if_pos (Decidable.byContradiction fun r => q ((x_isCell_out a).mpr r))]
  by_cases q1 : x_findP z = 2
  · rw [if_pos q1, if_pos q1]; exact ⟨rfl, h⟩
  rw [if_neg q1, if_neg q1]
  by_cases q2 : n = 3
  · rw [if_pos q2, if_pos q2]; exact ⟨rfl, h⟩
  rw [if_neg q2, if_neg q2]
  have e : x_app z n a v = x_up (x_up (x_up z 3 n a) 4 n v) 2 0 (nI n + 1) := by unfold x_app; rw [if_pos (by omega)]
  rw [e]
  refine ⟨?_, ((h.up (r_sh.lo (by decide) (by decide)) rfl).up (r_sh.lo (by decide) (by decide)) rfl).up (r_sh.lo (by decide) (by decide)) rfl⟩
  show x_up (x_up (x_up z 3 n a) 4 n v) 2 0 (nI n + 1) 2 0 = x_up (x_up (x_up y 3 n a) 4 n v) 2 0 (nI n + 1) 2 0
  rw [x_up_eq, x_up_eq]
theorem r_cell {z y : x_S} {k : Nat} {a : Int32} (hk : ¬ x_findP z = 2 → x_findP z = nI k) (hk2 : k < 2) (h : r_A z y) : x_cell z a = k_cell y k a := by
  unfold x_cell k_cell
  rw [h.2.1]
  by_cases q : x_isCell a = 0
  · rw [if_pos q, if_neg ((x_isCell_out a).mp q)]
  rw [if_neg q, if_pos (Decidable.byContradiction fun r => q ((x_isCell_out a).mpr r))]
  by_cases q1 : x_findP z = 2
  · rw [if_pos q1, if_pos q1]
  rw [if_neg q1, if_neg q1, hk q1, x_cl hk2]
  obtain ⟨b, hb, eb⟩ := x_cellE q
  rw [eb, nI_clamp (by omega), h.held hk2 (by omega)]
theorem r_crash {z y : x_S} {a keep : Int32} (ho : r_one z) (h : r_A z y) : r_ok (x_crash z a keep) (k_crash y a keep) := by
  unfold x_crash k_crash
  by_cases q : x_isNode a = 0
  · rw [if_pos q, if_neg ((x_isNode_out a).mp q)]; exact ⟨rfl, h⟩
  rw [if_neg q, if_pos (Decidable.byContradiction fun r => q ((x_isNode_out a).mpr r))]
  obtain ⟨k, hk, ek⟩ := x_nodeE q
  subst ek
  rw [x_cl hk]
  have u := r_neg0 (h.2.2.2.1 k hk)
  by_cases q1 : z (5 + k) 0 = 0
  · rw [if_pos q1, if_neg (u.mp q1)]; exact ⟨rfl, h⟩
  · rw [if_neg q1, if_pos (Decidable.byContradiction fun r => q1 (u.mpr r))]; exact ⟨rfl, h.crash hk ho⟩
theorem r_restart {z y : x_S} {a : Int32} (h : r_A z y) : r_ok (x_restart z a) (k_restart y a) := by
  unfold x_restart k_restart
  by_cases q : x_isNode a = 0
  · rw [if_pos q, if_neg ((x_isNode_out a).mp q)]; exact ⟨rfl, h⟩
  rw [if_neg q, if_pos (Decidable.byContradiction fun r => q ((x_isNode_out a).mpr r))]
  obtain ⟨k, hk, ek⟩ := x_nodeE q
  subst ek
  rw [x_cl hk]
  have u := r_neg0 (h.2.2.2.1 k hk)
  by_cases q1 : z (5 + k) 0 = 0
  · rw [if_pos q1, if_neg (u.mp q1)]; exact ⟨rfl, h.updn hk (Or.inl ⟨rfl, rfl⟩)⟩
  · rw [if_neg q1, if_pos (Decidable.byContradiction fun r => q1 (u.mpr r))]; exact ⟨rfl, h⟩
theorem r_swap {z y : x_S} {a : Int32} (h : r_A z y) : r_ok (x_swap z a) (k_swap y a) := by
  unfold x_swap k_swap
  by_cases q : x_isNode a = 0
  · rw [if_pos q, if_neg ((x_isNode_out a).mp q)]; exact ⟨rfl, h⟩
  rw [if_neg q, if_pos (Decidable.byContradiction fun r => q ((x_isNode_out a).mpr r))]
  obtain ⟨k, hk, ek⟩ := x_nodeE q
  subst ek
  rw [x_cl hk]
  have u := r_neg0 (h.2.2.2.1 k hk)
  by_cases q1 : z (5 + k) 0 = 0
  · rw [if_pos q1, if_neg (u.mp q1)]; exact ⟨rfl, h.renew hk⟩
  · rw [if_neg q1, if_pos (Decidable.byContradiction fun r => q1 (u.mpr r))]; exact ⟨rfl, h⟩
theorem r_line {z y : x_S} {u : Int32} (h : r_A z y) : r_ok (x_line z u) (k_line y u) := by
  have g := h.up (r := 0) (c := 0) (v := u) (w := u) (Or.inl ⟨rfl, by decide⟩) rfl
  unfold x_line k_line
  by_cases q : u = 0
  · rw [if_pos q, if_pos q]; exact ⟨rfl, g.disc⟩
  · rw [if_neg q, if_neg q]; exact ⟨rfl, g⟩
theorem r_wline {z y : x_S} {a u : Int32} (hu : u = 0 ∨ u = 1) (h : r_A z y) : r_ok (x_wline z a u) (k_wline y a u) := by
  unfold x_wline k_wline
  by_cases q : x_isNode a = 0
  · rw [if_pos q, if_neg ((x_isNode_out a).mp q)]; exact ⟨rfl, h⟩
  rw [if_neg q, if_pos (Decidable.byContradiction fun r => q ((x_isNode_out a).mpr r))]
  obtain ⟨k, hk, ek⟩ := x_nodeE q
  subst ek
  rw [x_cl hk]
  rcases hu with rfl | rfl
  · rw [if_pos rfl]; exact ⟨rfl, h.wl hk (Or.inr ⟨rfl, rfl⟩)⟩
  · rw [if_neg (by decide)]; exact ⟨rfl, h.wl hk (Or.inl ⟨rfl, rfl⟩)⟩
theorem r_demote {z y : x_S} {a : Int32} (ho : r_one z) (h : r_A z y) : r_ok (x_demote z a) (k_demote y a) := by
  unfold x_demote k_demote
  by_cases q : x_isNode a = 0
  · rw [if_pos q, if_neg ((x_isNode_out a).mp q)]; exact ⟨rfl, h⟩
  rw [if_neg q, if_pos (Decidable.byContradiction fun r => q ((x_isNode_out a).mpr r))]
  obtain ⟨k, hk, ek⟩ := x_nodeE q
  subst ek
  rw [x_cl hk]
  have ap : y 0 6 = nI k ↔ ¬ z (5 + k) 1 = 0 := by rw [h.2.1]; exact r_find ho hk
  by_cases q1 : z (5 + k) 1 = 0
  · rw [if_pos q1, if_neg (fun r => ap.mp r q1)]; exact ⟨rfl, h⟩
  · have g := h.sec hk ho
    rw [if_pos (ap.mpr q1)] at g
    rw [if_neg q1, if_pos (ap.mpr q1), g.at (r := 1) (c := 3) (r_sh.lo (by decide) (by decide))]
    by_cases q2 : x_sec z k 1 3 = nI k
    · rw [if_pos q2, if_pos q2]; exact ⟨rfl, g.up (r_sh.lo (by decide) (by decide)) rfl⟩
    · rw [if_neg q2, if_neg q2]; exact ⟨rfl, g⟩
theorem r_rnw {z y : x_S} {k : Nat} (hk : ¬ x_findP z = 2 → x_findP z = nI k) (hk2 : k < 2) (h : r_A z y) : r_ok (x_rnw z) (k_rnw y k) := by
  unfold x_rnw k_rnw
  rw [h.2.1]
  by_cases q : x_findP z = 2
  · rw [if_pos q, if_pos q]; exact ⟨rfl, h⟩
  rw [if_neg q, if_neg q, hk q, x_cl hk2]
  have w := r_neg0 (h.2.2.2.2.1 k hk2)
  by_cases q1 : z (5 + k) 6 = 0
  · rw [if_pos q1, if_neg (w.mp q1)]; exact ⟨rfl, h⟩
  · rw [if_neg q1, if_pos (Decidable.byContradiction fun r => q1 (w.mpr r))]
    have g := h.up (r := 1) (c := 4) (v := z 1 2 + z 1 0) (w := y 1 2 + y 1 0) (r_sh.lo (by decide) (by decide)) (by rw [h.at (r := 1) (c := 2) (r_sh.lo (by decide) (by decide)), h.at (r := 1) (c := 0) (r_sh.lo (by decide) (by decide))])
    exact ⟨(g.at (r := 1) (c := 4) (r_sh.lo (by decide) (by decide))).symm, g⟩
theorem x_sec_id {z : x_S} {k : Nat} (h : z (5 + k) 1 = 0) : x_sec z k = z := by unfold x_sec; rw [if_pos h]
theorem r_A.noP {z y : x_S} (ho : r_one z) (h : r_A z y) : r_A (x_sec (x_sec z 0) 1) (if y 0 6 = 2 then y else k_noP y) := by
  have g0 := h.sec (k := 0) (by decide) ho
  by_cases q0 : z 5 1 = 0
  · have e0 : x_sec z 0 = z := by unfold x_sec; rw [if_pos q0]
    rw [e0]
    have g1 := h.sec (k := 1) (by decide) ho
    by_cases q1 : z 6 1 = 0
    · have e2 : y 0 6 = 2 := by rw [h.2.1]; unfold x_findP; rw [if_pos q0, if_pos q1]
      rw [if_neg (by rw [e2]; decide)] at g1
      rw [if_pos e2]; exact g1
    · have e1 : y 0 6 = nI 1 := by rw [h.2.1]; exact (r_find ho (k := 1) (by decide)).mpr q1
      rw [if_pos e1] at g1
      rw [if_neg (by rw [e1]; decide)]; exact g1
  · have e1 : y 0 6 = nI 0 := by rw [h.2.1]; exact (r_find ho (k := 0) (by decide)).mpr q0
    rw [if_pos e1] at g0
    rw [if_neg (by rw [e1]; decide)]
    have e2 : x_sec (x_sec z 0) 1 = x_sec z 0 := by
      have : x_sec z 0 6 1 = 0 := by
        unfold x_sec
        rw [if_neg q0, x_up_ne (by omega), x_up_ne (by omega)]
        exact ho.resolve_left q0
      exact x_sec_id (k := 1) this
    rw [e2]; exact g0
theorem r_tick {z y : x_S} {b : Int32} (ho : r_one z) (h : r_A z y) : r_ok (x_tick z b) (k_tick y b) := by
  have e : x_tick z b = if b < 0 then (-1, z) else if b ≤ 100 then (if x_run (x_up z 1 2 (z 1 2 + b)) = 0 then (x_sec (x_sec (x_up (x_up z 1 2 (z 1 2 + b)) 1 3 2) 0) 1 1 2, x_sec (x_sec (x_up (x_up z 1 2 (z 1 2 + b)) 1 3 2) 0) 1) else (x_up z 1 2 (z 1 2 + b) 1 2, x_up z 1 2 (z 1 2 + b))) else (-1, z) := rfl
  rw [e]
  unfold k_tick
  by_cases q : b < 0
  · rw [if_pos q, if_pos q]; exact ⟨rfl, h⟩
  rw [if_neg q, if_neg q]
  by_cases q1 : b ≤ 100
  · rw [if_pos q1, if_pos q1]
    have g := h.up (r := 1) (c := 2) (v := z 1 2 + b) (w := y 1 2 + b) (r_sh.lo (by decide) (by decide)) (by rw [h.at (r := 1) (c := 2) (r_sh.lo (by decide) (by decide))])
    have ho1 : r_one (x_up z 1 2 (z 1 2 + b)) := by unfold r_one; rw [x_up_ne (by omega), x_up_ne (by omega)]; exact ho
    generalize x_up z 1 2 (z 1 2 + b) = z1 at g ho1 ⊢
    generalize x_up y 1 2 (y 1 2 + b) = y1 at g ⊢
    have a2 := g.at (r := 1) (c := 2) (r_sh.lo (by decide) (by decide))
    have a3 := g.at (r := 1) (c := 3) (r_sh.lo (by decide) (by decide))
    have a4 := g.at (r := 1) (c := 4) (r_sh.lo (by decide) (by decide))
    have tail : r_ok (x_sec (x_sec (x_up z1 1 3 2) 0) 1 1 2, x_sec (x_sec (x_up z1 1 3 2) 0) 1) (k_tickT y1) := by
      have g2 := g.up (r := 1) (c := 3) (v := 2) (w := 2) (r_sh.lo (by decide) (by decide)) rfl
      have ho2 : r_one (x_up z1 1 3 2) := by unfold r_one; rw [x_up_ne (by omega), x_up_ne (by omega)]; exact ho1
      have g3 := g2.noP ho2
      unfold k_tickT
      by_cases q2 : x_up y1 1 3 2 0 6 = 2
      · rw [if_pos q2] at g3 ⊢; exact ⟨(g3.at (r := 1) (c := 2) (r_sh.lo (by decide) (by decide))).symm, g3⟩
      · rw [if_neg q2] at g3 ⊢; exact ⟨(g3.at (r := 1) (c := 2) (r_sh.lo (by decide) (by decide))).symm, g3⟩
    rw [a3, a2, a4]
    unfold x_run
    by_cases q2 : z1 1 3 = 2
    · rw [if_pos q2, if_pos rfl, if_pos q2]; exact tail
    · rw [if_neg q2, if_neg q2]
      by_cases q3 : z1 1 4 ≤ z1 1 2
      · rw [if_pos q3, if_pos rfl, if_neg (Int32.not_lt.mpr q3)]; exact tail
      · rw [if_neg q3, if_neg (by decide), if_pos (Int32.not_le.mp q3)]; exact ⟨rfl, g⟩
  · rw [if_neg q1, if_neg q1]; exact ⟨rfl, h⟩
theorem r_block {z y : x_S} {a b f : Int32} (h : r_A z y) : x_block z a b f = k_block y a b f := by
  unfold x_block k_block
  by_cases q : x_isNode a = 0
  · rw [if_pos q, if_neg ((x_isNode_out a).mp q)]
  rw [if_neg q, if_pos (Decidable.byContradiction fun r => q ((x_isNode_out a).mpr r))]
  obtain ⟨k, hk, ek⟩ := x_nodeE q
  subst ek
  rw [x_cl hk]
  have ob : k_out b 32 = if b < 0 then 1 else if b < 32 then 0 else 1 := rfl
  by_cases q1 : b < 0
  · rw [if_pos q1, ob, if_pos q1, if_neg (by decide)]
  · rw [if_neg q1, ob, if_neg q1]
    by_cases q2 : b < 32
    · rw [if_pos q2, if_pos q2, if_pos rfl]
      obtain ⟨j, hj, ej⟩ := x_b32E q1 q2
      subst ej
      rw [x_cl32 hj, h.held hk hj, h.at (r := 7 + k) (c := j) (r_sh.hi (by omega) (by omega))]
    · rw [if_neg q2, if_neg q2, if_neg (by decide)]
theorem r_mirror {z y : x_S} {w : Int32} (h : r_A z y) : x_mirror z w = k_mirror y w := by
  unfold x_mirror k_mirror x_num
  rw [h.at (r := 0) (c := 1) (Or.inl ⟨rfl, by decide⟩), h.at (r := 0) (c := 0) (Or.inl ⟨rfl, by decide⟩), h.2.2.1, h.at (r := 1) (c := 1) (r_sh.lo (by decide) (by decide)), h.at (r := 1) (c := 3) (r_sh.lo (by decide) (by decide)), h.at (r := 1) (c := 4) (r_sh.lo (by decide) (by decide)), h.at (r := 2) (c := 0) (r_sh.lo (by decide) (by decide))]
theorem x_goAl_01 {z : x_S} {k r c : Nat} (hr : 5 ≤ r) (hc : c ≤ 1) : x_goAl z k r c = z r c := by
  have e : x_goAl z k = x_up (x_up (x_up (x_up z 1 1 (z 1 1 + 1)) (5 + k) 3 (x_up z 1 1 (z 1 1 + 1) (5 + k) 2)) (5 + k) 2 (x_up (x_up z 1 1 (z 1 1 + 1)) (5 + k) 3 (x_up z 1 1 (z 1 1 + 1) (5 + k) 2) 1 1)) (5 + k) 4 1 := rfl
  rw [e, x_up_ne (by omega), x_up_ne (by omega), x_up_ne (by omega), x_up_ne (by omega)]
theorem x_put_01 {z : x_S} {k b j c : Nat} {v : Int32} (hj : j < 2) (hc : c ≤ 6) : x_put z k b v (5 + j) c = z (5 + j) c := by
  unfold x_put
  rw [x_up_ne (by omega), x_up_ne (by omega)]
theorem x_wr_01 {z : x_S} {k b j c : Nat} {v : Int32} (hj : j < 2) (hc : c ≤ 1) : x_wr z k b v (5 + j) c = z (5 + j) c := by
  have e : x_wr z k b v = if x_put z k b v 0 1 = 0 then x_up (x_put z k b v) (5 + k) 5 (x_put z k b v (5 + k) 5 ||| (1 <<< ((nI b / 4) &&& 31))) else x_put (x_put z k b v) (1 - k) b v := rfl
  rw [e]
  split
  · rw [x_up_ne (by omega), x_put_01 hj (by omega)]
  · rw [x_put_01 hj (by omega), x_put_01 hj (by omega)]
theorem x_fl_01 {z : x_S} {k j c : Nat} (hj : j < 2) (hc : c ≤ 6) : x_fl z k (5 + j) c = z (5 + j) c := by
  have e : x_fl z k = if x_flush z k 0 1 = 0 then x_flush z k else x_flush (x_flush z k) (1 - k) := rfl
  rw [e]
  split
  · rw [x_flush_out (by omega) (Or.inr (by omega))]
  · rw [x_flush_out (by omega) (Or.inr (by omega)), x_flush_out (by omega) (Or.inr (by omega))]
theorem x_step_01 {z : x_S} {k n t j c : Nat} (hj : j < 2) (hc : c ≤ 1) : x_step z k n t (5 + j) c = z (5 + j) c := by
  unfold x_step
  repeat' split
  all_goals first | rfl | exact x_fl_01 hj (by omega) | exact x_wr_01 hj hc
theorem x_comL_01 {k n : Nat} : ∀ (m t : Nat) (w : x_S) {j c : Nat}, j < 2 → c ≤ 1 → x_comL k n m t w (5 + j) c = w (5 + j) c
  | 0, _, _, _, _, _, _ => rfl
  | m + 1, t, w, j, c, hj, hc => by rw [x_comL, x_comL_01 m (t + 1) _ hj hc, x_step_01 hj hc]
theorem r_commit {z y : x_S} {k n : Nat} {cut keep : Int32} (hk2 : k < 2) (hk : ¬ x_findP z = 2 → x_findP z = nI k) (ho : r_one z) (hu : ∀ j, j < 2 → ¬ z (5 + j) 1 = 0 → z (5 + j) 0 = 1) (hn : n ≤ 3) (hc : ∀ i, i < n → ∃ b, b < 24 ∧ z 3 i = nI b) (h : r_A z y) : r_ok (x_commit z n cut keep) (k_commit y k n cut keep) := by
  have e : x_commit z n cut keep = if x_findP z = 2 then (-1, z) else if n = 0 then (-1, z) else if x_unp z (x_findP z).toNatClampNeg = 0 then x_comB z (x_findP z).toNatClampNeg n cut keep else if z (5 + (x_findP z).toNatClampNeg) 6 = 0 then (-3, z) else x_comB (x_goAl z (x_findP z).toNatClampNeg) (x_findP z).toNatClampNeg n cut keep := rfl
  rw [e]
  unfold k_commit
  rw [h.2.1]
  by_cases q : x_findP z = 2
  · rw [if_pos q, if_pos q]; exact ⟨rfl, h⟩
  rw [if_neg q, if_neg q]
  by_cases q1 : n = 0
  · rw [if_pos q1, if_pos q1]; exact ⟨rfl, h⟩
  have ep := hk q
  rw [if_neg q1, if_neg q1, ep, x_cl hk2]
  have q2 : ¬ z (5 + k) 1 = 0 := (r_find ho hk2).mp ep
  have up1 : z (5 + k) 0 = 1 := hu k hk2 q2
  have body : ∀ (z' y' : x_S), r_A z' y' → z' 3 = z 3 → r_one z' → z' (5 + k) 0 = 1 → r_ok (x_comB z' k n cut keep) (k_comB y' k n cut keep) := by
    intro z' y' h' e3 ho' up'
    unfold x_comB k_comB
    have full := r_A.comL hk2 hn (3 * n + 7) 0 z' y' (by omega) (by rw [e3]; exact hc) h'
    by_cases p : cut < 0
    · rw [if_pos p, if_pos p]; exact ⟨rfl, full.up (r_sh.lo (by decide) (by decide)) rfl⟩
    rw [if_neg p, if_neg p]
    by_cases p1 : nI (3 * n + 7) ≤ cut
    · rw [if_pos p1, if_pos p1]; exact ⟨rfl, full.up (r_sh.lo (by decide) (by decide)) rfl⟩
    rw [if_neg p1, if_neg p1]
    obtain ⟨d, hd, ed⟩ : ∃ d : Nat, d < 3 * n + 7 ∧ cut = nI d := by
      rcases pk_ix cut (n := 3 * n + 7) (by omega) with r | r | r
      · exact absurd r p
      · exact absurd r p1
      · exact r
    subst ed
    rw [nI_clamp (by omega)]
    have part := r_A.comL hk2 hn d 0 z' y' (by omega) (by rw [e3]; exact hc) h'
    have cl : ∀ (m t : Nat) (w : x_S) (j c : Nat), j < 2 → c ≤ 1 → x_comL k n m t w (5 + j) c = w (5 + j) c := fun m t w j c hj hc1 => x_comL_01 m t w hj hc1
    have o2 : r_one (x_comL k n d 0 z') := by
      have e0 := cl d 0 z' 0 1 (by decide) (by decide)
      have e1 := cl d 0 z' 1 1 (by decide) (by decide)
      unfold r_one
      rw [show x_comL k n d 0 z' 5 1 = z' 5 1 from e0, show x_comL k n d 0 z' 6 1 = z' 6 1 from e1]
      exact ho'
    have u2 : x_comL k n d 0 z' (5 + k) 0 = 1 := (cl d 0 z' k 0 hk2 (by decide)).trans up'
    have rc := r_crash (a := nI k) (keep := keep) o2 part
    have ex : x_crash (x_comL k n d 0 z') (nI k) keep = (0, x_bring (x_comL k n d 0 z') k keep) := by
      unfold x_crash
      rw [if_neg (show ¬ x_isNode (nI k) = 0 by match k, hk2 with | 0, _ => decide | 1, _ => decide), x_cl hk2, u2, if_neg (by decide)]
    rw [ex] at rc
    exact ⟨rfl, rc.2⟩
  have w := r_neg0 (h.2.2.2.2.1 k hk2)
  rw [h.at (r := 0) (c := 1) (Or.inl ⟨rfl, by decide⟩), h.at (r := 5 + k) (c := 4) (r_sh.n hk2 (by decide) (by decide))]
  unfold x_unp
  by_cases q3 : z 0 1 = 0
  · rw [if_pos q3, if_pos q3]
    by_cases q4 : z (5 + k) 4 = 0
    · rw [if_pos q4, if_pos q4, if_neg (by decide)]
      by_cases q5 : z (5 + k) 6 = 0
      · rw [if_pos q5, if_neg (w.mp q5)]; exact ⟨rfl, h⟩
      · rw [if_neg q5, if_pos (Decidable.byContradiction fun r => q5 (w.mpr r))]
        refine body _ _ (h.goAl hk2) (x_goAl_low (by decide) (by decide)) ?_ ?_
        · unfold r_one
          rw [x_goAl_01 (r := 5) (c := 1) (by decide) (by decide), x_goAl_01 (r := 6) (c := 1) (by decide) (by decide)]; exact ho
        · rw [x_goAl_01 (by omega) (by decide)]; exact up1
    · rw [if_neg q4, if_neg q4, if_pos rfl]; exact body z y h rfl ho up1
  · rw [if_neg q3, if_neg q3, if_pos rfl]; exact body z y h rfl ho up1
