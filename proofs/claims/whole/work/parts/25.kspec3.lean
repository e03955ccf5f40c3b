-- ===== 25.kspec3: commit, resync, promote of the reference
def k_comL (k n : Nat) : Nat → Nat → x_S → x_S
  | 0, _, z => z
  | m + 1, t, z => k_comL k n m (t + 1) (k_step z k n t)
def k_comB (z : x_S) (k n : Nat) (cut keep : Int32) : Int32 × x_S := if cut < 0 then (0, x_up (k_comL k n (3 * n + 7) 0 z) 2 0 0) else if nI (3 * n + 7) ≤ cut then (0, x_up (k_comL k n (3 * n + 7) 0 z) 2 0 0) else (-7, (k_crash (k_comL k n cut.toNatClampNeg 0 z) (nI k) keep).2)
def k_commit (z : x_S) (k n : Nat) (cut keep : Int32) : Int32 × x_S := if z 0 6 = 2 then (-1, z) else if n = 0 then (-1, z) else if z 0 1 = 0 then (if z (5 + k) 4 = 0 then (if z (5 + k) 6 = 0 then k_comB (x_goAl z k) k n cut keep else (-3, z)) else k_comB z k n cut keep) else k_comB z k n cut keep
def k_cpL (s : Nat) : Nat → Nat → x_S → x_S
  | 0, _, z => z
  | n + 1, i, z => k_cpL s n (i + 1) (k_keep z (1 - s) i (k_held z s i))
def k_rsL (s cn : Nat) : Nat → Nat → x_S → Nat → x_S
  | 0, _, z, _ => z
  | n + 1, i, z, cp => if (z (5 + s) 5 >>> (nI i &&& 31)) &&& 1 = 1 then (if cn ≤ cp then k_rsL s cn n (i + 1) z cp else k_rsL s cn n (i + 1) (k_cpL s 4 (4 * i) (x_up z (5 + s) 5 (z (5 + s) 5 - (1 <<< (nI i &&& 31))))) (cp + 1)) else k_rsL s cn n (i + 1) z cp
def k_rsT (z : x_S) (s : Nat) : Int32 × x_S := if k_cntL (z (5 + s) 5) 8 0 0 = 0 then (k_cntL (z (5 + s) 5) 8 0 0, k_fin z s) else (k_cntL (z (5 + s) 5) 8 0 0, z)
def k_resync (z : x_S) (s : Nat) (a : Int32) : Int32 × x_S := if a < 1 then (-1, z) else if 4 < a then (-1, z) else if z 0 7 = 2 then (-1, z) else k_rsT (k_rsL s a.toNatClampNeg 8 0 z 0) s
def k_prB (z : x_S) (k i : Nat) : x_S := if k_out (k_held z k (25 + 2 * i)) 24 = 0 then k_wr z k (k_held z k (25 + 2 * i)).toNatClampNeg (k_held z k (26 + 2 * i)) else z
def k_prL (k : Nat) : Nat → Nat → x_S → x_S
  | 0, _, z => z
  | n + 1, i, z => k_prL k n (i + 1) (k_prB z k i)
def k_redo (z : x_S) (k : Nat) : Int32 × x_S := if k_held z k 24 < 1 then (0, z) else if k_held z k 24 ≤ 3 then (k_held z k 24, k_prL k (k_held z k 24).toNatClampNeg 0 z) else (0, z)
def k_pr4 (z : x_S) (k : Nat) : x_S := x_up (x_up (x_up z 0 6 (nI k)) 1 3 (nI k)) 1 4 (x_up (x_up z 0 6 (nI k)) 1 3 (nI k) 1 2 + x_up (x_up z 0 6 (nI k)) 1 3 (nI k) 1 0)
def k_prA (y : x_S) (k : Nat) : Int32 × x_S := k_redo (k_fl (x_goAl y k) k) k
def k_prN (y : x_S) (k : Nat) : Int32 × x_S := if y 0 1 = 0 then (if y (5 + k) 4 = 0 then k_redo (k_fl (x_goAl y k) k) k else k_redo (k_fl y k) k) else k_redo (k_fl y k) k
def k_pr3 (z : x_S) (k : Nat) (f : Int32) : Int32 × x_S := if z (5 + k) 2 = 0 then (-6, z) else if z (5 + k) 2 = z 1 1 then (if z 0 6 = 2 then k_prN (k_pr4 z k) k else k_prN (k_pr4 (k_noP z) k) k) else if f = 0 then (-5, z) else (if z 0 6 = 2 then k_prA (k_pr4 z k) k else k_prA (k_pr4 (k_noP z) k) k)
def k_promote (z : x_S) (a f : Int32) : Int32 × x_S := if k_out a 2 = 0 then (if z (5 + a.toNatClampNeg) 0 = 0 then (if z 0 6 = a then (-1, z) else if z (5 + a.toNatClampNeg) 6 = 0 then (if z 1 3 = nI (1 - a.toNatClampNeg) then (if z 1 4 ≤ z 1 2 then k_pr3 z a.toNatClampNeg f else (-4, z)) else k_pr3 z a.toNatClampNeg f) else (-1, z)) else (-1, z)) else (-1, z)
