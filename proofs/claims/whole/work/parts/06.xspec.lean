-- ===== 06.xspec: what each method of the class does to the state z, in the order of its code; node numbers, blocks and steps as Nat where the code has tested them
def x_sh (x b : Int32) : Int32 := (x.toUInt32 >>> (b.toUInt32 &&& Int32.toUInt32 31)).toInt32
def x_isNode (a : Int32) : Int32 := if a < 0 then 0 else if 2 ≤ a then 0 else 1
def x_isCell (a : Int32) : Int32 := if a < 0 then 0 else if 24 ≤ a then 0 else 1
def x_num (a : Int32) : Int32 := if a = 0 then 0 else 1
-- Disk
def x_isC (z : x_S) (k b : Nat) : Int32 := if x_sh (z (5 + k) 7) (nI b) &&& 1 = 1 then 1 else 0
def x_held (z : x_S) (k b : Nat) : Int32 := if x_isC z k b = 0 then z (7 + k) b else z (9 + k) b
def x_put (z : x_S) (k b : Nat) (v : Int32) : x_S := x_up (x_up z (9 + k) b v) (5 + k) 7 (x_up z (9 + k) b v (5 + k) 7 ||| (1 <<< (nI b &&& 31)))
def x_setB (z : x_S) (k : Nat) (keep : Int32) (i : Nat) : x_S := if x_isC z k i = 0 then z else if x_sh keep (nI i) &&& 1 = 1 then x_up z (7 + k) i (z (9 + k) i) else z
def x_setL (k : Nat) (keep : Int32) : Nat → Nat → x_S → x_S
  | 0, _, z => z
  | n + 1, i, z => x_setL k keep n (i + 1) (x_setB z k keep i)
def x_settle (z : x_S) (k : Nat) (keep : Int32) : x_S := x_up (x_setL k keep 32 0 z) (5 + k) 7 0
def x_flush (z : x_S) (k : Nat) : x_S := x_settle z k (-1)
def x_cexL (b : Int32) : Nat → Nat → Int32 → Int32
  | 0, _, a => a
  | n + 1, i, a => x_cexL b n (i + 1) (if x_sh b (nI i * 4) &&& 15 = 0 then a else a ||| (1 <<< (nI i &&& 31)))
def x_cext (z : x_S) (k : Nat) : Int32 := x_cexL (z (5 + k) 7) 8 0 0
-- Node
def x_may (z : x_S) (k : Nat) : Int32 := if z (5 + k) 0 = 0 then 0 else if z (5 + k) 1 = 0 then (if z (5 + k) 6 = 0 then 0 else 1) else 0
-- Witness
def x_run (z : x_S) : Int32 := if z 1 3 = 2 then 0 else if z 1 4 ≤ z 1 2 then 0 else 1
def x_lent (z : x_S) (n : Int32) : Int32 := if z 1 3 = n then (if x_run z = 0 then 0 else 1) else 0
def x_ext (z : x_S) : x_S := x_up z 1 4 (z 1 2 + z 1 0)
def x_lend (z : x_S) (n : Int32) : x_S := x_ext (x_up z 1 3 n)
-- the mirror's own
def x_findP (z : x_S) : Int32 := if z 5 1 = 0 then (if z 6 1 = 0 then 2 else 1) else 0
def x_sec (z : x_S) (k : Nat) : x_S := if z (5 + k) 1 = 0 then z else x_up (x_up z (5 + k) 1 0) 2 0 0
def x_disc (z : x_S) : x_S := x_up (x_up z 0 1 0) 0 2 0
def x_unp (z : x_S) (k : Nat) : Int32 := if z 0 1 = 0 then (if z (5 + k) 4 = 0 then 1 else 0) else 0
def x_goAl (z : x_S) (k : Nat) : x_S :=
  let z1 := x_up z 1 1 (z 1 1 + 1)
  let z2 := x_up z1 (5 + k) 3 (z1 (5 + k) 2)
  let z3 := x_up z2 (5 + k) 2 (z2 1 1)
  x_up z3 (5 + k) 4 1
def x_bring (z : x_S) (k : Nat) (keep : Int32) : x_S :=
  let z1 := x_up z (5 + k) 5 (z (5 + k) 5 ||| x_cext z k)
  let z2 := if z1 0 1 = 0 then z1 else x_up z1 (5 + (1 - k)) 5 (z1 (5 + (1 - k)) 5 ||| x_cext z k)
  x_disc (x_sec (x_up (x_settle z2 k keep) (5 + k) 0 0) k)
def x_wr (z : x_S) (k b : Nat) (v : Int32) : x_S :=
  let z1 := x_put z k b v
  if z1 0 1 = 0 then x_up z1 (5 + k) 5 (z1 (5 + k) 5 ||| (1 <<< ((nI b / 4) &&& 31))) else x_put z1 (1 - k) b v
def x_fl (z : x_S) (k : Nat) : x_S :=
  let z1 := x_flush z k
  if z1 0 1 = 0 then z1 else x_flush z1 (1 - k)
