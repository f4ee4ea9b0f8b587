-- the reference: kinds are its arrays, all numbers 0: 1 up, 2 role, 3 term, 4 vote, 5 base, 6 baseTerm, 7 baseState, 8 commit, 9 voters, 10 entries, 11 entryTerm, 12 entryCommand, 13 next, 14 match, 15 kind, 16 from, 17 to, 18 borne, 19 number, 20 at, 21 yes, 22 withTerm, 23 command, 24 known
def rs_clamp (v a b : Int32) : Int32 := if v < a then a else if b < v then b else v
def rs_last (r : mz_S) (k : Int32) : Int32 := r 5 0 k.toNatClampNeg + r 10 0 k.toNatClampNeg
abbrev rs_has (r : mz_S) (k i : Int32) : Prop := r 5 0 k.toNatClampNeg < i ∧ i ≤ rs_last r k
def rs_place (r : mz_S) (k i : Int32) : Int32 := 12 * k + i - r 5 0 k.toNatClampNeg - 1
def rs_term (r : mz_S) (k i : Int32) : Int32 := if i = r 5 0 k.toNatClampNeg then r 6 0 k.toNatClampNeg else if rs_has r k i then r 11 0 (rs_place r k i).toNatClampNeg else -1
def rs_fold (r : mz_S) (k : Nat) : Nat → Int32
  | 0 => r 7 0 k
  | j + 1 => 31 * rs_fold r k j + r 12 0 (12 * k + j)
def rs_state (r : mz_S) (k i : Int32) : Int32 := rs_fold r k.toNatClampNeg (i - r 5 0 k.toNatClampNeg).toNatClampNeg
def rs_add (r : mz_S) (k t c : Int32) : mz_S := mz_u (mz_u (mz_u r 11 0 (12 * k + r 10 0 k.toNatClampNeg).toNatClampNeg t) 12 0 (12 * k + r 10 0 k.toNatClampNeg).toNatClampNeg c) 10 0 k.toNatClampNeg (r 10 0 k.toNatClampNeg + 1)
def rs_mv (r : mz_S) (k g : Nat) : Nat → mz_S
  | 0 => r
  | j + 1 => mz_u (mz_u (rs_mv r k g j) 11 0 (12 * k + j) (rs_mv r k g j 11 0 (12 * k + j + g))) 12 0 (12 * k + j) (rs_mv r k g j 12 0 (12 * k + j + g))
def rs_cutF (r : mz_S) (k g : Int32) : mz_S := mz_u (rs_mv r k.toNatClampNeg g.toNatClampNeg (r 10 0 k.toNatClampNeg - g).toNatClampNeg) 10 0 k.toNatClampNeg (r 10 0 k.toNatClampNeg - g)
def rs_ff (S : Nat) (r : mz_S) : Nat := mz_ff (fun j => r 15 0 j) S 0
def rs_free (S : Nat) (r : mz_S) : Int32 := if rs_ff S r < S then nI (rs_ff S r) else -1
def rs_w (r : mz_S) : Nat → Int32
  | 0 => 0
  | j + 1 => rs_w r j + mz_b (0 < r 15 0 j)
def rs_send (S : Nat) (r : mz_S) (k a b : Int32) : mz_S := mz_u (mz_u (mz_u (mz_u r 15 0 (rs_ff S r) k) 16 0 (rs_ff S r) a) 17 0 (rs_ff S r) b) 18 0 (rs_ff S r) (r 3 0 a.toNatClampNeg)
def rs_ans (S : Nat) (r : mz_S) (k a b g x : Int32) : mz_S := mz_u (mz_u (rs_send S r k a b) 21 0 (rs_ff S r) g) 19 0 (rs_ff S r) x
def rs_stand (r : mz_S) (k : Int32) : mz_S := mz_u (mz_u (mz_u (mz_u r 2 0 k.toNatClampNeg 1) 3 0 k.toNatClampNeg (r 3 0 k.toNatClampNeg + 1)) 4 0 k.toNatClampNeg k) 9 0 k.toNatClampNeg (1 <<< (k &&& 31))
def rs_sAsk (S : Nat) (r : mz_S) (a b : Int32) : mz_S := mz_u (mz_u (rs_send S r 1 a b) 19 0 (rs_ff S r) (rs_last r a)) 20 0 (rs_ff S r) (rs_term r a (rs_last r a))
def rs_asks (S : Nat) (r : mz_S) (x : Int32) : Nat → mz_S
  | 0 => r
  | j + 1 => if nI j = x then rs_asks S r x j else rs_sAsk S (rs_asks S r x j) x (nI j)
def rs_timeout (n S : Nat) (r : mz_S) (x : Int32) : mz_S × Int32 :=
  if ¬ qs_isN n x then (r, -1) else if r 1 0 x.toNatClampNeg = 0 then (r, -2) else if r 2 0 x.toNatClampNeg = 2 then (r, -3) else if nI S - rs_w r S < nI n - 1 then (r, -4)
  else (rs_asks S (rs_stand r x) x n, 0)
def rs_sSnap (S : Nat) (r : mz_S) (a b : Int32) : mz_S := mz_u (mz_u (mz_u (rs_send S r 5 a b) 19 0 (rs_ff S r) (r 5 0 a.toNatClampNeg)) 20 0 (rs_ff S r) (r 6 0 a.toNatClampNeg)) 23 0 (rs_ff S r) (r 7 0 a.toNatClampNeg)
def rs_sApp (S : Nat) (r : mz_S) (a b i : Int32) : mz_S :=
  mz_u (mz_u (mz_u (mz_u (mz_u (mz_u (rs_send S r 3 a b) 19 0 (rs_ff S r) (i - 1)) 20 0 (rs_ff S r) (rs_term r a (i - 1))) 24 0 (rs_ff S r) (r 8 0 a.toNatClampNeg)) 21 0 (rs_ff S r) (mz_b (rs_has r a i))) 22 0 (rs_ff S r) (if rs_has r a i then r 11 0 (rs_place r a i).toNatClampNeg else 0)) 23 0 (rs_ff S r) (if rs_has r a i then r 12 0 (rs_place r a i).toNatClampNeg else 0)
def rs_heartbeat (n S : Nat) (r : mz_S) (x y : Int32) : mz_S × Int32 :=
  if ¬ qs_two n x y then (r, -1) else if r 1 0 x.toNatClampNeg = 0 then (r, -2) else if ¬ r 2 0 x.toNatClampNeg = 2 then (r, -3) else if ¬ rs_ff S r < S then (r, -4)
  else if r 13 0 (5 * x + y).toNatClampNeg ≤ r 5 0 x.toNatClampNeg then (rs_sSnap S r x y, 5) else (rs_sApp S r x y (r 13 0 (5 * x + y).toNatClampNeg), 3)
def rs_propose (n cap : Nat) (r : mz_S) (x c : Int32) : mz_S × Int32 :=
  if ¬ qs_isN n x then (r, -1) else if r 1 0 x.toNatClampNeg = 0 then (r, -2) else if ¬ r 2 0 x.toNatClampNeg = 2 then (r, -3) else if r 10 0 x.toNatClampNeg = nI cap then (r, -4)
  else (rs_add r x (r 3 0 x.toNatClampNeg) c, rs_last (rs_add r x (r 3 0 x.toNatClampNeg) c) x)
def rs_rebase (r : mz_S) (k g b t x : Int32) : mz_S := mz_u (mz_u (mz_u (rs_cutF r k g) 5 0 k.toNatClampNeg b) 6 0 k.toNatClampNeg t) 7 0 k.toNatClampNeg x
def rs_compact (n : Nat) (r : mz_S) (x : Int32) : mz_S × Int32 :=
  if ¬ qs_isN n x then (r, -1) else if r 1 0 x.toNatClampNeg = 0 then (r, -2)
  else (rs_rebase r x (r 8 0 x.toNatClampNeg - r 5 0 x.toNatClampNeg) (r 8 0 x.toNatClampNeg) (rs_term r x (r 8 0 x.toNatClampNeg)) (rs_state r x (r 8 0 x.toNatClampNeg)), r 8 0 x.toNatClampNeg - r 5 0 x.toNatClampNeg)
-- what is received: s the slot, k the node, f the sender
abbrev rs_nb (r : mz_S) (s : Nat) (k : Int32) : Prop := rs_term r k (rs_last r k) < r 20 0 s ∨ (r 20 0 s = rs_term r k (rs_last r k) ∧ rs_last r k ≤ r 19 0 s)
abbrev rs_gr (r : mz_S) (s : Nat) (k f : Int32) : Prop := r 18 0 s = r 3 0 k.toNatClampNeg ∧ (r 4 0 k.toNatClampNeg = -1 ∨ r 4 0 k.toNatClampNeg = f) ∧ rs_nb r s k
def rs_rAsk (S : Nat) (r : mz_S) (s : Nat) (k f : Int32) : mz_S := rs_ans S (mz_u r 4 0 k.toNatClampNeg (if rs_gr r s k f then f else r 4 0 k.toNatClampNeg)) 2 k f (mz_b (rs_gr r s k f)) 0
def rs_bits (x : Int32) : Nat → Int32
  | 0 => 0
  | k + 1 => rs_bits x k + (x >>> (nI k &&& 31) &&& 1)
abbrev rs_most (x a : Int32) : Prop := a < 2 * rs_bits x 5
def rs_lv (r : mz_S) (k : Int32) : Nat → mz_S
  | 0 => r
  | j + 1 => mz_u (mz_u (rs_lv r k j) 13 0 (5 * k + nI j).toNatClampNeg (rs_last r k + 1)) 14 0 (5 * k + nI j).toNatClampNeg 0
def rs_rVote1 (r : mz_S) (k f : Int32) : mz_S := mz_u r 9 0 k.toNatClampNeg (r 9 0 k.toNatClampNeg ||| 1 <<< (f &&& 31))
def rs_rVote (n : Nat) (r : mz_S) (s : Nat) (k f : Int32) : mz_S :=
  if ¬ r 2 0 k.toNatClampNeg = 1 then r else if ¬ r 18 0 s = r 3 0 k.toNatClampNeg then r else if r 21 0 s = 0 then r else if ¬ rs_most (rs_rVote1 r k f 9 0 k.toNatClampNeg) (nI n) then rs_rVote1 r k f else rs_lv (mz_u (rs_rVote1 r k f) 2 0 k.toNatClampNeg 2) k 5
def rs_take1 (r : mz_S) (k i t : Int32) : mz_S :=
  if rs_has r k i ∧ ¬ r 11 0 (rs_place r k i).toNatClampNeg = t then mz_u (mz_u r 10 0 k.toNatClampNeg (i - 1 - r 5 0 k.toNatClampNeg)) 8 0 k.toNatClampNeg (if r 8 0 k.toNatClampNeg < rs_last (mz_u r 10 0 k.toNatClampNeg (i - 1 - r 5 0 k.toNatClampNeg)) k then r 8 0 k.toNatClampNeg else rs_last (mz_u r 10 0 k.toNatClampNeg (i - 1 - r 5 0 k.toNatClampNeg)) k) else r
def rs_take (cap : Nat) (r : mz_S) (k i t c : Int32) : mz_S := if ¬ rs_has (rs_take1 r k i t) k i ∧ rs_take1 r k i t 10 0 k.toNatClampNeg < nI cap then rs_add (rs_take1 r k i t) k t c else rs_take1 r k i t
def rs_takeR (cap : Nat) (r : mz_S) (k i t c : Int32) : Int32 := if rs_has (rs_take cap r k i t c) k i then i else i - 1
def rs_rAppE (cap : Nat) (r : mz_S) (s : Nat) (k : Int32) : mz_S := if r 21 0 s = 0 then r else rs_take cap r k (r 19 0 s + 1) (r 22 0 s) (r 23 0 s)
def rs_rAppH (cap : Nat) (r : mz_S) (s : Nat) (k : Int32) : Int32 := if r 21 0 s = 0 then r 19 0 s else rs_takeR cap r k (r 19 0 s + 1) (r 22 0 s) (r 23 0 s)
def rs_rAppX (cap : Nat) (r : mz_S) (s : Nat) (k : Int32) : Int32 := if r 24 0 s < rs_rAppH cap r s k then r 24 0 s else rs_rAppH cap r s k
def rs_rAppC (cap : Nat) (r : mz_S) (s : Nat) (k : Int32) : mz_S := mz_u (rs_rAppE cap r s k) 8 0 k.toNatClampNeg (if rs_rAppE cap r s k 8 0 k.toNatClampNeg < rs_rAppX cap r s k then rs_rAppX cap r s k else rs_rAppE cap r s k 8 0 k.toNatClampNeg)
def rs_rApp1 (cap S : Nat) (r : mz_S) (s : Nat) (k f : Int32) : mz_S :=
  if r 19 0 s < r 5 0 k.toNatClampNeg then rs_ans S r 4 k f 1 (r 5 0 k.toNatClampNeg) else if rs_last r k < r 19 0 s ∨ ¬ rs_term r k (r 19 0 s) = r 20 0 s then rs_ans S r 4 k f 0 0
  else rs_ans S (rs_rAppC cap r s k) 4 k f 1 (rs_rAppH cap r s k)
def rs_rApp (cap S : Nat) (r : mz_S) (s : Nat) (k f : Int32) : mz_S := if r 18 0 s < r 3 0 k.toNatClampNeg then rs_ans S r 4 k f 0 0 else rs_rApp1 cap S (mz_u r 2 0 k.toNatClampNeg 0) s k f
def rs_set (r : mz_S) (k i : Int32) : Nat → Int32
  | 0 => 1 <<< (k &&& 31)
  | j + 1 => if i ≤ r 14 0 (5 * k + nI j).toNatClampNeg then rs_set r k i j ||| 1 <<< (nI j &&& 31) else rs_set r k i j
def rs_best (n : Nat) (r : mz_S) (k : Int32) : Nat → Int32
  | 0 => r 8 0 k.toNatClampNeg
  | d + 1 => if rs_term r k (r 8 0 k.toNatClampNeg + nI (d + 1)) = r 3 0 k.toNatClampNeg ∧ rs_most (rs_set r k (r 8 0 k.toNatClampNeg + nI (d + 1)) n) (nI n) then r 8 0 k.toNatClampNeg + nI (d + 1) else rs_best n r k d
def rs_count (n : Nat) (r : mz_S) (k : Int32) : mz_S := mz_u r 8 0 k.toNatClampNeg (rs_best n r k (rs_last r k - r 8 0 k.toNatClampNeg).toNatClampNeg)
def rs_rAnsM (r : mz_S) (s : Nat) (k f : Int32) : mz_S := mz_u r 14 0 (5 * k + f).toNatClampNeg (if r 14 0 (5 * k + f).toNatClampNeg < r 19 0 s then r 19 0 s else r 14 0 (5 * k + f).toNatClampNeg)
def rs_rAnsN (r : mz_S) (s : Nat) (k f : Int32) : mz_S := mz_u (rs_rAnsM r s k f) 13 0 (5 * k + f).toNatClampNeg (rs_rAnsM r s k f 14 0 (5 * k + f).toNatClampNeg + 1)
def rs_rAns (n : Nat) (r : mz_S) (s : Nat) (k f : Int32) : mz_S :=
  if ¬ r 2 0 k.toNatClampNeg = 2 then r else if ¬ r 18 0 s = r 3 0 k.toNatClampNeg then r else if r 21 0 s = 0 then mz_u r 13 0 (5 * k + f).toNatClampNeg (if 2 < r 13 0 (5 * k + f).toNatClampNeg then r 13 0 (5 * k + f).toNatClampNeg - 1 else 1) else rs_count n (rs_rAnsN r s k f) k
abbrev rs_hasT (r : mz_S) (s : Nat) (k : Int32) : Prop := rs_has r k (r 19 0 s) ∧ r 11 0 (rs_place r k (r 19 0 s)).toNatClampNeg = r 20 0 s
def rs_rSnapB (r : mz_S) (s : Nat) (k : Int32) : mz_S := mz_u (rs_rebase r k (if rs_hasT r s k then r 19 0 s - r 5 0 k.toNatClampNeg else r 10 0 k.toNatClampNeg) (r 19 0 s) (r 20 0 s) (r 23 0 s)) 8 0 k.toNatClampNeg (r 19 0 s)
def rs_rSnap1 (S : Nat) (r : mz_S) (s : Nat) (k f : Int32) : mz_S := if r 19 0 s ≤ r 8 0 k.toNatClampNeg then rs_ans S r 4 k f 1 (r 8 0 k.toNatClampNeg) else rs_ans S (rs_rSnapB r s k) 4 k f 1 (r 19 0 s)
def rs_rSnap (S : Nat) (r : mz_S) (s : Nat) (k f : Int32) : mz_S := if r 18 0 s < r 3 0 k.toNatClampNeg then rs_ans S r 4 k f 0 0 else rs_rSnap1 S (mz_u r 2 0 k.toNatClampNeg 0) s k f
def rs_act (n cap S : Nat) (r : mz_S) (q : Int32) (s : Nat) (k f : Int32) : mz_S :=
  if q = 1 then rs_rAsk S r s k f else if q = 2 then rs_rVote n r s k f else if q = 3 then rs_rApp cap S r s k f else if q = 4 then rs_rAns n r s k f else rs_rSnap S r s k f
def rs_enter (r : mz_S) (k t : Int32) : mz_S := mz_u (mz_u (mz_u r 3 0 k.toNatClampNeg t) 2 0 k.toNatClampNeg 0) 4 0 k.toNatClampNeg (-1)
def rs_rcv (n cap S : Nat) (r : mz_S) (q : Int32) (s : Nat) (k f : Int32) : mz_S := rs_act n cap S (if r 3 0 k.toNatClampNeg < r 18 0 s then rs_enter r k (r 18 0 s) else r) q s k f
def rs_deliver (n cap S : Nat) (r : mz_S) (x : Int32) : mz_S × Int32 :=
  if ¬ qs_isN S x then (r, -1) else if r 15 0 x.toNatClampNeg = 0 then (r, -5)
  else if r 1 0 (r 17 0 x.toNatClampNeg).toNatClampNeg = 0 then (mz_u r 15 0 x.toNatClampNeg 0, r 15 0 x.toNatClampNeg) else (rs_rcv n cap S (mz_u r 15 0 x.toNatClampNeg 0) (r 15 0 x.toNatClampNeg) x.toNatClampNeg (r 17 0 x.toNatClampNeg) (r 16 0 x.toNatClampNeg), r 15 0 x.toNatClampNeg)
def rs_drop (S : Nat) (r : mz_S) (x : Int32) : mz_S × Int32 := if ¬ qs_isN S x then (r, -1) else if r 15 0 x.toNatClampNeg = 0 then (r, -5) else (mz_u r 15 0 x.toNatClampNeg 0, 0)
def rs_copy (r : mz_S) (a b : Nat) : mz_S :=
  mz_u (mz_u (mz_u (mz_u (mz_u (mz_u (mz_u (mz_u (mz_u (mz_u r 15 0 a (r 15 0 b)) 16 0 a (r 16 0 b)) 17 0 a (r 17 0 b)) 18 0 a (r 18 0 b)) 19 0 a (r 19 0 b)) 20 0 a (r 20 0 b)) 21 0 a (r 21 0 b)) 22 0 a (r 22 0 b)) 23 0 a (r 23 0 b)) 24 0 a (r 24 0 b)
def rs_duplicate (S : Nat) (r : mz_S) (x : Int32) : mz_S × Int32 := if ¬ qs_isN S x then (r, -1) else if r 15 0 x.toNatClampNeg = 0 then (r, -5) else if ¬ rs_ff S r < S then (r, -4) else (rs_copy r (rs_ff S r) x.toNatClampNeg, nI (rs_ff S r))
def rs_crash (n : Nat) (r : mz_S) (x : Int32) : mz_S × Int32 := if ¬ qs_isN n x then (r, -1) else if r 1 0 x.toNatClampNeg = 0 then (r, -2) else (mz_u (mz_u r 1 0 x.toNatClampNeg 0) 2 0 x.toNatClampNeg 0, 0)
def rs_restart (n : Nat) (r : mz_S) (x : Int32) : mz_S × Int32 := if ¬ qs_isN n x then (r, -1) else if ¬ r 1 0 x.toNatClampNeg = 0 then (r, -2) else (mz_u (mz_u r 1 0 x.toNatClampNeg 1) 8 0 x.toNatClampNeg (r 5 0 x.toNatClampNeg), 0)
def rs_role (n : Nat) (r : mz_S) (x : Int32) : Int32 := if qs_isN n x then r 2 0 x.toNatClampNeg + (if r 1 0 x.toNatClampNeg = 0 then 0 else 4) else -1
def rs_get (n : Nat) (r : mz_S) (a : Nat) (x : Int32) : Int32 := if qs_isN n x then r a 0 x.toNatClampNeg else -1
def rs_lastQ (n : Nat) (r : mz_S) (x : Int32) : Int32 := if qs_isN n x then rs_last r x else -1
def rs_termAt (n : Nat) (r : mz_S) (x k : Int32) : Int32 := if qs_isN n x then rs_term r x k else -1
def rs_commandAt (n : Nat) (r : mz_S) (x k : Int32) : Int32 := if qs_isN n x ∧ rs_has r x k then r 12 0 (rs_place r x k).toNatClampNeg else 0
def rs_stateQ (n : Nat) (r : mz_S) (x : Int32) : Int32 := if qs_isN n x then rs_state r x (r 8 0 x.toNatClampNeg) else 0
def rs_peer (n : Nat) (r : mz_S) (x y : Int32) : Int32 := if ¬ qs_two n x y then -1 else if ¬ r 2 0 x.toNatClampNeg = 2 then -1 else r 14 0 (5 * x + y).toNatClampNeg + 100000 * r 13 0 (5 * x + y).toNatClampNeg
def rs_slot (S : Nat) (r : mz_S) (x : Int32) : Int32 := if ¬ qs_isN S x then -1 else if r 15 0 x.toNatClampNeg = 0 then 0 else r 15 0 x.toNatClampNeg + 8 * r 16 0 x.toNatClampNeg + 64 * r 17 0 x.toNatClampNeg + 512 * r 18 0 x.toNatClampNeg
