def mz_max (x y : Int32) : Int32 := if x < y then y else x
def mz_min (x y : Int32) : Int32 := if y < x then y else x
def qs_within (v a b : Int32) : Int32 := mz_max a (mz_min b v)
-- Log
def qs_last (u : mz_S) (i : Nat) : Int32 := u 3 i 0 + u 3 i 3
abbrev qs_has (u : mz_S) (i : Nat) (k : Int32) : Prop := u 3 i 0 < k ∧ k ≤ u 3 i 0 + u 3 i 3
def qs_lastT (u : mz_S) (i : Nat) : Int32 := if 0 < u 3 i 3 then u 4 i (u 3 i 3 - 1).toNatClampNeg else u 3 i 1
def qs_term (u : mz_S) (i : Nat) (k : Int32) : Int32 := if qs_has u i k then u 4 i (k - u 3 i 0 - 1).toNatClampNeg else if k = u 3 i 0 then u 3 i 1 else -1
def qs_cmd (u : mz_S) (i : Nat) (k : Int32) : Int32 := if qs_has u i k then u 5 i (k - u 3 i 0 - 1).toNatClampNeg else 0
abbrev qs_full (cap : Nat) (u : mz_S) (i : Nat) : Prop := nI cap ≤ u 3 i 3
def qs_fold (u : mz_S) (i : Nat) : Nat → Int32
  | 0 => u 3 i 2
  | j + 1 => 31 * qs_fold u i j + u 5 i j
def qs_state (u : mz_S) (i : Nat) (x : Int32) : Int32 := qs_fold u i (x - u 3 i 0).toNatClampNeg
abbrev qs_nah (u : mz_S) (i : Nat) (x t : Int32) : Prop := qs_lastT u i < t ∨ (t = qs_lastT u i ∧ qs_last u i ≤ x)
def qs_add (cap : Nat) (u : mz_S) (i : Nat) (t c : Int32) : mz_S := if qs_full cap u i then u else mz_u (mz_u (mz_u u 4 i (u 3 i 3).toNatClampNeg t) 5 i (u 3 i 3).toNatClampNeg c) 3 i 3 (u 3 i 3 + 1)
def qs_cut (u : mz_S) (i : Nat) (k : Int32) : mz_S := if qs_has u i k then mz_u u 3 i 3 (k - u 3 i 0 - 1) else u
def qs_gone (u : mz_S) (i : Nat) (b : Int32) : Int32 := mz_min (u 3 i 3) (mz_max 0 (b - u 3 i 0))
def qs_mv (u : mz_S) (i g : Nat) : Nat → mz_S
  | 0 => u
  | j + 1 => mz_u (mz_u (qs_mv u i g j) 4 i j (qs_mv u i g j 4 i (g + j))) 5 i j (qs_mv u i g j 5 i (g + j))
def qs_rebase (u : mz_S) (i : Nat) (b t x : Int32) : mz_S :=
  mz_u (mz_u (mz_u (mz_u (qs_mv u i (qs_gone u i b).toNatClampNeg (u 3 i 3 - qs_gone u i b).toNatClampNeg) 3 i 3 (u 3 i 3 - qs_gone u i b)) 3 i 0 b) 3 i 1 t) 3 i 2 x
-- Node
def qs_enter (u : mz_S) (i : Nat) (t : Int32) : mz_S := mz_u (mz_u (mz_u u 2 i 3 t) 2 i 2 0) 2 i 4 (-1)
def qs_sv (u : mz_S) (i : Nat) : Nat → mz_S
  | 0 => u
  | j + 1 => mz_u (qs_sv u i j) 6 i j (mz_b (nI j = u 2 i 0))
def qs_stand (n : Nat) (u : mz_S) (i : Nat) : mz_S := qs_sv (mz_u (mz_u (qs_enter u i (u 2 i 3 + 1)) 2 i 2 1) 2 i 4 (u 2 i 0)) i n
def qs_lv (u : mz_S) (i : Nat) : Nat → mz_S
  | 0 => u
  | j + 1 => mz_u (mz_u (qs_lv u i j) 7 i j (qs_last u i + 1)) 8 i j 0
def qs_lead (n : Nat) (u : mz_S) (i : Nat) : mz_S := qs_lv (mz_u u 2 i 2 2) i n
def qs_cutc (u : mz_S) (i : Nat) (k : Int32) : mz_S := mz_u (qs_cut u i k) 2 i 5 (mz_min (u 2 i 5) (qs_last (qs_cut u i k) i))
def qs_take1 (u : mz_S) (i : Nat) (k t : Int32) : mz_S := if qs_has u i k ∧ ¬ qs_term u i k = t then qs_cutc u i k else u
def qs_take (cap : Nat) (u : mz_S) (i : Nat) (k t c : Int32) : mz_S := if qs_has (qs_take1 u i k t) i k then qs_take1 u i k t else qs_add cap (qs_take1 u i k t) i t c
def qs_cv (u : mz_S) (i : Nat) : Nat → Int32
  | 0 => 0
  | j + 1 => if u 6 i j = 0 then qs_cv u i j else qs_cv u i j + 1
def qs_ch (u : mz_S) (i : Nat) (x : Int32) : Nat → Int32
  | 0 => 0
  | j + 1 => if nI j = u 2 i 0 ∨ x ≤ u 8 i j then qs_ch u i x j + 1 else qs_ch u i x j
-- Message and Net
def qs_begin (u : mz_S) (j : Nat) (k f t tm : Int32) : mz_S := mz_u (mz_u (mz_u (mz_u u 11 j 0 k) 11 j 1 f) 11 j 2 t) 11 j 3 tm
def qs_copy (u : mz_S) (a b : Nat) : mz_S :=
  mz_u (mz_u (mz_u (mz_u (mz_u (mz_u (mz_u (mz_u (mz_u (mz_u (mz_u (mz_u u 11 a 0 (u 11 b 0)) 11 a 1 (u 11 b 1)) 11 a 2 (u 11 b 2)) 11 a 3 (u 11 b 3)) 11 a 4 (u 11 b 4)) 11 a 5 (u 11 b 5)) 11 a 6 (mz_b (u 11 b 6 ≠ 0))) 11 a 7 (mz_b (u 11 b 7 ≠ 0))) 11 a 8 (u 11 b 8)) 11 a 9 (u 11 b 9)) 11 a 10 (u 11 b 10)) 11 a 11 (u 11 b 11)
def mz_ff (f : Nat → Int32) : Nat → Nat → Nat
  | 0, j => j
  | d + 1, j => if f j = 0 then j else mz_ff f d (j + 1)
def qs_ff (S : Nat) (u : mz_S) : Nat := mz_ff (fun j => u 11 j 0) S 0
def qs_put1 (u : mz_S) (j b : Nat) : mz_S := mz_u (qs_copy u j b) 9 0 1 (u 9 0 1 + 1)
def qs_put (S : Nat) (u : mz_S) (b : Nat) : mz_S := if qs_ff S u < S then qs_put1 u (qs_ff S u) b else u
def qs_putR (S : Nat) (u : mz_S) : Int32 := if qs_ff S u < S then nI (qs_ff S u) else -4
def qs_clear (u : mz_S) (j : Nat) : mz_S := mz_u (mz_u u 11 j 0 0) 9 0 1 (u 9 0 1 - 1)
-- QuorumLog
abbrev qs_isN (n : Nat) (x : Int32) : Prop := 0 ≤ x ∧ x < nI n
abbrev qs_two (n : Nat) (x y : Int32) : Prop := qs_isN n x ∧ qs_isN n y ∧ ¬ x = y
abbrev qs_maj (n : Nat) (c : Int32) : Prop := nI n < 2 * c
def qs_mAsk (S : Nat) (u : mz_S) (i : Nat) (to : Int32) : mz_S := mz_u (mz_u (qs_begin u S 1 (u 2 i 0) to (u 2 i 3)) 11 S 4 (qs_last u i)) 11 S 5 (qs_lastT u i)
def qs_sAsk (S : Nat) (u : mz_S) (i : Nat) (to : Int32) : mz_S := qs_put S (qs_mAsk S u i to) S
def qs_mVote (S : Nat) (u : mz_S) (i : Nat) (to g : Int32) : mz_S := mz_u (qs_begin u S 2 (u 2 i 0) to (u 2 i 3)) 11 S 6 g
def qs_sVote (S : Nat) (u : mz_S) (i : Nat) (to g : Int32) : mz_S := qs_put S (qs_mVote S u i to g) S
def qs_mApp0 (S : Nat) (u : mz_S) (i : Nat) (to x : Int32) : mz_S := mz_u (mz_u (mz_u (qs_begin u S 3 (u 2 i 0) to (u 2 i 3)) 11 S 4 (x - 1)) 11 S 5 (qs_term u i (x - 1))) 11 S 7 (mz_b (qs_has u i x))
def qs_mApp (S : Nat) (u : mz_S) (i : Nat) (to x : Int32) : mz_S :=
  mz_u (if qs_has u i x then mz_u (mz_u (qs_mApp0 S u i to x) 11 S 8 (qs_term u i x)) 11 S 9 (qs_cmd u i x) else qs_mApp0 S u i to x) 11 S 10 (u 2 i 5)
def qs_sApp (S : Nat) (u : mz_S) (i : Nat) (to : Int32) : mz_S := qs_put S (qs_mApp S u i to (u 7 i to.toNatClampNeg)) S
def qs_mAns (S : Nat) (u : mz_S) (i : Nat) (to g x : Int32) : mz_S := mz_u (mz_u (qs_begin u S 4 (u 2 i 0) to (u 2 i 3)) 11 S 6 g) 11 S 4 x
def qs_sAns (S : Nat) (u : mz_S) (i : Nat) (to g x : Int32) : mz_S := qs_put S (qs_mAns S u i to g x) S
def qs_mSnap (S : Nat) (u : mz_S) (i : Nat) (to : Int32) : mz_S := mz_u (mz_u (mz_u (qs_begin u S 5 (u 2 i 0) to (u 2 i 3)) 11 S 4 (u 3 i 0)) 11 S 5 (u 3 i 1)) 11 S 11 (u 3 i 2)
def qs_sSnap (S : Nat) (u : mz_S) (i : Nat) (to : Int32) : mz_S := qs_put S (qs_mSnap S u i to) S
def qs_asks (S : Nat) (u : mz_S) (x : Int32) : Nat → mz_S
  | 0 => u
  | j + 1 => if nI j = x then qs_asks S u x j else qs_sAsk S (qs_asks S u x j) x.toNatClampNeg (nI j)
def qs_timeout (n S : Nat) (u : mz_S) (x : Int32) : mz_S × Int32 :=
  if ¬ qs_isN n x then (u, -1) else if u 2 x.toNatClampNeg 1 = 0 then (u, -2) else if u 2 x.toNatClampNeg 2 = 2 then (u, -3) else if nI S - u 9 0 1 < nI n - 1 then (u, -4)
  else (qs_asks S (qs_stand n u x.toNatClampNeg) x n, 0)
def qs_heartbeat (n S : Nat) (u : mz_S) (x y : Int32) : mz_S × Int32 :=
  if ¬ qs_two n x y then (u, -1) else if u 2 x.toNatClampNeg 1 = 0 then (u, -2) else if ¬ u 2 x.toNatClampNeg 2 = 2 then (u, -3) else if nI S - u 9 0 1 = 0 then (u, -4)
  else if u 7 x.toNatClampNeg y.toNatClampNeg ≤ u 3 x.toNatClampNeg 0 then (qs_sSnap S u x.toNatClampNeg y, 5) else (qs_sApp S u x.toNatClampNeg y, 3)
def qs_propose (n cap : Nat) (u : mz_S) (x c : Int32) : mz_S × Int32 :=
  if ¬ qs_isN n x then (u, -1) else if u 2 x.toNatClampNeg 1 = 0 then (u, -2) else if ¬ u 2 x.toNatClampNeg 2 = 2 then (u, -3) else if qs_full cap u x.toNatClampNeg then (u, -4)
  else (qs_add cap u x.toNatClampNeg (u 2 x.toNatClampNeg 3) c, qs_last (qs_add cap u x.toNatClampNeg (u 2 x.toNatClampNeg 3) c) x.toNatClampNeg)
def qs_compactU (u : mz_S) (i : Nat) : mz_S := qs_rebase u i (u 2 i 5) (qs_term u i (u 2 i 5)) (qs_state u i (u 2 i 5))
def qs_compact (n : Nat) (u : mz_S) (x : Int32) : mz_S × Int32 :=
  if ¬ qs_isN n x then (u, -1) else if u 2 x.toNatClampNeg 1 = 0 then (u, -2) else (qs_compactU u x.toNatClampNeg, qs_compactU u x.toNatClampNeg 3 x.toNatClampNeg 0 - u 3 x.toNatClampNeg 0)
-- what is received; a: the number of the message that has arrived
def qs_rAsk (S : Nat) (u : mz_S) (i a : Nat) : mz_S :=
  if u 11 a 3 = u 2 i 3 ∧ (u 2 i 4 = -1 ∨ u 2 i 4 = u 11 a 1) ∧ qs_nah u i (u 11 a 4) (u 11 a 5) then qs_sVote S (mz_u u 2 i 4 (u 11 a 1)) i (u 11 a 1) 1 else qs_sVote S u i (u 11 a 1) 0
def qs_rVote1 (u : mz_S) (i a : Nat) : mz_S := mz_u u 6 i (u 11 a 1).toNatClampNeg 1
def qs_rVote (n : Nat) (u : mz_S) (i a : Nat) : mz_S :=
  if ¬ u 2 i 2 = 1 then u else if ¬ u 11 a 3 = u 2 i 3 then u else if u 11 a 6 = 0 then u else if qs_maj n (qs_cv (qs_rVote1 u i a) i n) then qs_lead n (qs_rVote1 u i a) i else qs_rVote1 u i a
def qs_rAppE (cap : Nat) (u : mz_S) (i a : Nat) : mz_S := if u 11 a 7 = 0 then u else qs_take cap u i (u 11 a 4 + 1) (u 11 a 8) (u 11 a 9)
def qs_rAppH (cap : Nat) (u : mz_S) (i a : Nat) : Int32 := if u 11 a 7 = 0 then u 11 a 4 else if qs_has (qs_rAppE cap u i a) i (u 11 a 4 + 1) then u 11 a 4 + 1 else u 11 a 4
def qs_rAppC (cap : Nat) (u : mz_S) (i a : Nat) : mz_S := mz_u (qs_rAppE cap u i a) 2 i 5 (mz_max (qs_rAppE cap u i a 2 i 5) (mz_min (u 11 a 10) (qs_rAppH cap u i a)))
def qs_rApp1 (cap S : Nat) (u : mz_S) (i a : Nat) : mz_S :=
  if u 11 a 4 < u 3 i 0 then qs_sAns S u i (u 11 a 1) 1 (u 3 i 0) else if qs_last u i < u 11 a 4 ∨ ¬ qs_term u i (u 11 a 4) = u 11 a 5 then qs_sAns S u i (u 11 a 1) 0 0
  else qs_sAns S (qs_rAppC cap u i a) i (u 11 a 1) 1 (qs_rAppH cap u i a)
def qs_rApp (cap S : Nat) (u : mz_S) (i a : Nat) : mz_S :=
  if u 11 a 3 < u 2 i 3 then qs_sAns S u i (u 11 a 1) 0 0 else qs_rApp1 cap S (mz_u u 2 i 2 0) i a
def qs_adv (n : Nat) (u : mz_S) (i : Nat) : Nat → Int32 → mz_S
  | 0, _ => u
  | d + 1, x => if u 2 i 5 < x then (if qs_term u i x = u 2 i 3 ∧ qs_maj n (qs_ch u i x n) then mz_u u 2 i 5 x else qs_adv n u i d (x - 1)) else u
def qs_advance (n : Nat) (u : mz_S) (i : Nat) : mz_S := qs_adv n u i (qs_last u i - u 2 i 5).toNatClampNeg (qs_last u i)
def qs_rAnsM (u : mz_S) (i a : Nat) : mz_S := mz_u u 8 i (u 11 a 1).toNatClampNeg (mz_max (u 8 i (u 11 a 1).toNatClampNeg) (u 11 a 4))
def qs_rAnsN (u : mz_S) (i a : Nat) : mz_S := mz_u (qs_rAnsM u i a) 7 i (u 11 a 1).toNatClampNeg (qs_rAnsM u i a 8 i (u 11 a 1).toNatClampNeg + 1)
def qs_rAns (n : Nat) (u : mz_S) (i a : Nat) : mz_S :=
  if ¬ u 2 i 2 = 2 then u else if ¬ u 11 a 3 = u 2 i 3 then u else if u 11 a 6 = 0 then mz_u u 7 i (u 11 a 1).toNatClampNeg (mz_max 1 (u 7 i (u 11 a 1).toNatClampNeg - 1)) else qs_advance n (qs_rAnsN u i a) i
def qs_rSnapC (u : mz_S) (i a : Nat) : mz_S := if qs_term u i (u 11 a 4) = u 11 a 5 then u else qs_cut u i (u 3 i 0 + 1)
def qs_rSnapB (u : mz_S) (i a : Nat) : mz_S := mz_u (qs_rebase (qs_rSnapC u i a) i (u 11 a 4) (u 11 a 5) (u 11 a 11)) 2 i 5 (u 11 a 4)
def qs_rSnap1 (S : Nat) (u : mz_S) (i a : Nat) : mz_S := if u 11 a 4 ≤ u 2 i 5 then qs_sAns S u i (u 11 a 1) 1 (u 2 i 5) else qs_sAns S (qs_rSnapB u i a) i (u 11 a 1) 1 (u 11 a 4)
def qs_rSnap (S : Nat) (u : mz_S) (i a : Nat) : mz_S :=
  if u 11 a 3 < u 2 i 3 then qs_sAns S u i (u 11 a 1) 0 0 else qs_rSnap1 S (mz_u u 2 i 2 0) i a
def qs_rcv1 (n cap S : Nat) (u : mz_S) (i a : Nat) : mz_S :=
  if u 11 a 0 = 1 then qs_rAsk S u i a else if u 11 a 0 = 2 then qs_rVote n u i a else if u 11 a 0 = 3 then qs_rApp cap S u i a else if u 11 a 0 = 4 then qs_rAns n u i a else qs_rSnap S u i a
def qs_rcv (n cap S : Nat) (u : mz_S) (i a : Nat) : mz_S := qs_rcv1 n cap S (if u 2 i 3 < u 11 a 3 then qs_enter u i (u 11 a 3) else u) i a
def qs_dlv (S : Nat) (u : mz_S) (j : Nat) : mz_S := qs_clear (qs_copy u (S + 1) j) j
def qs_deliver (n cap S : Nat) (u : mz_S) (x : Int32) : mz_S × Int32 :=
  if ¬ qs_isN S x then (u, -1) else if u 11 x.toNatClampNeg 0 = 0 then (u, -5)
  else if u 2 (u 11 x.toNatClampNeg 2).toNatClampNeg 1 = 0 then (qs_dlv S u x.toNatClampNeg, u 11 x.toNatClampNeg 0) else (qs_rcv n cap S (qs_dlv S u x.toNatClampNeg) (u 11 x.toNatClampNeg 2).toNatClampNeg (S + 1), u 11 x.toNatClampNeg 0)
def qs_drop (S : Nat) (u : mz_S) (x : Int32) : mz_S × Int32 := if ¬ qs_isN S x then (u, -1) else if u 11 x.toNatClampNeg 0 = 0 then (u, -5) else (qs_clear u x.toNatClampNeg, 0)
def qs_duplicate (S : Nat) (u : mz_S) (x : Int32) : mz_S × Int32 := if ¬ qs_isN S x then (u, -1) else if u 11 x.toNatClampNeg 0 = 0 then (u, -5) else (qs_put S u x.toNatClampNeg, qs_putR S u)
def qs_crash (n : Nat) (u : mz_S) (x : Int32) : mz_S × Int32 := if ¬ qs_isN n x then (u, -1) else if u 2 x.toNatClampNeg 1 = 0 then (u, -2) else (mz_u (mz_u u 2 x.toNatClampNeg 1 0) 2 x.toNatClampNeg 2 0, 0)
def qs_restart (n : Nat) (u : mz_S) (x : Int32) : mz_S × Int32 := if ¬ qs_isN n x then (u, -1) else if ¬ u 2 x.toNatClampNeg 1 = 0 then (u, -2) else (mz_u (mz_u (mz_u u 2 x.toNatClampNeg 1 1) 2 x.toNatClampNeg 2 0) 2 x.toNatClampNeg 5 (u 3 x.toNatClampNeg 0), 0)
def qs_role (n : Nat) (u : mz_S) (x : Int32) : Int32 := if ¬ qs_isN n x then -1 else if u 2 x.toNatClampNeg 1 = 0 then u 2 x.toNatClampNeg 2 else u 2 x.toNatClampNeg 2 + 4
def qs_termQ (n : Nat) (u : mz_S) (x : Int32) : Int32 := if qs_isN n x then u 2 x.toNatClampNeg 3 else -1
def qs_vote (n : Nat) (u : mz_S) (x : Int32) : Int32 := if ¬ qs_isN n x then -1 else if u 2 x.toNatClampNeg 4 = -1 then -1 else u 2 x.toNatClampNeg 4
def qs_base (n : Nat) (u : mz_S) (x : Int32) : Int32 := if qs_isN n x then u 3 x.toNatClampNeg 0 else -1
def qs_lastQ (n : Nat) (u : mz_S) (x : Int32) : Int32 := if qs_isN n x then qs_last u x.toNatClampNeg else -1
def qs_commit (n : Nat) (u : mz_S) (x : Int32) : Int32 := if qs_isN n x then u 2 x.toNatClampNeg 5 else -1
def qs_termAt (n : Nat) (u : mz_S) (x k : Int32) : Int32 := if qs_isN n x then qs_term u x.toNatClampNeg k else -1
def qs_commandAt (n : Nat) (u : mz_S) (x k : Int32) : Int32 := if qs_isN n x then qs_cmd u x.toNatClampNeg k else 0
def qs_stateQ (n : Nat) (u : mz_S) (x : Int32) : Int32 := if qs_isN n x then qs_state u x.toNatClampNeg (u 2 x.toNatClampNeg 5) else 0
def qs_peer (n : Nat) (u : mz_S) (x y : Int32) : Int32 := if ¬ qs_two n x y then -1 else if ¬ u 2 x.toNatClampNeg 2 = 2 then -1 else u 8 x.toNatClampNeg y.toNatClampNeg + 100000 * u 7 x.toNatClampNeg y.toNatClampNeg
def qs_slot (S : Nat) (u : mz_S) (x : Int32) : Int32 := if ¬ qs_isN S x then -1 else if u 11 x.toNatClampNeg 0 = 0 then 0 else u 11 x.toNatClampNeg 0 + 8 * u 11 x.toNatClampNeg 1 + 64 * u 11 x.toNatClampNeg 2 + 512 * u 11 x.toNatClampNeg 3
