/-! THE CLASS AS FUNCTIONS: what its methods compute, in the machine's own numbers -/
/-- a run's state: registers, place, latest, done, visited, decisions, decisionCount, ended, outcome, end -/
abbrev tr_T : Type := (Nat → Int32) × Int32 × Int32 × Int32 × Int32 × Int64 × Int32 × Int32 × Int32 × Int32
/-- a program: ops, as, bs, cs, size -/
abbrev pr_T : Type := (Nat → Int32) × (Nat → Int32) × (Nat → Int32) × (Nat → Int32) × Nat
def pr_up (L x : Int32) : Bool := decide (0 ≤ x) && decide (x ≤ L)
def pr_al (op a b c : Int32) : Bool :=
  if op = 0 then pr_up 3 a && pr_up 255 b
  else if op = 7 then pr_up 3 a && (pr_up 3 b && pr_up 7 c)
  else if op = 8 ∨ op = 9 then pr_up 3 a && (pr_up 3 b && pr_up 24 c)
  else if op = 10 then pr_up 24 c
  else if op = 12 ∨ op = 13 then pr_up 3 a
  else if op = 1 ∨ op = 2 ∨ op = 3 ∨ op = 4 ∨ op = 5 ∨ op = 6 ∨ op = 11 then pr_up 3 a && (pr_up 3 b && pr_up 3 c)
  else false
/-- every instruction that is there was allowed; there are at most 24 -/
def pr_ok : pr_T → Prop | (o, a, b, c, n) => n ≤ 24 ∧ ∀ i, i < n → pr_al (o i) (a i) (b i) (c i) = true
def pr_has : pr_T → Int32 → Bool | (_, _, _, _, n), x => decide (0 ≤ x) && decide (x < nI n)
def pr_add : pr_T → Int32 → Int32 → Int32 → Int32 → pr_T | (o, a, b, c, n), x, y, z, w => (upd o n x, upd a n y, upd b n z, upd c n w, n + 1)
def tr_cr (x y : Int32) : Nat → Int32 := fun j => if j = 0 then x else if j = 1 then y else 0
theorem tr_cr_eq (r : Nat → Int32) (x y : Int32) : ∀ j, j < 4 → upd (upd (upd (upd r 0 x) 1 y) 2 0) 3 0 j = tr_cr x y j := by
  intro j hj
  rcases (show j = 0 ∨ j = 1 ∨ j = 2 ∨ j = 3 by omega) with rfl | rfl | rfl | rfl <;> rfl
def tr_beg : tr_T → Int32 → Int32 → tr_T | (_, _, _, _, _, _, _, _, ou, ed), x, y => (tr_cr x y, 0, 0, 0, 0, 0, 0, 0, ou, ed)
def tr_fin : tr_T → Int32 → Int32 → tr_T | (r, pl, la, dn, vi, de, ct, _, _, _), o, e => (r, pl, la, dn, vi, de, ct, 1, o, e)
def tr_dec : tr_T → Bool → tr_T | (r, pl, la, dn, vi, de, ct, en, ou, ed), y => (r, pl, la, dn, vi, (if y = true then de ||| ((1 : Int64) <<< ((39 - ct).toInt64 &&& 63)) else de), ct + 1, en, ou, ed)
def tr_go : tr_T → Int32 → tr_T | (r, _, la, dn, vi, de, ct, en, ou, ed), x => (r, x, la, dn, vi, de, ct, en, ou, ed)
def tr_reg : tr_T → Nat → Int32 → tr_T | (r, pl, la, dn, vi, de, ct, en, ou, ed), i, x => (upd r i x, pl, la, dn, vi, de, ct, en, ou, ed)
def tr_r (T : tr_T) (i : Int32) : Int32 := T.1 i.toNatClampNeg
def tr_pl (T : tr_T) : Int32 := T.2.1
def tr_la (T : tr_T) : Int32 := T.2.2.1
def tr_en (T : tr_T) : Int32 := T.2.2.2.2.2.2.2.1
def tr_ct (T : tr_T) : Int32 := T.2.2.2.2.2.2.1
def tr_com (op b c : Int32) : Int32 :=
  if op = 1 then (b + c) &&& 255 else if op = 2 then (b - c) &&& 255 else if op = 3 then b &&& c else if op = 4 then b ||| c else if op = 5 then b ^^^ c else (b * c) &&& 255
/-- the first rows of a step: latest, done, visited, place -/
def tr_pre : tr_T → tr_T | (r, pl, _, dn, vi, de, ct, en, ou, ed) => (r, pl + 1, pl, dn + 1, vi ||| ((1 : Int32) <<< (pl &&& 31)), de, ct, en, ou, ed)
def tr_goif (T : tr_T) (y : Bool) (c : Int32) : tr_T := if y = true then tr_go (tr_dec T y) c else tr_dec T y
def tr_div (T : tr_T) (a b c : Int32) : tr_T := if tr_r T c = 0 then tr_fin (tr_dec T true) 1 (tr_la T) else tr_reg (tr_dec T false) a.toNatClampNeg (tr_r T b / tr_r T c)
def tr_clm (T : tr_T) (a : Int32) : tr_T := if tr_r T a = 0 then tr_fin (tr_dec T true) 2 (tr_la T) else tr_dec T false
/-- one instruction -/
def tr_ins (T : tr_T) (op a b c : Int32) : tr_T :=
  if op = 0 then tr_reg T a.toNatClampNeg b
  else if op = 7 then tr_reg T a.toNatClampNeg (tr_r T b >>> (c &&& 31))
  else if op = 8 then tr_goif T (decide (tr_r T a < tr_r T b)) c
  else if op = 9 then tr_goif T (decide (tr_r T a = tr_r T b)) c
  else if op = 10 then tr_go T c
  else if op = 11 then tr_div T a b c
  else if op = 12 then tr_clm T a
  else if op = 13 then tr_fin T 0 (tr_r T a)
  else tr_reg T a.toNatClampNeg (tr_com op (tr_r T b) (tr_r T c))
def tr_stp (P : pr_T) (T : tr_T) : tr_T := tr_ins (tr_pre T) (P.1 (tr_pl T).toNatClampNeg) (P.2.1 (tr_pl T).toNatClampNeg) (P.2.2.1 (tr_pl T).toNatClampNeg) (P.2.2.2.1 (tr_pl T).toNatClampNeg)
def tr_lop (P : pr_T) : Nat → tr_T → tr_T
  | 0, T => T
  | k + 1, T => if tr_en T = 0 ∧ pr_has P (tr_pl T) = true then tr_lop P k (tr_stp P T) else T
def tr_end (P : pr_T) (T : tr_T) : tr_T := if tr_en T = 0 then (if pr_has P (tr_pl T) = true then tr_fin T 3 (tr_la T) else tr_fin T 0 (T.1 0)) else T
/-- a whole run -/
def tr_run (P : pr_T) (T : tr_T) (x y : Int32) : tr_T := tr_end P (tr_lop P 40 (tr_beg T x y))
