/-! WAYS AND RESULTS AS FUNCTIONS. A way: x, y, outcome, end, decisions, decisionCount, visited -/
abbrev wr_T : Type := Int32 × Int32 × Int32 × Int32 × Int64 × Int32 × Int32
def wr_c : wr_T → za_C | (x, y, ou, ed, de, ct, _) => .inr (zn_W, [vI x, vI y, vI ou, vI ed, vL de, vI ct])
def wr_de (q : wr_T) : Int64 := q.2.2.2.2.1
def wr_ct (q : wr_T) : Int32 := q.2.2.2.2.2.1
def wr_vi (q : wr_T) : Int32 := q.2.2.2.2.2.2
def wr_of : tr_T → Int32 → Int32 → wr_T | (_, _, _, _, vi, de, ct, _, ou, ed), x, y => (x, y, ou, ed, de, ct, vi)
def tr_de (T : tr_T) : Int64 := T.2.2.2.2.2.1
def tr_vi (T : tr_T) : Int32 := T.2.2.2.2.1
def wr_ag (q : wr_T) (T : tr_T) : Bool := decide (¬ wr_ct q < tr_ct T) && decide (wr_de q >>> ((40 - tr_ct T).toInt64 &&& 63) = tr_de T >>> ((40 - tr_ct T).toInt64 &&& 63))
def rs_or (f : Nat → wr_T) : Nat → Int32
  | 0 => 0
  | k + 1 => rs_or f k ||| wr_vi (f k)
/-- the first place from i on, at most m further, whose decisions aren't less -/
def rs_pos (f : Nat → wr_T) (d : Int64) : Nat → Nat → Nat
  | 0, i => i
  | m + 1, i => if wr_de (f i) < d then rs_pos f d m (i + 1) else i
def rs_ins (f : Nat → wr_T) (j : Nat) (q : wr_T) : Nat → wr_T := fun i => if i < j then f i else if i = j then q else f (i - 1)
/-- how many ways, and the ways -/
abbrev rs_T : Type := Nat × (Nat → wr_T)
def rs_take : rs_T → wr_T → Option rs_T | (k, f), q => if rs_pos f (wr_de q) k 0 < k ∧ wr_de (f (rs_pos f (wr_de q) k 0)) = wr_de q then some (k, f) else if k = 64 then none else some (k + 1, rs_ins f (rs_pos f (wr_de q) k 0) q)
theorem rs_pos_le (f : Nat → wr_T) (d : Int64) : ∀ (m i : Nat), i ≤ rs_pos f d m i ∧ rs_pos f d m i ≤ i + m := by
  intro m
  induction m with
  | zero => intro i; exact ⟨Nat.le_refl _, Nat.le_refl _⟩
  | succ m ih =>
    intro i
    unfold rs_pos
    split
    · have := ih (i + 1); omega
    · omega
def rs_c (rid k : Nat) (vis : Int32) : za_C := .inr (zn_R, [vR (rid + 1), vI (nI k), vI vis])
def rs_g (w : Nat → Nat) : za_C := .inl (2, 64, .inr (.inr (fun i => some (w i))))
/-- the Results at rid: its array names the 64 Ways behind it, each once; the first k of them hold f -/
def rs_at (h : za_H) (rid : Nat) (w : Nat → Nat) (S : rs_T) : Prop :=
  h rid = some (rs_c rid S.1 (rs_or S.2 S.1)) ∧ h (rid + 1) = some (rs_g w) ∧ (∀ i, i < 64 → ∃ q, h (w i) = some (wr_c q)) ∧ (∀ i, i < S.1 → h (w i) = some (wr_c (S.2 i))) ∧ (∀ i, i < 64 → rid + 2 ≤ w i ∧ w i < rid + 66) ∧ (∀ i j, i < 64 → j < 64 → w i = w j → i = j) ∧ S.1 ≤ 64
/-- the array's places from i + 1 to k hold what stood one before -/
def rs_mv (w : Nat → Nat) (i k : Nat) : Nat → Nat := fun p => if i < p ∧ p ≤ k then w (p - 1) else w p
def rs_rot (w : Nat → Nat) (j k : Nat) : Nat → Nat := fun p => if p = j then w k else rs_mv w j k p
theorem rs_mv_0 (w : Nat → Nat) (k : Nat) : rs_mv w k k = w := by
  funext p
  unfold rs_mv
  rw [if_neg (by omega)]
theorem rs_g_up (w : Nat → Nat) (j x : Nat) : (va_up (fun i => some (w i)) j (some x) : Nat → Option Nat) = fun i => some (if i = j then x else w i) := by
  funext i
  unfold va_up
  by_cases e : i = j
  · rw [if_pos e, if_pos e]
  · rw [if_neg e, if_neg e]
theorem rs_mv_s {w : Nat → Nat} {i k : Nat} (h : i < k + 1) : (fun p => if p = i + 1 then rs_mv w (i + 1) k i else rs_mv w (i + 1) k p) = if i + 1 ≤ k then rs_mv w i k else fun p => if p = i + 1 then w i else w p := by
  split
  · rename_i hk
    funext p
    unfold rs_mv
    by_cases e : p = i + 1
    · subst e
      rw [if_pos rfl, if_neg (by omega), if_pos (by omega)]
      rfl
    · rw [if_neg e]
      by_cases e2 : i + 1 < p ∧ p ≤ k
      · rw [if_pos e2, if_pos (by omega)]
      · rw [if_neg e2, if_neg (by omega)]
  · rename_i hk
    funext p
    unfold rs_mv
    by_cases e : p = i + 1
    · rw [if_pos e, if_pos e, if_neg (by omega)]
    · rw [if_neg e, if_neg e, if_neg (by omega)]
theorem rs_rot_range {w : Nat → Nat} {lo hi j k : Nat} (hk : k < 64) (hr : ∀ i, i < 64 → lo ≤ w i ∧ w i < hi) : ∀ i, i < 64 → lo ≤ rs_rot w j k i ∧ rs_rot w j k i < hi := by
  intro i hi2
  unfold rs_rot rs_mv
  split
  · exact hr k hk
  · split
    · exact hr (i - 1) (by omega)
    · exact hr i hi2
theorem rs_rot_inj {w : Nat → Nat} {j k : Nat} (hk : k < 64) (hj : j ≤ k) (hi : ∀ a b, a < 64 → b < 64 → w a = w b → a = b) : ∀ a b, a < 64 → b < 64 → rs_rot w j k a = rs_rot w j k b → a = b := by
  intro a b ha hb h
  unfold rs_rot rs_mv at h
  by_cases e1 : a = j <;> by_cases e2 : b = j
  · omega
  · rw [if_pos e1, if_neg e2] at h
    split at h
    · have := hi _ _ hk (by omega) h; omega
    · have := hi _ _ hk hb h; omega
  · rw [if_neg e1, if_pos e2] at h
    split at h
    · have := hi _ _ (by omega) hk h; omega
    · have := hi _ _ ha hk h; omega
  · rw [if_neg e1, if_neg e2] at h
    split at h <;> split at h
    · have := hi _ _ (by omega) (by omega) h; omega
    · have := hi _ _ (by omega) hb h; omega
    · have := hi _ _ ha (by omega) h; omega
    · exact hi _ _ ha hb h
theorem i32_or_assoc (a b c : Int32) : a ||| b ||| c = a ||| (b ||| c) := Int32.or_assoc a b c
theorem i32_or_comm (a b : Int32) : a ||| b = b ||| a := Int32.or_comm a b
theorem rs_or_eq {f g : Nat → wr_T} : ∀ k, (∀ i, i < k → wr_vi (f i) = wr_vi (g i)) → rs_or f k = rs_or g k := by
  intro k
  induction k with
  | zero => intro _; rfl
  | succ k ih =>
    intro h
    unfold rs_or
    rw [ih (fun i hi => h i (by omega)), h k (by omega)]
theorem rs_or_ins (f : Nat → wr_T) (q : wr_T) : ∀ (k j : Nat), j ≤ k → rs_or (rs_ins f j q) (k + 1) = rs_or f k ||| wr_vi q := by
  intro k
  induction k with
  | zero =>
    intro j hj
    have : j = 0 := by omega
    subst this
    show rs_or (rs_ins f 0 q) 0 ||| wr_vi (rs_ins f 0 q 0) = _
    rfl
  | succ k ih =>
    intro j hj
    by_cases e : j = k + 1
    · subst e
      show rs_or (rs_ins f (k + 1) q) (k + 1) ||| wr_vi (rs_ins f (k + 1) q (k + 1)) = _
      have e1 : rs_ins f (k + 1) q (k + 1) = q := by simp [rs_ins]
      rw [e1, rs_or_eq (g := f) (k + 1) (fun i hi => by simp [rs_ins, hi])]
    · show rs_or (rs_ins f j q) (k + 1) ||| wr_vi (rs_ins f j q (k + 1)) = (rs_or f k ||| wr_vi (f k)) ||| wr_vi q
      have e1 : rs_ins f j q (k + 1) = f k := by
        unfold rs_ins
        rw [if_neg (by omega), if_neg (by omega)]; rfl
      rw [ih j (by omega), e1, i32_or_assoc, i32_or_comm (wr_vi q), ← i32_or_assoc]
theorem za_ov_sec {h : za_H} {a b : Nat} {c d d' : za_C} (e : a ≠ b) : za_ov h [(a, c), (b, d')] = za_set (za_ov h [(a, c), (b, d)]) b d' := by
  rw [za_ov2, za_ov2]
  funext k
  by_cases q : k = b
  · subst q
    rw [za_set_ne (Ne.symm e), za_set_eq, za_set_eq]
  · rw [za_set_ne q]
    by_cases q2 : k = a
    · subst q2; rw [za_set_eq, za_set_eq]
    · rw [za_set_ne q2, za_set_ne q2, za_set_ne q, za_set_ne q]
theorem za_ov_sat {h : za_H} {a b : Nat} {c d : za_C} (e : a ≠ b) : za_ov h [(a, c), (b, d)] b = some d := by
  rw [za_ov2, za_set_ne (Ne.symm e), za_set_eq]
theorem lg_0 {x y : Int64} : lg_cmp x y = 0 ↔ x = y := by
  unfold lg_cmp
  by_cases h1 : y < x
  · rw [if_pos h1]
    constructor
    · intro q; cases q
    · intro q; subst q; exact absurd h1 (Int64.lt_irrefl)
  · rw [if_neg h1]
    by_cases h2 : x = y
    · rw [if_pos h2]; exact ⟨fun _ => h2, fun _ => rfl⟩
    · rw [if_neg h2]
      constructor
      · intro q; cases q
      · intro q; exact absurd q h2
theorem lg_neg {x y : Int64} : (0 ≤ lg_cmp x y) ↔ ¬ x < y := by
  unfold lg_cmp
  by_cases h1 : y < x
  · rw [if_pos h1]
    exact ⟨fun _ => Int64.not_lt.mpr (Int64.le_of_lt h1), fun _ => by decide⟩
  · rw [if_neg h1]
    by_cases h2 : x = y
    · rw [if_pos h2]; subst h2; exact ⟨fun _ => Int64.lt_irrefl, fun _ => by decide⟩
    · rw [if_neg h2]
      constructor
      · intro q; exact absurd q (by decide)
      · intro q
        exact absurd (Int64.le_antisymm (Int64.not_lt.mp h1) (Int64.not_lt.mp q)) h2
