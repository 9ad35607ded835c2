/-! EXPLORING: the model's list and the class's, side by side -/
def so_ok (S : rs_T) : Prop := ∀ i j, i < j → j < S.1 → wr_de (S.2 i) < wr_de (S.2 j)
theorem i64_lt {a b : Int64} : a < b ↔ a.toInt < b.toInt := Int64.lt_iff_toInt_lt
theorem i64_eq {a b : Int64} : a = b ↔ a.toInt = b.toInt := Int64.toInt_inj.symm
theorem pos_spec (f : Nat → wr_T) (d : Int64) : ∀ (m i : Nat), (∀ t, i ≤ t → t < rs_pos f d m i → wr_de (f t) < d) ∧ (rs_pos f d m i < i + m → ¬ wr_de (f (rs_pos f d m i)) < d) := by
  intro m
  induction m with
  | zero => intro i; exact ⟨fun t h1 h2 => absurd (show t < i from h2) (by omega), fun h => absurd (show i < i + 0 from h) (by omega)⟩
  | succ m ih =>
    intro i
    unfold rs_pos
    by_cases h : wr_de (f i) < d
    · rw [if_pos h]
      obtain ⟨a1, a2⟩ := ih (i + 1)
      refine ⟨fun t h1 h2 => ?_, fun h2 => a2 (by omega)⟩
      by_cases e : t = i
      · subst e; exact h
      · exact a1 t (by omega) h2
    · rw [if_neg h]
      exact ⟨fun t h1 h2 => absurd h2 (by omega), fun _ => h⟩
theorem mpos_spec (f : Nat → mw_T) (d : Int64) : ∀ k, (∀ t, me_pos f d k ≤ t → t < k → d < (f t).1) ∧ (0 < me_pos f d k → ¬ d < (f (me_pos f d k - 1)).1) := by
  intro k
  induction k with
  | zero => exact ⟨fun t h1 h2 => absurd h2 (by omega), fun h => absurd (show 0 < 0 from h) (by omega)⟩
  | succ k ih =>
    unfold me_pos
    by_cases h : d < (f k).1
    · rw [if_pos h]
      refine ⟨fun t h1 h2 => ?_, ih.2⟩
      by_cases e : t = k
      · subst e; exact h
      · exact ih.1 t h1 (by omega)
    · rw [if_neg h]
      exact ⟨fun t h1 h2 => absurd h2 (by omega), fun _ => h⟩
def et_ok (k : Nat) (g : Nat → wr_T) (w : wr_T) (E : Nat × (Nat → mw_T)) : Option rs_T → Prop
  | none => E.1 = 65
  | some S' => E.1 = S'.1 ∧ (∀ i, i < S'.1 → E.2 i = mw_of (S'.2 i)) ∧ so_ok S' ∧ S'.1 ≤ 64 ∧ ∀ i, i < S'.1 → S'.2 i = w ∨ ∃ j, j < k ∧ S'.2 i = g j
theorem me_take {k : Nat} {g : Nat → wr_T} {f : Nat → mw_T} (w : wr_T) (hk : k ≤ 64) (hs : so_ok (k, g)) (ha : ∀ i, i < k → f i = mw_of (g i)) : et_ok k g w (me_ent k f (mw_of w)) (rs_take (k, g) w) := by
  have hle := rs_pos_le g (wr_de w) k 0
  have hml := me_pos_le f (wr_de w) k
  obtain ⟨p1, p2⟩ := pos_spec g (wr_de w) k 0
  obtain ⟨m1, m2⟩ := mpos_spec f (wr_de w) k
  have hfa : ∀ i, i < k → (f i).1 = wr_de (g i) := fun i hi => by rw [ha i hi]; rfl
  show et_ok k g w (if 0 < me_pos f (wr_de w) k ∧ (f (me_pos f (wr_de w) k - 1)).1 = wr_de w then (k, f) else (k + 1, mu (me_mv f (me_pos f (wr_de w) k) k) (me_pos f (wr_de w) k) (mw_of w))) (if rs_pos g (wr_de w) k 0 < k ∧ wr_de (g (rs_pos g (wr_de w) k 0)) = wr_de w then some (k, g) else if k = 64 then none else some (k + 1, rs_ins g (rs_pos g (wr_de w) k 0) w))
  generalize rs_pos g (wr_de w) k 0 = p at *
  generalize me_pos f (wr_de w) k = m at *
  by_cases hc : p < k ∧ wr_de (g p) = wr_de w
  · rw [if_pos hc]
    have hm : m = p + 1 := by
      rcases Nat.lt_trichotomy m (p + 1) with z | z | z
      · have := m1 p (by omega) hc.1
        rw [hfa p hc.1, hc.2, i64_lt] at this
        omega
      · exact z
      · have a := m2 (by omega)
        have b := hs p (m - 1) (by omega) (by show m - 1 < k; omega)
        rw [hfa (m - 1) (by omega)] at a
        have b' : wr_de (g p) < wr_de (g (m - 1)) := b
        rw [hc.2] at b'
        exact absurd b' a
    rw [if_pos ⟨by omega, by rw [hm]; show (f p).1 = _; rw [hfa p hc.1, hc.2]⟩]
    exact ⟨rfl, ha, hs, hk, fun i hi => Or.inr ⟨i, hi, rfl⟩⟩
  · rw [if_neg hc]
    have hgt : p < k → wr_de w < wr_de (g p) := by
      intro z
      have a := p2 (by omega)
      have b : ¬ wr_de (g p) = wr_de w := fun e => hc ⟨z, e⟩
      rw [i64_lt] at a ⊢
      rw [i64_eq] at b
      omega
    have hm : m = p := by
      rcases Nat.lt_trichotomy m p with z | z | z
      · have a := m1 (p - 1) (by omega) (by omega)
        have b := p1 (p - 1) (by omega) (by omega)
        rw [hfa (p - 1) (by omega)] at a
        rw [i64_lt] at a b
        omega
      · exact z
      · have a := m2 (by omega)
        rw [hfa (m - 1) (by omega)] at a
        have b := hgt (by omega)
        by_cases e : m - 1 = p
        · rw [e] at a; exact absurd b a
        · have c : wr_de (g p) < wr_de (g (m - 1)) := hs p (m - 1) (by omega) (by show m - 1 < k; omega)
          rw [i64_lt] at a b c
          omega
    subst hm
    have hno : ¬ (0 < m ∧ (f (m - 1)).1 = wr_de w) := by
      intro z
      have b := p1 (m - 1) (by omega) (by omega)
      have z2 := z.2
      rw [hfa (m - 1) (by omega)] at z2
      rw [z2, i64_lt] at b
      omega
    rw [if_neg hno]
    by_cases h64 : k = 64
    · rw [if_pos h64]
      show k + 1 = 65
      omega
    · rw [if_neg h64]
      refine ⟨rfl, fun i hi => ?_, fun i j hij hj => ?_, by show k + 1 ≤ 64; omega, fun i hi => ?_⟩
      · have hi' : i < k + 1 := hi
        show mu (me_mv f m k) m (mw_of w) i = mw_of (rs_ins g m w i)
        unfold mu me_mv rs_ins
        by_cases e1 : i = m
        · rw [if_pos e1, if_neg (by omega), if_pos e1]
        · rw [if_neg e1]
          by_cases e2 : i < m
          · rw [if_neg (by omega), if_pos e2]; exact ha i (by omega)
          · rw [if_pos (by omega), if_neg e2, if_neg e1]; exact ha (i - 1) (by omega)
      · have hj' : j < k + 1 := hj
        show wr_de (rs_ins g m w i) < wr_de (rs_ins g m w j)
        unfold rs_ins
        by_cases a1 : i < m
        · rw [if_pos a1]
          by_cases b1 : j < m
          · rw [if_pos b1]; exact hs i j hij (by show j < k; omega)
          · rw [if_neg b1]
            by_cases b2 : j = m
            · rw [if_pos b2]; exact p1 i (by omega) a1
            · rw [if_neg b2]; exact hs i (j - 1) (by omega) (by show j - 1 < k; omega)
        · rw [if_neg a1, if_neg (by omega : ¬ j < m)]
          by_cases a2 : i = m
          · rw [if_pos a2, if_neg (by omega : ¬ j = m)]
            have b := hgt (by omega)
            by_cases e : j - 1 = m
            · rw [e]; exact b
            · have c : wr_de (g m) < wr_de (g (j - 1)) := hs m (j - 1) (by omega) (by show j - 1 < k; omega)
              rw [i64_lt] at b c ⊢
              omega
          · rw [if_neg a2, if_neg (by omega : ¬ j = m)]
            exact hs (i - 1) (j - 1) (by omega) (by show j - 1 < k; omega)
      · have hi' : i < k + 1 := hi
        show rs_ins g m w i = w ∨ ∃ j, j < k ∧ rs_ins g m w i = g j
        unfold rs_ins
        by_cases e1 : i < m
        · rw [if_pos e1]; exact Or.inr ⟨i, by omega, rfl⟩
        · rw [if_neg e1]
          by_cases e2 : i = m
          · rw [if_pos e2]; exact Or.inl rfl
          · rw [if_neg e2]; exact Or.inr ⟨i - 1, by omega, rfl⟩
/-- the same exploring, by one number -/
def ex_fl (P : pr_T) (N : Nat) : Nat → Nat → rs_T → Option rs_T
  | 0, _, S => some S
  | g + 1, m, S => match rs_take S (ex_way P (m / N) (m % N)) with
    | none => none
    | some S' => ex_fl P N g (m + 1) S'
theorem fl_row (P : pr_T) (N x : Nat) : ∀ (gy y m : Nat) (S : rs_T), y + gy = N → ex_fl P N (gy + m) (x * N + y) S = (match ex_row P x gy y S with | none => none | some S' => ex_fl P N m ((x + 1) * N) S') := by
  intro gy
  induction gy with
  | zero =>
    intro y m S hy
    have e : x * N + y = (x + 1) * N := by rw [Nat.succ_mul]; omega
    rw [Nat.zero_add, e]; rfl
  | succ gy ih =>
    intro y m S hy
    have hN : 0 < N := by omega
    have e1 : (x * N + y) / N = x := by rw [Nat.mul_comm, Nat.mul_add_div hN, Nat.div_eq_of_lt (by omega)]; omega
    have e2 : (x * N + y) % N = y := by rw [Nat.mul_comm, Nat.mul_add_mod, Nat.mod_eq_of_lt (by omega)]
    rw [show gy + 1 + m = (gy + m) + 1 by omega]
    show (match rs_take S (ex_way P ((x * N + y) / N) ((x * N + y) % N)) with | none => none | some S' => ex_fl P N (gy + m) (x * N + y + 1) S') = (match (match rs_take S (ex_way P x y) with | none => none | some S' => ex_row P x gy (y + 1) S') with | none => none | some S' => ex_fl P N m ((x + 1) * N) S')
    rw [e1, e2]
    cases rs_take S (ex_way P x y) with
    | none => rfl
    | some S' => exact ih (y + 1) m S' (by omega)
theorem fl_all (P : pr_T) (N : Nat) : ∀ (gx x : Nat) (S : rs_T), ex_fl P N (gx * N) (x * N) S = ex_all P N gx x S := by
  intro gx
  induction gx with
  | zero => intro x S; rw [Nat.zero_mul]; rfl
  | succ gx ih =>
    intro x S
    rw [Nat.succ_mul, Nat.add_comm]
    have := fl_row P N x N 0 (gx * N) S (by omega)
    rw [Nat.add_zero] at this
    rw [this]
    show _ = (match ex_row P x N 0 S with | none => none | some S' => ex_all P N gx (x + 1) S')
    cases ex_row P x N 0 S with
    | none => rfl
    | some S' => exact ih (x + 1) S'
theorem fl_res (P : pr_T) (b : Nat) : ex_fl P (2 ^ b) (2 ^ b * 2 ^ b) 0 (0, fun _ => wr_0) = ex_res P b := by
  have := fl_all P (2 ^ b) (2 ^ b) 0 (0, fun _ => wr_0)
  rw [Nat.zero_mul] at this
  exact this
theorem ins_ct (G : tr_T) (op a1 b1 c1 : Int32) : tr_ct (tr_ins G op a1 b1 c1) = tr_ct G ∨ tr_ct (tr_ins G op a1 b1 c1) = tr_ct G + 1 := by
  obtain ⟨r, pl, la, dn, vi, de, ct, en, ou, ed⟩ := G
  unfold tr_ins tr_goif tr_div tr_clm
  repeat' split
  all_goals first | exact Or.inl rfl | exact Or.inr rfl
theorem lop_ct (P : pr_T) : ∀ (f : Nat) (T : tr_T) (c0 : Nat), tr_ct T = nI c0 → ∃ c1, c1 ≤ c0 + f ∧ tr_ct (tr_lop P f T) = nI c1 := by
  intro f
  induction f with
  | zero => intro T c0 h; exact ⟨c0, by omega, h⟩
  | succ f ih =>
    intro T c0 h
    show ∃ c1, c1 ≤ c0 + (f + 1) ∧ tr_ct (if tr_en T = 0 ∧ pr_has P (tr_pl T) = true then tr_lop P f (tr_stp P T) else T) = nI c1
    split
    · have hp : tr_ct (tr_pre T) = nI c0 := by
        obtain ⟨r, pl, la, dn, vi, de, ct, en, ou, ed⟩ := T
        exact h
      rcases ins_ct (tr_pre T) (P.1 (tr_pl T).toNatClampNeg) (P.2.1 (tr_pl T).toNatClampNeg) (P.2.2.1 (tr_pl T).toNatClampNeg) (P.2.2.2.1 (tr_pl T).toNatClampNeg) with z | z
      · obtain ⟨c1, h1, h2⟩ := ih (tr_stp P T) c0 (z.trans hp)
        exact ⟨c1, by omega, h2⟩
      · obtain ⟨c1, h1, h2⟩ := ih (tr_stp P T) (c0 + 1) (z.trans (by rw [hp, nI_1]))
        exact ⟨c1, by omega, h2⟩
    · exact ⟨c0, by omega, h⟩
theorem end_ct (P : pr_T) (T : tr_T) : tr_ct (tr_end P T) = tr_ct T := by
  obtain ⟨r, pl, la, dn, vi, de, ct, en, ou, ed⟩ := T
  unfold tr_end
  repeat' split
  all_goals rfl
theorem run_ct (P : pr_T) (x y : Int32) : ∃ c1, c1 ≤ 40 ∧ tr_ct (tr_run0 P x y) = nI c1 := by
  obtain ⟨c1, h1, h2⟩ := lop_ct P 40 (tr_beg tr_0 x y) 0 rfl
  exact ⟨c1, by omega, (end_ct P _).trans h2⟩
theorem way_ok (P : pr_T) {a b : Nat} (ha : a < 16) (hb : b < 16) : wr_ok (ex_way P a b) := by
  obtain ⟨c1, h1, h2⟩ := run_ct P (nI a) (nI b)
  unfold ex_way
  generalize tr_run0 P (nI a) (nI b) = T at *
  obtain ⟨r, pl, la, dn, vi, de, ct, en, ou, ed⟩ := T
  exact ⟨⟨a, b, ha, hb, rfl, rfl⟩, c1, h1, h2⟩
theorem way_mw (T : tr_T) (x y : Int32) : (tr_de T, tr_ct T, 16 * x + y, tr_ou T, tr_ed T, tr_vi T) = mw_of (wr_of T x y) := by
  obtain ⟨r, pl, la, dn, vi, de, ct, en, ou, ed⟩ := T
  rfl
theorem nn_all : ∀ b : Fin 4, ∀ m : Fin 256, nI m.val >>> (nI (b.val + 1) &&& 31) = nI (m.val / 2 ^ (b.val + 1)) ∧ nI m.val &&& (((1 : Int32) <<< (nI (b.val + 1) &&& 31)) - 1) = nI (m.val % 2 ^ (b.val + 1)) := by decide +kernel
theorem nn_b : ∀ b : Fin 4, ((1 : Int32) <<< ((2 * nI (b.val + 1)) &&& 31)) = nI (2 ^ (b.val + 1) * 2 ^ (b.val + 1)) := by decide +kernel
theorem nn_w {b m : Nat} (h1 : 1 ≤ b) (h4 : b ≤ 4) (hm : m < 256) : nI m >>> (nI b &&& 31) = nI (m / 2 ^ b) ∧ nI m &&& (((1 : Int32) <<< (nI b &&& 31)) - 1) = nI (m % 2 ^ b) := by
  have := nn_all ⟨b - 1, by omega⟩ ⟨m, hm⟩
  rw [show (⟨b - 1, by omega⟩ : Fin 4).val + 1 = b by show b - 1 + 1 = b; omega] at this
  exact this
theorem nn_c {b : Nat} (h1 : 1 ≤ b) (h4 : b ≤ 4) : ((1 : Int32) <<< ((2 * nI b) &&& 31)) = nI (2 ^ b * 2 ^ b) := by
  have := nn_b ⟨b - 1, by omega⟩
  rw [show (⟨b - 1, by omega⟩ : Fin 4).val + 1 = b by show b - 1 + 1 = b; omega] at this
  exact this
