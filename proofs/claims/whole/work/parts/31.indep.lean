/-! A RUN DOES NOT DEPEND ON THE RUN BEFORE IT -/
def tr_sm (A B : tr_T) : Prop := ∃ (r : Nat → Int32) (pl la dn vi : Int32) (de : Int64) (ct en o1 e1 o2 e2 : Int32), A = (r, pl, la, dn, vi, de, ct, en, o1, e1) ∧ B = (r, pl, la, dn, vi, de, ct, en, o2, e2) ∧ (en = 0 ∨ (o1 = o2 ∧ e1 = e2))
theorem sm_reg {A B : tr_T} (h : tr_sm A B) (i : Nat) (x : Int32) : tr_sm (tr_reg A i x) (tr_reg B i x) := by
  obtain ⟨r, pl, la, dn, vi, de, ct, en, o1, e1, o2, e2, rfl, rfl, h⟩ := h
  exact ⟨_, _, _, _, _, _, _, _, _, _, _, _, rfl, rfl, h⟩
theorem sm_go {A B : tr_T} (h : tr_sm A B) (x : Int32) : tr_sm (tr_go A x) (tr_go B x) := by
  obtain ⟨r, pl, la, dn, vi, de, ct, en, o1, e1, o2, e2, rfl, rfl, h⟩ := h
  exact ⟨_, _, _, _, _, _, _, _, _, _, _, _, rfl, rfl, h⟩
theorem sm_dec {A B : tr_T} (h : tr_sm A B) (y : Bool) : tr_sm (tr_dec A y) (tr_dec B y) := by
  obtain ⟨r, pl, la, dn, vi, de, ct, en, o1, e1, o2, e2, rfl, rfl, h⟩ := h
  exact ⟨_, _, _, _, _, _, _, _, _, _, _, _, rfl, rfl, h⟩
theorem sm_pre {A B : tr_T} (h : tr_sm A B) : tr_sm (tr_pre A) (tr_pre B) := by
  obtain ⟨r, pl, la, dn, vi, de, ct, en, o1, e1, o2, e2, rfl, rfl, h⟩ := h
  exact ⟨_, _, _, _, _, _, _, _, _, _, _, _, rfl, rfl, h⟩
theorem sm_fin {A B : tr_T} (h : tr_sm A B) (o e : Int32) : tr_sm (tr_fin A o e) (tr_fin B o e) := by
  obtain ⟨r, pl, la, dn, vi, de, ct, en, o1, e1, o2, e2, rfl, rfl, h⟩ := h
  exact ⟨_, _, _, _, _, _, _, _, _, _, _, _, rfl, rfl, Or.inr ⟨rfl, rfl⟩⟩
theorem sm_r {A B : tr_T} (h : tr_sm A B) (i : Int32) : tr_r A i = tr_r B i := by
  obtain ⟨r, pl, la, dn, vi, de, ct, en, o1, e1, o2, e2, rfl, rfl, h⟩ := h
  rfl
theorem sm_r0 {A B : tr_T} (h : tr_sm A B) : A.1 = B.1 := by
  obtain ⟨r, pl, la, dn, vi, de, ct, en, o1, e1, o2, e2, rfl, rfl, h⟩ := h
  rfl
theorem sm_la {A B : tr_T} (h : tr_sm A B) : tr_la A = tr_la B := by
  obtain ⟨r, pl, la, dn, vi, de, ct, en, o1, e1, o2, e2, rfl, rfl, h⟩ := h
  rfl
theorem sm_pl {A B : tr_T} (h : tr_sm A B) : tr_pl A = tr_pl B := by
  obtain ⟨r, pl, la, dn, vi, de, ct, en, o1, e1, o2, e2, rfl, rfl, h⟩ := h
  rfl
theorem sm_en {A B : tr_T} (h : tr_sm A B) : tr_en A = tr_en B := by
  obtain ⟨r, pl, la, dn, vi, de, ct, en, o1, e1, o2, e2, rfl, rfl, h⟩ := h
  rfl
theorem sm_eq {A B : tr_T} (h : tr_sm A B) (hn : ¬ tr_en A = 0) : A = B := by
  obtain ⟨r, pl, la, dn, vi, de, ct, en, o1, e1, o2, e2, rfl, rfl, h⟩ := h
  rcases h with h | ⟨rfl, rfl⟩
  · exact absurd h hn
  · rfl
theorem sm_goif {A B : tr_T} (h : tr_sm A B) (y : Bool) (c : Int32) : tr_sm (tr_goif A y c) (tr_goif B y c) := by
  unfold tr_goif
  by_cases e : y = true
  · rw [if_pos e, if_pos e]; exact sm_go (sm_dec h y) c
  · rw [if_neg e, if_neg e]; exact sm_dec h y
theorem sm_ins {A B : tr_T} (h : tr_sm A B) (op a b c : Int32) : tr_sm (tr_ins A op a b c) (tr_ins B op a b c) := by
  unfold tr_ins
  by_cases h0 : op = 0
  · rw [if_pos h0, if_pos h0]; exact sm_reg h _ _
  rw [if_neg h0, if_neg h0]
  by_cases h7 : op = 7
  · rw [if_pos h7, if_pos h7, sm_r h]; exact sm_reg h _ _
  rw [if_neg h7, if_neg h7]
  by_cases h8 : op = 8
  · rw [if_pos h8, if_pos h8, sm_r h, sm_r h]; exact sm_goif h _ _
  rw [if_neg h8, if_neg h8]
  by_cases h9 : op = 9
  · rw [if_pos h9, if_pos h9, sm_r h, sm_r h]; exact sm_goif h _ _
  rw [if_neg h9, if_neg h9]
  by_cases h10 : op = 10
  · rw [if_pos h10, if_pos h10]; exact sm_go h _
  rw [if_neg h10, if_neg h10]
  by_cases h11 : op = 11
  · rw [if_pos h11, if_pos h11]
    unfold tr_div
    rw [sm_r h c, sm_r h b, sm_la h]
    by_cases e : tr_r B c = 0
    · rw [if_pos e, if_pos e]; exact sm_fin (sm_dec h _) _ _
    · rw [if_neg e, if_neg e]; exact sm_reg (sm_dec h _) _ _
  rw [if_neg h11, if_neg h11]
  by_cases h12 : op = 12
  · rw [if_pos h12, if_pos h12]
    unfold tr_clm
    rw [sm_r h a, sm_la h]
    by_cases e : tr_r B a = 0
    · rw [if_pos e, if_pos e]; exact sm_fin (sm_dec h _) _ _
    · rw [if_neg e, if_neg e]; exact sm_dec h _
  rw [if_neg h12, if_neg h12]
  by_cases h13 : op = 13
  · rw [if_pos h13, if_pos h13, sm_r h]; exact sm_fin h _ _
  rw [if_neg h13, if_neg h13, sm_r h b, sm_r h c]
  exact sm_reg h _ _
theorem sm_lop (P : pr_T) : ∀ (k : Nat) (A B : tr_T), tr_sm A B → tr_sm (tr_lop P k A) (tr_lop P k B) := by
  intro k
  induction k with
  | zero => intro A B h; exact h
  | succ k ih =>
    intro A B h
    unfold tr_lop
    rw [sm_en h, sm_pl h]
    by_cases e : tr_en B = 0 ∧ pr_has P (tr_pl B) = true
    · rw [if_pos e, if_pos e]
      refine ih _ _ ?_
      unfold tr_stp
      rw [sm_pl h]
      exact sm_ins (sm_pre h) _ _ _ _
    · rw [if_neg e, if_neg e]; exact h
theorem sm_end (P : pr_T) {A B : tr_T} (h : tr_sm A B) : tr_end P A = tr_end P B := by
  unfold tr_end
  by_cases e : tr_en A = 0
  · have eB : tr_en B = 0 := by rw [← sm_en h]; exact e
    rw [if_pos e, if_pos eB, sm_pl h, sm_la h, sm_r0 h]
    split
    · exact sm_eq (sm_fin h _ _) (by obtain ⟨r, pl, la, dn, vi, de, ct, en, o1, e1, o2, e2, rfl, rfl, -⟩ := h; show ¬ (1 : Int32) = 0; decide)
    · exact sm_eq (sm_fin h _ _) (by obtain ⟨r, pl, la, dn, vi, de, ct, en, o1, e1, o2, e2, rfl, rfl, -⟩ := h; show ¬ (1 : Int32) = 0; decide)
  · have eB : ¬ tr_en B = 0 := by rw [← sm_en h]; exact e
    rw [if_neg e, if_neg eB]
    exact sm_eq h e
theorem sm_beg (A B : tr_T) (x y : Int32) : tr_sm (tr_beg A x y) (tr_beg B x y) := by
  obtain ⟨r, pl, la, dn, vi, de, ct, en, ou, ed⟩ := A
  obtain ⟨r', pl', la', dn', vi', de', ct', en', ou', ed'⟩ := B
  exact ⟨_, _, _, _, _, _, _, _, _, _, _, _, rfl, rfl, Or.inl rfl⟩
def tr_0 : tr_T := (fun _ => 0, 0, 0, 0, 0, 0, 0, 0, 0, 0)
def tr_run0 (P : pr_T) (x y : Int32) : tr_T := tr_run P tr_0 x y
theorem tr_run_eq (P : pr_T) (T : tr_T) (x y : Int32) : tr_run P T x y = tr_run0 P x y := sm_end P (sm_lop P 40 _ _ (sm_beg _ _ x y))
/-! EXPLORING AS A FUNCTION: N rows of N inputs -/
def ex_way (P : pr_T) (x y : Nat) : wr_T := wr_of (tr_run0 P (nI x) (nI y)) (nI x) (nI y)
def ex_row (P : pr_T) (x : Nat) : Nat → Nat → rs_T → Option rs_T
  | 0, _, S => some S
  | g + 1, y, S => match rs_take S (ex_way P x y) with
    | none => none
    | some S' => ex_row P x g (y + 1) S'
def ex_all (P : pr_T) (N : Nat) : Nat → Nat → rs_T → Option rs_T
  | 0, _, S => some S
  | g + 1, x, S => match ex_row P x N 0 S with
    | none => none
    | some S' => ex_all P N g (x + 1) S'
def in_lg (b : Nat) : Int32 := ((1 : Int32) <<< (nI b &&& 31)) - 1
def in_ok (b : Nat) (x y : Int32) : Bool := pr_up (in_lg b) x && pr_up (in_lg b) y
theorem in_pw {b : Nat} (h1 : 1 ≤ b) (h4 : b ≤ 4) : (1 : Int32) <<< (nI b &&& 31) = nI (2 ^ b) := by
  rcases (show b = 1 ∨ b = 2 ∨ b = 3 ∨ b = 4 by omega) with rfl | rfl | rfl | rfl <;> decide
