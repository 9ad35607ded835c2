/-! THE SYSTEM'S CELLS: WayFinder 0, Program 1 with its arrays 2 .. 5, Traces 6 and 8 with their registers 7 and 9, Results 10 and 76, each with its array behind it and 64 Ways behind that -/
def bI (b : Bool) : Int32 := if b = true then 1 else 0
theorem bI_t : bI true = 1 := rfl
theorem bI_f : bI false = 0 := rfl
theorem bI_0 {b : Bool} (h : bI b = 0) : b = false := by cases b <;> simp_all [bI]
theorem bI_n0 {b : Bool} (h : ¬ bI b = 0) : b = true := by cases b <;> simp_all [bI]
theorem bI_01 (b : Bool) : bI b = 0 ∨ bI b = 1 := by cases b <;> simp [bI]
theorem za_ov1 (h : za_H) (i : Nat) (c : za_C) : za_ov h [(i, c)] = za_set h i c := za_ov_vs h [] i c
theorem za_ov2 (h : za_H) (i j : Nat) (c d : za_C) : za_ov h [(i, c), (j, d)] = za_set (za_set h j d) i c := by
  funext k
  show (match za_vg [(i, c), (j, d)] k with | some c => some c | none => h k) = _
  rw [za_vg_cons, za_vg_cons]
  by_cases e : i = k
  · subst e; rw [if_pos rfl, za_set_eq]
  · rw [if_neg e, za_set_ne (fun q => e q.symm)]
    by_cases e2 : j = k
    · subst e2; rw [if_pos rfl, za_set_eq]
    · rw [if_neg e2, za_set_ne (fun q => e2 q.symm)]; rfl
theorem za_set_same {h : za_H} {i : Nat} {c : za_C} (e : h i = some c) : za_set h i c = h := by
  funext j
  by_cases q : j = i
  · subst q; rw [za_set_eq, e]
  · rw [za_set_ne q]
theorem za_set_set (h : za_H) (i : Nat) (c d : za_C) : za_set (za_set h i c) i d = za_set h i d := by
  funext j
  by_cases q : j = i
  · subst q; rw [za_set_eq, za_set_eq]
  · rw [za_set_ne q, za_set_ne q, za_set_ne q]
theorem za_set_comm {h : za_H} {i j : Nat} {c d : za_C} (e : i ≠ j) : za_set (za_set h i c) j d = za_set (za_set h j d) i c := by
  funext k
  by_cases q : k = j
  · subst q; rw [za_set_eq, za_set_ne (Ne.symm e), za_set_eq]
  · rw [za_set_ne q]
    by_cases q2 : k = i
    · subst q2; rw [za_set_eq, za_set_eq]
    · rw [za_set_ne q2, za_set_ne q2, za_set_ne q]
/-- a Trace at t, its registers at t + 1 -/
def tr_c (t : Nat) : tr_T → za_C | (_, pl, la, dn, vi, de, ct, en, ou, ed) => .inr (zn_T, [vR (t + 1), vI pl, vI la, vI dn, vI vi, vL de, vI ct, vI en, vI ou, vI ed])
def tr_g (T : tr_T) : za_C := .inl (0, 4, .inl T.1)
def tr_at (h : za_H) (t : Nat) (T : tr_T) : Prop := h t = some (tr_c t T) ∧ h (t + 1) = some (tr_g T)
def tr_put (h : za_H) (t : Nat) (T : tr_T) : za_H := za_set (za_set h (t + 1) (tr_g T)) t (tr_c t T)
theorem tr_put_at (h : za_H) (t : Nat) (T : tr_T) : tr_at (tr_put h t T) t T := ⟨za_set_eq _ _ _, by unfold tr_put; rw [za_set_ne (by omega), za_set_eq]⟩
theorem tr_put_ne {h : za_H} {t : Nat} {T : tr_T} {j : Nat} (h1 : j ≠ t) (h2 : j ≠ t + 1) : tr_put h t T j = h j := by unfold tr_put; rw [za_set_ne h1, za_set_ne h2]
theorem tr_put_put (h : za_H) (t : Nat) (T T' : tr_T) : tr_put (tr_put h t T) t T' = tr_put h t T' := by
  funext j
  by_cases e1 : j = t
  · subst e1; rw [(tr_put_at _ _ _).1, (tr_put_at _ _ _).1]
  · by_cases e2 : j = t + 1
    · subst e2; rw [(tr_put_at _ _ _).2, (tr_put_at _ _ _).2]
    · rw [tr_put_ne e1 e2, tr_put_ne e1 e2, tr_put_ne e1 e2]
theorem tr_put_same {h : za_H} {t : Nat} {T : tr_T} (e : tr_at h t T) : tr_put h t T = h := by
  unfold tr_put; rw [za_set_same e.2, za_set_same e.1]
theorem tr_ov (h : za_H) (t : Nat) (T : tr_T) : za_ov h [(t, tr_c t T), (t + 1, tr_g T)] = tr_put h t T := za_ov2 h t (t + 1) _ _
/-- the program at 1 -/
def pr_c (n : Nat) : za_C := .inr (zn_P, [vR 2, vR 3, vR 4, vR 5, vI (nI n)])
def pr_g (f : Nat → Int32) : za_C := .inl (0, 24, .inl f)
def pr_at (h : za_H) : pr_T → Prop | (o, a, b, c, n) => h 1 = some (pr_c n) ∧ h 2 = some (pr_g o) ∧ h 3 = some (pr_g a) ∧ h 4 = some (pr_g b) ∧ h 5 = some (pr_g c)
theorem pr_at_off {h h' : za_H} {P : pr_T} (hP : pr_at h P) (e : ∀ j, 1 ≤ j → j ≤ 5 → h' j = h j) : pr_at h' P := by
  obtain ⟨o, a, b, c, n⟩ := P
  obtain ⟨h1, h2, h3, h4, h5⟩ := hP
  exact ⟨by rw [e 1 (by omega) (by omega)]; exact h1, by rw [e 2 (by omega) (by omega)]; exact h2, by rw [e 3 (by omega) (by omega)]; exact h3, by rw [e 4 (by omega) (by omega)]; exact h4, by rw [e 5 (by omega) (by omega)]; exact h5⟩
theorem tr_back (h : za_H) (t : Nat) (T T1 : tr_T) : za_ov h [(t, tr_c t T1), (t + 1, tr_g T1)] = za_ov (tr_put (za_ov h [(t, tr_c t T), (t + 1, tr_g T)]) t T1) [] := by
  rw [tr_ov, tr_ov, za_ov_nil, tr_put_put]
/-- what stands at the list's end and is so already may go -/
theorem za_ov_app {h : za_H} (v : List (Nat × za_C)) {w : List (Nat × za_C)} (e : ∀ q ∈ w, h q.1 = some q.2) : za_ov h v = za_ov h (v ++ w) := by
  have key : ∀ (u : List (Nat × za_C)) (i : Nat), za_ov h (u ++ w) i = za_ov h u i := by
    intro u
    induction u with
    | nil => intro i; show za_ov h w i = h i; rw [za_ov_same e]
    | cons q t ih =>
      obtain ⟨j, c⟩ := q
      intro i
      show (match za_vg ((j, c) :: (t ++ w)) i with | some c => some c | none => h i) = (match za_vg ((j, c) :: t) i with | some c => some c | none => h i)
      rw [za_vg_cons, za_vg_cons]
      by_cases e1 : j = i
      · rw [if_pos e1, if_pos e1]
      · rw [if_neg e1, if_neg e1]; exact ih i
  funext i
  exact (key v i).symm
