/-! ABSTRACT VALUES, CELLS, HEAPS. A reference is the number of a cell behind z, the heap's size at the law's entry: what the system makes lies at z + 0, z + 1 .. -/
abbrev za_V : Type := Int32 ⊕ (Int64 ⊕ Option Nat)
abbrev vI (x : Int32) : za_V := Sum.inl x
abbrev vL (x : Int64) : za_V := Sum.inr (Sum.inl x)
abbrev vR (i : Nat) : za_V := Sum.inr (Sum.inr (some i))
abbrev vN : za_V := Sum.inr (Sum.inr none)
/-- an array: the number of its type in za_ty, its length, what it holds -/
abbrev za_A : Type := Nat × Nat × ((Nat → Int32) ⊕ ((Nat → Int64) ⊕ (Nat → Option Nat)))
abbrev za_C : Type := za_A ⊕ (Nat × List za_V)
abbrev za_H : Type := Nat → Option za_C
abbrev za_D : Type := va_G × (Nat → ClassId) × Nat
def za_cv (z : Nat) : za_V → Value
  | .inl x => .int x
  | .inr (.inl x) => .long x
  | .inr (.inr none) => .null
  | .inr (.inr (some i)) => .ref (z + i)
def za_c2 : za_V → Bool
  | .inr (.inl _) => true
  | _ => false
theorem za_cat (z : Nat) (v : za_V) : (za_cv z v).category = if za_c2 v = true then 2 else 1 := by
  rcases v with x | x | x
  · rfl
  · rfl
  · cases x <;> rfl
theorem za_cat1 {z : Nat} {v : za_V} (h : za_c2 v = false) : (za_cv z v).category = 1 := by rw [za_cat, h]; rfl
def za_ce (D : za_D) : za_C → va_E
  | .inl (k, n, .inl f) => .inl (D.2.1 k, n, .inl f)
  | .inl (k, n, .inr (.inl f)) => .inl (D.2.1 k, n, .inr (.inl f))
  | .inl (k, n, .inr (.inr g)) => .inl (D.2.1 k, n, .inr (.inr (.inr (.inr (fun j => (g j).map (fun i => D.2.2 + i))))))
  | .inr (ci, fs) => .inr (ci, fs.map (za_cv D.2.2))
def za_at (D : za_D) (i : Nat) (c : za_C) (H : Heap) : Prop := va_at D.1 za_cl (D.2.2 + i, za_ce D c) H
/-- the heap holds the picture h of n cells behind z; no cell there is a cell of statics -/
def za_Rp (D : za_D) (h : za_H) (n : Nat) (H : Heap) : Prop := H.size = D.2.2 + n ∧ (∀ (i : Nat) (c : za_C), h i = some c → za_at D i c H) ∧ ∀ (q : Nat) (c : Cell), D.2.2 ≤ q → H[q]? = some c → c.vm = .none
def za_tys (D : za_D) : List (ClassId × FieldType) := (List.range za_ty.length).map (fun k => (D.2.1 k, za_ty.getD k .int))
theorem za_tys_at (D : za_D) {k : Nat} {ty : FieldType} (h : za_ty[k]? = some ty) : (za_tys D)[k]? = some (D.2.1 k, ty) := by
  have hl : k < za_ty.length := (List.getElem?_eq_some_iff.mp h).1
  simp only [za_tys, List.getElem?_map, List.getElem?_range hl, Option.map_some, List.getD_eq_getElem?_getD, h, Option.getD_some]
def za_set (h : za_H) (i : Nat) (c : za_C) : za_H := fun j => if j = i then some c else h j
theorem za_set_eq (h : za_H) (i : Nat) (c : za_C) : za_set h i c i = some c := by simp [za_set]
theorem za_set_ne {h : za_H} {i j : Nat} {c : za_C} (e : j ≠ i) : za_set h i c j = h j := by simp [za_set, e]
theorem za_at.ltz {D : za_D} {i : Nat} {c : za_C} {H : Heap} (h : za_at D i c H) : D.2.2 + i < H.size := va_at.lt (q := (D.2.2 + i, za_ce D c)) h
theorem za_at.plain {D : za_D} {i : Nat} {c : za_C} {H : Heap} {q : Cell} (h : za_at D i c H) (hq : H[D.2.2 + i]? = some q) : q.vm = .none := by
  rcases c with ⟨k, n, f | f | f⟩ | ⟨ci, fs⟩
  · have h1 : H[D.2.2 + i]? = some (vp_cell (D.2.1 k) (n, .inl f)) := h
    rw [hq] at h1; cases h1; rfl
  · have h1 : H[D.2.2 + i]? = some (vp_cell (D.2.1 k) (n, .inr (.inl f))) := h
    rw [hq] at h1; cases h1; rfl
  · have h1 : H[D.2.2 + i]? = some (vp_cell (D.2.1 k) (n, .inr (.inr (.inr (.inr (fun j => (f j).map (fun i => D.2.2 + i))))))) := h
    rw [hq] at h1; cases h1; rfl
  · have h1 : ∃ r : vw_C, za_cl[ci]? = some r ∧ t_OB (D.2.2 + i) (D.1.1 ci) r.2.2 (D.1.2 ci) H (vp_V (fs.map (za_cv D.2.2))) := h
    obtain ⟨r, -, cell, q1, -, q3, -⟩ := h1
    rw [hq] at q1; cases q1; exact q3
theorem za_Rp.set {D : za_D} {h : za_H} {n i : Nat} {c : za_C} {H H1 : Heap} (hR : za_Rp D h n H) (hz : H1.size = H.size) (ha : za_at D i c H1) (ho : ∀ q : Nat, q ≠ D.2.2 + i → H1[q]? = H[q]?) : za_Rp D (za_set h i c) n H1 := by
  refine ⟨hz.trans hR.1, fun j c' hj => ?_, fun q cell hq hc => ?_⟩
  · by_cases e : j = i
    · subst e
      rw [za_set_eq] at hj
      cases hj
      exact ha
    · rw [za_set_ne e] at hj
      exact va_at.kept (q := (D.2.2 + j, za_ce D c')) (hR.2.1 j c' hj) (ho (D.2.2 + j) (by omega))
  · by_cases e : q = D.2.2 + i
    · subst e
      exact ha.plain hc
    · rw [ho q e] at hc
      exact hR.2.2 q cell hq hc
theorem za_Rp.push {D : za_D} {h : za_H} {n : Nat} {H H1 : Heap} (hR : za_Rp D h n H) (hz : H1.size = D.2.2 + n + 1) (ho : ∀ q : Nat, q < D.2.2 + n → H1[q]? = H[q]?) (hp : ∀ c : Cell, H1[D.2.2 + n]? = some c → c.vm = .none) : za_Rp D h (n + 1) H1 := by
  refine ⟨by omega, fun j c' hj => ?_, fun q cell hq hc => ?_⟩
  · have h1 := hR.2.1 j c' hj
    have h2 := h1.ltz
    rw [hR.1] at h2
    exact va_at.kept (q := (D.2.2 + j, za_ce D c')) h1 (ho (D.2.2 + j) h2)
  · by_cases e : q = D.2.2 + n
    · subst e
      exact hp cell hc
    · have hl : q < H1.size := (Array.getElem?_eq_some_iff.mp hc).1
      rw [ho q (by omega)] at hc
      exact hR.2.2 q cell hq hc
theorem za_Rp.pushc {D : za_D} {h : za_H} {n : Nat} {c : za_C} {H H1 : Heap} (hR : za_Rp D h n H) (hz : H1.size = D.2.2 + n + 1) (ho : ∀ q : Nat, q < D.2.2 + n → H1[q]? = H[q]?) (ha : za_at D n c H1) : za_Rp D (za_set h n c) (n + 1) H1 := by
  have hp := hR.push hz ho (fun c hc => ha.plain hc)
  refine ⟨hp.1, fun j c' hj => ?_, hp.2.2⟩
  by_cases e : j = n
  · subst e
    rw [za_set_eq] at hj
    cases hj
    exact ha
  · rw [za_set_ne e] at hj
    exact hp.2.1 j c' hj
/-! a heap seen through a list of cells: what the list names, the list tells -/
def za_vg : List (Nat × za_C) → Nat → Option za_C
  | [], _ => none
  | (j, c) :: t, i => bif Nat.beq j i then some c else za_vg t i
theorem za_beq {j i : Nat} (e : j ≠ i) : Nat.beq j i = false := Bool.eq_false_iff.mpr fun h => e (Nat.eq_of_beq_eq_true h)
theorem za_beq_rfl (j : Nat) : Nat.beq j j = true := Nat.beq_refl j
theorem za_vg_cons (j i : Nat) (c : za_C) (t : List (Nat × za_C)) : za_vg ((j, c) :: t) i = if j = i then some c else za_vg t i := by
  show (bif Nat.beq j i then some c else za_vg t i) = _
  by_cases e : j = i
  · subst e
    rw [za_beq_rfl, if_pos rfl]; rfl
  · rw [za_beq e, if_neg e]; rfl
def za_vs : List (Nat × za_C) → Nat → za_C → List (Nat × za_C)
  | [], i, c => [(i, c)]
  | (j, d) :: t, i, c => bif Nat.beq j i then (j, c) :: t else (j, d) :: za_vs t i c
theorem za_vg_vs (v : List (Nat × za_C)) (i : Nat) (c : za_C) (j : Nat) : za_vg (za_vs v i c) j = if j = i then some c else za_vg v j := by
  induction v with
  | nil =>
    show za_vg [(i, c)] j = _
    rw [za_vg_cons]
    by_cases e : i = j
    · rw [if_pos e, if_pos e.symm]
    · rw [if_neg e, if_neg (fun q => e q.symm)]
  | cons q t ih =>
    obtain ⟨a, d⟩ := q
    show za_vg (bif Nat.beq a i then (a, c) :: t else (a, d) :: za_vs t i c) j = _
    by_cases e : a = i
    · subst e
      rw [za_beq_rfl]
      show za_vg ((a, c) :: t) j = _
      rw [za_vg_cons, za_vg_cons]
      by_cases e2 : a = j
      · rw [if_pos e2, if_pos e2.symm]
      · rw [if_neg e2, if_neg (fun q => e2 q.symm), if_neg e2]
    · rw [za_beq e]
      show za_vg ((a, d) :: za_vs t i c) j = _
      rw [za_vg_cons, za_vg_cons, ih]
      by_cases e2 : a = j
      · subst e2
        rw [if_pos rfl, if_pos rfl, if_neg e]
      · rw [if_neg e2, if_neg e2]
def za_ov (h : za_H) (v : List (Nat × za_C)) : za_H := fun i => match za_vg v i with
  | some c => some c
  | none => h i
theorem za_ov_nil (h : za_H) : za_ov h [] = h := rfl
theorem za_ov_at {h : za_H} {v : List (Nat × za_C)} {i : Nat} {c : za_C} (e : za_vg v i = some c) : za_ov h v i = some c := by simp [za_ov, e]
theorem za_ov_vs (h : za_H) (v : List (Nat × za_C)) (i : Nat) (c : za_C) : za_ov h (za_vs v i c) = za_set (za_ov h v) i c := by
  funext j
  show (match za_vg (za_vs v i c) j with | some c => some c | none => h j) = _
  rw [za_vg_vs]
  by_cases e : j = i
  · subst e
    rw [if_pos rfl, za_set_eq]
  · rw [if_neg e, za_set_ne e]
    rfl
/-- what the list says is so already: the list changes nothing -/
theorem za_ov_same {h : za_H} {v : List (Nat × za_C)} (e : ∀ q ∈ v, h q.1 = some q.2) : za_ov h v = h := by
  have key : ∀ (w : List (Nat × za_C)), (∀ q ∈ w, h q.1 = some q.2) → ∀ (i : Nat) (c : za_C), za_vg w i = some c → h i = some c := by
    intro w
    induction w with
    | nil => intro _ i c hc; cases hc
    | cons q t ih =>
      obtain ⟨a, d⟩ := q
      intro hw i c hc
      rw [za_vg_cons] at hc
      by_cases e2 : a = i
      · rw [if_pos e2] at hc
        cases hc
        subst e2
        exact hw (a, d) List.mem_cons_self
      · rw [if_neg e2] at hc
        exact ih (fun q hq => hw q (List.mem_cons_of_mem _ hq)) i c hc
  funext i
  show (match za_vg v i with | some c => some c | none => h i) = _
  cases hc : za_vg v i with
  | none => rfl
  | some c => exact (key v e i c hc).symm
/-! locals -/
def za_lg : List (Nat × za_V) → Nat → Option za_V
  | [], _ => none
  | (j, v) :: t, i => bif Nat.beq j i then some v else za_lg t i
theorem za_lg_mem {lv : List (Nat × za_V)} {i : Nat} {v : za_V} (h : za_lg lv i = some v) : (i, v) ∈ lv := by
  induction lv with
  | nil => cases h
  | cons q t ih =>
    obtain ⟨j, w⟩ := q
    have h2 : (bif Nat.beq j i then some w else za_lg t i) = some v := h
    by_cases e : j = i
    · subst e
      rw [za_beq_rfl] at h2
      cases h2
      exact List.mem_cons_self
    · rw [za_beq e] at h2
      exact List.mem_cons_of_mem _ (ih h2)
def za_lf : List (Nat × za_V) → Nat → List (Nat × za_V)
  | [], _ => []
  | (j, v) :: t, i => bif (Nat.beq j i || (Nat.beq (j + 1) i && za_c2 v)) then za_lf t i else (j, v) :: za_lf t i
theorem za_lf_mem {lv : List (Nat × za_V)} {i : Nat} {q : Nat × za_V} (h : q ∈ za_lf lv i) : q ∈ lv ∧ q.1 ≠ i ∧ ¬ (q.1 + 1 = i ∧ za_c2 q.2 = true) := by
  induction lv with
  | nil => cases h
  | cons r t ih =>
    obtain ⟨j, w⟩ := r
    have h2 : q ∈ (bif (Nat.beq j i || (Nat.beq (j + 1) i && za_c2 w)) then za_lf t i else (j, w) :: za_lf t i) := h
    cases hb : (Nat.beq j i || (Nat.beq (j + 1) i && za_c2 w)) with
    | true =>
      rw [hb] at h2
      obtain ⟨a, b⟩ := ih h2
      exact ⟨List.mem_cons_of_mem _ a, b⟩
    | false =>
      rw [hb] at h2
      rcases List.mem_cons.mp h2 with rfl | h3
      · rw [Bool.or_eq_false_iff] at hb
        refine ⟨List.mem_cons_self, fun e => ?_, fun e => ?_⟩
        · have e1 : j = i := e
          rw [e1, za_beq_rfl] at hb
          cases hb.1
        · have e1 : j + 1 = i := e.1
          have e2 : za_c2 w = true := e.2
          rw [e1, za_beq_rfl, e2] at hb
          cases hb.2
      · obtain ⟨a, b⟩ := ih h3
        exact ⟨List.mem_cons_of_mem _ a, b⟩
def za_lm (z : Nat) (lv : List (Nat × za_V)) : List (Nat × Value) := lv.map (fun q => (q.1, za_cv z q.2))
/-- a method whose one argument lies ahead of z keeps it in its place 0 -/
def za_lx (args : Array Value) (z : Nat) : List (Nat × Value) := match args.toList with
  | [.ref b] => bif Nat.blt b z then [(0, .ref b)] else []
  | _ => []
theorem za_lx_in {args : Array Value} {z : Nat} {q : Nat × Value} (h : q ∈ za_lx args z) : q.1 = 0 ∧ q.2.category = 1 := by
  unfold za_lx at h
  split at h
  · cases hb : Nat.blt _ z with
    | true => rw [hb] at h; rw [List.mem_singleton.mp h]; exact ⟨rfl, rfl⟩
    | false => rw [hb] at h; cases h
  · cases h
theorem za_lx_0 (av : List za_V) (z : Nat) : za_lx (av.map (za_cv z)).toArray z = [] := by
  unfold za_lx
  rcases av with _ | ⟨v, _ | ⟨w, t⟩⟩
  · rfl
  · rcases v with x | x | x | x
    · rfl
    · rfl
    · rfl
    · show (bif Nat.blt (z + x) z then _ else _) = _
      cases hb : Nat.blt (z + x) z with
      | true => have : z + x < z := by simpa using hb
                omega
      | false => rfl
  · show (match (za_cv z v :: za_cv z w :: List.map (za_cv z) t) with | [.ref b] => (bif Nat.blt b z then [(0, .ref b)] else []) | _ => []) = ([] : List (Nat × Value))
    generalize za_cv z v = a
    cases a <;> rfl
abbrev za_lh (args : Array Value) (ls : Array Slot) (nL z : Nat) (lv : List (Nat × za_V)) : Prop := lv_has ls nL (za_lx args z ++ za_lm z lv)
theorem za_lm_at {args : Array Value} {z : Nat} {lv : List (Nat × za_V)} {i nL : Nat} {v : za_V} {ls : Array Slot} (hl : za_lh args ls nL z lv) (h : za_lg lv i = some v) : ls[i]? = some (.val (za_cv z v)) :=
  hl.2.2 (i, za_cv z v) (List.mem_append_right _ (List.mem_map.mpr ⟨(i, v), za_lg_mem h, rfl⟩))
theorem za_lh_sub {ls : Array Slot} {nL : Nat} {k k' : List (Nat × Value)} (h : lv_has ls nL k) (hs : ∀ q ∈ k', q ∈ k) : lv_has ls nL k' := ⟨h.1, h.2.1, fun q hq => h.2.2 q (hs q hq)⟩
/-- storing a value of one slot -/
theorem za_lm_st {args : Array Value} {z i : Nat} {lv : List (Nat × za_V)} {v : za_V} (hi0 : 0 < i) : ∀ q ∈ za_lx args z ++ za_lm z ((i, v) :: za_lf lv i), q ∈ ((i, za_cv z v) :: (za_lx args z ++ za_lm z lv).filter (fun q => !(q.1 == i) && !(q.1 + 1 == i && q.2.category == 2))) := by
  intro q hq
  rcases List.mem_append.mp hq with hq | hq
  · obtain ⟨a, b⟩ := za_lx_in hq
    refine List.mem_cons_of_mem _ (List.mem_filter.mpr ⟨List.mem_append_left _ hq, ?_⟩)
    rw [b, a]
    have e1 : (0 == i) = false := by simp; omega
    rw [e1]
    simp
  obtain ⟨r, hr, rfl⟩ := List.mem_map.mp hq
  rcases List.mem_cons.mp hr with rfl | hr
  · exact List.mem_cons_self
  · obtain ⟨h1, h2, h3⟩ := za_lf_mem hr
    refine List.mem_cons_of_mem _ (List.mem_filter.mpr ⟨List.mem_append_right _ (List.mem_map.mpr ⟨r, h1, rfl⟩), ?_⟩)
    have e1 : (r.1 == i) = false := by simpa using h2
    have e2 : (r.1 + 1 == i && (za_cv z r.2).category == 2) = false := by
      rw [Bool.and_eq_false_iff]
      by_cases e : r.1 + 1 = i
      · right
        have : za_c2 r.2 = false := by
          cases hc : za_c2 r.2 with
          | false => rfl
          | true => exact absurd ⟨e, hc⟩ h3
        rw [za_cat1 this]
        rfl
      · left
        simpa using e
    show (!(r.1 == i) && !(r.1 + 1 == i && (za_cv z r.2).category == 2)) = true
    rw [e1, e2]
    rfl
