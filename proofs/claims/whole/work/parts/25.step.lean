/-- the program's cells, anew -/
def pr_new (h h' : za_H) (P : pr_T) : Prop := pr_at h' P ∧ ∀ j, (j < 1 ∨ 5 < j) → h' j = h j
theorem za_ov_off {h : za_H} {v : List (Nat × za_C)} {j : Nat} (e : ∀ q ∈ v, q.1 ≠ j) : za_ov h v j = h j := by
  have key : ∀ (w : List (Nat × za_C)), (∀ q ∈ w, q.1 ≠ j) → za_vg w j = none := by
    intro w
    induction w with
    | nil => intro _; rfl
    | cons q t ih =>
      obtain ⟨a, d⟩ := q
      intro hw
      rw [za_vg_cons, if_neg (hw (a, d) List.mem_cons_self)]
      exact ih (fun q hq => hw q (List.mem_cons_of_mem _ hq))
  show (match za_vg v j with | some c => some c | none => h j) = _
  rw [key v e]
set_option maxHeartbeats 4000000 in
set_option maxRecDepth 100000 in
theorem c_P_append (l : Launch) (D : za_D) (h : za_H) (n : Nat) (P : pr_T) (hP : pr_at h P) (hn : P.2.2.2.2 < 24) (x y z w : Int32) : za_M l D Y_P_append 0 0 0 [vR 1, vI x, vI y, vI z, vI w] h n (fun v h' n' => v = none ∧ pr_new h h' (pr_add P x y z w) ∧ n = n') := by
  obtain ⟨oo, aa, bb, cc0, k⟩ := P
  obtain ⟨hP1, hP2, hP3, hP4, hP5⟩ := hP
  have hk : k < 24 := hn
  have hin : vp_in (nI k) 24 := vp_in_nI hk (by decide)
  have hcl : (nI k).toNatClampNeg = k := nI_clamp (by omega)
  refine za_enter cd_P_append fl_P (by decide) cdok_P_append flok_P (Nat.le_of_ble_eq_true rfl) ?_
  intro p e s m args below meth c X hnm
  refine za_view [(1, pr_c k), (2, pr_g oo), (3, pr_g aa), (4, pr_g bb), (5, pr_g cc0)] (by simp [hP1, hP2, hP3, hP4, hP5]) ?_
  iterate 5 refine za_step X rfl rfl rfl ?_
  refine za_iast X rfl rfl rfl hin ?_
  iterate 5 refine za_step X rfl rfl rfl ?_
  refine za_iast X rfl rfl rfl hin ?_
  iterate 5 refine za_step X rfl rfl rfl ?_
  refine za_iast X rfl rfl rfl hin ?_
  iterate 5 refine za_step X rfl rfl rfl ?_
  refine za_iast X rfl rfl rfl hin ?_
  iterate 6 refine za_step X rfl rfl rfl ?_
  refine za_vret X rfl ⟨rfl, ⟨⟨?_, ?_, ?_, ?_, ?_⟩, fun j hj => ?_⟩, rfl⟩ (Nat.le_refl _) (Nat.le_refl _)
  · show some (.inr (zn_P, [vR 2, vR 3, vR 4, vR 5, vI (nI k + 1)])) = some (pr_c (k + 1))
    rw [nI_1]; rfl
  · show some (.inl (0, 24, .inl (upd oo (nI k).toNatClampNeg x))) = some (pr_g (upd oo k x))
    rw [hcl]; rfl
  · show some (.inl (0, 24, .inl (upd aa (nI k).toNatClampNeg y))) = some (pr_g (upd aa k y))
    rw [hcl]; rfl
  · show some (.inl (0, 24, .inl (upd bb (nI k).toNatClampNeg z))) = some (pr_g (upd bb k z))
    rw [hcl]; rfl
  · show some (.inl (0, 24, .inl (upd cc0 (nI k).toNatClampNeg w))) = some (pr_g (upd cc0 k w))
    rw [hcl]; rfl
  · refine za_ov_off (v := [(1, _), (2, _), (3, _), (4, _), (5, _)]) ?_
    intro q hq
    simp only [List.mem_cons, List.not_mem_nil, or_false] at hq
    rcases hq with rfl | rfl | rfl | rfl | rfl <;> (show _ ≠ j; omega)
theorem has_spec {oo aa bb cc0 : Nat → Int32} {k : Nat} {x : Int32} (hk : k ≤ 24) (h : pr_has (oo, aa, bb, cc0, k) x = true) : vp_in x 24 ∧ x.toNatClampNeg < k := by
  simp only [pr_has, Bool.and_eq_true, decide_eq_true_eq] at h
  obtain ⟨j, hj, rfl⟩ := nI_of (Int32.not_lt.mpr h.1)
  have h2 := (nI_ltI hj (by omega)).mp h.2
  rw [nI_clamp hj]
  exact ⟨vp_in_nI (by omega) (by decide), h2⟩
theorem al_use {op a b c : Int32} (h : pr_al op a b c = true) : (op = 0 ∧ pr_up 3 a = true) ∨ (op = 7 ∧ pr_up 3 a = true ∧ pr_up 3 b = true) ∨ (op = 8 ∧ pr_up 3 a = true ∧ pr_up 3 b = true) ∨ (op = 9 ∧ pr_up 3 a = true ∧ pr_up 3 b = true) ∨ op = 10 ∨ (op = 11 ∧ pr_up 3 a = true ∧ pr_up 3 b = true ∧ pr_up 3 c = true) ∨ (op = 12 ∧ pr_up 3 a = true) ∨ (op = 13 ∧ pr_up 3 a = true) ∨ ((op = 1 ∨ op = 2 ∨ op = 3 ∨ op = 4 ∨ op = 5 ∨ op = 6) ∧ pr_up 3 a = true ∧ pr_up 3 b = true ∧ pr_up 3 c = true) := by
  rcases op_cases op with hop | rfl | rfl | rfl | rfl | rfl | rfl | rfl | rfl | rfl | rfl | rfl | rfl | rfl | rfl
  · rw [al_out hop] at h; cases h
  all_goals (simp [pr_al] at h; simp [h])
set_option maxHeartbeats 4000000 in
set_option maxRecDepth 100000 in
theorem c_T_step (l : Launch) (D : za_D) (h : za_H) (n : Nat) (t : Nat) (ht : t = 6 ∨ t = 8) (T : tr_T) (hT : tr_at h t T) (P : pr_T) (hP : pr_at h P) (hok : pr_ok P) (hhas : pr_has P (tr_pl T) = true) : za_M l D Y_T_step 3 0 0 [vR t, vR 1] h n (fun v h' n' => v = none ∧ h' = tr_put h t (tr_stp P T) ∧ n = n') := by
  obtain ⟨oo, aa, bb, cc0, k⟩ := P
  obtain ⟨hP1, hP2, hP3, hP4, hP5⟩ := hP
  obtain ⟨r, pl, la, dn, vi, de, ct, en, ou, ed⟩ := T
  obtain ⟨hT1, hT2⟩ := hT
  obtain ⟨hin, hidx⟩ := has_spec (x := pl) hok.1 hhas
  rcases ht with rfl | rfl
  · refine za_enter cd_T_step fl_T (by decide) cdok_T_step flok_T (Nat.le_of_ble_eq_true rfl) ?_
    intro p e s m args below meth c X hnm
    refine za_view [(6, tr_c 6 (r, pl, la, dn, vi, de, ct, en, ou, ed)), (7, tr_g (r, pl, la, dn, vi, de, ct, en, ou, ed)), (1, pr_c k), (2, pr_g oo), (3, pr_g aa), (4, pr_g bb), (5, pr_g cc0)] (by simp [hT1, hT2, hP1, hP2, hP3, hP4, hP5]) ?_
    iterate 29 refine za_step X rfl rfl rfl ?_
    refine za_iald X rfl rfl rfl hin ?_
    iterate 5 refine za_step X rfl rfl rfl ?_
    refine za_iald X rfl rfl rfl hin ?_
    iterate 5 refine za_step X rfl rfl rfl ?_
    refine za_iald X rfl rfl rfl hin ?_
    iterate 5 refine za_step X rfl rfl rfl ?_
    refine za_iald X rfl rfl rfl hin ?_
    iterate 1 refine za_step X rfl rfl rfl ?_
    refine za_look (h1 := h) (v1 := [(6, tr_c 6 (tr_pre (r, pl, la, dn, vi, de, ct, en, ou, ed))), (7, tr_g (tr_pre (r, pl, la, dn, vi, de, ct, en, ou, ed)))]) (za_ov_app [(6, tr_c 6 (tr_pre (r, pl, la, dn, vi, de, ct, en, ou, ed))), (7, tr_g (tr_pre (r, pl, la, dn, vi, de, ct, en, ou, ed)))] (w := [(1, pr_c k), (2, pr_g oo), (3, pr_g aa), (4, pr_g bb), (5, pr_g cc0)]) (by simp [hP1, hP2, hP3, hP4, hP5])) ?_
    have hal := hok.2 _ hidx
    have key0 : tr_stp (oo, aa, bb, cc0, k) (r, pl, la, dn, vi, de, ct, en, ou, ed) = tr_ins (tr_pre (r, pl, la, dn, vi, de, ct, en, ou, ed)) (oo pl.toNatClampNeg) (aa pl.toNatClampNeg) (bb pl.toNatClampNeg) (cc0 pl.toNatClampNeg) := rfl
    generalize oo pl.toNatClampNeg = op at hal key0 ⊢
    generalize aa pl.toNatClampNeg = a at hal key0 ⊢
    generalize bb pl.toNatClampNeg = b at hal key0 ⊢
    generalize cc0 pl.toNatClampNeg = x at hal key0 ⊢
    rw [key0]
    iterate 1 refine za_step X rfl rfl rfl ?_
    rcases al_use hal with ⟨rfl, ha⟩ | ⟨rfl, ha, hb⟩ | ⟨rfl, ha, hb⟩ | ⟨rfl, ha, hb⟩ | rfl | ⟨rfl, ha, hb, hx⟩ | ⟨rfl, ha⟩ | ⟨rfl, ha⟩ | ⟨hop, ha, hb, hx⟩
    · refine za_tsw X 0 156 rfl (by decide) (by decide) (by decide) rfl (by decide) ?_
      iterate 4 refine za_step X rfl rfl rfl ?_
      refine za_iast X rfl rfl rfl (rg_in ha) ?_
      iterate 1 refine za_step X rfl rfl rfl ?_
      exact za_vret X rfl ⟨rfl, tr_ov h 6 (tr_reg (tr_pre (r, pl, la, dn, vi, de, ct, en, ou, ed)) a.toNatClampNeg b), rfl⟩ (Nat.le_refl _) (Nat.le_refl _)
    · refine za_tsw X 7 166 rfl (by decide) (by decide) (by decide) rfl (by decide) ?_
      iterate 6 refine za_step X rfl rfl rfl ?_
      refine za_iald X rfl rfl rfl (rg_in hb) ?_
      iterate 2 refine za_step X rfl rfl rfl ?_
      refine za_iast X rfl rfl rfl (rg_in ha) ?_
      iterate 1 refine za_step X rfl rfl rfl ?_
      exact za_vret X rfl ⟨rfl, tr_ov h 6 (tr_reg (tr_pre (r, pl, la, dn, vi, de, ct, en, ou, ed)) a.toNatClampNeg (r b.toNatClampNeg >>> (x &&& 31))), rfl⟩ (Nat.le_refl _) (Nat.le_refl _)
    · refine za_tsw X 8 184 rfl (by decide) (by decide) (by decide) rfl (by decide) ?_
      iterate 4 refine za_step X rfl rfl rfl ?_
      refine za_iald X rfl rfl rfl (rg_in ha) ?_
      iterate 3 refine za_step X rfl rfl rfl ?_
      refine za_iald X rfl rfl rfl (rg_in hb) ?_
      refine za_icge X 204 rfl (by decide) (fun q1 => ?_) (fun q1 => ?_)
      · have e1 : tr_ins (tr_pre (r, pl, la, dn, vi, de, ct, en, ou, ed)) 8 a b x = tr_goif (tr_pre (r, pl, la, dn, vi, de, ct, en, ou, ed)) false x := by
          show tr_goif (tr_pre (r, pl, la, dn, vi, de, ct, en, ou, ed)) (decide (r a.toNatClampNeg < r b.toNatClampNeg)) x = _
          rw [decide_eq_false (show ¬ r a.toNatClampNeg < r b.toNatClampNeg from Int32.not_lt.mpr q1)]
        rw [e1]
        iterate 2 refine za_step X rfl rfl rfl ?_
        refine za_callV X rfl cl_T_T_goIf cy_T_goIf cv_T_goIf (c_T_goIf l D _ n 6 (Or.inl rfl) (tr_pre (r, pl, la, dn, vi, de, ct, en, ou, ed)) ⟨rfl, rfl⟩ false x) rfl rfl rfl rfl (Nat.le_of_ble_eq_true rfl) (Nat.le_of_ble_eq_true rfl) (Nat.le_of_ble_eq_true rfl) (Nat.le_of_ble_eq_true rfl) (Nat.le_of_ble_eq_true rfl) (fun v h' n' hq => ?_)
        obtain ⟨rfl, rfl, rfl⟩ := hq
        refine za_look (h1 := h) (v1 := [(6, tr_c 6 (tr_goif (tr_pre (r, pl, la, dn, vi, de, ct, en, ou, ed)) false x)), (7, tr_g (tr_goif (tr_pre (r, pl, la, dn, vi, de, ct, en, ou, ed)) false x))]) (tr_back h 6 ((tr_pre (r, pl, la, dn, vi, de, ct, en, ou, ed))) (tr_goif (tr_pre (r, pl, la, dn, vi, de, ct, en, ou, ed)) false x)) ?_
        iterate 1 refine za_step X rfl rfl rfl ?_
        exact za_vret X rfl ⟨rfl, tr_ov h 6 (tr_goif (tr_pre (r, pl, la, dn, vi, de, ct, en, ou, ed)) false x), rfl⟩ (Nat.le_refl _) (Nat.le_refl _)
      · have e1 : tr_ins (tr_pre (r, pl, la, dn, vi, de, ct, en, ou, ed)) 8 a b x = tr_goif (tr_pre (r, pl, la, dn, vi, de, ct, en, ou, ed)) true x := by
          show tr_goif (tr_pre (r, pl, la, dn, vi, de, ct, en, ou, ed)) (decide (r a.toNatClampNeg < r b.toNatClampNeg)) x = _
          rw [decide_eq_true (show r a.toNatClampNeg < r b.toNatClampNeg from Int32.not_le.mp q1)]
        rw [e1]
        iterate 3 refine za_step X rfl rfl rfl ?_
        refine za_callV X rfl cl_T_T_goIf cy_T_goIf cv_T_goIf (c_T_goIf l D _ n 6 (Or.inl rfl) (tr_pre (r, pl, la, dn, vi, de, ct, en, ou, ed)) ⟨rfl, rfl⟩ true x) rfl rfl rfl rfl (Nat.le_of_ble_eq_true rfl) (Nat.le_of_ble_eq_true rfl) (Nat.le_of_ble_eq_true rfl) (Nat.le_of_ble_eq_true rfl) (Nat.le_of_ble_eq_true rfl) (fun v h' n' hq => ?_)
        obtain ⟨rfl, rfl, rfl⟩ := hq
        refine za_look (h1 := h) (v1 := [(6, tr_c 6 (tr_goif (tr_pre (r, pl, la, dn, vi, de, ct, en, ou, ed)) true x)), (7, tr_g (tr_goif (tr_pre (r, pl, la, dn, vi, de, ct, en, ou, ed)) true x))]) (tr_back h 6 ((tr_pre (r, pl, la, dn, vi, de, ct, en, ou, ed))) (tr_goif (tr_pre (r, pl, la, dn, vi, de, ct, en, ou, ed)) true x)) ?_
        iterate 1 refine za_step X rfl rfl rfl ?_
        exact za_vret X rfl ⟨rfl, tr_ov h 6 (tr_goif (tr_pre (r, pl, la, dn, vi, de, ct, en, ou, ed)) true x), rfl⟩ (Nat.le_refl _) (Nat.le_refl _)
    · refine za_tsw X 9 213 rfl (by decide) (by decide) (by decide) rfl (by decide) ?_
      iterate 4 refine za_step X rfl rfl rfl ?_
      refine za_iald X rfl rfl rfl (rg_in ha) ?_
      iterate 3 refine za_step X rfl rfl rfl ?_
      refine za_iald X rfl rfl rfl (rg_in hb) ?_
      refine za_icne X 233 rfl (by decide) (fun q1 => ?_) (fun q1 => ?_)
      · have e1 : tr_ins (tr_pre (r, pl, la, dn, vi, de, ct, en, ou, ed)) 9 a b x = tr_goif (tr_pre (r, pl, la, dn, vi, de, ct, en, ou, ed)) false x := by
          show tr_goif (tr_pre (r, pl, la, dn, vi, de, ct, en, ou, ed)) (decide (r a.toNatClampNeg = r b.toNatClampNeg)) x = _
          rw [decide_eq_false (show ¬ r a.toNatClampNeg = r b.toNatClampNeg from q1)]
        rw [e1]
        iterate 2 refine za_step X rfl rfl rfl ?_
        refine za_callV X rfl cl_T_T_goIf cy_T_goIf cv_T_goIf (c_T_goIf l D _ n 6 (Or.inl rfl) (tr_pre (r, pl, la, dn, vi, de, ct, en, ou, ed)) ⟨rfl, rfl⟩ false x) rfl rfl rfl rfl (Nat.le_of_ble_eq_true rfl) (Nat.le_of_ble_eq_true rfl) (Nat.le_of_ble_eq_true rfl) (Nat.le_of_ble_eq_true rfl) (Nat.le_of_ble_eq_true rfl) (fun v h' n' hq => ?_)
        obtain ⟨rfl, rfl, rfl⟩ := hq
        refine za_look (h1 := h) (v1 := [(6, tr_c 6 (tr_goif (tr_pre (r, pl, la, dn, vi, de, ct, en, ou, ed)) false x)), (7, tr_g (tr_goif (tr_pre (r, pl, la, dn, vi, de, ct, en, ou, ed)) false x))]) (tr_back h 6 ((tr_pre (r, pl, la, dn, vi, de, ct, en, ou, ed))) (tr_goif (tr_pre (r, pl, la, dn, vi, de, ct, en, ou, ed)) false x)) ?_
        iterate 1 refine za_step X rfl rfl rfl ?_
        exact za_vret X rfl ⟨rfl, tr_ov h 6 (tr_goif (tr_pre (r, pl, la, dn, vi, de, ct, en, ou, ed)) false x), rfl⟩ (Nat.le_refl _) (Nat.le_refl _)
      · have e1 : tr_ins (tr_pre (r, pl, la, dn, vi, de, ct, en, ou, ed)) 9 a b x = tr_goif (tr_pre (r, pl, la, dn, vi, de, ct, en, ou, ed)) true x := by
          show tr_goif (tr_pre (r, pl, la, dn, vi, de, ct, en, ou, ed)) (decide (r a.toNatClampNeg = r b.toNatClampNeg)) x = _
          rw [decide_eq_true (show r a.toNatClampNeg = r b.toNatClampNeg from q1)]
        rw [e1]
        iterate 3 refine za_step X rfl rfl rfl ?_
        refine za_callV X rfl cl_T_T_goIf cy_T_goIf cv_T_goIf (c_T_goIf l D _ n 6 (Or.inl rfl) (tr_pre (r, pl, la, dn, vi, de, ct, en, ou, ed)) ⟨rfl, rfl⟩ true x) rfl rfl rfl rfl (Nat.le_of_ble_eq_true rfl) (Nat.le_of_ble_eq_true rfl) (Nat.le_of_ble_eq_true rfl) (Nat.le_of_ble_eq_true rfl) (Nat.le_of_ble_eq_true rfl) (fun v h' n' hq => ?_)
        obtain ⟨rfl, rfl, rfl⟩ := hq
        refine za_look (h1 := h) (v1 := [(6, tr_c 6 (tr_goif (tr_pre (r, pl, la, dn, vi, de, ct, en, ou, ed)) true x)), (7, tr_g (tr_goif (tr_pre (r, pl, la, dn, vi, de, ct, en, ou, ed)) true x))]) (tr_back h 6 ((tr_pre (r, pl, la, dn, vi, de, ct, en, ou, ed))) (tr_goif (tr_pre (r, pl, la, dn, vi, de, ct, en, ou, ed)) true x)) ?_
        iterate 1 refine za_step X rfl rfl rfl ?_
        exact za_vret X rfl ⟨rfl, tr_ov h 6 (tr_goif (tr_pre (r, pl, la, dn, vi, de, ct, en, ou, ed)) true x), rfl⟩ (Nat.le_refl _) (Nat.le_refl _)
    · refine za_tsw X 10 242 rfl (by decide) (by decide) (by decide) rfl (by decide) ?_
      iterate 4 refine za_step X rfl rfl rfl ?_
      exact za_vret X rfl ⟨rfl, tr_ov h 6 (tr_go (tr_pre (r, pl, la, dn, vi, de, ct, en, ou, ed)) x), rfl⟩ (Nat.le_refl _) (Nat.le_refl _)
    · refine za_tsw X 11 251 rfl (by decide) (by decide) (by decide) rfl (by decide) ?_
      iterate 4 refine za_step X rfl rfl rfl ?_
      refine za_callV X rfl cl_T_T_divide cy_T_divide cv_T_divide (c_T_divide l D _ n 6 (Or.inl rfl) (tr_pre (r, pl, la, dn, vi, de, ct, en, ou, ed)) ⟨rfl, rfl⟩ a b x ha hb hx) rfl rfl rfl rfl (Nat.le_of_ble_eq_true rfl) (Nat.le_of_ble_eq_true rfl) (Nat.le_of_ble_eq_true rfl) (Nat.le_of_ble_eq_true rfl) (Nat.le_of_ble_eq_true rfl) (fun v h' n' hq => ?_)
      obtain ⟨rfl, rfl, rfl⟩ := hq
      refine za_look (h1 := h) (v1 := [(6, tr_c 6 (tr_div (tr_pre (r, pl, la, dn, vi, de, ct, en, ou, ed)) a b x)), (7, tr_g (tr_div (tr_pre (r, pl, la, dn, vi, de, ct, en, ou, ed)) a b x))]) (tr_back h 6 ((tr_pre (r, pl, la, dn, vi, de, ct, en, ou, ed))) (tr_div (tr_pre (r, pl, la, dn, vi, de, ct, en, ou, ed)) a b x)) ?_
      iterate 1 refine za_step X rfl rfl rfl ?_
      exact za_vret X rfl ⟨rfl, tr_ov h 6 (tr_div (tr_pre (r, pl, la, dn, vi, de, ct, en, ou, ed)) a b x), rfl⟩ (Nat.le_refl _) (Nat.le_refl _)
    · refine za_tsw X 12 262 rfl (by decide) (by decide) (by decide) rfl (by decide) ?_
      iterate 2 refine za_step X rfl rfl rfl ?_
      refine za_callV X rfl cl_T_T_claim cy_T_claim cv_T_claim (c_T_claim l D _ n 6 (Or.inl rfl) (tr_pre (r, pl, la, dn, vi, de, ct, en, ou, ed)) ⟨rfl, rfl⟩ a ha) rfl rfl rfl rfl (Nat.le_of_ble_eq_true rfl) (Nat.le_of_ble_eq_true rfl) (Nat.le_of_ble_eq_true rfl) (Nat.le_of_ble_eq_true rfl) (Nat.le_of_ble_eq_true rfl) (fun v h' n' hq => ?_)
      obtain ⟨rfl, rfl, rfl⟩ := hq
      refine za_look (h1 := h) (v1 := [(6, tr_c 6 (tr_clm (tr_pre (r, pl, la, dn, vi, de, ct, en, ou, ed)) a)), (7, tr_g (tr_clm (tr_pre (r, pl, la, dn, vi, de, ct, en, ou, ed)) a))]) (tr_back h 6 ((tr_pre (r, pl, la, dn, vi, de, ct, en, ou, ed))) (tr_clm (tr_pre (r, pl, la, dn, vi, de, ct, en, ou, ed)) a)) ?_
      iterate 1 refine za_step X rfl rfl rfl ?_
      exact za_vret X rfl ⟨rfl, tr_ov h 6 (tr_clm (tr_pre (r, pl, la, dn, vi, de, ct, en, ou, ed)) a), rfl⟩ (Nat.le_refl _) (Nat.le_refl _)
    · refine za_tsw X 13 270 rfl (by decide) (by decide) (by decide) rfl (by decide) ?_
      iterate 5 refine za_step X rfl rfl rfl ?_
      refine za_iald X rfl rfl rfl (rg_in ha) ?_
      refine za_callV X rfl cl_T_T_finish cy_T_finish cv_T_finish (c_T_finish l D _ n 6 (Or.inl rfl) (tr_pre (r, pl, la, dn, vi, de, ct, en, ou, ed)) ⟨rfl, rfl⟩ 0 (r a.toNatClampNeg)) rfl rfl rfl rfl (Nat.le_of_ble_eq_true rfl) (Nat.le_of_ble_eq_true rfl) (Nat.le_of_ble_eq_true rfl) (Nat.le_of_ble_eq_true rfl) (Nat.le_of_ble_eq_true rfl) (fun v h' n' hq => ?_)
      obtain ⟨rfl, rfl, rfl⟩ := hq
      refine za_look (h1 := h) (v1 := [(6, tr_c 6 (tr_fin (tr_pre (r, pl, la, dn, vi, de, ct, en, ou, ed)) 0 (r a.toNatClampNeg))), (7, tr_g (tr_fin (tr_pre (r, pl, la, dn, vi, de, ct, en, ou, ed)) 0 (r a.toNatClampNeg)))]) (tr_back h 6 ((tr_pre (r, pl, la, dn, vi, de, ct, en, ou, ed))) (tr_fin (tr_pre (r, pl, la, dn, vi, de, ct, en, ou, ed)) 0 (r a.toNatClampNeg))) ?_
      iterate 1 refine za_step X rfl rfl rfl ?_
      exact za_vret X rfl ⟨rfl, tr_ov h 6 (tr_fin (tr_pre (r, pl, la, dn, vi, de, ct, en, ou, ed)) 0 (r a.toNatClampNeg)), rfl⟩ (Nat.le_refl _) (Nat.le_refl _)
    · have e1 : tr_ins (tr_pre (r, pl, la, dn, vi, de, ct, en, ou, ed)) op a b x = tr_reg (tr_pre (r, pl, la, dn, vi, de, ct, en, ou, ed)) a.toNatClampNeg (tr_com op (r b.toNatClampNeg) (r x.toNatClampNeg)) := by
        rcases hop with rfl | rfl | rfl | rfl | rfl | rfl <;> rfl
      rw [e1]
      have go284 : za_W p l e (za_rm 3 0 0) s m args below meth c D 6 (MQ below (za_Q D (fun v h' n' => v = none ∧ h' = tr_put h 6 (tr_reg (tr_pre (r, pl, la, dn, vi, de, ct, en, ou, ed)) a.toNatClampNeg (tr_com op (r b.toNatClampNeg) (r x.toNatClampNeg))) ∧ n = n')) args s 0 0 (fun q : Nat => D.2.2 ≤ q)) h n 0 0 284 [(0, vR 6), (1, vR 1), (2, vI a), (3, vI b), (4, vI x), (5, vI op)] [] [(6, tr_c 6 (tr_pre (r, pl, la, dn, vi, de, ct, en, ou, ed))), (7, tr_g (tr_pre (r, pl, la, dn, vi, de, ct, en, ou, ed)))] := by
        iterate 7 refine za_step X rfl rfl rfl ?_
        refine za_iald X rfl rfl rfl (rg_in hb) ?_
        iterate 3 refine za_step X rfl rfl rfl ?_
        refine za_iald X rfl rfl rfl (rg_in hx) ?_
        refine za_callS X rfl cl_T_T_combine cy_T_combine cs_T_combine (c_T_combine l D _ n op (r b.toNatClampNeg) (r x.toNatClampNeg) hop) rfl rfl (Nat.le_of_ble_eq_true rfl) (Nat.le_of_ble_eq_true rfl) (Nat.le_of_ble_eq_true rfl) (Nat.le_of_ble_eq_true rfl) (Nat.le_of_ble_eq_true rfl) (fun v h' n' hq => ?_)
        obtain ⟨rfl, rfl, rfl⟩ := hq
        refine za_look (h1 := h) (v1 := [(6, tr_c 6 (tr_pre (r, pl, la, dn, vi, de, ct, en, ou, ed))), (7, tr_g (tr_pre (r, pl, la, dn, vi, de, ct, en, ou, ed)))]) rfl ?_
        refine za_iast X rfl rfl rfl (rg_in ha) ?_
        exact za_vret X rfl ⟨rfl, tr_ov h 6 (tr_reg (tr_pre (r, pl, la, dn, vi, de, ct, en, ou, ed)) a.toNatClampNeg (tr_com op (r b.toNatClampNeg) (r x.toNatClampNeg))), rfl⟩ (Nat.le_refl _) (Nat.le_refl _)
      rcases hop with rfl | rfl | rfl | rfl | rfl | rfl
      · refine za_tsw X 1 284 rfl (by decide) (by decide) (by decide) rfl (by decide) ?_
        exact za_loc [(0, vR 6), (1, vR 1), (2, vI a), (3, vI b), (4, vI x), (5, vI 1)] rfl go284
      · refine za_tsw X 2 284 rfl (by decide) (by decide) (by decide) rfl (by decide) ?_
        exact za_loc [(0, vR 6), (1, vR 1), (2, vI a), (3, vI b), (4, vI x), (5, vI 2)] rfl go284
      · refine za_tsw X 3 284 rfl (by decide) (by decide) (by decide) rfl (by decide) ?_
        exact za_loc [(0, vR 6), (1, vR 1), (2, vI a), (3, vI b), (4, vI x), (5, vI 3)] rfl go284
      · refine za_tsw X 4 284 rfl (by decide) (by decide) (by decide) rfl (by decide) ?_
        exact za_loc [(0, vR 6), (1, vR 1), (2, vI a), (3, vI b), (4, vI x), (5, vI 4)] rfl go284
      · refine za_tsw X 5 284 rfl (by decide) (by decide) (by decide) rfl (by decide) ?_
        exact za_loc [(0, vR 6), (1, vR 1), (2, vI a), (3, vI b), (4, vI x), (5, vI 5)] rfl go284
      · refine za_tsw X 6 284 rfl (by decide) (by decide) (by decide) rfl (by decide) ?_
        exact za_loc [(0, vR 6), (1, vR 1), (2, vI a), (3, vI b), (4, vI x), (5, vI 6)] rfl go284
  · refine za_enter cd_T_step fl_T (by decide) cdok_T_step flok_T (Nat.le_of_ble_eq_true rfl) ?_
    intro p e s m args below meth c X hnm
    refine za_view [(8, tr_c 8 (r, pl, la, dn, vi, de, ct, en, ou, ed)), (9, tr_g (r, pl, la, dn, vi, de, ct, en, ou, ed)), (1, pr_c k), (2, pr_g oo), (3, pr_g aa), (4, pr_g bb), (5, pr_g cc0)] (by simp [hT1, hT2, hP1, hP2, hP3, hP4, hP5]) ?_
    iterate 29 refine za_step X rfl rfl rfl ?_
    refine za_iald X rfl rfl rfl hin ?_
    iterate 5 refine za_step X rfl rfl rfl ?_
    refine za_iald X rfl rfl rfl hin ?_
    iterate 5 refine za_step X rfl rfl rfl ?_
    refine za_iald X rfl rfl rfl hin ?_
    iterate 5 refine za_step X rfl rfl rfl ?_
    refine za_iald X rfl rfl rfl hin ?_
    iterate 1 refine za_step X rfl rfl rfl ?_
    refine za_look (h1 := h) (v1 := [(8, tr_c 8 (tr_pre (r, pl, la, dn, vi, de, ct, en, ou, ed))), (9, tr_g (tr_pre (r, pl, la, dn, vi, de, ct, en, ou, ed)))]) (za_ov_app [(8, tr_c 8 (tr_pre (r, pl, la, dn, vi, de, ct, en, ou, ed))), (9, tr_g (tr_pre (r, pl, la, dn, vi, de, ct, en, ou, ed)))] (w := [(1, pr_c k), (2, pr_g oo), (3, pr_g aa), (4, pr_g bb), (5, pr_g cc0)]) (by simp [hP1, hP2, hP3, hP4, hP5])) ?_
    have hal := hok.2 _ hidx
    have key0 : tr_stp (oo, aa, bb, cc0, k) (r, pl, la, dn, vi, de, ct, en, ou, ed) = tr_ins (tr_pre (r, pl, la, dn, vi, de, ct, en, ou, ed)) (oo pl.toNatClampNeg) (aa pl.toNatClampNeg) (bb pl.toNatClampNeg) (cc0 pl.toNatClampNeg) := rfl
    generalize oo pl.toNatClampNeg = op at hal key0 ⊢
    generalize aa pl.toNatClampNeg = a at hal key0 ⊢
    generalize bb pl.toNatClampNeg = b at hal key0 ⊢
    generalize cc0 pl.toNatClampNeg = x at hal key0 ⊢
    rw [key0]
    iterate 1 refine za_step X rfl rfl rfl ?_
    rcases al_use hal with ⟨rfl, ha⟩ | ⟨rfl, ha, hb⟩ | ⟨rfl, ha, hb⟩ | ⟨rfl, ha, hb⟩ | rfl | ⟨rfl, ha, hb, hx⟩ | ⟨rfl, ha⟩ | ⟨rfl, ha⟩ | ⟨hop, ha, hb, hx⟩
    · refine za_tsw X 0 156 rfl (by decide) (by decide) (by decide) rfl (by decide) ?_
      iterate 4 refine za_step X rfl rfl rfl ?_
      refine za_iast X rfl rfl rfl (rg_in ha) ?_
      iterate 1 refine za_step X rfl rfl rfl ?_
      exact za_vret X rfl ⟨rfl, tr_ov h 8 (tr_reg (tr_pre (r, pl, la, dn, vi, de, ct, en, ou, ed)) a.toNatClampNeg b), rfl⟩ (Nat.le_refl _) (Nat.le_refl _)
    · refine za_tsw X 7 166 rfl (by decide) (by decide) (by decide) rfl (by decide) ?_
      iterate 6 refine za_step X rfl rfl rfl ?_
      refine za_iald X rfl rfl rfl (rg_in hb) ?_
      iterate 2 refine za_step X rfl rfl rfl ?_
      refine za_iast X rfl rfl rfl (rg_in ha) ?_
      iterate 1 refine za_step X rfl rfl rfl ?_
      exact za_vret X rfl ⟨rfl, tr_ov h 8 (tr_reg (tr_pre (r, pl, la, dn, vi, de, ct, en, ou, ed)) a.toNatClampNeg (r b.toNatClampNeg >>> (x &&& 31))), rfl⟩ (Nat.le_refl _) (Nat.le_refl _)
    · refine za_tsw X 8 184 rfl (by decide) (by decide) (by decide) rfl (by decide) ?_
      iterate 4 refine za_step X rfl rfl rfl ?_
      refine za_iald X rfl rfl rfl (rg_in ha) ?_
      iterate 3 refine za_step X rfl rfl rfl ?_
      refine za_iald X rfl rfl rfl (rg_in hb) ?_
      refine za_icge X 204 rfl (by decide) (fun q1 => ?_) (fun q1 => ?_)
      · have e1 : tr_ins (tr_pre (r, pl, la, dn, vi, de, ct, en, ou, ed)) 8 a b x = tr_goif (tr_pre (r, pl, la, dn, vi, de, ct, en, ou, ed)) false x := by
          show tr_goif (tr_pre (r, pl, la, dn, vi, de, ct, en, ou, ed)) (decide (r a.toNatClampNeg < r b.toNatClampNeg)) x = _
          rw [decide_eq_false (show ¬ r a.toNatClampNeg < r b.toNatClampNeg from Int32.not_lt.mpr q1)]
        rw [e1]
        iterate 2 refine za_step X rfl rfl rfl ?_
        refine za_callV X rfl cl_T_T_goIf cy_T_goIf cv_T_goIf (c_T_goIf l D _ n 8 (Or.inr rfl) (tr_pre (r, pl, la, dn, vi, de, ct, en, ou, ed)) ⟨rfl, rfl⟩ false x) rfl rfl rfl rfl (Nat.le_of_ble_eq_true rfl) (Nat.le_of_ble_eq_true rfl) (Nat.le_of_ble_eq_true rfl) (Nat.le_of_ble_eq_true rfl) (Nat.le_of_ble_eq_true rfl) (fun v h' n' hq => ?_)
        obtain ⟨rfl, rfl, rfl⟩ := hq
        refine za_look (h1 := h) (v1 := [(8, tr_c 8 (tr_goif (tr_pre (r, pl, la, dn, vi, de, ct, en, ou, ed)) false x)), (9, tr_g (tr_goif (tr_pre (r, pl, la, dn, vi, de, ct, en, ou, ed)) false x))]) (tr_back h 8 ((tr_pre (r, pl, la, dn, vi, de, ct, en, ou, ed))) (tr_goif (tr_pre (r, pl, la, dn, vi, de, ct, en, ou, ed)) false x)) ?_
        iterate 1 refine za_step X rfl rfl rfl ?_
        exact za_vret X rfl ⟨rfl, tr_ov h 8 (tr_goif (tr_pre (r, pl, la, dn, vi, de, ct, en, ou, ed)) false x), rfl⟩ (Nat.le_refl _) (Nat.le_refl _)
      · have e1 : tr_ins (tr_pre (r, pl, la, dn, vi, de, ct, en, ou, ed)) 8 a b x = tr_goif (tr_pre (r, pl, la, dn, vi, de, ct, en, ou, ed)) true x := by
          show tr_goif (tr_pre (r, pl, la, dn, vi, de, ct, en, ou, ed)) (decide (r a.toNatClampNeg < r b.toNatClampNeg)) x = _
          rw [decide_eq_true (show r a.toNatClampNeg < r b.toNatClampNeg from Int32.not_le.mp q1)]
        rw [e1]
        iterate 3 refine za_step X rfl rfl rfl ?_
        refine za_callV X rfl cl_T_T_goIf cy_T_goIf cv_T_goIf (c_T_goIf l D _ n 8 (Or.inr rfl) (tr_pre (r, pl, la, dn, vi, de, ct, en, ou, ed)) ⟨rfl, rfl⟩ true x) rfl rfl rfl rfl (Nat.le_of_ble_eq_true rfl) (Nat.le_of_ble_eq_true rfl) (Nat.le_of_ble_eq_true rfl) (Nat.le_of_ble_eq_true rfl) (Nat.le_of_ble_eq_true rfl) (fun v h' n' hq => ?_)
        obtain ⟨rfl, rfl, rfl⟩ := hq
        refine za_look (h1 := h) (v1 := [(8, tr_c 8 (tr_goif (tr_pre (r, pl, la, dn, vi, de, ct, en, ou, ed)) true x)), (9, tr_g (tr_goif (tr_pre (r, pl, la, dn, vi, de, ct, en, ou, ed)) true x))]) (tr_back h 8 ((tr_pre (r, pl, la, dn, vi, de, ct, en, ou, ed))) (tr_goif (tr_pre (r, pl, la, dn, vi, de, ct, en, ou, ed)) true x)) ?_
        iterate 1 refine za_step X rfl rfl rfl ?_
        exact za_vret X rfl ⟨rfl, tr_ov h 8 (tr_goif (tr_pre (r, pl, la, dn, vi, de, ct, en, ou, ed)) true x), rfl⟩ (Nat.le_refl _) (Nat.le_refl _)
    · refine za_tsw X 9 213 rfl (by decide) (by decide) (by decide) rfl (by decide) ?_
      iterate 4 refine za_step X rfl rfl rfl ?_
      refine za_iald X rfl rfl rfl (rg_in ha) ?_
      iterate 3 refine za_step X rfl rfl rfl ?_
      refine za_iald X rfl rfl rfl (rg_in hb) ?_
      refine za_icne X 233 rfl (by decide) (fun q1 => ?_) (fun q1 => ?_)
      · have e1 : tr_ins (tr_pre (r, pl, la, dn, vi, de, ct, en, ou, ed)) 9 a b x = tr_goif (tr_pre (r, pl, la, dn, vi, de, ct, en, ou, ed)) false x := by
          show tr_goif (tr_pre (r, pl, la, dn, vi, de, ct, en, ou, ed)) (decide (r a.toNatClampNeg = r b.toNatClampNeg)) x = _
          rw [decide_eq_false (show ¬ r a.toNatClampNeg = r b.toNatClampNeg from q1)]
        rw [e1]
        iterate 2 refine za_step X rfl rfl rfl ?_
        refine za_callV X rfl cl_T_T_goIf cy_T_goIf cv_T_goIf (c_T_goIf l D _ n 8 (Or.inr rfl) (tr_pre (r, pl, la, dn, vi, de, ct, en, ou, ed)) ⟨rfl, rfl⟩ false x) rfl rfl rfl rfl (Nat.le_of_ble_eq_true rfl) (Nat.le_of_ble_eq_true rfl) (Nat.le_of_ble_eq_true rfl) (Nat.le_of_ble_eq_true rfl) (Nat.le_of_ble_eq_true rfl) (fun v h' n' hq => ?_)
        obtain ⟨rfl, rfl, rfl⟩ := hq
        refine za_look (h1 := h) (v1 := [(8, tr_c 8 (tr_goif (tr_pre (r, pl, la, dn, vi, de, ct, en, ou, ed)) false x)), (9, tr_g (tr_goif (tr_pre (r, pl, la, dn, vi, de, ct, en, ou, ed)) false x))]) (tr_back h 8 ((tr_pre (r, pl, la, dn, vi, de, ct, en, ou, ed))) (tr_goif (tr_pre (r, pl, la, dn, vi, de, ct, en, ou, ed)) false x)) ?_
        iterate 1 refine za_step X rfl rfl rfl ?_
        exact za_vret X rfl ⟨rfl, tr_ov h 8 (tr_goif (tr_pre (r, pl, la, dn, vi, de, ct, en, ou, ed)) false x), rfl⟩ (Nat.le_refl _) (Nat.le_refl _)
      · have e1 : tr_ins (tr_pre (r, pl, la, dn, vi, de, ct, en, ou, ed)) 9 a b x = tr_goif (tr_pre (r, pl, la, dn, vi, de, ct, en, ou, ed)) true x := by
          show tr_goif (tr_pre (r, pl, la, dn, vi, de, ct, en, ou, ed)) (decide (r a.toNatClampNeg = r b.toNatClampNeg)) x = _
          rw [decide_eq_true (show r a.toNatClampNeg = r b.toNatClampNeg from q1)]
        rw [e1]
        iterate 3 refine za_step X rfl rfl rfl ?_
        refine za_callV X rfl cl_T_T_goIf cy_T_goIf cv_T_goIf (c_T_goIf l D _ n 8 (Or.inr rfl) (tr_pre (r, pl, la, dn, vi, de, ct, en, ou, ed)) ⟨rfl, rfl⟩ true x) rfl rfl rfl rfl (Nat.le_of_ble_eq_true rfl) (Nat.le_of_ble_eq_true rfl) (Nat.le_of_ble_eq_true rfl) (Nat.le_of_ble_eq_true rfl) (Nat.le_of_ble_eq_true rfl) (fun v h' n' hq => ?_)
        obtain ⟨rfl, rfl, rfl⟩ := hq
        refine za_look (h1 := h) (v1 := [(8, tr_c 8 (tr_goif (tr_pre (r, pl, la, dn, vi, de, ct, en, ou, ed)) true x)), (9, tr_g (tr_goif (tr_pre (r, pl, la, dn, vi, de, ct, en, ou, ed)) true x))]) (tr_back h 8 ((tr_pre (r, pl, la, dn, vi, de, ct, en, ou, ed))) (tr_goif (tr_pre (r, pl, la, dn, vi, de, ct, en, ou, ed)) true x)) ?_
        iterate 1 refine za_step X rfl rfl rfl ?_
        exact za_vret X rfl ⟨rfl, tr_ov h 8 (tr_goif (tr_pre (r, pl, la, dn, vi, de, ct, en, ou, ed)) true x), rfl⟩ (Nat.le_refl _) (Nat.le_refl _)
    · refine za_tsw X 10 242 rfl (by decide) (by decide) (by decide) rfl (by decide) ?_
      iterate 4 refine za_step X rfl rfl rfl ?_
      exact za_vret X rfl ⟨rfl, tr_ov h 8 (tr_go (tr_pre (r, pl, la, dn, vi, de, ct, en, ou, ed)) x), rfl⟩ (Nat.le_refl _) (Nat.le_refl _)
    · refine za_tsw X 11 251 rfl (by decide) (by decide) (by decide) rfl (by decide) ?_
      iterate 4 refine za_step X rfl rfl rfl ?_
      refine za_callV X rfl cl_T_T_divide cy_T_divide cv_T_divide (c_T_divide l D _ n 8 (Or.inr rfl) (tr_pre (r, pl, la, dn, vi, de, ct, en, ou, ed)) ⟨rfl, rfl⟩ a b x ha hb hx) rfl rfl rfl rfl (Nat.le_of_ble_eq_true rfl) (Nat.le_of_ble_eq_true rfl) (Nat.le_of_ble_eq_true rfl) (Nat.le_of_ble_eq_true rfl) (Nat.le_of_ble_eq_true rfl) (fun v h' n' hq => ?_)
      obtain ⟨rfl, rfl, rfl⟩ := hq
      refine za_look (h1 := h) (v1 := [(8, tr_c 8 (tr_div (tr_pre (r, pl, la, dn, vi, de, ct, en, ou, ed)) a b x)), (9, tr_g (tr_div (tr_pre (r, pl, la, dn, vi, de, ct, en, ou, ed)) a b x))]) (tr_back h 8 ((tr_pre (r, pl, la, dn, vi, de, ct, en, ou, ed))) (tr_div (tr_pre (r, pl, la, dn, vi, de, ct, en, ou, ed)) a b x)) ?_
      iterate 1 refine za_step X rfl rfl rfl ?_
      exact za_vret X rfl ⟨rfl, tr_ov h 8 (tr_div (tr_pre (r, pl, la, dn, vi, de, ct, en, ou, ed)) a b x), rfl⟩ (Nat.le_refl _) (Nat.le_refl _)
    · refine za_tsw X 12 262 rfl (by decide) (by decide) (by decide) rfl (by decide) ?_
      iterate 2 refine za_step X rfl rfl rfl ?_
      refine za_callV X rfl cl_T_T_claim cy_T_claim cv_T_claim (c_T_claim l D _ n 8 (Or.inr rfl) (tr_pre (r, pl, la, dn, vi, de, ct, en, ou, ed)) ⟨rfl, rfl⟩ a ha) rfl rfl rfl rfl (Nat.le_of_ble_eq_true rfl) (Nat.le_of_ble_eq_true rfl) (Nat.le_of_ble_eq_true rfl) (Nat.le_of_ble_eq_true rfl) (Nat.le_of_ble_eq_true rfl) (fun v h' n' hq => ?_)
      obtain ⟨rfl, rfl, rfl⟩ := hq
      refine za_look (h1 := h) (v1 := [(8, tr_c 8 (tr_clm (tr_pre (r, pl, la, dn, vi, de, ct, en, ou, ed)) a)), (9, tr_g (tr_clm (tr_pre (r, pl, la, dn, vi, de, ct, en, ou, ed)) a))]) (tr_back h 8 ((tr_pre (r, pl, la, dn, vi, de, ct, en, ou, ed))) (tr_clm (tr_pre (r, pl, la, dn, vi, de, ct, en, ou, ed)) a)) ?_
      iterate 1 refine za_step X rfl rfl rfl ?_
      exact za_vret X rfl ⟨rfl, tr_ov h 8 (tr_clm (tr_pre (r, pl, la, dn, vi, de, ct, en, ou, ed)) a), rfl⟩ (Nat.le_refl _) (Nat.le_refl _)
    · refine za_tsw X 13 270 rfl (by decide) (by decide) (by decide) rfl (by decide) ?_
      iterate 5 refine za_step X rfl rfl rfl ?_
      refine za_iald X rfl rfl rfl (rg_in ha) ?_
      refine za_callV X rfl cl_T_T_finish cy_T_finish cv_T_finish (c_T_finish l D _ n 8 (Or.inr rfl) (tr_pre (r, pl, la, dn, vi, de, ct, en, ou, ed)) ⟨rfl, rfl⟩ 0 (r a.toNatClampNeg)) rfl rfl rfl rfl (Nat.le_of_ble_eq_true rfl) (Nat.le_of_ble_eq_true rfl) (Nat.le_of_ble_eq_true rfl) (Nat.le_of_ble_eq_true rfl) (Nat.le_of_ble_eq_true rfl) (fun v h' n' hq => ?_)
      obtain ⟨rfl, rfl, rfl⟩ := hq
      refine za_look (h1 := h) (v1 := [(8, tr_c 8 (tr_fin (tr_pre (r, pl, la, dn, vi, de, ct, en, ou, ed)) 0 (r a.toNatClampNeg))), (9, tr_g (tr_fin (tr_pre (r, pl, la, dn, vi, de, ct, en, ou, ed)) 0 (r a.toNatClampNeg)))]) (tr_back h 8 ((tr_pre (r, pl, la, dn, vi, de, ct, en, ou, ed))) (tr_fin (tr_pre (r, pl, la, dn, vi, de, ct, en, ou, ed)) 0 (r a.toNatClampNeg))) ?_
      iterate 1 refine za_step X rfl rfl rfl ?_
      exact za_vret X rfl ⟨rfl, tr_ov h 8 (tr_fin (tr_pre (r, pl, la, dn, vi, de, ct, en, ou, ed)) 0 (r a.toNatClampNeg)), rfl⟩ (Nat.le_refl _) (Nat.le_refl _)
    · have e1 : tr_ins (tr_pre (r, pl, la, dn, vi, de, ct, en, ou, ed)) op a b x = tr_reg (tr_pre (r, pl, la, dn, vi, de, ct, en, ou, ed)) a.toNatClampNeg (tr_com op (r b.toNatClampNeg) (r x.toNatClampNeg)) := by
        rcases hop with rfl | rfl | rfl | rfl | rfl | rfl <;> rfl
      rw [e1]
      have go284 : za_W p l e (za_rm 3 0 0) s m args below meth c D 6 (MQ below (za_Q D (fun v h' n' => v = none ∧ h' = tr_put h 8 (tr_reg (tr_pre (r, pl, la, dn, vi, de, ct, en, ou, ed)) a.toNatClampNeg (tr_com op (r b.toNatClampNeg) (r x.toNatClampNeg))) ∧ n = n')) args s 0 0 (fun q : Nat => D.2.2 ≤ q)) h n 0 0 284 [(0, vR 8), (1, vR 1), (2, vI a), (3, vI b), (4, vI x), (5, vI op)] [] [(8, tr_c 8 (tr_pre (r, pl, la, dn, vi, de, ct, en, ou, ed))), (9, tr_g (tr_pre (r, pl, la, dn, vi, de, ct, en, ou, ed)))] := by
        iterate 7 refine za_step X rfl rfl rfl ?_
        refine za_iald X rfl rfl rfl (rg_in hb) ?_
        iterate 3 refine za_step X rfl rfl rfl ?_
        refine za_iald X rfl rfl rfl (rg_in hx) ?_
        refine za_callS X rfl cl_T_T_combine cy_T_combine cs_T_combine (c_T_combine l D _ n op (r b.toNatClampNeg) (r x.toNatClampNeg) hop) rfl rfl (Nat.le_of_ble_eq_true rfl) (Nat.le_of_ble_eq_true rfl) (Nat.le_of_ble_eq_true rfl) (Nat.le_of_ble_eq_true rfl) (Nat.le_of_ble_eq_true rfl) (fun v h' n' hq => ?_)
        obtain ⟨rfl, rfl, rfl⟩ := hq
        refine za_look (h1 := h) (v1 := [(8, tr_c 8 (tr_pre (r, pl, la, dn, vi, de, ct, en, ou, ed))), (9, tr_g (tr_pre (r, pl, la, dn, vi, de, ct, en, ou, ed)))]) rfl ?_
        refine za_iast X rfl rfl rfl (rg_in ha) ?_
        exact za_vret X rfl ⟨rfl, tr_ov h 8 (tr_reg (tr_pre (r, pl, la, dn, vi, de, ct, en, ou, ed)) a.toNatClampNeg (tr_com op (r b.toNatClampNeg) (r x.toNatClampNeg))), rfl⟩ (Nat.le_refl _) (Nat.le_refl _)
      rcases hop with rfl | rfl | rfl | rfl | rfl | rfl
      · refine za_tsw X 1 284 rfl (by decide) (by decide) (by decide) rfl (by decide) ?_
        exact za_loc [(0, vR 8), (1, vR 1), (2, vI a), (3, vI b), (4, vI x), (5, vI 1)] rfl go284
      · refine za_tsw X 2 284 rfl (by decide) (by decide) (by decide) rfl (by decide) ?_
        exact za_loc [(0, vR 8), (1, vR 1), (2, vI a), (3, vI b), (4, vI x), (5, vI 2)] rfl go284
      · refine za_tsw X 3 284 rfl (by decide) (by decide) (by decide) rfl (by decide) ?_
        exact za_loc [(0, vR 8), (1, vR 1), (2, vI a), (3, vI b), (4, vI x), (5, vI 3)] rfl go284
      · refine za_tsw X 4 284 rfl (by decide) (by decide) (by decide) rfl (by decide) ?_
        exact za_loc [(0, vR 8), (1, vR 1), (2, vI a), (3, vI b), (4, vI x), (5, vI 4)] rfl go284
      · refine za_tsw X 5 284 rfl (by decide) (by decide) (by decide) rfl (by decide) ?_
        exact za_loc [(0, vR 8), (1, vR 1), (2, vI a), (3, vI b), (4, vI x), (5, vI 5)] rfl go284
      · refine za_tsw X 6 284 rfl (by decide) (by decide) (by decide) rfl (by decide) ?_
        exact za_loc [(0, vR 8), (1, vR 1), (2, vI a), (3, vI b), (4, vI x), (5, vI 6)] rfl go284
