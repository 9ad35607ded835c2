def mp_pc (T : tr_T) : Int32 := if tr_en T = 0 then tr_pl T else -1
theorem up24 {c1 : Int32} (h : pr_up 24 c1 = true) : ∃ j, j ≤ 24 ∧ c1 = nI j := by
  simp only [pr_up, Bool.and_eq_true, decide_eq_true_eq] at h
  obtain ⟨j, hj, rfl⟩ := nI_of (Int32.not_lt.mpr h.1)
  exact ⟨j, (nI_leI (b := 24) hj (by omega)).mp h.2, rfl⟩
theorem ins_dn (G : tr_T) (op a1 b1 c1 : Int32) : tr_dn (tr_ins G op a1 b1 c1) = tr_dn G := by
  obtain ⟨r, pl, la, dn, vi, de, ct, en, ou, ed⟩ := G
  unfold tr_ins tr_goif tr_div tr_clm
  repeat' split
  all_goals rfl
theorem ins_pl {G : tr_T} {op a1 b1 c1 : Int32} (hal : pr_al op a1 b1 c1 = true) (hg : ∃ j, j ≤ 24 ∧ tr_pl G = nI j) : ∃ j, j ≤ 24 ∧ tr_pl (tr_ins G op a1 b1 c1) = nI j := by
  obtain ⟨r, pl, la, dn, vi, de, ct, en, ou, ed⟩ := G
  rcases op_cases op with hop | rfl | rfl | rfl | rfl | rfl | rfl | rfl | rfl | rfl | rfl | rfl | rfl | rfl | rfl
  · rw [al_out hop] at hal; cases hal
  · exact hg
  · exact hg
  · exact hg
  · exact hg
  · exact hg
  · exact hg
  · exact hg
  · exact hg
  · have h24 : pr_up 24 c1 = true := by simp [pr_al] at hal; exact hal.2.2
    show ∃ j, j ≤ 24 ∧ tr_pl (tr_goif _ (decide (r a1.toNatClampNeg < r b1.toNatClampNeg)) c1) = nI j
    unfold tr_goif
    split
    · exact up24 h24
    · exact hg
  · have h24 : pr_up 24 c1 = true := by simp [pr_al] at hal; exact hal.2.2
    show ∃ j, j ≤ 24 ∧ tr_pl (tr_goif _ (decide (r a1.toNatClampNeg = r b1.toNatClampNeg)) c1) = nI j
    unfold tr_goif
    split
    · exact up24 h24
    · exact hg
  · have h24 : pr_up 24 c1 = true := by simpa [pr_al] using hal
    exact up24 h24
  · show ∃ j, j ≤ 24 ∧ tr_pl (tr_div _ a1 b1 c1) = nI j
    unfold tr_div
    split
    · exact hg
    · exact hg
  · show ∃ j, j ≤ 24 ∧ tr_pl (tr_clm _ a1) = nI j
    unfold tr_clm
    split
    · exact hg
    · exact hg
  · exact hg
set_option maxHeartbeats 4000000 in
set_option maxRecDepth 100000 in
theorem c_M_perform (l : Launch) (D : za_D) (h : za_H) (n : Nat) (A : ma_T) (Z : mz_T) (r : Nat → Int32) (k dn vi : Int32) (de : Int64) (ct ou ed : Int32) (hM : mo_at h A (r, k + 1, k, dn, vi, de, ct, 0, ou, ed) Z) (P : pr_T) (hP : mp_at h P) (hok : pr_ok P) (hin : vp_in k 24) (hidx : k.toNatClampNeg < P.2.2.2.2) : za_M l D Y_M_perform 1 0 0 [vR 142, vI k] h n (fun v h' n' => v = some (vI (mp_pc (tr_ins (r, k + 1, k, dn, vi, de, ct, 0, ou, ed) (P.1 k.toNatClampNeg) (P.2.1 k.toNatClampNeg) (P.2.2.1 k.toNatClampNeg) (P.2.2.2.1 k.toNatClampNeg)))) ∧ h' = mo_put h A (tr_ins (r, k + 1, k, dn, vi, de, ct, 0, ou, ed) (P.1 k.toNatClampNeg) (P.2.1 k.toNatClampNeg) (P.2.2.1 k.toNatClampNeg) (P.2.2.2.1 k.toNatClampNeg)) Z ∧ n = n') := by
  obtain ⟨th, n0, b⟩ := A
  obtain ⟨q0, ln, ld, lc, fd, rs, cv⟩ := Z
  obtain ⟨oo, aa, bb, cc0, pn⟩ := P
  obtain ⟨hP2, hP3, hP4, hP5⟩ := hP
  show za_M l D Y_M_perform 1 0 0 [vR 142, vI k] h n (fun v h' n' => v = some (vI (mp_pc (tr_ins (r, k + 1, k, dn, vi, de, ct, 0, ou, ed) (oo k.toNatClampNeg) (aa k.toNatClampNeg) (bb k.toNatClampNeg) (cc0 k.toNatClampNeg)))) ∧ h' = mo_put h (th, n0, b) (tr_ins (r, k + 1, k, dn, vi, de, ct, 0, ou, ed) (oo k.toNatClampNeg) (aa k.toNatClampNeg) (bb k.toNatClampNeg) (cc0 k.toNatClampNeg)) (q0, ln, ld, lc, fd, rs, cv) ∧ n = n')
  refine za_enter cd_M_perform fl_M (by decide) cdok_M_perform flok_M (Nat.le_of_ble_eq_true rfl) ?_
  intro p e s m args below meth c X hnm
  refine za_view [(142, mo_c (th, n0, b) (r, k + 1, k, dn, vi, de, ct, 0, ou, ed) (q0, ln, ld, lc, fd, rs, cv)), (147, tr_g (r, k + 1, k, dn, vi, de, ct, 0, ou, ed))] (by simp [hM.1, hM.2]) ?_
  iterate 3 refine za_step X rfl rfl rfl ?_
  refine za_iald X rfl hP3 rfl hin ?_
  iterate 4 refine za_step X rfl rfl rfl ?_
  refine za_iald X rfl hP2 rfl hin ?_
  iterate 2 refine za_step X rfl rfl rfl ?_
  have hal := hok.2 _ hidx
  have hal0 := hal
  rcases al_use hal with ⟨ho, ha⟩ | ⟨ho, ha, hb⟩ | ⟨ho, ha, hb⟩ | ⟨ho, ha, hb⟩ | ho | ⟨ho, ha, hb, hx⟩ | ⟨ho, ha⟩ | ⟨ho, ha⟩ | ⟨hop, ha, hb, hx⟩
  · have e1 : tr_ins (r, k + 1, k, dn, vi, de, ct, 0, ou, ed) (oo k.toNatClampNeg) (aa k.toNatClampNeg) (bb k.toNatClampNeg) (cc0 k.toNatClampNeg) = tr_reg (r, k + 1, k, dn, vi, de, ct, 0, ou, ed) (aa k.toNatClampNeg).toNatClampNeg (bb k.toNatClampNeg) := by rw [ho]; rfl
    refine za_tsw X 0 84 rfl (by rw [ho]; decide) (by decide) (by decide) rfl (by decide) ?_
    iterate 6 refine za_step X rfl rfl rfl ?_
    refine za_iald X rfl hP4 rfl hin ?_
    refine za_iast X rfl rfl rfl (rg_in ha) ?_
    iterate 3 refine za_step X rfl rfl rfl ?_
    exact za_iret X rfl ⟨by rw [e1]; rfl, by rw [e1]; exact mo_ov h (th, n0, b) (tr_reg (r, k + 1, k, dn, vi, de, ct, 0, ou, ed) (aa k.toNatClampNeg).toNatClampNeg (bb k.toNatClampNeg)) (q0, ln, ld, lc, fd, rs, cv), rfl⟩ (Nat.le_refl _) (Nat.le_refl _)
  · have e1 : tr_ins (r, k + 1, k, dn, vi, de, ct, 0, ou, ed) (oo k.toNatClampNeg) (aa k.toNatClampNeg) (bb k.toNatClampNeg) (cc0 k.toNatClampNeg) = tr_reg (r, k + 1, k, dn, vi, de, ct, 0, ou, ed) (aa k.toNatClampNeg).toNatClampNeg (r (bb k.toNatClampNeg).toNatClampNeg >>> (cc0 k.toNatClampNeg &&& 31)) := by rw [ho]; rfl
    refine za_tsw X 7 310 rfl (by rw [ho]; decide) (by decide) (by decide) rfl (by decide) ?_
    iterate 10 refine za_step X rfl rfl rfl ?_
    refine za_iald X rfl hP4 rfl hin ?_
    refine za_iald X rfl rfl rfl (rg_in hb) ?_
    iterate 2 refine za_step X rfl rfl rfl ?_
    refine za_icge X 348 rfl (by decide) (fun q1 => ?_) (fun q1 => absurd (show (7 : Int32) ≤ oo k.toNatClampNeg by rw [ho]; decide) q1)
    iterate 2 refine za_step X rfl rfl rfl ?_
    refine za_callV (b := 142) (d := 0) (mc := 0) (ms := 0) (as := [vI (oo k.toNatClampNeg), vI (r (bb k.toNatClampNeg).toNatClampNeg), vI 0, vI k]) (rest := [vI (aa k.toNatClampNeg), vR 147]) X rfl cl_M_M_worked cy_M_worked cv_M_worked (c_M_worked l D (za_ov h [(142, mo_c (th, n0, b) (r, k + 1, k, dn, vi, de, ct, 0, ou, ed) (q0, ln, ld, lc, fd, rs, cv)), (147, tr_g (r, k + 1, k, dn, vi, de, ct, 0, ou, ed))]) n (th, n0, b) (r, k + 1, k, dn, vi, de, ct, 0, ou, ed) (q0, ln, ld, lc, fd, rs, cv) rfl cc0 hP5 (oo k.toNatClampNeg) (r (bb k.toNatClampNeg).toNatClampNeg) 0 k hin (by simp [ho])) rfl rfl rfl rfl (Nat.le_of_ble_eq_true rfl) (Nat.le_of_ble_eq_true rfl) (Nat.le_of_ble_eq_true rfl) (Nat.le_of_ble_eq_true rfl) (Nat.le_of_ble_eq_true rfl) (fun v h' n' hq => ?_)
    obtain ⟨rfl, rfl, rfl⟩ := hq
    rw [show mw_ed cc0 (oo k.toNatClampNeg) (r (bb k.toNatClampNeg).toNatClampNeg) 0 k = r (bb k.toNatClampNeg).toNatClampNeg >>> (cc0 k.toNatClampNeg &&& 31) from if_pos ho]
    refine za_look (h1 := h) (v1 := [(142, mo_c (th, n0, b) (r, k + 1, k, dn, vi, de, ct, 0, ou, ed) (q0, ln, ld, lc, fd, rs, cv)), (147, tr_g (r, k + 1, k, dn, vi, de, ct, 0, ou, ed))]) rfl ?_
    refine za_iast X rfl rfl rfl (rg_in ha) ?_
    iterate 3 refine za_step X rfl rfl rfl ?_
    exact za_iret X rfl ⟨by rw [e1]; rfl, by rw [e1]; exact mo_ov h (th, n0, b) (tr_reg (r, k + 1, k, dn, vi, de, ct, 0, ou, ed) (aa k.toNatClampNeg).toNatClampNeg (r (bb k.toNatClampNeg).toNatClampNeg >>> (cc0 k.toNatClampNeg &&& 31))) (q0, ln, ld, lc, fd, rs, cv), rfl⟩ (Nat.le_refl _) (Nat.le_refl _)
  · skip
    refine za_tsw X 8 100 rfl (by rw [ho]; decide) (by decide) (by decide) rfl (by decide) ?_
    iterate 4 refine za_step X rfl rfl rfl ?_
    refine za_iald X rfl rfl rfl (rg_in ha) ?_
    iterate 5 refine za_step X rfl rfl rfl ?_
    refine za_iald X rfl hP4 rfl hin ?_
    refine za_iald X rfl rfl rfl (rg_in hb) ?_
    refine za_icge X 125 rfl (by decide) (fun q1 => ?_) (fun q1 => ?_)
    · have e1 : tr_ins (r, k + 1, k, dn, vi, de, ct, 0, ou, ed) (oo k.toNatClampNeg) (aa k.toNatClampNeg) (bb k.toNatClampNeg) (cc0 k.toNatClampNeg) = tr_dec (r, k + 1, k, dn, vi, de, ct, 0, ou, ed) false := by
        rw [ho]
        show tr_goif (r, k + 1, k, dn, vi, de, ct, 0, ou, ed) (decide (r (aa k.toNatClampNeg).toNatClampNeg < r (bb k.toNatClampNeg).toNatClampNeg)) (cc0 k.toNatClampNeg) = _
        rw [decide_eq_false (show ¬ r (aa k.toNatClampNeg).toNatClampNeg < r (bb k.toNatClampNeg).toNatClampNeg from Int32.not_lt.mpr q1)]; rfl
      iterate 1 refine za_step X rfl rfl rfl ?_
      refine za_callV (b := 142) (d := 0) (mc := 0) (ms := 0) (as := [vI (bI false)]) (rest := []) X rfl cl_M_M_decide cy_M_decide cv_M_decide (c_M_decide l D (za_ov h [(142, mo_c (th, n0, b) (r, k + 1, k, dn, vi, de, ct, 0, ou, ed) (q0, ln, ld, lc, fd, rs, cv)), (147, tr_g (r, k + 1, k, dn, vi, de, ct, 0, ou, ed))]) n (th, n0, b) (r, k + 1, k, dn, vi, de, ct, 0, ou, ed) (q0, ln, ld, lc, fd, rs, cv) rfl false) rfl rfl rfl rfl (Nat.le_of_ble_eq_true rfl) (Nat.le_of_ble_eq_true rfl) (Nat.le_of_ble_eq_true rfl) (Nat.le_of_ble_eq_true rfl) (Nat.le_of_ble_eq_true rfl) (fun v h' n' hq => ?_)
      obtain ⟨rfl, rfl, rfl⟩ := hq
      refine za_look (h1 := h) (v1 := [(142, mo_c (th, n0, b) (tr_dec (r, k + 1, k, dn, vi, de, ct, 0, ou, ed) false) (q0, ln, ld, lc, fd, rs, cv)), (147, tr_g (r, k + 1, k, dn, vi, de, ct, 0, ou, ed))]) (mo_bk h _ _ _) ?_
      refine za_ifeq X 141 rfl (by decide) (fun q2 => ?_) (fun q2 => absurd rfl q2)
      iterate 3 refine za_step X rfl rfl rfl ?_
      exact za_iret X rfl ⟨by rw [e1]; rfl, by rw [e1]; exact mo_ov h (th, n0, b) (tr_dec (r, k + 1, k, dn, vi, de, ct, 0, ou, ed) false) (q0, ln, ld, lc, fd, rs, cv), rfl⟩ (Nat.le_refl _) (Nat.le_refl _)
    · have e1 : tr_ins (r, k + 1, k, dn, vi, de, ct, 0, ou, ed) (oo k.toNatClampNeg) (aa k.toNatClampNeg) (bb k.toNatClampNeg) (cc0 k.toNatClampNeg) = tr_go (tr_dec (r, k + 1, k, dn, vi, de, ct, 0, ou, ed) true) (cc0 k.toNatClampNeg) := by
        rw [ho]
        show tr_goif (r, k + 1, k, dn, vi, de, ct, 0, ou, ed) (decide (r (aa k.toNatClampNeg).toNatClampNeg < r (bb k.toNatClampNeg).toNatClampNeg)) (cc0 k.toNatClampNeg) = _
        rw [decide_eq_true (show r (aa k.toNatClampNeg).toNatClampNeg < r (bb k.toNatClampNeg).toNatClampNeg from Int32.not_le.mp q1)]; rfl
      iterate 2 refine za_step X rfl rfl rfl ?_
      refine za_callV (b := 142) (d := 0) (mc := 0) (ms := 0) (as := [vI (bI true)]) (rest := []) X rfl cl_M_M_decide cy_M_decide cv_M_decide (c_M_decide l D (za_ov h [(142, mo_c (th, n0, b) (r, k + 1, k, dn, vi, de, ct, 0, ou, ed) (q0, ln, ld, lc, fd, rs, cv)), (147, tr_g (r, k + 1, k, dn, vi, de, ct, 0, ou, ed))]) n (th, n0, b) (r, k + 1, k, dn, vi, de, ct, 0, ou, ed) (q0, ln, ld, lc, fd, rs, cv) rfl true) rfl rfl rfl rfl (Nat.le_of_ble_eq_true rfl) (Nat.le_of_ble_eq_true rfl) (Nat.le_of_ble_eq_true rfl) (Nat.le_of_ble_eq_true rfl) (Nat.le_of_ble_eq_true rfl) (fun v h' n' hq => ?_)
      obtain ⟨rfl, rfl, rfl⟩ := hq
      refine za_look (h1 := h) (v1 := [(142, mo_c (th, n0, b) (tr_dec (r, k + 1, k, dn, vi, de, ct, 0, ou, ed) true) (q0, ln, ld, lc, fd, rs, cv)), (147, tr_g (r, k + 1, k, dn, vi, de, ct, 0, ou, ed))]) (mo_bk h _ _ _) ?_
      refine za_ifeq X 141 rfl (by decide) (fun q2 => absurd q2 (by decide)) (fun q2 => ?_)
      iterate 3 refine za_step X rfl rfl rfl ?_
      refine za_iald X rfl hP5 rfl hin ?_
      iterate 1 refine za_step X rfl rfl rfl ?_
      exact za_iret X rfl ⟨by rw [e1]; rfl, by rw [e1]; exact mo_ov h (th, n0, b) (tr_go (tr_dec (r, k + 1, k, dn, vi, de, ct, 0, ou, ed) true) (cc0 k.toNatClampNeg)) (q0, ln, ld, lc, fd, rs, cv), rfl⟩ (Nat.le_refl _) (Nat.le_refl _)
  · skip
    refine za_tsw X 9 145 rfl (by rw [ho]; decide) (by decide) (by decide) rfl (by decide) ?_
    iterate 4 refine za_step X rfl rfl rfl ?_
    refine za_iald X rfl rfl rfl (rg_in ha) ?_
    iterate 5 refine za_step X rfl rfl rfl ?_
    refine za_iald X rfl hP4 rfl hin ?_
    refine za_iald X rfl rfl rfl (rg_in hb) ?_
    refine za_icne X 170 rfl (by decide) (fun q1 => ?_) (fun q1 => ?_)
    · have e1 : tr_ins (r, k + 1, k, dn, vi, de, ct, 0, ou, ed) (oo k.toNatClampNeg) (aa k.toNatClampNeg) (bb k.toNatClampNeg) (cc0 k.toNatClampNeg) = tr_dec (r, k + 1, k, dn, vi, de, ct, 0, ou, ed) false := by
        rw [ho]
        show tr_goif (r, k + 1, k, dn, vi, de, ct, 0, ou, ed) (decide (r (aa k.toNatClampNeg).toNatClampNeg = r (bb k.toNatClampNeg).toNatClampNeg)) (cc0 k.toNatClampNeg) = _
        rw [decide_eq_false (show ¬ r (aa k.toNatClampNeg).toNatClampNeg = r (bb k.toNatClampNeg).toNatClampNeg from q1)]; rfl
      iterate 1 refine za_step X rfl rfl rfl ?_
      refine za_callV (b := 142) (d := 0) (mc := 0) (ms := 0) (as := [vI (bI false)]) (rest := []) X rfl cl_M_M_decide cy_M_decide cv_M_decide (c_M_decide l D (za_ov h [(142, mo_c (th, n0, b) (r, k + 1, k, dn, vi, de, ct, 0, ou, ed) (q0, ln, ld, lc, fd, rs, cv)), (147, tr_g (r, k + 1, k, dn, vi, de, ct, 0, ou, ed))]) n (th, n0, b) (r, k + 1, k, dn, vi, de, ct, 0, ou, ed) (q0, ln, ld, lc, fd, rs, cv) rfl false) rfl rfl rfl rfl (Nat.le_of_ble_eq_true rfl) (Nat.le_of_ble_eq_true rfl) (Nat.le_of_ble_eq_true rfl) (Nat.le_of_ble_eq_true rfl) (Nat.le_of_ble_eq_true rfl) (fun v h' n' hq => ?_)
      obtain ⟨rfl, rfl, rfl⟩ := hq
      refine za_look (h1 := h) (v1 := [(142, mo_c (th, n0, b) (tr_dec (r, k + 1, k, dn, vi, de, ct, 0, ou, ed) false) (q0, ln, ld, lc, fd, rs, cv)), (147, tr_g (r, k + 1, k, dn, vi, de, ct, 0, ou, ed))]) (mo_bk h _ _ _) ?_
      refine za_ifeq X 186 rfl (by decide) (fun q2 => ?_) (fun q2 => absurd rfl q2)
      iterate 3 refine za_step X rfl rfl rfl ?_
      exact za_iret X rfl ⟨by rw [e1]; rfl, by rw [e1]; exact mo_ov h (th, n0, b) (tr_dec (r, k + 1, k, dn, vi, de, ct, 0, ou, ed) false) (q0, ln, ld, lc, fd, rs, cv), rfl⟩ (Nat.le_refl _) (Nat.le_refl _)
    · have e1 : tr_ins (r, k + 1, k, dn, vi, de, ct, 0, ou, ed) (oo k.toNatClampNeg) (aa k.toNatClampNeg) (bb k.toNatClampNeg) (cc0 k.toNatClampNeg) = tr_go (tr_dec (r, k + 1, k, dn, vi, de, ct, 0, ou, ed) true) (cc0 k.toNatClampNeg) := by
        rw [ho]
        show tr_goif (r, k + 1, k, dn, vi, de, ct, 0, ou, ed) (decide (r (aa k.toNatClampNeg).toNatClampNeg = r (bb k.toNatClampNeg).toNatClampNeg)) (cc0 k.toNatClampNeg) = _
        rw [decide_eq_true (show r (aa k.toNatClampNeg).toNatClampNeg = r (bb k.toNatClampNeg).toNatClampNeg from q1)]; rfl
      iterate 2 refine za_step X rfl rfl rfl ?_
      refine za_callV (b := 142) (d := 0) (mc := 0) (ms := 0) (as := [vI (bI true)]) (rest := []) X rfl cl_M_M_decide cy_M_decide cv_M_decide (c_M_decide l D (za_ov h [(142, mo_c (th, n0, b) (r, k + 1, k, dn, vi, de, ct, 0, ou, ed) (q0, ln, ld, lc, fd, rs, cv)), (147, tr_g (r, k + 1, k, dn, vi, de, ct, 0, ou, ed))]) n (th, n0, b) (r, k + 1, k, dn, vi, de, ct, 0, ou, ed) (q0, ln, ld, lc, fd, rs, cv) rfl true) rfl rfl rfl rfl (Nat.le_of_ble_eq_true rfl) (Nat.le_of_ble_eq_true rfl) (Nat.le_of_ble_eq_true rfl) (Nat.le_of_ble_eq_true rfl) (Nat.le_of_ble_eq_true rfl) (fun v h' n' hq => ?_)
      obtain ⟨rfl, rfl, rfl⟩ := hq
      refine za_look (h1 := h) (v1 := [(142, mo_c (th, n0, b) (tr_dec (r, k + 1, k, dn, vi, de, ct, 0, ou, ed) true) (q0, ln, ld, lc, fd, rs, cv)), (147, tr_g (r, k + 1, k, dn, vi, de, ct, 0, ou, ed))]) (mo_bk h _ _ _) ?_
      refine za_ifeq X 186 rfl (by decide) (fun q2 => absurd q2 (by decide)) (fun q2 => ?_)
      iterate 3 refine za_step X rfl rfl rfl ?_
      refine za_iald X rfl hP5 rfl hin ?_
      iterate 1 refine za_step X rfl rfl rfl ?_
      exact za_iret X rfl ⟨by rw [e1]; rfl, by rw [e1]; exact mo_ov h (th, n0, b) (tr_go (tr_dec (r, k + 1, k, dn, vi, de, ct, 0, ou, ed) true) (cc0 k.toNatClampNeg)) (q0, ln, ld, lc, fd, rs, cv), rfl⟩ (Nat.le_refl _) (Nat.le_refl _)
  · have e1 : tr_ins (r, k + 1, k, dn, vi, de, ct, 0, ou, ed) (oo k.toNatClampNeg) (aa k.toNatClampNeg) (bb k.toNatClampNeg) (cc0 k.toNatClampNeg) = tr_go (r, k + 1, k, dn, vi, de, ct, 0, ou, ed) (cc0 k.toNatClampNeg) := by rw [ho]; rfl
    refine za_tsw X 10 190 rfl (by rw [ho]; decide) (by decide) (by decide) rfl (by decide) ?_
    iterate 3 refine za_step X rfl rfl rfl ?_
    refine za_iald X rfl hP5 rfl hin ?_
    exact za_iret X rfl ⟨by rw [e1]; rfl, by rw [e1]; exact mo_ov h (th, n0, b) (tr_go (r, k + 1, k, dn, vi, de, ct, 0, ou, ed) (cc0 k.toNatClampNeg)) (q0, ln, ld, lc, fd, rs, cv), rfl⟩ (Nat.le_refl _) (Nat.le_refl _)
  · skip
    refine za_tsw X 11 197 rfl (by rw [ho]; decide) (by decide) (by decide) rfl (by decide) ?_
    iterate 6 refine za_step X rfl rfl rfl ?_
    refine za_iald X rfl hP5 rfl hin ?_
    refine za_iald X rfl rfl rfl (rg_in hx) ?_
    refine za_ifne X 216 rfl (by decide) (fun q1 => ?_) (fun q1 => ?_)
    · have e1 : tr_ins (r, k + 1, k, dn, vi, de, ct, 0, ou, ed) (oo k.toNatClampNeg) (aa k.toNatClampNeg) (bb k.toNatClampNeg) (cc0 k.toNatClampNeg) = tr_reg (tr_dec (r, k + 1, k, dn, vi, de, ct, 0, ou, ed) false) (aa k.toNatClampNeg).toNatClampNeg (r (bb k.toNatClampNeg).toNatClampNeg / r (cc0 k.toNatClampNeg).toNatClampNeg) := by
        rw [ho]; exact if_neg q1
      iterate 1 refine za_step X rfl rfl rfl ?_
      refine za_callV (b := 142) (d := 0) (mc := 0) (ms := 0) (as := [vI (bI false)]) (rest := []) X rfl cl_M_M_decide cy_M_decide cv_M_decide (c_M_decide l D (za_ov h [(142, mo_c (th, n0, b) (r, k + 1, k, dn, vi, de, ct, 0, ou, ed) (q0, ln, ld, lc, fd, rs, cv)), (147, tr_g (r, k + 1, k, dn, vi, de, ct, 0, ou, ed))]) n (th, n0, b) (r, k + 1, k, dn, vi, de, ct, 0, ou, ed) (q0, ln, ld, lc, fd, rs, cv) rfl false) rfl rfl rfl rfl (Nat.le_of_ble_eq_true rfl) (Nat.le_of_ble_eq_true rfl) (Nat.le_of_ble_eq_true rfl) (Nat.le_of_ble_eq_true rfl) (Nat.le_of_ble_eq_true rfl) (fun v h' n' hq => ?_)
      obtain ⟨rfl, rfl, rfl⟩ := hq
      refine za_look (h1 := h) (v1 := [(142, mo_c (th, n0, b) (tr_dec (r, k + 1, k, dn, vi, de, ct, 0, ou, ed) false) (q0, ln, ld, lc, fd, rs, cv)), (147, tr_g (r, k + 1, k, dn, vi, de, ct, 0, ou, ed))]) (mo_bk h _ _ _) ?_
      refine za_ifeq X 231 rfl (by decide) (fun q2 => ?_) (fun q2 => absurd rfl q2)
      iterate 8 refine za_step X rfl rfl rfl ?_
      refine za_iald X rfl hP4 rfl hin ?_
      refine za_iald X rfl rfl rfl (rg_in hb) ?_
      iterate 5 refine za_step X rfl rfl rfl ?_
      refine za_iald X rfl hP5 rfl hin ?_
      refine za_iald X rfl rfl rfl (rg_in hx) ?_
      refine za_idiv X rfl q1 ?_
      refine za_iast X rfl rfl rfl (rg_in ha) ?_
      iterate 3 refine za_step X rfl rfl rfl ?_
      exact za_iret X rfl ⟨by rw [e1]; rfl, by rw [e1]; exact mo_ov h (th, n0, b) (tr_reg (tr_dec (r, k + 1, k, dn, vi, de, ct, 0, ou, ed) false) (aa k.toNatClampNeg).toNatClampNeg (r (bb k.toNatClampNeg).toNatClampNeg / r (cc0 k.toNatClampNeg).toNatClampNeg)) (q0, ln, ld, lc, fd, rs, cv), rfl⟩ (Nat.le_refl _) (Nat.le_refl _)
    · have e1 : tr_ins (r, k + 1, k, dn, vi, de, ct, 0, ou, ed) (oo k.toNatClampNeg) (aa k.toNatClampNeg) (bb k.toNatClampNeg) (cc0 k.toNatClampNeg) = tr_fin (tr_dec (r, k + 1, k, dn, vi, de, ct, 0, ou, ed) true) 1 k := by
        rw [ho]; exact if_pos q1
      iterate 2 refine za_step X rfl rfl rfl ?_
      refine za_callV (b := 142) (d := 0) (mc := 0) (ms := 0) (as := [vI (bI true)]) (rest := []) X rfl cl_M_M_decide cy_M_decide cv_M_decide (c_M_decide l D (za_ov h [(142, mo_c (th, n0, b) (r, k + 1, k, dn, vi, de, ct, 0, ou, ed) (q0, ln, ld, lc, fd, rs, cv)), (147, tr_g (r, k + 1, k, dn, vi, de, ct, 0, ou, ed))]) n (th, n0, b) (r, k + 1, k, dn, vi, de, ct, 0, ou, ed) (q0, ln, ld, lc, fd, rs, cv) rfl true) rfl rfl rfl rfl (Nat.le_of_ble_eq_true rfl) (Nat.le_of_ble_eq_true rfl) (Nat.le_of_ble_eq_true rfl) (Nat.le_of_ble_eq_true rfl) (Nat.le_of_ble_eq_true rfl) (fun v h' n' hq => ?_)
      obtain ⟨rfl, rfl, rfl⟩ := hq
      refine za_look (h1 := h) (v1 := [(142, mo_c (th, n0, b) (tr_dec (r, k + 1, k, dn, vi, de, ct, 0, ou, ed) true) (q0, ln, ld, lc, fd, rs, cv)), (147, tr_g (r, k + 1, k, dn, vi, de, ct, 0, ou, ed))]) (mo_bk h _ _ _) ?_
      refine za_ifeq X 231 rfl (by decide) (fun q2 => absurd q2 (by decide)) (fun q2 => ?_)
      iterate 3 refine za_step X rfl rfl rfl ?_
      refine za_callV (b := 142) (d := 0) (mc := 0) (ms := 0) (as := [vI 1, vI k]) (rest := []) X rfl cl_M_M_finish cy_M_finish cv_M_finish (c_M_finish l D (za_ov h [(142, mo_c (th, n0, b) (tr_dec (r, k + 1, k, dn, vi, de, ct, 0, ou, ed) true) (q0, ln, ld, lc, fd, rs, cv)), (147, tr_g (r, k + 1, k, dn, vi, de, ct, 0, ou, ed))]) n (th, n0, b) (tr_dec (r, k + 1, k, dn, vi, de, ct, 0, ou, ed) true) (q0, ln, ld, lc, fd, rs, cv) rfl 1 k) rfl rfl rfl rfl (Nat.le_of_ble_eq_true rfl) (Nat.le_of_ble_eq_true rfl) (Nat.le_of_ble_eq_true rfl) (Nat.le_of_ble_eq_true rfl) (Nat.le_of_ble_eq_true rfl) (fun v h' n' hq => ?_)
      obtain ⟨rfl, rfl, rfl⟩ := hq
      refine za_look (h1 := h) (v1 := [(142, mo_c (th, n0, b) (tr_fin (tr_dec (r, k + 1, k, dn, vi, de, ct, 0, ou, ed) true) 1 k) (q0, ln, ld, lc, fd, rs, cv)), (147, tr_g (r, k + 1, k, dn, vi, de, ct, 0, ou, ed))]) (mo_bk h _ _ _) ?_
      iterate 1 refine za_step X rfl rfl rfl ?_
      exact za_iret X rfl ⟨by rw [e1]; rfl, by rw [e1]; exact mo_ov h (th, n0, b) (tr_fin (tr_dec (r, k + 1, k, dn, vi, de, ct, 0, ou, ed) true) 1 k) (q0, ln, ld, lc, fd, rs, cv), rfl⟩ (Nat.le_refl _) (Nat.le_refl _)
  · skip
    refine za_tsw X 12 264 rfl (by rw [ho]; decide) (by decide) (by decide) rfl (by decide) ?_
    iterate 4 refine za_step X rfl rfl rfl ?_
    refine za_iald X rfl rfl rfl (rg_in ha) ?_
    refine za_ifne X 278 rfl (by decide) (fun q1 => ?_) (fun q1 => ?_)
    · have e1 : tr_ins (r, k + 1, k, dn, vi, de, ct, 0, ou, ed) (oo k.toNatClampNeg) (aa k.toNatClampNeg) (bb k.toNatClampNeg) (cc0 k.toNatClampNeg) = tr_dec (r, k + 1, k, dn, vi, de, ct, 0, ou, ed) false := by
        rw [ho]; exact if_neg q1
      iterate 1 refine za_step X rfl rfl rfl ?_
      refine za_callV (b := 142) (d := 0) (mc := 0) (ms := 0) (as := [vI (bI false)]) (rest := []) X rfl cl_M_M_decide cy_M_decide cv_M_decide (c_M_decide l D (za_ov h [(142, mo_c (th, n0, b) (r, k + 1, k, dn, vi, de, ct, 0, ou, ed) (q0, ln, ld, lc, fd, rs, cv)), (147, tr_g (r, k + 1, k, dn, vi, de, ct, 0, ou, ed))]) n (th, n0, b) (r, k + 1, k, dn, vi, de, ct, 0, ou, ed) (q0, ln, ld, lc, fd, rs, cv) rfl false) rfl rfl rfl rfl (Nat.le_of_ble_eq_true rfl) (Nat.le_of_ble_eq_true rfl) (Nat.le_of_ble_eq_true rfl) (Nat.le_of_ble_eq_true rfl) (Nat.le_of_ble_eq_true rfl) (fun v h' n' hq => ?_)
      obtain ⟨rfl, rfl, rfl⟩ := hq
      refine za_look (h1 := h) (v1 := [(142, mo_c (th, n0, b) (tr_dec (r, k + 1, k, dn, vi, de, ct, 0, ou, ed) false) (q0, ln, ld, lc, fd, rs, cv)), (147, tr_g (r, k + 1, k, dn, vi, de, ct, 0, ou, ed))]) (mo_bk h _ _ _) ?_
      refine za_ifne X 289 rfl (by decide) (fun q2 => absurd rfl q2) (fun q2 => ?_)
      iterate 3 refine za_step X rfl rfl rfl ?_
      exact za_iret X rfl ⟨by rw [e1]; rfl, by rw [e1]; exact mo_ov h (th, n0, b) (tr_dec (r, k + 1, k, dn, vi, de, ct, 0, ou, ed) false) (q0, ln, ld, lc, fd, rs, cv), rfl⟩ (Nat.le_refl _) (Nat.le_refl _)
    · have e1 : tr_ins (r, k + 1, k, dn, vi, de, ct, 0, ou, ed) (oo k.toNatClampNeg) (aa k.toNatClampNeg) (bb k.toNatClampNeg) (cc0 k.toNatClampNeg) = tr_fin (tr_dec (r, k + 1, k, dn, vi, de, ct, 0, ou, ed) true) 2 k := by
        rw [ho]; exact if_pos q1
      iterate 2 refine za_step X rfl rfl rfl ?_
      refine za_callV (b := 142) (d := 0) (mc := 0) (ms := 0) (as := [vI (bI true)]) (rest := []) X rfl cl_M_M_decide cy_M_decide cv_M_decide (c_M_decide l D (za_ov h [(142, mo_c (th, n0, b) (r, k + 1, k, dn, vi, de, ct, 0, ou, ed) (q0, ln, ld, lc, fd, rs, cv)), (147, tr_g (r, k + 1, k, dn, vi, de, ct, 0, ou, ed))]) n (th, n0, b) (r, k + 1, k, dn, vi, de, ct, 0, ou, ed) (q0, ln, ld, lc, fd, rs, cv) rfl true) rfl rfl rfl rfl (Nat.le_of_ble_eq_true rfl) (Nat.le_of_ble_eq_true rfl) (Nat.le_of_ble_eq_true rfl) (Nat.le_of_ble_eq_true rfl) (Nat.le_of_ble_eq_true rfl) (fun v h' n' hq => ?_)
      obtain ⟨rfl, rfl, rfl⟩ := hq
      refine za_look (h1 := h) (v1 := [(142, mo_c (th, n0, b) (tr_dec (r, k + 1, k, dn, vi, de, ct, 0, ou, ed) true) (q0, ln, ld, lc, fd, rs, cv)), (147, tr_g (r, k + 1, k, dn, vi, de, ct, 0, ou, ed))]) (mo_bk h _ _ _) ?_
      refine za_ifne X 289 rfl (by decide) (fun q2 => ?_) (fun q2 => absurd q2 (by decide))
      iterate 3 refine za_step X rfl rfl rfl ?_
      refine za_callV (b := 142) (d := 0) (mc := 0) (ms := 0) (as := [vI 2, vI k]) (rest := []) X rfl cl_M_M_finish cy_M_finish cv_M_finish (c_M_finish l D (za_ov h [(142, mo_c (th, n0, b) (tr_dec (r, k + 1, k, dn, vi, de, ct, 0, ou, ed) true) (q0, ln, ld, lc, fd, rs, cv)), (147, tr_g (r, k + 1, k, dn, vi, de, ct, 0, ou, ed))]) n (th, n0, b) (tr_dec (r, k + 1, k, dn, vi, de, ct, 0, ou, ed) true) (q0, ln, ld, lc, fd, rs, cv) rfl 2 k) rfl rfl rfl rfl (Nat.le_of_ble_eq_true rfl) (Nat.le_of_ble_eq_true rfl) (Nat.le_of_ble_eq_true rfl) (Nat.le_of_ble_eq_true rfl) (Nat.le_of_ble_eq_true rfl) (fun v h' n' hq => ?_)
      obtain ⟨rfl, rfl, rfl⟩ := hq
      refine za_look (h1 := h) (v1 := [(142, mo_c (th, n0, b) (tr_fin (tr_dec (r, k + 1, k, dn, vi, de, ct, 0, ou, ed) true) 2 k) (q0, ln, ld, lc, fd, rs, cv)), (147, tr_g (r, k + 1, k, dn, vi, de, ct, 0, ou, ed))]) (mo_bk h _ _ _) ?_
      iterate 1 refine za_step X rfl rfl rfl ?_
      exact za_iret X rfl ⟨by rw [e1]; rfl, by rw [e1]; exact mo_ov h (th, n0, b) (tr_fin (tr_dec (r, k + 1, k, dn, vi, de, ct, 0, ou, ed) true) 2 k) (q0, ln, ld, lc, fd, rs, cv), rfl⟩ (Nat.le_refl _) (Nat.le_refl _)
  · have e1 : tr_ins (r, k + 1, k, dn, vi, de, ct, 0, ou, ed) (oo k.toNatClampNeg) (aa k.toNatClampNeg) (bb k.toNatClampNeg) (cc0 k.toNatClampNeg) = tr_fin (r, k + 1, k, dn, vi, de, ct, 0, ou, ed) 0 (r (aa k.toNatClampNeg).toNatClampNeg) := by rw [ho]; rfl
    refine za_tsw X 13 297 rfl (by rw [ho]; decide) (by decide) (by decide) rfl (by decide) ?_
    iterate 5 refine za_step X rfl rfl rfl ?_
    refine za_iald X rfl rfl rfl (rg_in ha) ?_
    refine za_callV (b := 142) (d := 0) (mc := 0) (ms := 0) (as := [vI 0, vI (r (aa k.toNatClampNeg).toNatClampNeg)]) (rest := []) X rfl cl_M_M_finish cy_M_finish cv_M_finish (c_M_finish l D (za_ov h [(142, mo_c (th, n0, b) ((r, k + 1, k, dn, vi, de, ct, 0, ou, ed)) (q0, ln, ld, lc, fd, rs, cv)), (147, tr_g (r, k + 1, k, dn, vi, de, ct, 0, ou, ed))]) n (th, n0, b) ((r, k + 1, k, dn, vi, de, ct, 0, ou, ed)) (q0, ln, ld, lc, fd, rs, cv) rfl 0 (r (aa k.toNatClampNeg).toNatClampNeg)) rfl rfl rfl rfl (Nat.le_of_ble_eq_true rfl) (Nat.le_of_ble_eq_true rfl) (Nat.le_of_ble_eq_true rfl) (Nat.le_of_ble_eq_true rfl) (Nat.le_of_ble_eq_true rfl) (fun v h' n' hq => ?_)
    obtain ⟨rfl, rfl, rfl⟩ := hq
    refine za_look (h1 := h) (v1 := [(142, mo_c (th, n0, b) (tr_fin ((r, k + 1, k, dn, vi, de, ct, 0, ou, ed)) 0 (r (aa k.toNatClampNeg).toNatClampNeg)) (q0, ln, ld, lc, fd, rs, cv)), (147, tr_g (r, k + 1, k, dn, vi, de, ct, 0, ou, ed))]) (mo_bk h _ _ _) ?_
    iterate 1 refine za_step X rfl rfl rfl ?_
    exact za_iret X rfl ⟨by rw [e1]; rfl, by rw [e1]; exact mo_ov h (th, n0, b) (tr_fin (r, k + 1, k, dn, vi, de, ct, 0, ou, ed) 0 (r (aa k.toNatClampNeg).toNatClampNeg)) (q0, ln, ld, lc, fd, rs, cv), rfl⟩ (Nat.le_refl _) (Nat.le_refl _)
  · have e1 : tr_ins (r, k + 1, k, dn, vi, de, ct, 0, ou, ed) (oo k.toNatClampNeg) (aa k.toNatClampNeg) (bb k.toNatClampNeg) (cc0 k.toNatClampNeg) = tr_reg (r, k + 1, k, dn, vi, de, ct, 0, ou, ed) (aa k.toNatClampNeg).toNatClampNeg (tr_com (oo k.toNatClampNeg) (r (bb k.toNatClampNeg).toNatClampNeg) (r (cc0 k.toNatClampNeg).toNatClampNeg)) := by
      rcases hop with z | z | z | z | z | z <;> rw [z] <;> rfl
    have e2 : mw_ed cc0 (oo k.toNatClampNeg) (r (bb k.toNatClampNeg).toNatClampNeg) (r (cc0 k.toNatClampNeg).toNatClampNeg) k = tr_com (oo k.toNatClampNeg) (r (bb k.toNatClampNeg).toNatClampNeg) (r (cc0 k.toNatClampNeg).toNatClampNeg) := if_neg (by rcases hop with z | z | z | z | z | z <;> rw [z] <;> decide)
    have h7 : oo k.toNatClampNeg < 7 := by rcases hop with z | z | z | z | z | z <;> rw [z] <;> decide
    have hop7 : oo k.toNatClampNeg = 1 ∨ oo k.toNatClampNeg = 2 ∨ oo k.toNatClampNeg = 3 ∨ oo k.toNatClampNeg = 4 ∨ oo k.toNatClampNeg = 5 ∨ oo k.toNatClampNeg = 6 ∨ oo k.toNatClampNeg = 7 := by rcases hop with z | z | z | z | z | z <;> simp [z]
    have at310 : za_W p l e (za_rm 1 0 0) s m args below meth c D 4 (MQ below (za_Q D (fun v h' n' => v = some (vI (mp_pc (tr_ins (r, k + 1, k, dn, vi, de, ct, 0, ou, ed) (oo k.toNatClampNeg) (aa k.toNatClampNeg) (bb k.toNatClampNeg) (cc0 k.toNatClampNeg)))) ∧ h' = mo_put h (th, n0, b) (tr_ins (r, k + 1, k, dn, vi, de, ct, 0, ou, ed) (oo k.toNatClampNeg) (aa k.toNatClampNeg) (bb k.toNatClampNeg) (cc0 k.toNatClampNeg)) (q0, ln, ld, lc, fd, rs, cv) ∧ n = n')) args s 0 0 (fun q : Nat => D.2.2 ≤ q)) h n 0 0 310 [(0, vR 142), (1, vI k), (2, vI (aa k.toNatClampNeg)), (3, vI (oo k.toNatClampNeg))] [] [(142, mo_c (th, n0, b) (r, k + 1, k, dn, vi, de, ct, 0, ou, ed) (q0, ln, ld, lc, fd, rs, cv)), (147, tr_g (r, k + 1, k, dn, vi, de, ct, 0, ou, ed))] := by
      iterate 10 refine za_step X rfl rfl rfl ?_
      refine za_iald X rfl hP4 rfl hin ?_
      refine za_iald X rfl rfl rfl (rg_in hb) ?_
      iterate 2 refine za_step X rfl rfl rfl ?_
      refine za_icge X 348 rfl (by decide) (fun q1 => absurd h7 (Int32.not_lt.mpr q1)) (fun q1 => ?_)
      iterate 5 refine za_step X rfl rfl rfl ?_
      refine za_iald X rfl hP5 rfl hin ?_
      refine za_iald X rfl rfl rfl (rg_in hx) ?_
      iterate 2 refine za_step X rfl rfl rfl ?_
      refine za_callV (b := 142) (d := 0) (mc := 0) (ms := 0) (as := [vI (oo k.toNatClampNeg), vI (r (bb k.toNatClampNeg).toNatClampNeg), vI (r (cc0 k.toNatClampNeg).toNatClampNeg), vI k]) (rest := [vI (aa k.toNatClampNeg), vR 147]) X rfl cl_M_M_worked cy_M_worked cv_M_worked (c_M_worked l D (za_ov h [(142, mo_c (th, n0, b) (r, k + 1, k, dn, vi, de, ct, 0, ou, ed) (q0, ln, ld, lc, fd, rs, cv)), (147, tr_g (r, k + 1, k, dn, vi, de, ct, 0, ou, ed))]) n (th, n0, b) (r, k + 1, k, dn, vi, de, ct, 0, ou, ed) (q0, ln, ld, lc, fd, rs, cv) rfl cc0 hP5 (oo k.toNatClampNeg) (r (bb k.toNatClampNeg).toNatClampNeg) (r (cc0 k.toNatClampNeg).toNatClampNeg) k hin hop7) rfl rfl rfl rfl (Nat.le_of_ble_eq_true rfl) (Nat.le_of_ble_eq_true rfl) (Nat.le_of_ble_eq_true rfl) (Nat.le_of_ble_eq_true rfl) (Nat.le_of_ble_eq_true rfl) (fun v h' n' hq => ?_)
      obtain ⟨rfl, rfl, rfl⟩ := hq
      rw [e2]
      refine za_look (h1 := h) (v1 := [(142, mo_c (th, n0, b) (r, k + 1, k, dn, vi, de, ct, 0, ou, ed) (q0, ln, ld, lc, fd, rs, cv)), (147, tr_g (r, k + 1, k, dn, vi, de, ct, 0, ou, ed))]) rfl ?_
      refine za_iast X rfl rfl rfl (rg_in ha) ?_
      iterate 3 refine za_step X rfl rfl rfl ?_
      exact za_iret X rfl ⟨by rw [e1]; rfl, by rw [e1]; exact mo_ov h (th, n0, b) (tr_reg (r, k + 1, k, dn, vi, de, ct, 0, ou, ed) (aa k.toNatClampNeg).toNatClampNeg (tr_com (oo k.toNatClampNeg) (r (bb k.toNatClampNeg).toNatClampNeg) (r (cc0 k.toNatClampNeg).toNatClampNeg))) (q0, ln, ld, lc, fd, rs, cv), rfl⟩ (Nat.le_refl _) (Nat.le_refl _)
    rcases hop with z | z | z | z | z | z
    · refine za_tsw X 1 310 rfl (by rw [z]; decide) (by decide) (by decide) rfl (by decide) (za_loc [(0, vR 142), (1, vI k), (2, vI (aa k.toNatClampNeg)), (3, vI (oo k.toNatClampNeg))] rfl at310)
    · refine za_tsw X 2 310 rfl (by rw [z]; decide) (by decide) (by decide) rfl (by decide) (za_loc [(0, vR 142), (1, vI k), (2, vI (aa k.toNatClampNeg)), (3, vI (oo k.toNatClampNeg))] rfl at310)
    · refine za_tsw X 3 310 rfl (by rw [z]; decide) (by decide) (by decide) rfl (by decide) (za_loc [(0, vR 142), (1, vI k), (2, vI (aa k.toNatClampNeg)), (3, vI (oo k.toNatClampNeg))] rfl at310)
    · refine za_tsw X 4 310 rfl (by rw [z]; decide) (by decide) (by decide) rfl (by decide) (za_loc [(0, vR 142), (1, vI k), (2, vI (aa k.toNatClampNeg)), (3, vI (oo k.toNatClampNeg))] rfl at310)
    · refine za_tsw X 5 310 rfl (by rw [z]; decide) (by decide) (by decide) rfl (by decide) (za_loc [(0, vR 142), (1, vI k), (2, vI (aa k.toNatClampNeg)), (3, vI (oo k.toNatClampNeg))] rfl at310)
    · refine za_tsw X 6 310 rfl (by rw [z]; decide) (by decide) (by decide) rfl (by decide) (za_loc [(0, vR 142), (1, vI k), (2, vI (aa k.toNatClampNeg)), (3, vI (oo k.toNatClampNeg))] rfl at310)
