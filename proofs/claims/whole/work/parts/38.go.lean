theorem ins_la (G : tr_T) (op a1 b1 c1 : Int32) : tr_la (tr_ins G op a1 b1 c1) = tr_la G := by
  obtain ⟨r, pl, la, dn, vi, de, ct, en, ou, ed⟩ := G
  unfold tr_ins tr_goif tr_div tr_clm
  repeat' split
  all_goals rfl
theorem lop_0 (P : pr_T) (k : Nat) (T : tr_T) (h : ¬ (tr_en T = 0 ∧ pr_has P (tr_pl T) = true)) : tr_lop P k T = T := by
  cases k with
  | zero => rfl
  | succ k => exact if_neg h
theorem has_nI {oo aa bb cc0 : Nat → Int32} {k j : Nat} (hk : k ≤ 24) (hj : j ≤ 24) : pr_has (oo, aa, bb, cc0, k) (nI j) = true ↔ j < k := by
  simp only [pr_has, Bool.and_eq_true, decide_eq_true_eq]
  constructor
  · intro z; exact (nI_ltI (by omega) (by omega)).mp z.2
  · intro z
    exact ⟨Int32.not_lt.mp (fun w => absurd ((nI_ltI (a := j) (b := 0) (by omega) (by omega)).mp w) (by omega)), (nI_ltI (by omega) (by omega)).mpr z⟩
set_option maxHeartbeats 4000000 in
set_option maxRecDepth 100000 in
theorem c_M_go (l : Launch) (D : za_D) (h : za_H) (n : Nat) (A : ma_T) (G : tr_T) (Z : mz_T) (hM : mo_at h A G Z) (P : pr_T) (hn : P.2.2.2.2 = A.2.1) (hP : mp_at h P) (hok : pr_ok P) (x y : Int32) : za_M l D Y_M_go 2 0 0 [vR 142, vI x, vI y] h n (fun v h' n' => v = none ∧ h' = mo_put h A (tr_run0 P x y) Z ∧ n = n') := by
  obtain ⟨th, n0, b⟩ := A
  obtain ⟨q0, ln, ld, lc, fd, rs, cv⟩ := Z
  obtain ⟨oo, aa, bb, cc0, k⟩ := P
  have hn' : k = n0 := hn
  subst hn'
  have hk24 : k ≤ 24 := hok.1
  refine za_enter cd_M_go fl_M (by decide) cdok_M_go flok_M (Nat.le_of_ble_eq_true rfl) ?_
  intro p e s m args below meth c X hnm
  have at108 : ∀ (j : Nat) (r : Nat → Int32) (la dn vi : Int32) (de : Int64) (ct ou ed : Int32), j ≤ 24 → tr_end (oo, aa, bb, cc0, k) (r, nI j, la, dn, vi, de, ct, 0, ou, ed) = tr_run0 (oo, aa, bb, cc0, k) x y → za_W p l e (za_rm 2 0 0) s m args below meth c D 5 (MQ below (za_Q D (fun v h' n' => v = none ∧ h' = mo_put h (th, k, b) (tr_run0 (oo, aa, bb, cc0, k) x y) (q0, ln, ld, lc, fd, rs, cv) ∧ n = n')) args s 0 0 (fun q : Nat => D.2.2 ≤ q)) h n 0 0 108 [(0, vR 142), (1, vI x), (2, vI y), (3, vI (nI j)), (4, vI la)] [] [(142, mo_c (th, k, b) (r, nI j, la, dn, vi, de, ct, 0, ou, ed) (q0, ln, ld, lc, fd, rs, cv)), (147, tr_g (r, nI j, la, dn, vi, de, ct, 0, ou, ed))] := by
    intro j r la dn vi de ct ou ed hj hR
    iterate 1 refine za_step X rfl rfl rfl ?_
    refine za_iflt X 148 rfl (by decide) (fun q1 => absurd ((nI_ltI (a := j) (b := 0) (by omega) (by omega)).mp q1) (by omega)) (fun q1 => ?_)
    iterate 4 refine za_step X rfl rfl rfl ?_
    refine za_icge X 125 rfl (by decide) (fun q2 => ?_) (fun q2 => ?_)
    · have hjk : k ≤ j := (nI_leI (by omega) (by omega)).mp q2
      have e1 : tr_end (oo, aa, bb, cc0, k) (r, nI j, la, dn, vi, de, ct, 0, ou, ed) = tr_fin (r, nI j, la, dn, vi, de, ct, 0, ou, ed) 0 (r 0) := by
        show (if (0 : Int32) = 0 then (if pr_has (oo, aa, bb, cc0, k) (nI j) = true then _ else _) else _) = _
        rw [if_pos rfl, if_neg (fun z => absurd ((has_nI hk24 hj).mp z) (by omega))]
      iterate 4 refine za_step X rfl rfl rfl ?_
      refine za_icge X 139 rfl (by decide) (fun q3 => ?_) (fun q3 => absurd q2 q3)
      iterate 3 refine za_step X rfl rfl rfl ?_
      refine za_iald X rfl rfl rfl (by unfold vp_in; decide) ?_
      refine za_callV (b := 142) (d := 0) (mc := 0) (ms := 0) (as := [vI 0, vI (r 0)]) (rest := []) X rfl cl_M_M_finish cy_M_finish cv_M_finish (c_M_finish l D (za_ov h [(142, mo_c (th, k, b) (r, nI j, la, dn, vi, de, ct, 0, ou, ed) (q0, ln, ld, lc, fd, rs, cv)), (147, tr_g (r, nI j, la, dn, vi, de, ct, 0, ou, ed))]) n (th, k, b) (r, nI j, la, dn, vi, de, ct, 0, ou, ed) (q0, ln, ld, lc, fd, rs, cv) rfl 0 (r 0)) rfl rfl rfl rfl (Nat.le_of_ble_eq_true rfl) (Nat.le_of_ble_eq_true rfl) (Nat.le_of_ble_eq_true rfl) (Nat.le_of_ble_eq_true rfl) (Nat.le_of_ble_eq_true rfl) (fun v h' n' hq => ?_)
      obtain ⟨rfl, rfl, rfl⟩ := hq
      refine za_look (h1 := h) (v1 := [(142, mo_c (th, k, b) (tr_fin (r, nI j, la, dn, vi, de, ct, 0, ou, ed) 0 (r 0)) (q0, ln, ld, lc, fd, rs, cv)), (147, tr_g (r, nI j, la, dn, vi, de, ct, 0, ou, ed))]) (mo_bk h _ _ _) ?_
      exact za_vret X rfl ⟨rfl, by rw [← hR, e1]; exact mo_ov h (th, k, b) (tr_fin (r, nI j, la, dn, vi, de, ct, 0, ou, ed) 0 (r 0)) (q0, ln, ld, lc, fd, rs, cv), rfl⟩ (Nat.le_refl _) (Nat.le_refl _)
    · have hjk : j < k := by
        rcases Nat.lt_or_ge j k with z | z
        · exact z
        · exact absurd ((nI_leI (by omega) (by omega)).mpr z) q2
      have e1 : tr_end (oo, aa, bb, cc0, k) (r, nI j, la, dn, vi, de, ct, 0, ou, ed) = tr_fin (r, nI j, la, dn, vi, de, ct, 0, ou, ed) 3 la := by
        show (if (0 : Int32) = 0 then (if pr_has (oo, aa, bb, cc0, k) (nI j) = true then _ else _) else _) = _
        rw [if_pos rfl, if_pos ((has_nI hk24 hj).mpr hjk)]
        rfl
      iterate 5 refine za_step X rfl rfl rfl ?_
      refine za_icge X 139 rfl (by decide) (fun q3 => absurd q3 q2) (fun q3 => ?_)
      iterate 2 refine za_step X rfl rfl rfl ?_
      refine za_callV (b := 142) (d := 0) (mc := 0) (ms := 0) (as := [vI 3, vI la]) (rest := []) X rfl cl_M_M_finish cy_M_finish cv_M_finish (c_M_finish l D (za_ov h [(142, mo_c (th, k, b) (r, nI j, la, dn, vi, de, ct, 0, ou, ed) (q0, ln, ld, lc, fd, rs, cv)), (147, tr_g (r, nI j, la, dn, vi, de, ct, 0, ou, ed))]) n (th, k, b) (r, nI j, la, dn, vi, de, ct, 0, ou, ed) (q0, ln, ld, lc, fd, rs, cv) rfl 3 la) rfl rfl rfl rfl (Nat.le_of_ble_eq_true rfl) (Nat.le_of_ble_eq_true rfl) (Nat.le_of_ble_eq_true rfl) (Nat.le_of_ble_eq_true rfl) (Nat.le_of_ble_eq_true rfl) (fun v h' n' hq => ?_)
      obtain ⟨rfl, rfl, rfl⟩ := hq
      refine za_look (h1 := h) (v1 := [(142, mo_c (th, k, b) (tr_fin (r, nI j, la, dn, vi, de, ct, 0, ou, ed) 3 la) (q0, ln, ld, lc, fd, rs, cv)), (147, tr_g (r, nI j, la, dn, vi, de, ct, 0, ou, ed))]) (mo_bk h _ _ _) ?_
      exact za_vret X rfl ⟨rfl, by rw [← hR, e1]; exact mo_ov h (th, k, b) (tr_fin (r, nI j, la, dn, vi, de, ct, 0, ou, ed) 3 la) (q0, ln, ld, lc, fd, rs, cv), rfl⟩ (Nat.le_refl _) (Nat.le_refl _)
  have loop : ∀ (f : Nat) (T : tr_T), f ≤ 40 → tr_dn T = nI (40 - f) → (∃ j, j ≤ 24 ∧ tr_pl T = nI j) → tr_end (oo, aa, bb, cc0, k) (tr_lop (oo, aa, bb, cc0, k) f T) = tr_run0 (oo, aa, bb, cc0, k) x y → za_W p l e (za_rm 2 0 0) s m args below meth c D 5 (MQ below (za_Q D (fun v h' n' => v = none ∧ h' = mo_put h (th, k, b) (tr_run0 (oo, aa, bb, cc0, k) x y) (q0, ln, ld, lc, fd, rs, cv) ∧ n = n')) args s 0 0 (fun q : Nat => D.2.2 ≤ q)) h n 0 0 53 [(0, vR 142), (1, vI x), (2, vI y), (3, vI (mp_pc T)), (4, vI (tr_la T))] [] [(142, mo_c (th, k, b) T (q0, ln, ld, lc, fd, rs, cv)), (147, tr_g T)] := by
    intro f
    induction f with
    | zero =>
      intro T hf hdn hpl hR
      obtain ⟨r, pl, la, dn, vi, de, ct, en, ou, ed⟩ := T
      obtain ⟨j, hj, hpj⟩ := hpl
      have hpj' : pl = nI j := hpj
      subst hpj'
      have hdn' : dn = nI 40 := hdn
      by_cases hen : en = 0
      · subst hen
        show za_W p l e (za_rm 2 0 0) s m args below meth c D 5 (MQ below (za_Q D (fun v h' n' => v = none ∧ h' = mo_put h (th, k, b) (tr_run0 (oo, aa, bb, cc0, k) x y) (q0, ln, ld, lc, fd, rs, cv) ∧ n = n')) args s 0 0 (fun q : Nat => D.2.2 ≤ q)) h n 0 0 53 [(0, vR 142), (1, vI x), (2, vI y), (3, vI (nI j)), (4, vI la)] [] [(142, mo_c (th, k, b) (r, nI j, la, dn, vi, de, ct, 0, ou, ed) (q0, ln, ld, lc, fd, rs, cv)), (147, tr_g (r, nI j, la, dn, vi, de, ct, 0, ou, ed))]
        iterate 1 refine za_step X rfl rfl rfl ?_
        refine za_iflt X 108 rfl (by decide) (fun q1 => absurd ((nI_ltI (a := j) (b := 0) (by omega) (by omega)).mp q1) (by omega)) (fun q1 => ?_)
        iterate 3 refine za_step X rfl rfl rfl ?_
        refine za_icge X 108 rfl (by decide) (fun q2 => at108 j r la dn vi de ct ou ed hj hR) (fun q2 => ?_)
        iterate 3 refine za_step X rfl rfl rfl ?_
        refine za_icge X 108 rfl (by decide) (fun q3 => at108 j r la dn vi de ct ou ed hj hR) (fun q3 => absurd (show (Int8.ofInt 40).toInt32 ≤ dn by rw [hdn']; decide) q3)
      · have e0 : mp_pc (r, nI j, la, dn, vi, de, ct, en, ou, ed) = -1 := if_neg hen
        rw [e0]
        iterate 1 refine za_step X rfl rfl rfl ?_
        refine za_iflt X 108 rfl (by decide) (fun q1 => ?_) (fun q1 => absurd (by decide) q1)
        iterate 1 refine za_step X rfl rfl rfl ?_
        refine za_iflt X 148 rfl (by decide) (fun q2 => ?_) (fun q2 => absurd (by decide) q2)
        exact za_vret X rfl ⟨rfl, by rw [← hR, show tr_end (oo, aa, bb, cc0, k) (tr_lop (oo, aa, bb, cc0, k) 0 (r, nI j, la, dn, vi, de, ct, en, ou, ed)) = (r, nI j, la, dn, vi, de, ct, en, ou, ed) from if_neg hen]; exact mo_ov h (th, k, b) _ (q0, ln, ld, lc, fd, rs, cv), rfl⟩ (Nat.le_refl _) (Nat.le_refl _)
    | succ f ih =>
      intro T hf hdn hpl hR
      obtain ⟨r, pl, la, dn, vi, de, ct, en, ou, ed⟩ := T
      obtain ⟨j, hj, hpj⟩ := hpl
      have hpj' : pl = nI j := hpj
      subst hpj'
      have hdn' : dn = nI (40 - (f + 1)) := hdn
      by_cases hen : en = 0
      · subst hen
        show za_W p l e (za_rm 2 0 0) s m args below meth c D 5 (MQ below (za_Q D (fun v h' n' => v = none ∧ h' = mo_put h (th, k, b) (tr_run0 (oo, aa, bb, cc0, k) x y) (q0, ln, ld, lc, fd, rs, cv) ∧ n = n')) args s 0 0 (fun q : Nat => D.2.2 ≤ q)) h n 0 0 53 [(0, vR 142), (1, vI x), (2, vI y), (3, vI (nI j)), (4, vI la)] [] [(142, mo_c (th, k, b) (r, nI j, la, dn, vi, de, ct, 0, ou, ed) (q0, ln, ld, lc, fd, rs, cv)), (147, tr_g (r, nI j, la, dn, vi, de, ct, 0, ou, ed))]
        iterate 1 refine za_step X rfl rfl rfl ?_
        refine za_iflt X 108 rfl (by decide) (fun q1 => absurd ((nI_ltI (a := j) (b := 0) (by omega) (by omega)).mp q1) (by omega)) (fun q1 => ?_)
        iterate 3 refine za_step X rfl rfl rfl ?_
        refine za_icge X 108 rfl (by decide) (fun q2 => ?_) (fun q2 => ?_)
        · have hjk : k ≤ j := (nI_leI (by omega) (by omega)).mp q2
          refine at108 j r la dn vi de ct ou ed hj ?_
          rw [← hR, lop_0 (oo, aa, bb, cc0, k) (f + 1) (r, nI j, la, dn, vi, de, ct, 0, ou, ed) (fun z => absurd ((has_nI hk24 hj).mp z.2) (by omega))]
        · have hjk : j < k := by
            rcases Nat.lt_or_ge j k with z | z
            · exact z
            · exact absurd ((nI_leI (by omega) (by omega)).mpr z) q2
          iterate 3 refine za_step X rfl rfl rfl ?_
          refine za_icge X 108 rfl (by decide) (fun q3 => ?_) (fun q3 => ?_)
          · rw [hdn', show (Int8.ofInt 40).toInt32 = nI 40 by decide] at q3
            exact absurd ((nI_leI (by omega) (by omega)).mp q3) (by omega)
          · iterate 18 refine za_step X rfl rfl rfl ?_
            have hci : (nI j).toNatClampNeg = j := nI_clamp (by omega)
            have hin : vp_in (nI j) 24 := vp_in_nI (by omega) (by decide)
            refine za_callV (b := 142) (d := 1) (mc := 0) (ms := 0) (as := [vI (nI j)]) (rest := []) X rfl cl_M_M_perform cy_M_perform cv_M_perform (c_M_perform l D (za_ov h [(142, mo_c (th, k, b) (tr_pre (r, nI j, la, dn, vi, de, ct, 0, ou, ed)) (q0, ln, ld, lc, fd, rs, cv)), (147, tr_g (tr_pre (r, nI j, la, dn, vi, de, ct, 0, ou, ed)))]) n (th, k, b) (q0, ln, ld, lc, fd, rs, cv) r (nI j) (dn + 1) (vi ||| ((1 : Int32) <<< (nI j &&& 31))) de ct ou ed ⟨rfl, rfl⟩ (oo, aa, bb, cc0, k) hP hok hin (by rw [hci]; exact hjk)) rfl rfl rfl rfl (Nat.le_of_ble_eq_true rfl) (Nat.le_of_ble_eq_true rfl) (Nat.le_of_ble_eq_true rfl) (Nat.le_of_ble_eq_true rfl) (Nat.le_of_ble_eq_true rfl) (fun v h' n' hq => ?_)
            obtain ⟨rfl, rfl, rfl⟩ := hq
            have hst : tr_ins (r, nI j + 1, nI j, dn + 1, vi ||| ((1 : Int32) <<< (nI j &&& 31)), de, ct, 0, ou, ed) (oo (nI j).toNatClampNeg) (aa (nI j).toNatClampNeg) (bb (nI j).toNatClampNeg) (cc0 (nI j).toNatClampNeg) = tr_stp (oo, aa, bb, cc0, k) (r, nI j, la, dn, vi, de, ct, 0, ou, ed) := rfl
            have hla : tr_la (tr_stp (oo, aa, bb, cc0, k) (r, nI j, la, dn, vi, de, ct, 0, ou, ed)) = nI j := by rw [← hst, ins_la]; rfl
            have hal := hok.2 j hjk
            refine za_look (h1 := h) (v1 := [(142, mo_c (th, k, b) (tr_stp (oo, aa, bb, cc0, k) (r, nI j, la, dn, vi, de, ct, 0, ou, ed)) (q0, ln, ld, lc, fd, rs, cv)), (147, tr_g (tr_stp (oo, aa, bb, cc0, k) (r, nI j, la, dn, vi, de, ct, 0, ou, ed)))]) (mo_bp h _ _ (th, k, b) (tr_stp (oo, aa, bb, cc0, k) (r, nI j, la, dn, vi, de, ct, 0, ou, ed)) (q0, ln, ld, lc, fd, rs, cv)) ?_
            iterate 2 refine za_step X rfl rfl rfl ?_
            refine za_loc [(0, vR 142), (1, vI x), (2, vI y), (3, vI (mp_pc (tr_stp (oo, aa, bb, cc0, k) (r, nI j, la, dn, vi, de, ct, 0, ou, ed)))), (4, vI (nI j))] rfl ?_
            have key := ih (tr_stp (oo, aa, bb, cc0, k) (r, nI j, la, dn, vi, de, ct, 0, ou, ed)) (by omega) (by
              rw [← hst, ins_dn]
              show dn + 1 = nI (40 - f)
              rw [hdn', nI_1, show 40 - (f + 1) + 1 = 40 - f by omega]) (by
              rw [← hst]
              refine ins_pl (by rw [hci]; exact hal) ⟨j + 1, by omega, ?_⟩
              exact nI_1 j) (by
              rw [← hR]
              show _ = tr_end (oo, aa, bb, cc0, k) (if (0 : Int32) = 0 ∧ pr_has (oo, aa, bb, cc0, k) (nI j) = true then tr_lop (oo, aa, bb, cc0, k) f (tr_stp (oo, aa, bb, cc0, k) (r, nI j, la, dn, vi, de, ct, 0, ou, ed)) else _)
              rw [if_pos ⟨rfl, (has_nI hk24 hj).mpr hjk⟩])
            rw [hla] at key
            exact key
      · have e0 : mp_pc (r, nI j, la, dn, vi, de, ct, en, ou, ed) = -1 := if_neg hen
        rw [e0]
        iterate 1 refine za_step X rfl rfl rfl ?_
        refine za_iflt X 108 rfl (by decide) (fun q1 => ?_) (fun q1 => absurd (by decide) q1)
        iterate 1 refine za_step X rfl rfl rfl ?_
        refine za_iflt X 148 rfl (by decide) (fun q2 => ?_) (fun q2 => absurd (by decide) q2)
        exact za_vret X rfl ⟨rfl, by rw [← hR, lop_0 (oo, aa, bb, cc0, k) (f + 1) (r, nI j, la, dn, vi, de, ct, en, ou, ed) (fun z => hen z.1), show tr_end (oo, aa, bb, cc0, k) (r, nI j, la, dn, vi, de, ct, en, ou, ed) = (r, nI j, la, dn, vi, de, ct, en, ou, ed) from if_neg hen]; exact mo_ov h (th, k, b) _ (q0, ln, ld, lc, fd, rs, cv), rfl⟩ (Nat.le_refl _) (Nat.le_refl _)
  obtain ⟨r, pl, la, dn, vi, de, ct, en, ou, ed⟩ := G
  refine za_view [(142, mo_c (th, k, b) (r, pl, la, dn, vi, de, ct, en, ou, ed) (q0, ln, ld, lc, fd, rs, cv)), (147, tr_g (r, pl, la, dn, vi, de, ct, en, ou, ed))] (by simp [hM.1, hM.2]) ?_
  iterate 4 refine za_step X rfl rfl rfl ?_
  refine za_iast X rfl rfl rfl (by unfold vp_in; decide) ?_
  iterate 4 refine za_step X rfl rfl rfl ?_
  refine za_iast X rfl rfl rfl (by unfold vp_in; decide) ?_
  iterate 4 refine za_step X rfl rfl rfl ?_
  refine za_iast X rfl rfl rfl (by unfold vp_in; decide) ?_
  iterate 4 refine za_step X rfl rfl rfl ?_
  refine za_iast X rfl rfl rfl (by unfold vp_in; decide) ?_
  refine za_ext (i := 147) (t0 := 0) (N := 4) (tr_cr x y) rfl (tr_cr_eq r x y) ?_
  iterate 16 refine za_step X rfl rfl rfl ?_
  refine za_loc [(0, vR 142), (1, vI x), (2, vI y), (3, vI 0), (4, vI 0)] rfl ?_
  exact loop 40 (tr_beg (r, pl, la, dn, vi, de, ct, en, ou, ed) x y) (Nat.le_refl _) rfl ⟨0, by omega, rfl⟩ (tr_run_eq (oo, aa, bb, cc0, k) (r, pl, la, dn, vi, de, ct, en, ou, ed) x y)
