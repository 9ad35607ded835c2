set_option maxHeartbeats 4000000 in
set_option maxRecDepth 100000 in
theorem c_T_finishUnasked (l : Launch) (D : za_D) (h : za_H) (n : Nat) (t : Nat) (ht : t = 6 ∨ t = 8) (T : tr_T) (hT : tr_at h t T) (P : pr_T) (hP : pr_at h P) : za_M l D Y_T_finishUnasked 1 0 0 [vR t, vR 1] h n (fun v h' n' => v = none ∧ h' = tr_put h t (if pr_has P (tr_pl T) = true then tr_fin T 3 (tr_la T) else tr_fin T 0 (T.1 0)) ∧ n = n') := by
  obtain ⟨oo, aa, bb, cc0, k⟩ := P
  obtain ⟨hP1, hP2, hP3, hP4, hP5⟩ := hP
  obtain ⟨r, pl, la, dn, vi, de, ct, en, ou, ed⟩ := T
  obtain ⟨hT1, hT2⟩ := hT
  rcases ht with rfl | rfl
  · refine za_enter cd_T_finishUnasked fl_T (by decide) cdok_T_finishUnasked flok_T (Nat.le_of_ble_eq_true rfl) ?_
    intro p e s m args below meth c X hnm
    refine za_view [(6, tr_c 6 (r, pl, la, dn, vi, de, ct, en, ou, ed)), (7, tr_g (r, pl, la, dn, vi, de, ct, en, ou, ed))] (by simp [hT1, hT2]) ?_
    iterate 3 refine za_step X rfl rfl rfl ?_
    refine za_callV (b := 1) (d := 0) (mc := 0) (ms := 0) (as := [_]) (rest := []) X rfl cl_T_P_has cy_P_has cv_P_has (c_P_has l D (za_ov h [(6, tr_c 6 (r, pl, la, dn, vi, de, ct, en, ou, ed)), (7, tr_g (r, pl, la, dn, vi, de, ct, en, ou, ed))]) n (oo, aa, bb, cc0, k) ⟨hP1, hP2, hP3, hP4, hP5⟩ pl) rfl rfl hP1 rfl (Nat.le_of_ble_eq_true rfl) (Nat.le_of_ble_eq_true rfl) (Nat.le_of_ble_eq_true rfl) (Nat.le_of_ble_eq_true rfl) (Nat.le_of_ble_eq_true rfl) (fun v h' n' hq => ?_)
    obtain ⟨rfl, rfl, rfl⟩ := hq
    refine za_look (h1 := h) (v1 := [(6, tr_c 6 (r, pl, la, dn, vi, de, ct, en, ou, ed)), (7, tr_g (r, pl, la, dn, vi, de, ct, en, ou, ed))]) rfl ?_
    refine za_ifeq X 23 rfl (by decide) (fun q1 => ?_) (fun q1 => ?_)
    · have e1 : (if pr_has (oo, aa, bb, cc0, k) pl = true then tr_fin (r, pl, la, dn, vi, de, ct, en, ou, ed) 3 la else tr_fin (r, pl, la, dn, vi, de, ct, en, ou, ed) 0 (r 0)) = tr_fin (r, pl, la, dn, vi, de, ct, en, ou, ed) 0 (r 0) := if_neg (by rw [bI_0 q1]; decide)
      iterate 5 refine za_step X rfl rfl rfl ?_
      refine za_iald X rfl rfl rfl (by unfold vp_in; decide) ?_
      refine za_callV X rfl cl_T_T_finish cy_T_finish cv_T_finish (c_T_finish l D _ n 6 (Or.inl rfl) (r, pl, la, dn, vi, de, ct, en, ou, ed) ⟨rfl, rfl⟩ 0 (r 0)) rfl rfl rfl rfl (Nat.le_of_ble_eq_true rfl) (Nat.le_of_ble_eq_true rfl) (Nat.le_of_ble_eq_true rfl) (Nat.le_of_ble_eq_true rfl) (Nat.le_of_ble_eq_true rfl) (fun v h' n' hq => ?_)
      obtain ⟨rfl, rfl, rfl⟩ := hq
      refine za_look (h1 := h) (v1 := [(6, tr_c 6 (tr_fin (r, pl, la, dn, vi, de, ct, en, ou, ed) 0 (r 0))), (7, tr_g (tr_fin (r, pl, la, dn, vi, de, ct, en, ou, ed) 0 (r 0)))]) (tr_back h 6 ((r, pl, la, dn, vi, de, ct, en, ou, ed)) (tr_fin (r, pl, la, dn, vi, de, ct, en, ou, ed) 0 (r 0))) ?_
      exact za_vret X rfl ⟨rfl, (tr_ov h 6 (tr_fin (r, pl, la, dn, vi, de, ct, en, ou, ed) 0 (r 0))).trans (congrArg (tr_put h 6) e1.symm), rfl⟩ (Nat.le_refl _) (Nat.le_refl _)
    · have e1 : (if pr_has (oo, aa, bb, cc0, k) pl = true then tr_fin (r, pl, la, dn, vi, de, ct, en, ou, ed) 3 la else tr_fin (r, pl, la, dn, vi, de, ct, en, ou, ed) 0 (r 0)) = tr_fin (r, pl, la, dn, vi, de, ct, en, ou, ed) 3 la := if_pos (bI_n0 q1)
      iterate 4 refine za_step X rfl rfl rfl ?_
      refine za_callV X rfl cl_T_T_finish cy_T_finish cv_T_finish (c_T_finish l D _ n 6 (Or.inl rfl) (r, pl, la, dn, vi, de, ct, en, ou, ed) ⟨rfl, rfl⟩ 3 la) rfl rfl rfl rfl (Nat.le_of_ble_eq_true rfl) (Nat.le_of_ble_eq_true rfl) (Nat.le_of_ble_eq_true rfl) (Nat.le_of_ble_eq_true rfl) (Nat.le_of_ble_eq_true rfl) (fun v h' n' hq => ?_)
      obtain ⟨rfl, rfl, rfl⟩ := hq
      refine za_look (h1 := h) (v1 := [(6, tr_c 6 (tr_fin (r, pl, la, dn, vi, de, ct, en, ou, ed) 3 la)), (7, tr_g (tr_fin (r, pl, la, dn, vi, de, ct, en, ou, ed) 3 la))]) (tr_back h 6 ((r, pl, la, dn, vi, de, ct, en, ou, ed)) (tr_fin (r, pl, la, dn, vi, de, ct, en, ou, ed) 3 la)) ?_
      iterate 1 refine za_step X rfl rfl rfl ?_
      exact za_vret X rfl ⟨rfl, (tr_ov h 6 (tr_fin (r, pl, la, dn, vi, de, ct, en, ou, ed) 3 la)).trans (congrArg (tr_put h 6) e1.symm), rfl⟩ (Nat.le_refl _) (Nat.le_refl _)
  · refine za_enter cd_T_finishUnasked fl_T (by decide) cdok_T_finishUnasked flok_T (Nat.le_of_ble_eq_true rfl) ?_
    intro p e s m args below meth c X hnm
    refine za_view [(8, tr_c 8 (r, pl, la, dn, vi, de, ct, en, ou, ed)), (9, tr_g (r, pl, la, dn, vi, de, ct, en, ou, ed))] (by simp [hT1, hT2]) ?_
    iterate 3 refine za_step X rfl rfl rfl ?_
    refine za_callV (b := 1) (d := 0) (mc := 0) (ms := 0) (as := [_]) (rest := []) X rfl cl_T_P_has cy_P_has cv_P_has (c_P_has l D (za_ov h [(8, tr_c 8 (r, pl, la, dn, vi, de, ct, en, ou, ed)), (9, tr_g (r, pl, la, dn, vi, de, ct, en, ou, ed))]) n (oo, aa, bb, cc0, k) ⟨hP1, hP2, hP3, hP4, hP5⟩ pl) rfl rfl hP1 rfl (Nat.le_of_ble_eq_true rfl) (Nat.le_of_ble_eq_true rfl) (Nat.le_of_ble_eq_true rfl) (Nat.le_of_ble_eq_true rfl) (Nat.le_of_ble_eq_true rfl) (fun v h' n' hq => ?_)
    obtain ⟨rfl, rfl, rfl⟩ := hq
    refine za_look (h1 := h) (v1 := [(8, tr_c 8 (r, pl, la, dn, vi, de, ct, en, ou, ed)), (9, tr_g (r, pl, la, dn, vi, de, ct, en, ou, ed))]) rfl ?_
    refine za_ifeq X 23 rfl (by decide) (fun q1 => ?_) (fun q1 => ?_)
    · have e1 : (if pr_has (oo, aa, bb, cc0, k) pl = true then tr_fin (r, pl, la, dn, vi, de, ct, en, ou, ed) 3 la else tr_fin (r, pl, la, dn, vi, de, ct, en, ou, ed) 0 (r 0)) = tr_fin (r, pl, la, dn, vi, de, ct, en, ou, ed) 0 (r 0) := if_neg (by rw [bI_0 q1]; decide)
      iterate 5 refine za_step X rfl rfl rfl ?_
      refine za_iald X rfl rfl rfl (by unfold vp_in; decide) ?_
      refine za_callV X rfl cl_T_T_finish cy_T_finish cv_T_finish (c_T_finish l D _ n 8 (Or.inr rfl) (r, pl, la, dn, vi, de, ct, en, ou, ed) ⟨rfl, rfl⟩ 0 (r 0)) rfl rfl rfl rfl (Nat.le_of_ble_eq_true rfl) (Nat.le_of_ble_eq_true rfl) (Nat.le_of_ble_eq_true rfl) (Nat.le_of_ble_eq_true rfl) (Nat.le_of_ble_eq_true rfl) (fun v h' n' hq => ?_)
      obtain ⟨rfl, rfl, rfl⟩ := hq
      refine za_look (h1 := h) (v1 := [(8, tr_c 8 (tr_fin (r, pl, la, dn, vi, de, ct, en, ou, ed) 0 (r 0))), (9, tr_g (tr_fin (r, pl, la, dn, vi, de, ct, en, ou, ed) 0 (r 0)))]) (tr_back h 8 ((r, pl, la, dn, vi, de, ct, en, ou, ed)) (tr_fin (r, pl, la, dn, vi, de, ct, en, ou, ed) 0 (r 0))) ?_
      exact za_vret X rfl ⟨rfl, (tr_ov h 8 (tr_fin (r, pl, la, dn, vi, de, ct, en, ou, ed) 0 (r 0))).trans (congrArg (tr_put h 8) e1.symm), rfl⟩ (Nat.le_refl _) (Nat.le_refl _)
    · have e1 : (if pr_has (oo, aa, bb, cc0, k) pl = true then tr_fin (r, pl, la, dn, vi, de, ct, en, ou, ed) 3 la else tr_fin (r, pl, la, dn, vi, de, ct, en, ou, ed) 0 (r 0)) = tr_fin (r, pl, la, dn, vi, de, ct, en, ou, ed) 3 la := if_pos (bI_n0 q1)
      iterate 4 refine za_step X rfl rfl rfl ?_
      refine za_callV X rfl cl_T_T_finish cy_T_finish cv_T_finish (c_T_finish l D _ n 8 (Or.inr rfl) (r, pl, la, dn, vi, de, ct, en, ou, ed) ⟨rfl, rfl⟩ 3 la) rfl rfl rfl rfl (Nat.le_of_ble_eq_true rfl) (Nat.le_of_ble_eq_true rfl) (Nat.le_of_ble_eq_true rfl) (Nat.le_of_ble_eq_true rfl) (Nat.le_of_ble_eq_true rfl) (fun v h' n' hq => ?_)
      obtain ⟨rfl, rfl, rfl⟩ := hq
      refine za_look (h1 := h) (v1 := [(8, tr_c 8 (tr_fin (r, pl, la, dn, vi, de, ct, en, ou, ed) 3 la)), (9, tr_g (tr_fin (r, pl, la, dn, vi, de, ct, en, ou, ed) 3 la))]) (tr_back h 8 ((r, pl, la, dn, vi, de, ct, en, ou, ed)) (tr_fin (r, pl, la, dn, vi, de, ct, en, ou, ed) 3 la)) ?_
      iterate 1 refine za_step X rfl rfl rfl ?_
      exact za_vret X rfl ⟨rfl, (tr_ov h 8 (tr_fin (r, pl, la, dn, vi, de, ct, en, ou, ed) 3 la)).trans (congrArg (tr_put h 8) e1.symm), rfl⟩ (Nat.le_refl _) (Nat.le_refl _)
set_option maxHeartbeats 4000000 in
set_option maxRecDepth 100000 in
theorem c_T_follow (l : Launch) (D : za_D) (h : za_H) (n : Nat) (t : Nat) (ht : t = 6 ∨ t = 8) (T : tr_T) (hT : tr_at h t T) (P : pr_T) (hP : pr_at h P) (hok : pr_ok P) (x y : Int32) : za_M l D Y_T_follow 4 0 0 [vR t, vR 1, vI x, vI y] h n (fun v h' n' => v = none ∧ h' = tr_put h t (tr_run P T x y) ∧ n = n') := by
  obtain ⟨oo, aa, bb, cc0, k⟩ := P
  obtain ⟨hP1, hP2, hP3, hP4, hP5⟩ := hP
  obtain ⟨r, pl, la, dn, vi, de, ct, en, ou, ed⟩ := T
  obtain ⟨hT1, hT2⟩ := hT
  rcases ht with rfl | rfl
  · refine za_enter cd_T_follow fl_T (by decide) cdok_T_follow flok_T (Nat.le_of_ble_eq_true rfl) ?_
    intro p e s m args below meth c X hnm
    refine za_view [(6, tr_c 6 (r, pl, la, dn, vi, de, ct, en, ou, ed)), (7, tr_g (r, pl, la, dn, vi, de, ct, en, ou, ed))] (by simp [hT1, hT2]) ?_
    have k40 : (Int8.ofInt 40).toInt32 = nI 40 := by decide
    have exit45 : ∀ T1 : tr_T, tr_end (oo, aa, bb, cc0, k) T1 = tr_run (oo, aa, bb, cc0, k) (r, pl, la, dn, vi, de, ct, en, ou, ed) x y → za_W p l e (za_rm 4 0 0) s m args below meth c D 5 (MQ below (za_Q D (fun v h' n' => v = none ∧ h' = tr_put h 6 (tr_run (oo, aa, bb, cc0, k) (r, pl, la, dn, vi, de, ct, en, ou, ed) x y) ∧ n = n')) args s 0 0 (fun q : Nat => D.2.2 ≤ q)) h n 0 0 45 [(0, vR 6), (1, vR 1), (2, vI x), (3, vI y)] [] [(6, tr_c 6 T1), (7, tr_g T1)] := by
      intro T1 hfin
      obtain ⟨r1, pl1, la1, dn1, vi1, de1, ct1, en1, ou1, ed1⟩ := T1
      iterate 2 refine za_step X rfl rfl rfl ?_
      refine za_ifne X 57 rfl (by decide) (fun q1 => ?_) (fun q1 => ?_)
      · rw [← hfin, show tr_end (oo, aa, bb, cc0, k) (r1, pl1, la1, dn1, vi1, de1, ct1, en1, ou1, ed1) = (r1, pl1, la1, dn1, vi1, de1, ct1, en1, ou1, ed1) from if_neg q1]
        exact za_vret X rfl ⟨rfl, tr_ov h 6 (r1, pl1, la1, dn1, vi1, de1, ct1, en1, ou1, ed1), rfl⟩ (Nat.le_refl _) (Nat.le_refl _)
      · rw [← hfin, show tr_end (oo, aa, bb, cc0, k) (r1, pl1, la1, dn1, vi1, de1, ct1, en1, ou1, ed1) = (if pr_has (oo, aa, bb, cc0, k) pl1 = true then tr_fin (r1, pl1, la1, dn1, vi1, de1, ct1, en1, ou1, ed1) 3 la1 else tr_fin (r1, pl1, la1, dn1, vi1, de1, ct1, en1, ou1, ed1) 0 (r1 0)) from if_pos q1]
        iterate 2 refine za_step X rfl rfl rfl ?_
        refine za_callV X rfl cl_T_T_finishUnasked cy_T_finishUnasked cv_T_finishUnasked (c_T_finishUnasked l D _ n 6 (Or.inl rfl) (r1, pl1, la1, dn1, vi1, de1, ct1, en1, ou1, ed1) ⟨rfl, rfl⟩ (oo, aa, bb, cc0, k) ⟨hP1, hP2, hP3, hP4, hP5⟩) rfl rfl rfl rfl (Nat.le_of_ble_eq_true rfl) (Nat.le_of_ble_eq_true rfl) (Nat.le_of_ble_eq_true rfl) (Nat.le_of_ble_eq_true rfl) (Nat.le_of_ble_eq_true rfl) (fun v h' n' hq => ?_)
        obtain ⟨rfl, rfl, rfl⟩ := hq
        refine za_look (h1 := h) (v1 := [(6, tr_c 6 (if pr_has (oo, aa, bb, cc0, k) pl1 = true then tr_fin (r1, pl1, la1, dn1, vi1, de1, ct1, en1, ou1, ed1) 3 la1 else tr_fin (r1, pl1, la1, dn1, vi1, de1, ct1, en1, ou1, ed1) 0 (r1 0))), (7, tr_g (if pr_has (oo, aa, bb, cc0, k) pl1 = true then tr_fin (r1, pl1, la1, dn1, vi1, de1, ct1, en1, ou1, ed1) 3 la1 else tr_fin (r1, pl1, la1, dn1, vi1, de1, ct1, en1, ou1, ed1) 0 (r1 0)))]) (tr_back h 6 ((r1, pl1, la1, dn1, vi1, de1, ct1, en1, ou1, ed1)) (if pr_has (oo, aa, bb, cc0, k) pl1 = true then tr_fin (r1, pl1, la1, dn1, vi1, de1, ct1, en1, ou1, ed1) 3 la1 else tr_fin (r1, pl1, la1, dn1, vi1, de1, ct1, en1, ou1, ed1) 0 (r1 0))) ?_
        exact za_vret X rfl ⟨rfl, tr_ov h 6 (if pr_has (oo, aa, bb, cc0, k) pl1 = true then tr_fin (r1, pl1, la1, dn1, vi1, de1, ct1, en1, ou1, ed1) 3 la1 else tr_fin (r1, pl1, la1, dn1, vi1, de1, ct1, en1, ou1, ed1) 0 (r1 0)), rfl⟩ (Nat.le_refl _) (Nat.le_refl _)
    have loop : ∀ (f i : Nat) (T1 : tr_T), i + f = 40 → tr_end (oo, aa, bb, cc0, k) (tr_lop (oo, aa, bb, cc0, k) f T1) = tr_run (oo, aa, bb, cc0, k) (r, pl, la, dn, vi, de, ct, en, ou, ed) x y → za_W p l e (za_rm 4 0 0) s m args below meth c D 5 (MQ below (za_Q D (fun v h' n' => v = none ∧ h' = tr_put h 6 (tr_run (oo, aa, bb, cc0, k) (r, pl, la, dn, vi, de, ct, en, ou, ed) x y) ∧ n = n')) args s 0 0 (fun q : Nat => D.2.2 ≤ q)) h n 0 0 9 [(0, vR 6), (1, vR 1), (2, vI x), (3, vI y), (4, vI (nI i))] [] [(6, tr_c 6 T1), (7, tr_g T1)] := by
      intro f
      induction f with
      | zero =>
        intro i T1 hi hfin
        iterate 2 refine za_step X rfl rfl rfl ?_
        refine za_icge X 45 rfl (by decide) (fun q1 => ?_) (fun q1 => ?_)
        · exact za_loc [(0, vR 6), (1, vR 1), (2, vI x), (3, vI y)] rfl (exit45 T1 hfin)
        · exact absurd (by rw [k40]; exact (nI_leI (by omega) (by omega)).mpr (by omega)) q1
      | succ f ih =>
        intro i T1 hi hfin
        obtain ⟨r1, pl1, la1, dn1, vi1, de1, ct1, en1, ou1, ed1⟩ := T1
        iterate 2 refine za_step X rfl rfl rfl ?_
        refine za_icge X 45 rfl (by decide) (fun q1 => ?_) (fun q1 => ?_)
        · rw [k40] at q1
          exact absurd ((nI_leI (by omega) (by omega)).mp q1) (by omega)
        · iterate 2 refine za_step X rfl rfl rfl ?_
          refine za_ifne X 45 rfl (by decide) (fun q2 => ?_) (fun q2 => ?_)
          · refine za_loc [(0, vR 6), (1, vR 1), (2, vI x), (3, vI y)] rfl (exit45 (r1, pl1, la1, dn1, vi1, de1, ct1, en1, ou1, ed1) ?_)
            rw [← hfin, show tr_lop (oo, aa, bb, cc0, k) (f + 1) (r1, pl1, la1, dn1, vi1, de1, ct1, en1, ou1, ed1) = (r1, pl1, la1, dn1, vi1, de1, ct1, en1, ou1, ed1) from if_neg (fun q => q2 q.1)]
          · iterate 3 refine za_step X rfl rfl rfl ?_
            refine za_callV (b := 1) (d := 0) (mc := 0) (ms := 0) (as := [_]) (rest := []) X rfl cl_T_P_has cy_P_has cv_P_has (c_P_has l D (za_ov h [(6, tr_c 6 (r1, pl1, la1, dn1, vi1, de1, ct1, en1, ou1, ed1)), (7, tr_g (r1, pl1, la1, dn1, vi1, de1, ct1, en1, ou1, ed1))]) n (oo, aa, bb, cc0, k) ⟨hP1, hP2, hP3, hP4, hP5⟩ pl1) rfl rfl hP1 rfl (Nat.le_of_ble_eq_true rfl) (Nat.le_of_ble_eq_true rfl) (Nat.le_of_ble_eq_true rfl) (Nat.le_of_ble_eq_true rfl) (Nat.le_of_ble_eq_true rfl) (fun v h' n' hq => ?_)
            obtain ⟨rfl, rfl, rfl⟩ := hq
            refine za_look (h1 := h) (v1 := [(6, tr_c 6 (r1, pl1, la1, dn1, vi1, de1, ct1, en1, ou1, ed1)), (7, tr_g (r1, pl1, la1, dn1, vi1, de1, ct1, en1, ou1, ed1))]) rfl ?_
            refine za_ifeq X 45 rfl (by decide) (fun q3 => ?_) (fun q3 => ?_)
            · refine za_loc [(0, vR 6), (1, vR 1), (2, vI x), (3, vI y)] rfl (exit45 (r1, pl1, la1, dn1, vi1, de1, ct1, en1, ou1, ed1) ?_)
              rw [← hfin, show tr_lop (oo, aa, bb, cc0, k) (f + 1) (r1, pl1, la1, dn1, vi1, de1, ct1, en1, ou1, ed1) = (r1, pl1, la1, dn1, vi1, de1, ct1, en1, ou1, ed1) from if_neg (fun q => absurd (bI_0 q3) (by rw [show pr_has (oo, aa, bb, cc0, k) pl1 = true from q.2]; decide))]
            · have hh : pr_has (oo, aa, bb, cc0, k) pl1 = true := bI_n0 q3
              iterate 2 refine za_step X rfl rfl rfl ?_
              refine za_callV X rfl cl_T_T_step cy_T_step cv_T_step (c_T_step l D _ n 6 (Or.inl rfl) (r1, pl1, la1, dn1, vi1, de1, ct1, en1, ou1, ed1) ⟨rfl, rfl⟩ (oo, aa, bb, cc0, k) ⟨hP1, hP2, hP3, hP4, hP5⟩ hok hh) rfl rfl rfl rfl (Nat.le_of_ble_eq_true rfl) (Nat.le_of_ble_eq_true rfl) (Nat.le_of_ble_eq_true rfl) (Nat.le_of_ble_eq_true rfl) (Nat.le_of_ble_eq_true rfl) (fun v h' n' hq => ?_)
              obtain ⟨rfl, rfl, rfl⟩ := hq
              refine za_look (h1 := h) (v1 := [(6, tr_c 6 (tr_stp (oo, aa, bb, cc0, k) (r1, pl1, la1, dn1, vi1, de1, ct1, en1, ou1, ed1))), (7, tr_g (tr_stp (oo, aa, bb, cc0, k) (r1, pl1, la1, dn1, vi1, de1, ct1, en1, ou1, ed1)))]) (tr_back h 6 ((r1, pl1, la1, dn1, vi1, de1, ct1, en1, ou1, ed1)) (tr_stp (oo, aa, bb, cc0, k) (r1, pl1, la1, dn1, vi1, de1, ct1, en1, ou1, ed1))) ?_
              iterate 2 refine za_step X rfl rfl rfl ?_
              rw [show nI i + Int32.ofInt 1 = nI (i + 1) from nI_1 i]
              refine za_loc [(0, vR 6), (1, vR 1), (2, vI x), (3, vI y), (4, vI (nI (i + 1)))] rfl (ih (i + 1) (tr_stp (oo, aa, bb, cc0, k) (r1, pl1, la1, dn1, vi1, de1, ct1, en1, ou1, ed1)) (by omega) ?_)
              rw [← hfin, show tr_lop (oo, aa, bb, cc0, k) (f + 1) (r1, pl1, la1, dn1, vi1, de1, ct1, en1, ou1, ed1) = tr_lop (oo, aa, bb, cc0, k) f (tr_stp (oo, aa, bb, cc0, k) (r1, pl1, la1, dn1, vi1, de1, ct1, en1, ou1, ed1)) from if_pos ⟨q2, hh⟩]
    iterate 3 refine za_step X rfl rfl rfl ?_
    refine za_callV X rfl cl_T_T_begin cy_T_begin cv_T_begin (c_T_begin l D _ n 6 (Or.inl rfl) (r, pl, la, dn, vi, de, ct, en, ou, ed) ⟨rfl, rfl⟩ x y) rfl rfl rfl rfl (Nat.le_of_ble_eq_true rfl) (Nat.le_of_ble_eq_true rfl) (Nat.le_of_ble_eq_true rfl) (Nat.le_of_ble_eq_true rfl) (Nat.le_of_ble_eq_true rfl) (fun v h' n' hq => ?_)
    obtain ⟨rfl, rfl, rfl⟩ := hq
    refine za_look (h1 := h) (v1 := [(6, tr_c 6 (tr_beg (r, pl, la, dn, vi, de, ct, en, ou, ed) x y)), (7, tr_g (tr_beg (r, pl, la, dn, vi, de, ct, en, ou, ed) x y))]) (tr_back h 6 ((r, pl, la, dn, vi, de, ct, en, ou, ed)) (tr_beg (r, pl, la, dn, vi, de, ct, en, ou, ed) x y)) ?_
    iterate 2 refine za_step X rfl rfl rfl ?_
    exact za_loc [(0, vR 6), (1, vR 1), (2, vI x), (3, vI y), (4, vI (nI 0))] rfl (loop 40 0 (tr_beg (r, pl, la, dn, vi, de, ct, en, ou, ed) x y) rfl rfl)
  · refine za_enter cd_T_follow fl_T (by decide) cdok_T_follow flok_T (Nat.le_of_ble_eq_true rfl) ?_
    intro p e s m args below meth c X hnm
    refine za_view [(8, tr_c 8 (r, pl, la, dn, vi, de, ct, en, ou, ed)), (9, tr_g (r, pl, la, dn, vi, de, ct, en, ou, ed))] (by simp [hT1, hT2]) ?_
    have k40 : (Int8.ofInt 40).toInt32 = nI 40 := by decide
    have exit45 : ∀ T1 : tr_T, tr_end (oo, aa, bb, cc0, k) T1 = tr_run (oo, aa, bb, cc0, k) (r, pl, la, dn, vi, de, ct, en, ou, ed) x y → za_W p l e (za_rm 4 0 0) s m args below meth c D 5 (MQ below (za_Q D (fun v h' n' => v = none ∧ h' = tr_put h 8 (tr_run (oo, aa, bb, cc0, k) (r, pl, la, dn, vi, de, ct, en, ou, ed) x y) ∧ n = n')) args s 0 0 (fun q : Nat => D.2.2 ≤ q)) h n 0 0 45 [(0, vR 8), (1, vR 1), (2, vI x), (3, vI y)] [] [(8, tr_c 8 T1), (9, tr_g T1)] := by
      intro T1 hfin
      obtain ⟨r1, pl1, la1, dn1, vi1, de1, ct1, en1, ou1, ed1⟩ := T1
      iterate 2 refine za_step X rfl rfl rfl ?_
      refine za_ifne X 57 rfl (by decide) (fun q1 => ?_) (fun q1 => ?_)
      · rw [← hfin, show tr_end (oo, aa, bb, cc0, k) (r1, pl1, la1, dn1, vi1, de1, ct1, en1, ou1, ed1) = (r1, pl1, la1, dn1, vi1, de1, ct1, en1, ou1, ed1) from if_neg q1]
        exact za_vret X rfl ⟨rfl, tr_ov h 8 (r1, pl1, la1, dn1, vi1, de1, ct1, en1, ou1, ed1), rfl⟩ (Nat.le_refl _) (Nat.le_refl _)
      · rw [← hfin, show tr_end (oo, aa, bb, cc0, k) (r1, pl1, la1, dn1, vi1, de1, ct1, en1, ou1, ed1) = (if pr_has (oo, aa, bb, cc0, k) pl1 = true then tr_fin (r1, pl1, la1, dn1, vi1, de1, ct1, en1, ou1, ed1) 3 la1 else tr_fin (r1, pl1, la1, dn1, vi1, de1, ct1, en1, ou1, ed1) 0 (r1 0)) from if_pos q1]
        iterate 2 refine za_step X rfl rfl rfl ?_
        refine za_callV X rfl cl_T_T_finishUnasked cy_T_finishUnasked cv_T_finishUnasked (c_T_finishUnasked l D _ n 8 (Or.inr rfl) (r1, pl1, la1, dn1, vi1, de1, ct1, en1, ou1, ed1) ⟨rfl, rfl⟩ (oo, aa, bb, cc0, k) ⟨hP1, hP2, hP3, hP4, hP5⟩) rfl rfl rfl rfl (Nat.le_of_ble_eq_true rfl) (Nat.le_of_ble_eq_true rfl) (Nat.le_of_ble_eq_true rfl) (Nat.le_of_ble_eq_true rfl) (Nat.le_of_ble_eq_true rfl) (fun v h' n' hq => ?_)
        obtain ⟨rfl, rfl, rfl⟩ := hq
        refine za_look (h1 := h) (v1 := [(8, tr_c 8 (if pr_has (oo, aa, bb, cc0, k) pl1 = true then tr_fin (r1, pl1, la1, dn1, vi1, de1, ct1, en1, ou1, ed1) 3 la1 else tr_fin (r1, pl1, la1, dn1, vi1, de1, ct1, en1, ou1, ed1) 0 (r1 0))), (9, tr_g (if pr_has (oo, aa, bb, cc0, k) pl1 = true then tr_fin (r1, pl1, la1, dn1, vi1, de1, ct1, en1, ou1, ed1) 3 la1 else tr_fin (r1, pl1, la1, dn1, vi1, de1, ct1, en1, ou1, ed1) 0 (r1 0)))]) (tr_back h 8 ((r1, pl1, la1, dn1, vi1, de1, ct1, en1, ou1, ed1)) (if pr_has (oo, aa, bb, cc0, k) pl1 = true then tr_fin (r1, pl1, la1, dn1, vi1, de1, ct1, en1, ou1, ed1) 3 la1 else tr_fin (r1, pl1, la1, dn1, vi1, de1, ct1, en1, ou1, ed1) 0 (r1 0))) ?_
        exact za_vret X rfl ⟨rfl, tr_ov h 8 (if pr_has (oo, aa, bb, cc0, k) pl1 = true then tr_fin (r1, pl1, la1, dn1, vi1, de1, ct1, en1, ou1, ed1) 3 la1 else tr_fin (r1, pl1, la1, dn1, vi1, de1, ct1, en1, ou1, ed1) 0 (r1 0)), rfl⟩ (Nat.le_refl _) (Nat.le_refl _)
    have loop : ∀ (f i : Nat) (T1 : tr_T), i + f = 40 → tr_end (oo, aa, bb, cc0, k) (tr_lop (oo, aa, bb, cc0, k) f T1) = tr_run (oo, aa, bb, cc0, k) (r, pl, la, dn, vi, de, ct, en, ou, ed) x y → za_W p l e (za_rm 4 0 0) s m args below meth c D 5 (MQ below (za_Q D (fun v h' n' => v = none ∧ h' = tr_put h 8 (tr_run (oo, aa, bb, cc0, k) (r, pl, la, dn, vi, de, ct, en, ou, ed) x y) ∧ n = n')) args s 0 0 (fun q : Nat => D.2.2 ≤ q)) h n 0 0 9 [(0, vR 8), (1, vR 1), (2, vI x), (3, vI y), (4, vI (nI i))] [] [(8, tr_c 8 T1), (9, tr_g T1)] := by
      intro f
      induction f with
      | zero =>
        intro i T1 hi hfin
        iterate 2 refine za_step X rfl rfl rfl ?_
        refine za_icge X 45 rfl (by decide) (fun q1 => ?_) (fun q1 => ?_)
        · exact za_loc [(0, vR 8), (1, vR 1), (2, vI x), (3, vI y)] rfl (exit45 T1 hfin)
        · exact absurd (by rw [k40]; exact (nI_leI (by omega) (by omega)).mpr (by omega)) q1
      | succ f ih =>
        intro i T1 hi hfin
        obtain ⟨r1, pl1, la1, dn1, vi1, de1, ct1, en1, ou1, ed1⟩ := T1
        iterate 2 refine za_step X rfl rfl rfl ?_
        refine za_icge X 45 rfl (by decide) (fun q1 => ?_) (fun q1 => ?_)
        · rw [k40] at q1
          exact absurd ((nI_leI (by omega) (by omega)).mp q1) (by omega)
        · iterate 2 refine za_step X rfl rfl rfl ?_
          refine za_ifne X 45 rfl (by decide) (fun q2 => ?_) (fun q2 => ?_)
          · refine za_loc [(0, vR 8), (1, vR 1), (2, vI x), (3, vI y)] rfl (exit45 (r1, pl1, la1, dn1, vi1, de1, ct1, en1, ou1, ed1) ?_)
            rw [← hfin, show tr_lop (oo, aa, bb, cc0, k) (f + 1) (r1, pl1, la1, dn1, vi1, de1, ct1, en1, ou1, ed1) = (r1, pl1, la1, dn1, vi1, de1, ct1, en1, ou1, ed1) from if_neg (fun q => q2 q.1)]
          · iterate 3 refine za_step X rfl rfl rfl ?_
            refine za_callV (b := 1) (d := 0) (mc := 0) (ms := 0) (as := [_]) (rest := []) X rfl cl_T_P_has cy_P_has cv_P_has (c_P_has l D (za_ov h [(8, tr_c 8 (r1, pl1, la1, dn1, vi1, de1, ct1, en1, ou1, ed1)), (9, tr_g (r1, pl1, la1, dn1, vi1, de1, ct1, en1, ou1, ed1))]) n (oo, aa, bb, cc0, k) ⟨hP1, hP2, hP3, hP4, hP5⟩ pl1) rfl rfl hP1 rfl (Nat.le_of_ble_eq_true rfl) (Nat.le_of_ble_eq_true rfl) (Nat.le_of_ble_eq_true rfl) (Nat.le_of_ble_eq_true rfl) (Nat.le_of_ble_eq_true rfl) (fun v h' n' hq => ?_)
            obtain ⟨rfl, rfl, rfl⟩ := hq
            refine za_look (h1 := h) (v1 := [(8, tr_c 8 (r1, pl1, la1, dn1, vi1, de1, ct1, en1, ou1, ed1)), (9, tr_g (r1, pl1, la1, dn1, vi1, de1, ct1, en1, ou1, ed1))]) rfl ?_
            refine za_ifeq X 45 rfl (by decide) (fun q3 => ?_) (fun q3 => ?_)
            · refine za_loc [(0, vR 8), (1, vR 1), (2, vI x), (3, vI y)] rfl (exit45 (r1, pl1, la1, dn1, vi1, de1, ct1, en1, ou1, ed1) ?_)
              rw [← hfin, show tr_lop (oo, aa, bb, cc0, k) (f + 1) (r1, pl1, la1, dn1, vi1, de1, ct1, en1, ou1, ed1) = (r1, pl1, la1, dn1, vi1, de1, ct1, en1, ou1, ed1) from if_neg (fun q => absurd (bI_0 q3) (by rw [show pr_has (oo, aa, bb, cc0, k) pl1 = true from q.2]; decide))]
            · have hh : pr_has (oo, aa, bb, cc0, k) pl1 = true := bI_n0 q3
              iterate 2 refine za_step X rfl rfl rfl ?_
              refine za_callV X rfl cl_T_T_step cy_T_step cv_T_step (c_T_step l D _ n 8 (Or.inr rfl) (r1, pl1, la1, dn1, vi1, de1, ct1, en1, ou1, ed1) ⟨rfl, rfl⟩ (oo, aa, bb, cc0, k) ⟨hP1, hP2, hP3, hP4, hP5⟩ hok hh) rfl rfl rfl rfl (Nat.le_of_ble_eq_true rfl) (Nat.le_of_ble_eq_true rfl) (Nat.le_of_ble_eq_true rfl) (Nat.le_of_ble_eq_true rfl) (Nat.le_of_ble_eq_true rfl) (fun v h' n' hq => ?_)
              obtain ⟨rfl, rfl, rfl⟩ := hq
              refine za_look (h1 := h) (v1 := [(8, tr_c 8 (tr_stp (oo, aa, bb, cc0, k) (r1, pl1, la1, dn1, vi1, de1, ct1, en1, ou1, ed1))), (9, tr_g (tr_stp (oo, aa, bb, cc0, k) (r1, pl1, la1, dn1, vi1, de1, ct1, en1, ou1, ed1)))]) (tr_back h 8 ((r1, pl1, la1, dn1, vi1, de1, ct1, en1, ou1, ed1)) (tr_stp (oo, aa, bb, cc0, k) (r1, pl1, la1, dn1, vi1, de1, ct1, en1, ou1, ed1))) ?_
              iterate 2 refine za_step X rfl rfl rfl ?_
              rw [show nI i + Int32.ofInt 1 = nI (i + 1) from nI_1 i]
              refine za_loc [(0, vR 8), (1, vR 1), (2, vI x), (3, vI y), (4, vI (nI (i + 1)))] rfl (ih (i + 1) (tr_stp (oo, aa, bb, cc0, k) (r1, pl1, la1, dn1, vi1, de1, ct1, en1, ou1, ed1)) (by omega) ?_)
              rw [← hfin, show tr_lop (oo, aa, bb, cc0, k) (f + 1) (r1, pl1, la1, dn1, vi1, de1, ct1, en1, ou1, ed1) = tr_lop (oo, aa, bb, cc0, k) f (tr_stp (oo, aa, bb, cc0, k) (r1, pl1, la1, dn1, vi1, de1, ct1, en1, ou1, ed1)) from if_pos ⟨q2, hh⟩]
    iterate 3 refine za_step X rfl rfl rfl ?_
    refine za_callV X rfl cl_T_T_begin cy_T_begin cv_T_begin (c_T_begin l D _ n 8 (Or.inr rfl) (r, pl, la, dn, vi, de, ct, en, ou, ed) ⟨rfl, rfl⟩ x y) rfl rfl rfl rfl (Nat.le_of_ble_eq_true rfl) (Nat.le_of_ble_eq_true rfl) (Nat.le_of_ble_eq_true rfl) (Nat.le_of_ble_eq_true rfl) (Nat.le_of_ble_eq_true rfl) (fun v h' n' hq => ?_)
    obtain ⟨rfl, rfl, rfl⟩ := hq
    refine za_look (h1 := h) (v1 := [(8, tr_c 8 (tr_beg (r, pl, la, dn, vi, de, ct, en, ou, ed) x y)), (9, tr_g (tr_beg (r, pl, la, dn, vi, de, ct, en, ou, ed) x y))]) (tr_back h 8 ((r, pl, la, dn, vi, de, ct, en, ou, ed)) (tr_beg (r, pl, la, dn, vi, de, ct, en, ou, ed) x y)) ?_
    iterate 2 refine za_step X rfl rfl rfl ?_
    exact za_loc [(0, vR 8), (1, vR 1), (2, vI x), (3, vI y), (4, vI (nI 0))] rfl (loop 40 0 (tr_beg (r, pl, la, dn, vi, de, ct, en, ou, ed) x y) rfl rfl)
