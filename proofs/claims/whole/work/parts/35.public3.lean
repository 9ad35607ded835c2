set_option maxHeartbeats 4000000 in
set_option maxRecDepth 100000 in
theorem c_F_explore (l : Launch) (D : za_D) (h : za_H) (n : Nat) (hst : l.stackTraces = false) (σ : fs_T) (hσ : fs_at h σ)  : zg_M l D (.code Y_F_explore.1 Y_F_explore.2.1 Y_F_explore.2.2.1 Y_F_explore.2.2.2) Y_F_explore 6 1 6 [vR 0] h n (fs_ps "java/lang/IllegalStateException" "java/lang/IllegalStateException" h n (sp_explore σ)) := by
  obtain ⟨P, T, S, b, q⟩ := σ
  have hσ0 := hσ
  obtain ⟨hok, hP, hT, hb1, hb4, ra, rb, hrr, hF, ⟨T8, h8⟩, ⟨w, hS⟩, wb, SD, hD⟩ := hσ
  obtain ⟨k, f⟩ := S
  rcases hrr with ⟨rfl, rfl⟩ | ⟨rfl, rfl⟩
  · refine zg_enter cd_F_explore fl_F (zg_Kcode Y_F_explore) (by decide) cdok_F_explore flok_F (Nat.le_of_ble_eq_true rfl) ?_
    intro p e s m args below meth c X hH hex
    have hv : za_ov h [(0, fs_c 10 76 b q)] = h := by rw [za_ov1, za_set_same hF]
    refine za_view [(0, fs_c 10 76 b q)] (by simp [hF]) ?_
    iterate 1 refine za_step X rfl rfl rfl ?_
    refine za_callV (b := 0) (d := 5) (mc := 0) (ms := 0) (as := []) (rest := []) X rfl cl_F_F_fillDraft cy_F_fillDraft cv_F_fillDraft (c_F_fillDraft l D (za_ov h [(0, fs_c 10 76 b q)]) n 10 76 b q rfl (Or.inr rfl) hb1 hb4 P (by rw [hv]; exact hP) hok T8 (by rw [hv]; exact h8) wb SD (by rw [hv]; exact hD)) rfl rfl rfl rfl (Nat.le_of_ble_eq_true rfl) (Nat.le_of_ble_eq_true rfl) (Nat.le_of_ble_eq_true rfl) (Nat.le_of_ble_eq_true rfl) (Nat.le_of_ble_eq_true rfl) (fun v h' n' hq => ?_)
    obtain ⟨hq, rfl⟩ := hq
    rw [hv] at hq
    have keep : ∀ S2, fd_at h h' 76 S2 → h' 0 = some (fs_c 10 76 b q) ∧ pr_at h' P ∧ tr_at h' 6 T ∧ (∃ w, rs_at h' 10 w (k, f)) ∧ fs_fr h h' := by
      intro S2 hfd
      obtain ⟨_, _, hoff⟩ := hfd
      exact ⟨by rw [hoff 0 (by omega) (by omega) (by omega)]; exact hF, pr_at_off hP (fun j a1 a2 => hoff j (by omega) (by omega) (by omega)), ⟨by rw [hoff 6 (by omega) (by omega) (by omega)]; exact hT.1, by rw [hoff (6 + 1) (by omega) (by omega) (by omega)]; exact hT.2⟩, ⟨w, rs_at_off hS (fun j a1 a2 => hoff j (by omega) (by omega) (by omega))⟩, fun j hj => hoff j (by omega) (by omega) (by omega)⟩
    cases hR : ex_res P b with
    | none =>
      rw [hR] at hq
      obtain ⟨rfl, S2, hfd⟩ := hq
      obtain ⟨k0, kP, kT, ⟨w2, kS⟩, hfr⟩ := keep S2 hfd
      have e1 : sp_explore (P, T, (k, f), b, q) = (1, 0, (P, T, (k, f), b, q)) := by simp [sp_explore, hR]
      have hs : fs_at (za_ov h' []) (P, T, (k, f), b, q) := ⟨hok, kP, kT, hb1, hb4, 10, 76, (Or.inl ⟨rfl, rfl⟩), k0, hfd.1, ⟨w2, kS⟩, by obtain ⟨w3, k3⟩ := hfd.2.1; exact ⟨w3, S2, k3⟩⟩
      refine za_ifne X 15 rfl (by decide) (fun q2 => absurd rfl q2) (fun q2 => ?_)
      rw [e1]
      exact zg_throw X hH hst hex rfl rfl rfl rfl ze_ISE (by decide) (Nat.le_of_ble_eq_true rfl) (Nat.le_of_ble_eq_true rfl) (Nat.le_of_ble_eq_true rfl) ⟨hs, hfr, Or.inr (Or.inl ⟨rfl, rfl, rfl⟩)⟩ (Nat.le_of_ble_eq_true rfl) (Nat.le_of_ble_eq_true rfl)
    | some S2 =>
      rw [hR] at hq
      obtain ⟨rfl, hfd⟩ := hq
      obtain ⟨k0, kP, kT, ⟨w2, kS⟩, hfr⟩ := keep S2 hfd
      obtain ⟨k2, f2⟩ := S2
      have e1 : sp_explore (P, T, (k, f), b, q) = (0, nI k2, (P, T, (k2, f2), b, q)) := by simp [sp_explore, hR]
      rw [e1]
      obtain ⟨w3, k3⟩ := hfd.2.1
      have g3 : h' 76 = some (rs_c 76 k2 (rs_or f2 k2)) := k3.1
      generalize rs_or f2 k2 = vis at g3
      refine za_ifne X 15 rfl (by decide) (fun q2 => ?_) (fun q2 => absurd q2 (by decide))
      refine za_view [(0, fs_c 10 76 b q), (76, rs_c 76 k2 vis)] (by simp [k0, g3]) ?_
      iterate 13 refine za_step X rfl rfl rfl ?_
      have hfin : za_ov h' [(0, fs_c 76 10 b q), (76, rs_c 76 k2 vis)] = za_set h' 0 (fs_c 76 10 b q) := by rw [za_ov2, za_set_same g3]
      have goff : ∀ j, j ≠ 0 → za_set h' 0 (fs_c 76 10 b q) j = h' j := fun j a => za_set_ne a
      refine zg_of (za_iret X rfl ⟨?_, ?_, Or.inl ⟨rfl, rfl, rfl⟩⟩ (Nat.le_of_ble_eq_true rfl) (Nat.le_of_ble_eq_true rfl))
      · show fs_at (za_ov h' [(0, fs_c 76 10 b q), (76, rs_c 76 k2 vis)]) _
        rw [hfin]
        obtain ⟨⟨T9, h9⟩, _, _⟩ := hfd
        exact ⟨hok, pr_at_off kP (fun j a1 a2 => goff j (by omega)), ⟨by rw [goff 6 (by omega)]; exact kT.1, by rw [goff (6 + 1) (by omega)]; exact kT.2⟩, hb1, hb4, 76, 10, (Or.inr ⟨rfl, rfl⟩), za_set_eq _ _ _, ⟨T9, by rw [goff 8 (by omega)]; exact h9.1, by rw [goff (8 + 1) (by omega)]; exact h9.2⟩, ⟨w3, rs_at_off k3 (fun j a1 a2 => goff j (by omega))⟩, w2, (k, f), rs_at_off kS (fun j a1 a2 => goff j (by omega))⟩
      · show fs_fr h (za_ov h' [(0, fs_c 76 10 b q), (76, rs_c 76 k2 vis)])
        rw [hfin]; exact fun j hj => (goff j (by omega)).trans (hfr j hj)
  · refine zg_enter cd_F_explore fl_F (zg_Kcode Y_F_explore) (by decide) cdok_F_explore flok_F (Nat.le_of_ble_eq_true rfl) ?_
    intro p e s m args below meth c X hH hex
    have hv : za_ov h [(0, fs_c 76 10 b q)] = h := by rw [za_ov1, za_set_same hF]
    refine za_view [(0, fs_c 76 10 b q)] (by simp [hF]) ?_
    iterate 1 refine za_step X rfl rfl rfl ?_
    refine za_callV (b := 0) (d := 5) (mc := 0) (ms := 0) (as := []) (rest := []) X rfl cl_F_F_fillDraft cy_F_fillDraft cv_F_fillDraft (c_F_fillDraft l D (za_ov h [(0, fs_c 76 10 b q)]) n 76 10 b q rfl (Or.inl rfl) hb1 hb4 P (by rw [hv]; exact hP) hok T8 (by rw [hv]; exact h8) wb SD (by rw [hv]; exact hD)) rfl rfl rfl rfl (Nat.le_of_ble_eq_true rfl) (Nat.le_of_ble_eq_true rfl) (Nat.le_of_ble_eq_true rfl) (Nat.le_of_ble_eq_true rfl) (Nat.le_of_ble_eq_true rfl) (fun v h' n' hq => ?_)
    obtain ⟨hq, rfl⟩ := hq
    rw [hv] at hq
    have keep : ∀ S2, fd_at h h' 10 S2 → h' 0 = some (fs_c 76 10 b q) ∧ pr_at h' P ∧ tr_at h' 6 T ∧ (∃ w, rs_at h' 76 w (k, f)) ∧ fs_fr h h' := by
      intro S2 hfd
      obtain ⟨_, _, hoff⟩ := hfd
      exact ⟨by rw [hoff 0 (by omega) (by omega) (by omega)]; exact hF, pr_at_off hP (fun j a1 a2 => hoff j (by omega) (by omega) (by omega)), ⟨by rw [hoff 6 (by omega) (by omega) (by omega)]; exact hT.1, by rw [hoff (6 + 1) (by omega) (by omega) (by omega)]; exact hT.2⟩, ⟨w, rs_at_off hS (fun j a1 a2 => hoff j (by omega) (by omega) (by omega))⟩, fun j hj => hoff j (by omega) (by omega) (by omega)⟩
    cases hR : ex_res P b with
    | none =>
      rw [hR] at hq
      obtain ⟨rfl, S2, hfd⟩ := hq
      obtain ⟨k0, kP, kT, ⟨w2, kS⟩, hfr⟩ := keep S2 hfd
      have e1 : sp_explore (P, T, (k, f), b, q) = (1, 0, (P, T, (k, f), b, q)) := by simp [sp_explore, hR]
      have hs : fs_at (za_ov h' []) (P, T, (k, f), b, q) := ⟨hok, kP, kT, hb1, hb4, 76, 10, (Or.inr ⟨rfl, rfl⟩), k0, hfd.1, ⟨w2, kS⟩, by obtain ⟨w3, k3⟩ := hfd.2.1; exact ⟨w3, S2, k3⟩⟩
      refine za_ifne X 15 rfl (by decide) (fun q2 => absurd rfl q2) (fun q2 => ?_)
      rw [e1]
      exact zg_throw X hH hst hex rfl rfl rfl rfl ze_ISE (by decide) (Nat.le_of_ble_eq_true rfl) (Nat.le_of_ble_eq_true rfl) (Nat.le_of_ble_eq_true rfl) ⟨hs, hfr, Or.inr (Or.inl ⟨rfl, rfl, rfl⟩)⟩ (Nat.le_of_ble_eq_true rfl) (Nat.le_of_ble_eq_true rfl)
    | some S2 =>
      rw [hR] at hq
      obtain ⟨rfl, hfd⟩ := hq
      obtain ⟨k0, kP, kT, ⟨w2, kS⟩, hfr⟩ := keep S2 hfd
      obtain ⟨k2, f2⟩ := S2
      have e1 : sp_explore (P, T, (k, f), b, q) = (0, nI k2, (P, T, (k2, f2), b, q)) := by simp [sp_explore, hR]
      rw [e1]
      obtain ⟨w3, k3⟩ := hfd.2.1
      have g3 : h' 10 = some (rs_c 10 k2 (rs_or f2 k2)) := k3.1
      generalize rs_or f2 k2 = vis at g3
      refine za_ifne X 15 rfl (by decide) (fun q2 => ?_) (fun q2 => absurd q2 (by decide))
      refine za_view [(0, fs_c 76 10 b q), (10, rs_c 10 k2 vis)] (by simp [k0, g3]) ?_
      iterate 13 refine za_step X rfl rfl rfl ?_
      have hfin : za_ov h' [(0, fs_c 10 76 b q), (10, rs_c 10 k2 vis)] = za_set h' 0 (fs_c 10 76 b q) := by rw [za_ov2, za_set_same g3]
      have goff : ∀ j, j ≠ 0 → za_set h' 0 (fs_c 10 76 b q) j = h' j := fun j a => za_set_ne a
      refine zg_of (za_iret X rfl ⟨?_, ?_, Or.inl ⟨rfl, rfl, rfl⟩⟩ (Nat.le_of_ble_eq_true rfl) (Nat.le_of_ble_eq_true rfl))
      · show fs_at (za_ov h' [(0, fs_c 10 76 b q), (10, rs_c 10 k2 vis)]) _
        rw [hfin]
        obtain ⟨⟨T9, h9⟩, _, _⟩ := hfd
        exact ⟨hok, pr_at_off kP (fun j a1 a2 => goff j (by omega)), ⟨by rw [goff 6 (by omega)]; exact kT.1, by rw [goff (6 + 1) (by omega)]; exact kT.2⟩, hb1, hb4, 10, 76, (Or.inl ⟨rfl, rfl⟩), za_set_eq _ _ _, ⟨T9, by rw [goff 8 (by omega)]; exact h9.1, by rw [goff (8 + 1) (by omega)]; exact h9.2⟩, ⟨w3, rs_at_off k3 (fun j a1 a2 => goff j (by omega))⟩, w2, (k, f), rs_at_off kS (fun j a1 a2 => goff j (by omega))⟩
      · show fs_fr h (za_ov h' [(0, fs_c 10 76 b q), (10, rs_c 10 k2 vis)])
        rw [hfin]; exact fun j hj => (goff j (by omega)).trans (hfr j hj)
set_option maxHeartbeats 4000000 in
set_option maxRecDepth 100000 in
theorem c_F_way (l : Launch) (D : za_D) (h : za_H) (n : Nat) (hst : l.stackTraces = false) (σ : fs_T) (hσ : fs_at h σ) (n1 x : Int32) : zg_M l D (.code Y_F_way.1 Y_F_way.2.1 Y_F_way.2.2.1 Y_F_way.2.2.2) Y_F_way 6 1 6 [vR 0, vI n1, vI x] h n (fs_ps "java/util/NoSuchElementException" "java/lang/IllegalArgumentException" h n (sp_way σ n1 x)) := by
  obtain ⟨P, T, S, b, q⟩ := σ
  have hσ0 := hσ
  obtain ⟨hok, hP, hT, hb1, hb4, ra, rb, hrr, hF, ⟨T8, h8⟩, ⟨w, hS⟩, wb, SD, hD⟩ := hσ
  obtain ⟨k, f⟩ := S
  rcases hrr with ⟨rfl, rfl⟩ | ⟨rfl, rfl⟩
  · have hr : h 10 = some (rs_c 10 k (rs_or f k)) := hS.1
    have hk64 : k ≤ 64 := hS.2.2.2.2.2.2
    generalize rs_or f k = vis at hr
    have hv : za_ov h [(0, fs_c 10 76 b q), (10, rs_c 10 k vis), (11, rs_g w)] = h := by rw [za_ov3, za_set_same hS.2.1, za_set_same hr, za_set_same hF]
    have hs : fs_at (za_ov h [(0, fs_c 10 76 b q), (10, rs_c 10 k vis), (11, rs_g w)]) (P, T, (k, f), b, q) := by rw [hv]; exact hσ0
    have hfr : fs_fr h (za_ov h [(0, fs_c 10 76 b q), (10, rs_c 10 k vis), (11, rs_g w)]) := by rw [hv]; exact fs_fr_rf h
    refine zg_enter cd_F_way fl_F (zg_Kcode Y_F_way) (by decide) cdok_F_way flok_F (Nat.le_of_ble_eq_true rfl) ?_
    intro p e s m args below meth c X hH hex
    refine za_view [(0, fs_c 10 76 b q), (10, rs_c 10 k vis), (11, rs_g w)] (by simp [hF, hr, hS.2.1]) ?_
    iterate 3 refine za_step X rfl rfl rfl ?_
    refine za_callV (b := 10) (d := 0) (mc := 0) (ms := 0) (as := [vI n1]) (rest := []) X rfl cl_F_R_has cy_R_has cv_R_has (c_R_has l D (za_ov h [(0, fs_c 10 76 b q), (10, rs_c 10 k vis), (11, rs_g w)]) n 10 (Or.inl rfl) k vis rfl n1) rfl rfl rfl rfl (Nat.le_of_ble_eq_true rfl) (Nat.le_of_ble_eq_true rfl) (Nat.le_of_ble_eq_true rfl) (Nat.le_of_ble_eq_true rfl) (Nat.le_of_ble_eq_true rfl) (fun v h' n' hq => ?_)
    obtain ⟨rfl, rfl, rfl⟩ := hq
    refine za_look (h1 := h) (v1 := [(0, fs_c 10 76 b q), (10, rs_c 10 k vis), (11, rs_g w)]) rfl ?_
    refine za_ifne X 19 rfl (by decide) (fun q1 => ?_) (fun q1 => ?_)
    · have hal := bI_n0 q1
      obtain ⟨i, hi, rfl⟩ := rs_has_n hk64 hal
      have hci : (nI i).toNatClampNeg = i := nI_clamp (by omega)
      obtain ⟨wx, wy, wo, we, wd, wc, wv, hfi⟩ := wr_cu (f i)
      have hwi : za_ov h [(0, fs_c 10 76 b q), (10, rs_c 10 k vis), (11, rs_g w)] (w i) = some (.inr (zn_W, [vI wx, vI wy, vI wo, vI we, vL wd, vI wc])) := by rw [hv]; have := hS.2.2.2.1 i hi; rw [show ((k, f) : rs_T).2 i = f i from rfl, hfi] at this; exact this
      iterate 4 refine za_step X rfl rfl rfl ?_
      refine za_aald X rfl rfl rfl (vp_in_nI (by omega) (by decide)) ?_
      rw [hci]
      iterate 2 refine za_step X rfl rfl rfl ?_
      by_cases x0 : x = 0
      · subst x0
        have e1 : sp_way (P, T, (k, f), b, q) (nI i) 0 = (0, wx, (P, T, (k, f), b, q)) := by simp [sp_way, hal, hci, hfi, wr_x, wr_y, wr_ou, wr_ed, wr_ct]
        rw [e1]
        refine za_tsw X 0 64 rfl (by decide) (by decide) (by decide) rfl (by decide) ?_
        iterate 1 refine za_step X rfl rfl rfl ?_
        refine za_getH X rfl hwi rfl rfl ?_
        exact zg_of (za_iret X rfl ⟨hs, hfr, Or.inl ⟨rfl, rfl, rfl⟩⟩ (Nat.le_of_ble_eq_true rfl) (Nat.le_of_ble_eq_true rfl))
      by_cases x1 : x = 1
      · subst x1
        have e1 : sp_way (P, T, (k, f), b, q) (nI i) 1 = (0, wy, (P, T, (k, f), b, q)) := by simp [sp_way, hal, hci, hfi, wr_x, wr_y, wr_ou, wr_ed, wr_ct]
        rw [e1]
        refine za_tsw X 1 69 rfl (by decide) (by decide) (by decide) rfl (by decide) ?_
        iterate 1 refine za_step X rfl rfl rfl ?_
        refine za_getH X rfl hwi rfl rfl ?_
        exact zg_of (za_iret X rfl ⟨hs, hfr, Or.inl ⟨rfl, rfl, rfl⟩⟩ (Nat.le_of_ble_eq_true rfl) (Nat.le_of_ble_eq_true rfl))
      by_cases x2 : x = 2
      · subst x2
        have e1 : sp_way (P, T, (k, f), b, q) (nI i) 2 = (0, wo, (P, T, (k, f), b, q)) := by simp [sp_way, hal, hci, hfi, wr_x, wr_y, wr_ou, wr_ed, wr_ct]
        rw [e1]
        refine za_tsw X 2 74 rfl (by decide) (by decide) (by decide) rfl (by decide) ?_
        iterate 1 refine za_step X rfl rfl rfl ?_
        refine za_getH X rfl hwi rfl rfl ?_
        exact zg_of (za_iret X rfl ⟨hs, hfr, Or.inl ⟨rfl, rfl, rfl⟩⟩ (Nat.le_of_ble_eq_true rfl) (Nat.le_of_ble_eq_true rfl))
      by_cases x3 : x = 3
      · subst x3
        have e1 : sp_way (P, T, (k, f), b, q) (nI i) 3 = (0, we, (P, T, (k, f), b, q)) := by simp [sp_way, hal, hci, hfi, wr_x, wr_y, wr_ou, wr_ed, wr_ct]
        rw [e1]
        refine za_tsw X 3 79 rfl (by decide) (by decide) (by decide) rfl (by decide) ?_
        iterate 1 refine za_step X rfl rfl rfl ?_
        refine za_getH X rfl hwi rfl rfl ?_
        exact zg_of (za_iret X rfl ⟨hs, hfr, Or.inl ⟨rfl, rfl, rfl⟩⟩ (Nat.le_of_ble_eq_true rfl) (Nat.le_of_ble_eq_true rfl))
      by_cases x4 : x = 4
      · subst x4
        have e1 : sp_way (P, T, (k, f), b, q) (nI i) 4 = (0, wc, (P, T, (k, f), b, q)) := by simp [sp_way, hal, hci, hfi, wr_x, wr_y, wr_ou, wr_ed, wr_ct]
        rw [e1]
        refine za_tsw X 4 84 rfl (by decide) (by decide) (by decide) rfl (by decide) ?_
        iterate 1 refine za_step X rfl rfl rfl ?_
        refine za_getH X rfl hwi rfl rfl ?_
        exact zg_of (za_iret X rfl ⟨hs, hfr, Or.inl ⟨rfl, rfl, rfl⟩⟩ (Nat.le_of_ble_eq_true rfl) (Nat.le_of_ble_eq_true rfl))
      
      have e1 : sp_way (P, T, (k, f), b, q) (nI i) x = (2, 0, (P, T, (k, f), b, q)) := by simp [sp_way, hal, x0, x1, x2, x3, x4]
      refine za_tsd X 89 rfl (ts_o (hi := 4) (fun i h1 h2 => by rcases (show i = 0 ∨ i = 1 ∨ i = 2 ∨ i = 3 ∨ i = 4 by omega) with rfl | rfl | rfl | rfl | rfl <;> first | exact x0 | exact x1 | exact x2 | exact x3 | exact x4)) (by decide) ?_
      rw [e1]
      exact zg_throw X hH hst hex rfl rfl rfl rfl ze_IAE (by decide) (Nat.le_of_ble_eq_true rfl) (Nat.le_of_ble_eq_true rfl) (Nat.le_of_ble_eq_true rfl) ⟨hs, hfr, Or.inr (Or.inr ⟨rfl, rfl, rfl⟩)⟩ (Nat.le_of_ble_eq_true rfl) (Nat.le_of_ble_eq_true rfl)
    · have e1 : sp_way (P, T, (k, f), b, q) n1 x = (1, 0, (P, T, (k, f), b, q)) := if_neg (by show ¬ rs_has k n1 = true; rw [bI_0 q1]; decide)
      rw [e1]
      exact zg_throw X hH hst hex rfl rfl rfl rfl ze_NSE (by decide) (Nat.le_of_ble_eq_true rfl) (Nat.le_of_ble_eq_true rfl) (Nat.le_of_ble_eq_true rfl) ⟨hs, hfr, Or.inr (Or.inl ⟨rfl, rfl, rfl⟩)⟩ (Nat.le_of_ble_eq_true rfl) (Nat.le_of_ble_eq_true rfl)
  · have hr : h 76 = some (rs_c 76 k (rs_or f k)) := hS.1
    have hk64 : k ≤ 64 := hS.2.2.2.2.2.2
    generalize rs_or f k = vis at hr
    have hv : za_ov h [(0, fs_c 76 10 b q), (76, rs_c 76 k vis), (77, rs_g w)] = h := by rw [za_ov3, za_set_same hS.2.1, za_set_same hr, za_set_same hF]
    have hs : fs_at (za_ov h [(0, fs_c 76 10 b q), (76, rs_c 76 k vis), (77, rs_g w)]) (P, T, (k, f), b, q) := by rw [hv]; exact hσ0
    have hfr : fs_fr h (za_ov h [(0, fs_c 76 10 b q), (76, rs_c 76 k vis), (77, rs_g w)]) := by rw [hv]; exact fs_fr_rf h
    refine zg_enter cd_F_way fl_F (zg_Kcode Y_F_way) (by decide) cdok_F_way flok_F (Nat.le_of_ble_eq_true rfl) ?_
    intro p e s m args below meth c X hH hex
    refine za_view [(0, fs_c 76 10 b q), (76, rs_c 76 k vis), (77, rs_g w)] (by simp [hF, hr, hS.2.1]) ?_
    iterate 3 refine za_step X rfl rfl rfl ?_
    refine za_callV (b := 76) (d := 0) (mc := 0) (ms := 0) (as := [vI n1]) (rest := []) X rfl cl_F_R_has cy_R_has cv_R_has (c_R_has l D (za_ov h [(0, fs_c 76 10 b q), (76, rs_c 76 k vis), (77, rs_g w)]) n 76 (Or.inr rfl) k vis rfl n1) rfl rfl rfl rfl (Nat.le_of_ble_eq_true rfl) (Nat.le_of_ble_eq_true rfl) (Nat.le_of_ble_eq_true rfl) (Nat.le_of_ble_eq_true rfl) (Nat.le_of_ble_eq_true rfl) (fun v h' n' hq => ?_)
    obtain ⟨rfl, rfl, rfl⟩ := hq
    refine za_look (h1 := h) (v1 := [(0, fs_c 76 10 b q), (76, rs_c 76 k vis), (77, rs_g w)]) rfl ?_
    refine za_ifne X 19 rfl (by decide) (fun q1 => ?_) (fun q1 => ?_)
    · have hal := bI_n0 q1
      obtain ⟨i, hi, rfl⟩ := rs_has_n hk64 hal
      have hci : (nI i).toNatClampNeg = i := nI_clamp (by omega)
      obtain ⟨wx, wy, wo, we, wd, wc, wv, hfi⟩ := wr_cu (f i)
      have hwi : za_ov h [(0, fs_c 76 10 b q), (76, rs_c 76 k vis), (77, rs_g w)] (w i) = some (.inr (zn_W, [vI wx, vI wy, vI wo, vI we, vL wd, vI wc])) := by rw [hv]; have := hS.2.2.2.1 i hi; rw [show ((k, f) : rs_T).2 i = f i from rfl, hfi] at this; exact this
      iterate 4 refine za_step X rfl rfl rfl ?_
      refine za_aald X rfl rfl rfl (vp_in_nI (by omega) (by decide)) ?_
      rw [hci]
      iterate 2 refine za_step X rfl rfl rfl ?_
      by_cases x0 : x = 0
      · subst x0
        have e1 : sp_way (P, T, (k, f), b, q) (nI i) 0 = (0, wx, (P, T, (k, f), b, q)) := by simp [sp_way, hal, hci, hfi, wr_x, wr_y, wr_ou, wr_ed, wr_ct]
        rw [e1]
        refine za_tsw X 0 64 rfl (by decide) (by decide) (by decide) rfl (by decide) ?_
        iterate 1 refine za_step X rfl rfl rfl ?_
        refine za_getH X rfl hwi rfl rfl ?_
        exact zg_of (za_iret X rfl ⟨hs, hfr, Or.inl ⟨rfl, rfl, rfl⟩⟩ (Nat.le_of_ble_eq_true rfl) (Nat.le_of_ble_eq_true rfl))
      by_cases x1 : x = 1
      · subst x1
        have e1 : sp_way (P, T, (k, f), b, q) (nI i) 1 = (0, wy, (P, T, (k, f), b, q)) := by simp [sp_way, hal, hci, hfi, wr_x, wr_y, wr_ou, wr_ed, wr_ct]
        rw [e1]
        refine za_tsw X 1 69 rfl (by decide) (by decide) (by decide) rfl (by decide) ?_
        iterate 1 refine za_step X rfl rfl rfl ?_
        refine za_getH X rfl hwi rfl rfl ?_
        exact zg_of (za_iret X rfl ⟨hs, hfr, Or.inl ⟨rfl, rfl, rfl⟩⟩ (Nat.le_of_ble_eq_true rfl) (Nat.le_of_ble_eq_true rfl))
      by_cases x2 : x = 2
      · subst x2
        have e1 : sp_way (P, T, (k, f), b, q) (nI i) 2 = (0, wo, (P, T, (k, f), b, q)) := by simp [sp_way, hal, hci, hfi, wr_x, wr_y, wr_ou, wr_ed, wr_ct]
        rw [e1]
        refine za_tsw X 2 74 rfl (by decide) (by decide) (by decide) rfl (by decide) ?_
        iterate 1 refine za_step X rfl rfl rfl ?_
        refine za_getH X rfl hwi rfl rfl ?_
        exact zg_of (za_iret X rfl ⟨hs, hfr, Or.inl ⟨rfl, rfl, rfl⟩⟩ (Nat.le_of_ble_eq_true rfl) (Nat.le_of_ble_eq_true rfl))
      by_cases x3 : x = 3
      · subst x3
        have e1 : sp_way (P, T, (k, f), b, q) (nI i) 3 = (0, we, (P, T, (k, f), b, q)) := by simp [sp_way, hal, hci, hfi, wr_x, wr_y, wr_ou, wr_ed, wr_ct]
        rw [e1]
        refine za_tsw X 3 79 rfl (by decide) (by decide) (by decide) rfl (by decide) ?_
        iterate 1 refine za_step X rfl rfl rfl ?_
        refine za_getH X rfl hwi rfl rfl ?_
        exact zg_of (za_iret X rfl ⟨hs, hfr, Or.inl ⟨rfl, rfl, rfl⟩⟩ (Nat.le_of_ble_eq_true rfl) (Nat.le_of_ble_eq_true rfl))
      by_cases x4 : x = 4
      · subst x4
        have e1 : sp_way (P, T, (k, f), b, q) (nI i) 4 = (0, wc, (P, T, (k, f), b, q)) := by simp [sp_way, hal, hci, hfi, wr_x, wr_y, wr_ou, wr_ed, wr_ct]
        rw [e1]
        refine za_tsw X 4 84 rfl (by decide) (by decide) (by decide) rfl (by decide) ?_
        iterate 1 refine za_step X rfl rfl rfl ?_
        refine za_getH X rfl hwi rfl rfl ?_
        exact zg_of (za_iret X rfl ⟨hs, hfr, Or.inl ⟨rfl, rfl, rfl⟩⟩ (Nat.le_of_ble_eq_true rfl) (Nat.le_of_ble_eq_true rfl))
      
      have e1 : sp_way (P, T, (k, f), b, q) (nI i) x = (2, 0, (P, T, (k, f), b, q)) := by simp [sp_way, hal, x0, x1, x2, x3, x4]
      refine za_tsd X 89 rfl (ts_o (hi := 4) (fun i h1 h2 => by rcases (show i = 0 ∨ i = 1 ∨ i = 2 ∨ i = 3 ∨ i = 4 by omega) with rfl | rfl | rfl | rfl | rfl <;> first | exact x0 | exact x1 | exact x2 | exact x3 | exact x4)) (by decide) ?_
      rw [e1]
      exact zg_throw X hH hst hex rfl rfl rfl rfl ze_IAE (by decide) (Nat.le_of_ble_eq_true rfl) (Nat.le_of_ble_eq_true rfl) (Nat.le_of_ble_eq_true rfl) ⟨hs, hfr, Or.inr (Or.inr ⟨rfl, rfl, rfl⟩)⟩ (Nat.le_of_ble_eq_true rfl) (Nat.le_of_ble_eq_true rfl)
    · have e1 : sp_way (P, T, (k, f), b, q) n1 x = (1, 0, (P, T, (k, f), b, q)) := if_neg (by show ¬ rs_has k n1 = true; rw [bI_0 q1]; decide)
      rw [e1]
      exact zg_throw X hH hst hex rfl rfl rfl rfl ze_NSE (by decide) (Nat.le_of_ble_eq_true rfl) (Nat.le_of_ble_eq_true rfl) (Nat.le_of_ble_eq_true rfl) ⟨hs, hfr, Or.inr (Or.inl ⟨rfl, rfl, rfl⟩)⟩ (Nat.le_of_ble_eq_true rfl) (Nat.le_of_ble_eq_true rfl)
set_option maxHeartbeats 4000000 in
set_option maxRecDepth 100000 in
theorem c_F_decision (l : Launch) (D : za_D) (h : za_H) (n : Nat) (hst : l.stackTraces = false) (σ : fs_T) (hσ : fs_at h σ) (n1 j : Int32) : zg_M l D (.code Y_F_decision.1 Y_F_decision.2.1 Y_F_decision.2.2.1 Y_F_decision.2.2.2) Y_F_decision 6 1 6 [vR 0, vI n1, vI j] h n (fs_ps "java/util/NoSuchElementException" "java/util/NoSuchElementException" h n (sp_decision σ n1 j)) := by
  obtain ⟨P, T, S, b, q⟩ := σ
  have hσ0 := hσ
  obtain ⟨hok, hP, hT, hb1, hb4, ra, rb, hrr, hF, ⟨T8, h8⟩, ⟨w, hS⟩, wb, SD, hD⟩ := hσ
  obtain ⟨k, f⟩ := S
  rcases hrr with ⟨rfl, rfl⟩ | ⟨rfl, rfl⟩
  · have hr : h 10 = some (rs_c 10 k (rs_or f k)) := hS.1
    have hk64 : k ≤ 64 := hS.2.2.2.2.2.2
    generalize rs_or f k = vis at hr
    have hv : za_ov h [(0, fs_c 10 76 b q), (10, rs_c 10 k vis), (11, rs_g w)] = h := by rw [za_ov3, za_set_same hS.2.1, za_set_same hr, za_set_same hF]
    have hs : fs_at (za_ov h [(0, fs_c 10 76 b q), (10, rs_c 10 k vis), (11, rs_g w)]) (P, T, (k, f), b, q) := by rw [hv]; exact hσ0
    have hfr : fs_fr h (za_ov h [(0, fs_c 10 76 b q), (10, rs_c 10 k vis), (11, rs_g w)]) := by rw [hv]; exact fs_fr_rf h
    refine zg_enter cd_F_decision fl_F (zg_Kcode Y_F_decision) (by decide) cdok_F_decision flok_F (Nat.le_of_ble_eq_true rfl) ?_
    intro p e s m args below meth c X hH hex
    refine za_view [(0, fs_c 10 76 b q), (10, rs_c 10 k vis), (11, rs_g w)] (by simp [hF, hr, hS.2.1]) ?_
    iterate 3 refine za_step X rfl rfl rfl ?_
    refine za_callV (b := 10) (d := 0) (mc := 0) (ms := 0) (as := [vI n1]) (rest := []) X rfl cl_F_R_has cy_R_has cv_R_has (c_R_has l D (za_ov h [(0, fs_c 10 76 b q), (10, rs_c 10 k vis), (11, rs_g w)]) n 10 (Or.inl rfl) k vis rfl n1) rfl rfl rfl rfl (Nat.le_of_ble_eq_true rfl) (Nat.le_of_ble_eq_true rfl) (Nat.le_of_ble_eq_true rfl) (Nat.le_of_ble_eq_true rfl) (Nat.le_of_ble_eq_true rfl) (fun v h' n' hq => ?_)
    obtain ⟨rfl, rfl, rfl⟩ := hq
    refine za_look (h1 := h) (v1 := [(0, fs_c 10 76 b q), (10, rs_c 10 k vis), (11, rs_g w)]) rfl ?_
    refine za_ifeq X 31 rfl (by decide) (fun q1 => ?_) (fun q1 => ?_)
    · have e1 : sp_decision (P, T, (k, f), b, q) n1 j = (1, 0, (P, T, (k, f), b, q)) := if_neg (by intro z; have z1 : rs_has k n1 = true := z.1; rw [bI_0 q1] at z1; cases z1)
      rw [e1]
      exact zg_throw X hH hst hex rfl rfl rfl rfl ze_NSE (by decide) (Nat.le_of_ble_eq_true rfl) (Nat.le_of_ble_eq_true rfl) (Nat.le_of_ble_eq_true rfl) ⟨hs, hfr, Or.inr (Or.inl ⟨rfl, rfl, rfl⟩)⟩ (Nat.le_of_ble_eq_true rfl) (Nat.le_of_ble_eq_true rfl)
    · have hal := bI_n0 q1
      obtain ⟨i, hi, rfl⟩ := rs_has_n hk64 hal
      have hci : (nI i).toNatClampNeg = i := nI_clamp (by omega)
      obtain ⟨wx, wy, wo, we, wd, wc, wv, hfi⟩ := wr_cu (f i)
      have hwi : za_ov h [(0, fs_c 10 76 b q), (10, rs_c 10 k vis), (11, rs_g w)] (w i) = some (.inr (zn_W, [vI wx, vI wy, vI wo, vI we, vL wd, vI wc])) := by rw [hv]; have := hS.2.2.2.1 i hi; rw [show ((k, f) : rs_T).2 i = f i from rfl, hfi] at this; exact this
      iterate 1 refine za_step X rfl rfl rfl ?_
      refine za_iflt X 31 rfl (by decide) (fun q2 => ?_) (fun q2 => ?_)
      · have e1 : sp_decision (P, T, (k, f), b, q) (nI i) j = (1, 0, (P, T, (k, f), b, q)) := if_neg (fun z => absurd z.2.1 (Int32.not_le.mpr q2))
        rw [e1]
        exact zg_throw X hH hst hex rfl rfl rfl rfl ze_NSE (by decide) (Nat.le_of_ble_eq_true rfl) (Nat.le_of_ble_eq_true rfl) (Nat.le_of_ble_eq_true rfl) ⟨hs, hfr, Or.inr (Or.inl ⟨rfl, rfl, rfl⟩)⟩ (Nat.le_of_ble_eq_true rfl) (Nat.le_of_ble_eq_true rfl)
      · iterate 5 refine za_step X rfl rfl rfl ?_
        refine za_aald X rfl rfl rfl (vp_in_nI (by omega) (by decide)) ?_
        rw [hci]
        refine za_getH X rfl hwi rfl rfl ?_
        refine za_iclt X 39 rfl (by decide) (fun q3 => ?_) (fun q3 => ?_)
        · have e1 : sp_decision (P, T, (k, f), b, q) (nI i) j = (0, (wd >>> ((39 - j).toInt64 &&& 63)).toInt32 &&& 1, (P, T, (k, f), b, q)) := by
            have hc : rs_has k (nI i) = true ∧ 0 ≤ j ∧ j < wr_ct (f (nI i).toNatClampNeg) := ⟨hal, Int32.not_lt.mp q2, by rw [hci, hfi]; exact q3⟩
            show (if rs_has k (nI i) = true ∧ 0 ≤ j ∧ j < wr_ct (f (nI i).toNatClampNeg) then _ else _) = _
            rw [if_pos hc]
            show (0, (wr_de (f (nI i).toNatClampNeg) >>> ((39 - j).toInt64 &&& 63)).toInt32 &&& 1, _) = _
            rw [hci, hfi]; rfl
          rw [e1]
          iterate 4 refine za_step X rfl rfl rfl ?_
          refine za_aald X rfl rfl rfl (vp_in_nI (by omega) (by decide)) ?_
          rw [hci]
          refine za_getH X rfl hwi rfl rfl ?_
          iterate 1 refine za_step X rfl rfl rfl ?_
          refine za_callS X rfl cl_F_F_decisionBit cy_F_decisionBit cs_F_decisionBit (c_F_decisionBit l D _ n j) rfl rfl (Nat.le_of_ble_eq_true rfl) (Nat.le_of_ble_eq_true rfl) (Nat.le_of_ble_eq_true rfl) (Nat.le_of_ble_eq_true rfl) (Nat.le_of_ble_eq_true rfl) (fun v h' n' hq => ?_)
          obtain ⟨rfl, rfl, rfl⟩ := hq
          refine za_look (h1 := h) (v1 := [(0, fs_c 10 76 b q), (10, rs_c 10 k vis), (11, rs_g w)]) rfl ?_
          iterate 4 refine za_step X rfl rfl rfl ?_
          exact zg_of (za_iret X rfl ⟨hs, hfr, Or.inl ⟨rfl, rfl, rfl⟩⟩ (Nat.le_of_ble_eq_true rfl) (Nat.le_of_ble_eq_true rfl))
        · have e1 : sp_decision (P, T, (k, f), b, q) (nI i) j = (1, 0, (P, T, (k, f), b, q)) := if_neg (by intro z; have z2 : j < wr_ct (f (nI i).toNatClampNeg) := z.2.2; rw [hci, hfi] at z2; exact q3 z2)
          rw [e1]
          exact zg_throw X hH hst hex rfl rfl rfl rfl ze_NSE (by decide) (Nat.le_of_ble_eq_true rfl) (Nat.le_of_ble_eq_true rfl) (Nat.le_of_ble_eq_true rfl) ⟨hs, hfr, Or.inr (Or.inl ⟨rfl, rfl, rfl⟩)⟩ (Nat.le_of_ble_eq_true rfl) (Nat.le_of_ble_eq_true rfl)
  · have hr : h 76 = some (rs_c 76 k (rs_or f k)) := hS.1
    have hk64 : k ≤ 64 := hS.2.2.2.2.2.2
    generalize rs_or f k = vis at hr
    have hv : za_ov h [(0, fs_c 76 10 b q), (76, rs_c 76 k vis), (77, rs_g w)] = h := by rw [za_ov3, za_set_same hS.2.1, za_set_same hr, za_set_same hF]
    have hs : fs_at (za_ov h [(0, fs_c 76 10 b q), (76, rs_c 76 k vis), (77, rs_g w)]) (P, T, (k, f), b, q) := by rw [hv]; exact hσ0
    have hfr : fs_fr h (za_ov h [(0, fs_c 76 10 b q), (76, rs_c 76 k vis), (77, rs_g w)]) := by rw [hv]; exact fs_fr_rf h
    refine zg_enter cd_F_decision fl_F (zg_Kcode Y_F_decision) (by decide) cdok_F_decision flok_F (Nat.le_of_ble_eq_true rfl) ?_
    intro p e s m args below meth c X hH hex
    refine za_view [(0, fs_c 76 10 b q), (76, rs_c 76 k vis), (77, rs_g w)] (by simp [hF, hr, hS.2.1]) ?_
    iterate 3 refine za_step X rfl rfl rfl ?_
    refine za_callV (b := 76) (d := 0) (mc := 0) (ms := 0) (as := [vI n1]) (rest := []) X rfl cl_F_R_has cy_R_has cv_R_has (c_R_has l D (za_ov h [(0, fs_c 76 10 b q), (76, rs_c 76 k vis), (77, rs_g w)]) n 76 (Or.inr rfl) k vis rfl n1) rfl rfl rfl rfl (Nat.le_of_ble_eq_true rfl) (Nat.le_of_ble_eq_true rfl) (Nat.le_of_ble_eq_true rfl) (Nat.le_of_ble_eq_true rfl) (Nat.le_of_ble_eq_true rfl) (fun v h' n' hq => ?_)
    obtain ⟨rfl, rfl, rfl⟩ := hq
    refine za_look (h1 := h) (v1 := [(0, fs_c 76 10 b q), (76, rs_c 76 k vis), (77, rs_g w)]) rfl ?_
    refine za_ifeq X 31 rfl (by decide) (fun q1 => ?_) (fun q1 => ?_)
    · have e1 : sp_decision (P, T, (k, f), b, q) n1 j = (1, 0, (P, T, (k, f), b, q)) := if_neg (by intro z; have z1 : rs_has k n1 = true := z.1; rw [bI_0 q1] at z1; cases z1)
      rw [e1]
      exact zg_throw X hH hst hex rfl rfl rfl rfl ze_NSE (by decide) (Nat.le_of_ble_eq_true rfl) (Nat.le_of_ble_eq_true rfl) (Nat.le_of_ble_eq_true rfl) ⟨hs, hfr, Or.inr (Or.inl ⟨rfl, rfl, rfl⟩)⟩ (Nat.le_of_ble_eq_true rfl) (Nat.le_of_ble_eq_true rfl)
    · have hal := bI_n0 q1
      obtain ⟨i, hi, rfl⟩ := rs_has_n hk64 hal
      have hci : (nI i).toNatClampNeg = i := nI_clamp (by omega)
      obtain ⟨wx, wy, wo, we, wd, wc, wv, hfi⟩ := wr_cu (f i)
      have hwi : za_ov h [(0, fs_c 76 10 b q), (76, rs_c 76 k vis), (77, rs_g w)] (w i) = some (.inr (zn_W, [vI wx, vI wy, vI wo, vI we, vL wd, vI wc])) := by rw [hv]; have := hS.2.2.2.1 i hi; rw [show ((k, f) : rs_T).2 i = f i from rfl, hfi] at this; exact this
      iterate 1 refine za_step X rfl rfl rfl ?_
      refine za_iflt X 31 rfl (by decide) (fun q2 => ?_) (fun q2 => ?_)
      · have e1 : sp_decision (P, T, (k, f), b, q) (nI i) j = (1, 0, (P, T, (k, f), b, q)) := if_neg (fun z => absurd z.2.1 (Int32.not_le.mpr q2))
        rw [e1]
        exact zg_throw X hH hst hex rfl rfl rfl rfl ze_NSE (by decide) (Nat.le_of_ble_eq_true rfl) (Nat.le_of_ble_eq_true rfl) (Nat.le_of_ble_eq_true rfl) ⟨hs, hfr, Or.inr (Or.inl ⟨rfl, rfl, rfl⟩)⟩ (Nat.le_of_ble_eq_true rfl) (Nat.le_of_ble_eq_true rfl)
      · iterate 5 refine za_step X rfl rfl rfl ?_
        refine za_aald X rfl rfl rfl (vp_in_nI (by omega) (by decide)) ?_
        rw [hci]
        refine za_getH X rfl hwi rfl rfl ?_
        refine za_iclt X 39 rfl (by decide) (fun q3 => ?_) (fun q3 => ?_)
        · have e1 : sp_decision (P, T, (k, f), b, q) (nI i) j = (0, (wd >>> ((39 - j).toInt64 &&& 63)).toInt32 &&& 1, (P, T, (k, f), b, q)) := by
            have hc : rs_has k (nI i) = true ∧ 0 ≤ j ∧ j < wr_ct (f (nI i).toNatClampNeg) := ⟨hal, Int32.not_lt.mp q2, by rw [hci, hfi]; exact q3⟩
            show (if rs_has k (nI i) = true ∧ 0 ≤ j ∧ j < wr_ct (f (nI i).toNatClampNeg) then _ else _) = _
            rw [if_pos hc]
            show (0, (wr_de (f (nI i).toNatClampNeg) >>> ((39 - j).toInt64 &&& 63)).toInt32 &&& 1, _) = _
            rw [hci, hfi]; rfl
          rw [e1]
          iterate 4 refine za_step X rfl rfl rfl ?_
          refine za_aald X rfl rfl rfl (vp_in_nI (by omega) (by decide)) ?_
          rw [hci]
          refine za_getH X rfl hwi rfl rfl ?_
          iterate 1 refine za_step X rfl rfl rfl ?_
          refine za_callS X rfl cl_F_F_decisionBit cy_F_decisionBit cs_F_decisionBit (c_F_decisionBit l D _ n j) rfl rfl (Nat.le_of_ble_eq_true rfl) (Nat.le_of_ble_eq_true rfl) (Nat.le_of_ble_eq_true rfl) (Nat.le_of_ble_eq_true rfl) (Nat.le_of_ble_eq_true rfl) (fun v h' n' hq => ?_)
          obtain ⟨rfl, rfl, rfl⟩ := hq
          refine za_look (h1 := h) (v1 := [(0, fs_c 76 10 b q), (76, rs_c 76 k vis), (77, rs_g w)]) rfl ?_
          iterate 4 refine za_step X rfl rfl rfl ?_
          exact zg_of (za_iret X rfl ⟨hs, hfr, Or.inl ⟨rfl, rfl, rfl⟩⟩ (Nat.le_of_ble_eq_true rfl) (Nat.le_of_ble_eq_true rfl))
        · have e1 : sp_decision (P, T, (k, f), b, q) (nI i) j = (1, 0, (P, T, (k, f), b, q)) := if_neg (by intro z; have z2 : j < wr_ct (f (nI i).toNatClampNeg) := z.2.2; rw [hci, hfi] at z2; exact q3 z2)
          rw [e1]
          exact zg_throw X hH hst hex rfl rfl rfl rfl ze_NSE (by decide) (Nat.le_of_ble_eq_true rfl) (Nat.le_of_ble_eq_true rfl) (Nat.le_of_ble_eq_true rfl) ⟨hs, hfr, Or.inr (Or.inl ⟨rfl, rfl, rfl⟩)⟩ (Nat.le_of_ble_eq_true rfl) (Nat.le_of_ble_eq_true rfl)
theorem rs_fa_le (f : Nat → wr_T) (T : tr_T) : ∀ (g i : Nat), rs_fa f T g i ≤ i + g := by
  intro g
  induction g with
  | zero => intro i; exact Nat.le_refl _
  | succ g ih =>
    intro i
    unfold rs_fa
    split
    · omega
    · have := ih (i + 1); omega
set_option maxHeartbeats 4000000 in
set_option maxRecDepth 100000 in
theorem c_F_match (l : Launch) (D : za_D) (h : za_H) (n : Nat) (hst : l.stackTraces = false) (σ : fs_T) (hσ : fs_at h σ) (x y : Int32) : zg_M l D (.code Y_F_match.1 Y_F_match.2.1 Y_F_match.2.2.1 Y_F_match.2.2.2) Y_F_match 6 1 6 [vR 0, vI x, vI y] h n (fs_ps "java/lang/IllegalArgumentException" "java/util/NoSuchElementException" h n (sp_match σ x y)) := by
  obtain ⟨P, T, S, b, q⟩ := σ
  have hσ0 := hσ
  obtain ⟨hok, hP, hT, hb1, hb4, ra, rb, hrr, hF, ⟨T8, h8⟩, ⟨w, hS⟩, wb, SD, hD⟩ := hσ
  obtain ⟨k, f⟩ := S
  rcases hrr with ⟨rfl, rfl⟩ | ⟨rfl, rfl⟩
  · have hv : za_ov h [(0, fs_c 10 76 b q)] = h := by rw [za_ov1, za_set_same hF]
    have hs : fs_at (za_ov h [(0, fs_c 10 76 b q)]) (P, T, (k, f), b, q) := by rw [hv]; exact hσ0
    have hfr : fs_fr h (za_ov h [(0, fs_c 10 76 b q)]) := by rw [hv]; exact fs_fr_rf h
    refine zg_enter cd_F_match fl_F (zg_Kcode Y_F_match) (by decide) cdok_F_match flok_F (Nat.le_of_ble_eq_true rfl) ?_
    intro p e s m args below meth c X hH hex
    refine za_view [(0, fs_c 10 76 b q)] (by simp [hF]) ?_
    iterate 3 refine za_step X rfl rfl rfl ?_
    refine za_callV X rfl cl_F_F_areInputs cy_F_areInputs cv_F_areInputs (c_F_areInputs l D (za_ov h [(0, fs_c 10 76 b q)]) n 10 76 b q rfl x y) rfl rfl rfl rfl (Nat.le_of_ble_eq_true rfl) (Nat.le_of_ble_eq_true rfl) (Nat.le_of_ble_eq_true rfl) (Nat.le_of_ble_eq_true rfl) (Nat.le_of_ble_eq_true rfl) (fun v h' n' hq => ?_)
    obtain ⟨rfl, rfl, rfl⟩ := hq
    refine za_look (h1 := h) (v1 := [(0, fs_c 10 76 b q)]) rfl ?_
    refine za_ifne X 17 rfl (by decide) (fun q1 => ?_) (fun q1 => ?_)
    · iterate 6 refine za_step X rfl rfl rfl ?_
      obtain ⟨r, pl, la, dn, vi, de, ct, en, ou, ed⟩ := T8
      refine za_callV (b := 8) (d := 4) (mc := 0) (ms := 0) (as := [vR 1, vI x, vI y]) (rest := []) X rfl cl_F_T_follow cy_T_follow cv_T_follow (c_T_follow l D (za_ov h [(0, fs_c 10 76 b q)]) n 8 (Or.inr rfl) (r, pl, la, dn, vi, de, ct, en, ou, ed) (by rw [hv]; exact h8) P (by rw [hv]; exact hP) hok x y) rfl rfl (show za_ov h _ 8 = _ from h8.1) rfl (Nat.le_of_ble_eq_true rfl) (Nat.le_of_ble_eq_true rfl) (Nat.le_of_ble_eq_true rfl) (Nat.le_of_ble_eq_true rfl) (Nat.le_of_ble_eq_true rfl) (fun v h' n' hq => ?_)
      obtain ⟨rfl, rfl, rfl⟩ := hq
      rw [hv, tr_run_eq]
      have hσ2 := fs_t8 hσ0 (tr_run0 P x y)
      generalize hT2 : tr_run0 P x y = T2 at hσ2
      generalize hh2 : tr_put h 8 T2 = h2 at hσ2
      have g8 : tr_at h2 8 T2 := by rw [← hh2]; exact tr_put_at _ _ _
      have goff : ∀ j, j ≠ 8 → j ≠ 9 → h2 j = h j := fun j a1 a2 => by rw [← hh2]; exact tr_put_ne a1 a2
      have g0 : h2 0 = some (fs_c 10 76 b q) := by rw [goff 0 (by omega) (by omega)]; exact hF
      have gS : rs_at h2 10 w (k, f) := rs_at_off hS (fun j a1 a2 => goff j (by omega) (by omega))
      have hk64 : k ≤ 64 := hS.2.2.2.2.2.2
      have gr : h2 10 = some (rs_c 10 k (rs_or f k)) := gS.1
      have gv : za_ov h2 [(0, fs_c 10 76 b q)] = h2 := by rw [za_ov1, za_set_same g0]
      have hs : fs_at (za_ov h2 [(0, fs_c 10 76 b q)]) (P, T, (k, f), b, q) := by rw [gv]; exact hσ2
      have hfr : fs_fr h (za_ov h2 [(0, fs_c 10 76 b q)]) := by rw [gv]; exact fun j hj => goff j (by omega) (by omega)
      refine za_view [(0, fs_c 10 76 b q)] (by simp [g0]) ?_
      iterate 4 refine za_step X rfl rfl rfl ?_
      refine za_callV (b := 10) (d := 1) (mc := 0) (ms := 0) (as := [vR 8]) (rest := []) X rfl cl_F_R_firstAgreeing cy_R_firstAgreeing cv_R_firstAgreeing (c_R_firstAgreeing l D (za_ov h2 [(0, fs_c 10 76 b q)]) n 10 (Or.inl rfl) w k f (by rw [gv]; exact gS) T2 (by rw [gv]; exact g8.1)) rfl rfl (show za_ov h2 _ 10 = _ from gr) rfl (Nat.le_of_ble_eq_true rfl) (Nat.le_of_ble_eq_true rfl) (Nat.le_of_ble_eq_true rfl) (Nat.le_of_ble_eq_true rfl) (Nat.le_of_ble_eq_true rfl) (fun v h' n' hq => ?_)
      obtain ⟨rfl, rfl, rfl⟩ := hq
      refine za_look (h1 := h2) (v1 := [(0, fs_c 10 76 b q)]) rfl ?_
      iterate 4 refine za_step X rfl rfl rfl ?_
      refine za_callV (b := 10) (d := 0) (mc := 0) (ms := 0) (as := [vI (nI (rs_fa f T2 k 0))]) (rest := []) X rfl cl_F_R_has cy_R_has cv_R_has (c_R_has l D (za_ov h2 [(0, fs_c 10 76 b q)]) n 10 (Or.inl rfl) k (rs_or f k) (by rw [gv]; exact gr) (nI (rs_fa f T2 k 0))) rfl rfl (show za_ov h2 _ 10 = _ from gr) rfl (Nat.le_of_ble_eq_true rfl) (Nat.le_of_ble_eq_true rfl) (Nat.le_of_ble_eq_true rfl) (Nat.le_of_ble_eq_true rfl) (Nat.le_of_ble_eq_true rfl) (fun v h' n' hq => ?_)
      obtain ⟨rfl, rfl, rfl⟩ := hq
      refine za_look (h1 := h2) (v1 := [(0, fs_c 10 76 b q)]) rfl ?_
      have hle := rs_fa_le f T2 k 0
      refine za_ifne X 61 rfl (by decide) (fun q2 => ?_) (fun q2 => ?_)
      · have hlt : rs_fa f T2 k 0 < k := rs_has_k hk64 (bI_n0 q2) (by omega)
        have e1 : sp_match (P, T, (k, f), b, q) x y = (0, nI (rs_fa f T2 k 0), (P, T, (k, f), b, q)) := by
          show (if in_ok b x y = true then (if rs_fa f (tr_run0 P x y) k 0 < k then (0, nI (rs_fa f (tr_run0 P x y) k 0), _) else _) else _) = _
          rw [if_pos (bI_n0 q1), hT2, if_pos hlt]
        rw [e1]
        iterate 1 refine za_step X rfl rfl rfl ?_
        exact zg_of (za_iret X rfl ⟨hs, hfr, Or.inl ⟨rfl, rfl, rfl⟩⟩ (Nat.le_of_ble_eq_true rfl) (Nat.le_of_ble_eq_true rfl))
      · have hlt : ¬ rs_fa f T2 k 0 < k := fun z => by have := rs_has_i hk64 z; rw [bI_0 q2] at this; cases this
        have e1 : sp_match (P, T, (k, f), b, q) x y = (2, 0, (P, T, (k, f), b, q)) := by
          show (if in_ok b x y = true then (if rs_fa f (tr_run0 P x y) k 0 < k then _ else (2, 0, _)) else _) = _
          rw [if_pos (bI_n0 q1), hT2, if_neg hlt]
        rw [e1]
        exact zg_throw X hH hst hex rfl rfl rfl rfl ze_NSE (by decide) (Nat.le_of_ble_eq_true rfl) (Nat.le_of_ble_eq_true rfl) (Nat.le_of_ble_eq_true rfl) ⟨hs, hfr, Or.inr (Or.inr ⟨rfl, rfl, rfl⟩)⟩ (Nat.le_of_ble_eq_true rfl) (Nat.le_of_ble_eq_true rfl)
    · have e1 : sp_match (P, T, (k, f), b, q) x y = (1, 0, (P, T, (k, f), b, q)) := if_neg (by rw [bI_0 q1]; decide)
      rw [e1]
      exact zg_throw X hH hst hex rfl rfl rfl rfl ze_IAE (by decide) (Nat.le_of_ble_eq_true rfl) (Nat.le_of_ble_eq_true rfl) (Nat.le_of_ble_eq_true rfl) ⟨hs, hfr, Or.inr (Or.inl ⟨rfl, rfl, rfl⟩)⟩ (Nat.le_of_ble_eq_true rfl) (Nat.le_of_ble_eq_true rfl)
  · have hv : za_ov h [(0, fs_c 76 10 b q)] = h := by rw [za_ov1, za_set_same hF]
    have hs : fs_at (za_ov h [(0, fs_c 76 10 b q)]) (P, T, (k, f), b, q) := by rw [hv]; exact hσ0
    have hfr : fs_fr h (za_ov h [(0, fs_c 76 10 b q)]) := by rw [hv]; exact fs_fr_rf h
    refine zg_enter cd_F_match fl_F (zg_Kcode Y_F_match) (by decide) cdok_F_match flok_F (Nat.le_of_ble_eq_true rfl) ?_
    intro p e s m args below meth c X hH hex
    refine za_view [(0, fs_c 76 10 b q)] (by simp [hF]) ?_
    iterate 3 refine za_step X rfl rfl rfl ?_
    refine za_callV X rfl cl_F_F_areInputs cy_F_areInputs cv_F_areInputs (c_F_areInputs l D (za_ov h [(0, fs_c 76 10 b q)]) n 76 10 b q rfl x y) rfl rfl rfl rfl (Nat.le_of_ble_eq_true rfl) (Nat.le_of_ble_eq_true rfl) (Nat.le_of_ble_eq_true rfl) (Nat.le_of_ble_eq_true rfl) (Nat.le_of_ble_eq_true rfl) (fun v h' n' hq => ?_)
    obtain ⟨rfl, rfl, rfl⟩ := hq
    refine za_look (h1 := h) (v1 := [(0, fs_c 76 10 b q)]) rfl ?_
    refine za_ifne X 17 rfl (by decide) (fun q1 => ?_) (fun q1 => ?_)
    · iterate 6 refine za_step X rfl rfl rfl ?_
      obtain ⟨r, pl, la, dn, vi, de, ct, en, ou, ed⟩ := T8
      refine za_callV (b := 8) (d := 4) (mc := 0) (ms := 0) (as := [vR 1, vI x, vI y]) (rest := []) X rfl cl_F_T_follow cy_T_follow cv_T_follow (c_T_follow l D (za_ov h [(0, fs_c 76 10 b q)]) n 8 (Or.inr rfl) (r, pl, la, dn, vi, de, ct, en, ou, ed) (by rw [hv]; exact h8) P (by rw [hv]; exact hP) hok x y) rfl rfl (show za_ov h _ 8 = _ from h8.1) rfl (Nat.le_of_ble_eq_true rfl) (Nat.le_of_ble_eq_true rfl) (Nat.le_of_ble_eq_true rfl) (Nat.le_of_ble_eq_true rfl) (Nat.le_of_ble_eq_true rfl) (fun v h' n' hq => ?_)
      obtain ⟨rfl, rfl, rfl⟩ := hq
      rw [hv, tr_run_eq]
      have hσ2 := fs_t8 hσ0 (tr_run0 P x y)
      generalize hT2 : tr_run0 P x y = T2 at hσ2
      generalize hh2 : tr_put h 8 T2 = h2 at hσ2
      have g8 : tr_at h2 8 T2 := by rw [← hh2]; exact tr_put_at _ _ _
      have goff : ∀ j, j ≠ 8 → j ≠ 9 → h2 j = h j := fun j a1 a2 => by rw [← hh2]; exact tr_put_ne a1 a2
      have g0 : h2 0 = some (fs_c 76 10 b q) := by rw [goff 0 (by omega) (by omega)]; exact hF
      have gS : rs_at h2 76 w (k, f) := rs_at_off hS (fun j a1 a2 => goff j (by omega) (by omega))
      have hk64 : k ≤ 64 := hS.2.2.2.2.2.2
      have gr : h2 76 = some (rs_c 76 k (rs_or f k)) := gS.1
      have gv : za_ov h2 [(0, fs_c 76 10 b q)] = h2 := by rw [za_ov1, za_set_same g0]
      have hs : fs_at (za_ov h2 [(0, fs_c 76 10 b q)]) (P, T, (k, f), b, q) := by rw [gv]; exact hσ2
      have hfr : fs_fr h (za_ov h2 [(0, fs_c 76 10 b q)]) := by rw [gv]; exact fun j hj => goff j (by omega) (by omega)
      refine za_view [(0, fs_c 76 10 b q)] (by simp [g0]) ?_
      iterate 4 refine za_step X rfl rfl rfl ?_
      refine za_callV (b := 76) (d := 1) (mc := 0) (ms := 0) (as := [vR 8]) (rest := []) X rfl cl_F_R_firstAgreeing cy_R_firstAgreeing cv_R_firstAgreeing (c_R_firstAgreeing l D (za_ov h2 [(0, fs_c 76 10 b q)]) n 76 (Or.inr rfl) w k f (by rw [gv]; exact gS) T2 (by rw [gv]; exact g8.1)) rfl rfl (show za_ov h2 _ 76 = _ from gr) rfl (Nat.le_of_ble_eq_true rfl) (Nat.le_of_ble_eq_true rfl) (Nat.le_of_ble_eq_true rfl) (Nat.le_of_ble_eq_true rfl) (Nat.le_of_ble_eq_true rfl) (fun v h' n' hq => ?_)
      obtain ⟨rfl, rfl, rfl⟩ := hq
      refine za_look (h1 := h2) (v1 := [(0, fs_c 76 10 b q)]) rfl ?_
      iterate 4 refine za_step X rfl rfl rfl ?_
      refine za_callV (b := 76) (d := 0) (mc := 0) (ms := 0) (as := [vI (nI (rs_fa f T2 k 0))]) (rest := []) X rfl cl_F_R_has cy_R_has cv_R_has (c_R_has l D (za_ov h2 [(0, fs_c 76 10 b q)]) n 76 (Or.inr rfl) k (rs_or f k) (by rw [gv]; exact gr) (nI (rs_fa f T2 k 0))) rfl rfl (show za_ov h2 _ 76 = _ from gr) rfl (Nat.le_of_ble_eq_true rfl) (Nat.le_of_ble_eq_true rfl) (Nat.le_of_ble_eq_true rfl) (Nat.le_of_ble_eq_true rfl) (Nat.le_of_ble_eq_true rfl) (fun v h' n' hq => ?_)
      obtain ⟨rfl, rfl, rfl⟩ := hq
      refine za_look (h1 := h2) (v1 := [(0, fs_c 76 10 b q)]) rfl ?_
      have hle := rs_fa_le f T2 k 0
      refine za_ifne X 61 rfl (by decide) (fun q2 => ?_) (fun q2 => ?_)
      · have hlt : rs_fa f T2 k 0 < k := rs_has_k hk64 (bI_n0 q2) (by omega)
        have e1 : sp_match (P, T, (k, f), b, q) x y = (0, nI (rs_fa f T2 k 0), (P, T, (k, f), b, q)) := by
          show (if in_ok b x y = true then (if rs_fa f (tr_run0 P x y) k 0 < k then (0, nI (rs_fa f (tr_run0 P x y) k 0), _) else _) else _) = _
          rw [if_pos (bI_n0 q1), hT2, if_pos hlt]
        rw [e1]
        iterate 1 refine za_step X rfl rfl rfl ?_
        exact zg_of (za_iret X rfl ⟨hs, hfr, Or.inl ⟨rfl, rfl, rfl⟩⟩ (Nat.le_of_ble_eq_true rfl) (Nat.le_of_ble_eq_true rfl))
      · have hlt : ¬ rs_fa f T2 k 0 < k := fun z => by have := rs_has_i hk64 z; rw [bI_0 q2] at this; cases this
        have e1 : sp_match (P, T, (k, f), b, q) x y = (2, 0, (P, T, (k, f), b, q)) := by
          show (if in_ok b x y = true then (if rs_fa f (tr_run0 P x y) k 0 < k then _ else (2, 0, _)) else _) = _
          rw [if_pos (bI_n0 q1), hT2, if_neg hlt]
        rw [e1]
        exact zg_throw X hH hst hex rfl rfl rfl rfl ze_NSE (by decide) (Nat.le_of_ble_eq_true rfl) (Nat.le_of_ble_eq_true rfl) (Nat.le_of_ble_eq_true rfl) ⟨hs, hfr, Or.inr (Or.inr ⟨rfl, rfl, rfl⟩)⟩ (Nat.le_of_ble_eq_true rfl) (Nat.le_of_ble_eq_true rfl)
    · have e1 : sp_match (P, T, (k, f), b, q) x y = (1, 0, (P, T, (k, f), b, q)) := if_neg (by rw [bI_0 q1]; decide)
      rw [e1]
      exact zg_throw X hH hst hex rfl rfl rfl rfl ze_IAE (by decide) (Nat.le_of_ble_eq_true rfl) (Nat.le_of_ble_eq_true rfl) (Nat.le_of_ble_eq_true rfl) ⟨hs, hfr, Or.inr (Or.inl ⟨rfl, rfl, rfl⟩)⟩ (Nat.le_of_ble_eq_true rfl) (Nat.le_of_ble_eq_true rfl)
set_option maxHeartbeats 4000000 in
set_option maxRecDepth 100000 in
theorem c_F_example (l : Launch) (D : za_D) (h : za_H) (n : Nat) (hst : l.stackTraces = false) (σ : fs_T) (hσ : fs_at h σ) (x : Int32) : zg_M l D (.code Y_F_example.1 Y_F_example.2.1 Y_F_example.2.2.1 Y_F_example.2.2.2) Y_F_example 6 1 6 [vR 0, vI x] h n (fs_ps "java/lang/IllegalArgumentException" "java/util/NoSuchElementException" h n (sp_example σ x)) := by
  obtain ⟨P, T, S, b, q⟩ := σ
  have hσ0 := hσ
  obtain ⟨hok, hP, hT, hb1, hb4, ra, rb, hrr, hF, ⟨T8, h8⟩, ⟨w, hS⟩, wb, SD, hD⟩ := hσ
  obtain ⟨k, f⟩ := S
  rcases hrr with ⟨rfl, rfl⟩ | ⟨rfl, rfl⟩
  · have hv : za_ov h [(0, fs_c 10 76 b q)] = h := by rw [za_ov1, za_set_same hF]
    have hs : fs_at (za_ov h [(0, fs_c 10 76 b q)]) (P, T, (k, f), b, q) := by rw [hv]; exact hσ0
    have hfr : fs_fr h (za_ov h [(0, fs_c 10 76 b q)]) := by rw [hv]; exact fs_fr_rf h
    have gr : h 10 = some (rs_c 10 k (rs_or f k)) := hS.1
    refine zg_enter cd_F_example fl_F (zg_Kcode Y_F_example) (by decide) cdok_F_example flok_F (Nat.le_of_ble_eq_true rfl) ?_
    intro p e s m args below meth c X hH hex
    refine za_view [(0, fs_c 10 76 b q)] (by simp [hF]) ?_
    iterate 1 refine za_step X rfl rfl rfl ?_
    refine za_iflt X 9 rfl (by decide) (fun q1 => ?_) (fun q1 => ?_)
    · have e1 : sp_example (P, T, (k, f), b, q) x = (1, 0, (P, T, (k, f), b, q)) := if_neg (fun z => absurd z.1 (Int32.not_le.mpr q1))
      rw [e1]
      exact zg_throw X hH hst hex rfl rfl rfl rfl ze_IAE (by decide) (Nat.le_of_ble_eq_true rfl) (Nat.le_of_ble_eq_true rfl) (Nat.le_of_ble_eq_true rfl) ⟨hs, hfr, Or.inr (Or.inl ⟨rfl, rfl, rfl⟩)⟩ (Nat.le_of_ble_eq_true rfl) (Nat.le_of_ble_eq_true rfl)
    · iterate 2 refine za_step X rfl rfl rfl ?_
      refine za_icle X 17 rfl (by decide) (fun q2 => ?_) (fun q2 => ?_)
      · have hc : 0 ≤ x ∧ x ≤ 3 := ⟨Int32.not_lt.mp q1, q2⟩
        iterate 3 refine za_step X rfl rfl rfl ?_
        refine za_callV (b := 10) (d := 1) (mc := 0) (ms := 0) (as := [vI x]) (rest := []) X rfl cl_F_R_leastInputs cy_R_leastInputs cv_R_leastInputs (c_R_leastInputs l D (za_ov h [(0, fs_c 10 76 b q)]) n 10 (Or.inl rfl) w k f (by rw [hv]; exact hS) x) rfl rfl (show za_ov h _ 10 = _ from gr) rfl (Nat.le_of_ble_eq_true rfl) (Nat.le_of_ble_eq_true rfl) (Nat.le_of_ble_eq_true rfl) (Nat.le_of_ble_eq_true rfl) (Nat.le_of_ble_eq_true rfl) (fun v h' n' hq => ?_)
        obtain ⟨rfl, rfl, rfl⟩ := hq
        refine za_look (h1 := h) (v1 := [(0, fs_c 10 76 b q)]) rfl ?_
        iterate 3 refine za_step X rfl rfl rfl ?_
        rw [show (Int16.ofInt 256).toInt32 = 256 from by decide]
        refine za_icne X 41 rfl (by decide) (fun q3 => ?_) (fun q3 => ?_)
        · have e1 : sp_example (P, T, (k, f), b, q) x = (0, rs_li f x k 0 256, (P, T, (k, f), b, q)) := by
            show (if 0 ≤ x ∧ x ≤ 3 then (if rs_li f x k 0 256 = 256 then _ else (0, rs_li f x k 0 256, _)) else _) = _
            rw [if_pos hc, if_neg q3]
          rw [e1]
          iterate 1 refine za_step X rfl rfl rfl ?_
          exact zg_of (za_iret X rfl ⟨hs, hfr, Or.inl ⟨rfl, rfl, rfl⟩⟩ (Nat.le_of_ble_eq_true rfl) (Nat.le_of_ble_eq_true rfl))
        · have e1 : sp_example (P, T, (k, f), b, q) x = (2, 0, (P, T, (k, f), b, q)) := by
            show (if 0 ≤ x ∧ x ≤ 3 then (if rs_li f x k 0 256 = 256 then (2, 0, _) else _) else _) = _
            rw [if_pos hc, if_pos q3]
          rw [e1]
          exact zg_throw X hH hst hex rfl rfl rfl rfl ze_NSE (by decide) (Nat.le_of_ble_eq_true rfl) (Nat.le_of_ble_eq_true rfl) (Nat.le_of_ble_eq_true rfl) ⟨hs, hfr, Or.inr (Or.inr ⟨rfl, rfl, rfl⟩)⟩ (Nat.le_of_ble_eq_true rfl) (Nat.le_of_ble_eq_true rfl)
      · have e1 : sp_example (P, T, (k, f), b, q) x = (1, 0, (P, T, (k, f), b, q)) := if_neg (fun z => q2 z.2)
        rw [e1]
        exact zg_throw X hH hst hex rfl rfl rfl rfl ze_IAE (by decide) (Nat.le_of_ble_eq_true rfl) (Nat.le_of_ble_eq_true rfl) (Nat.le_of_ble_eq_true rfl) ⟨hs, hfr, Or.inr (Or.inl ⟨rfl, rfl, rfl⟩)⟩ (Nat.le_of_ble_eq_true rfl) (Nat.le_of_ble_eq_true rfl)
  · have hv : za_ov h [(0, fs_c 76 10 b q)] = h := by rw [za_ov1, za_set_same hF]
    have hs : fs_at (za_ov h [(0, fs_c 76 10 b q)]) (P, T, (k, f), b, q) := by rw [hv]; exact hσ0
    have hfr : fs_fr h (za_ov h [(0, fs_c 76 10 b q)]) := by rw [hv]; exact fs_fr_rf h
    have gr : h 76 = some (rs_c 76 k (rs_or f k)) := hS.1
    refine zg_enter cd_F_example fl_F (zg_Kcode Y_F_example) (by decide) cdok_F_example flok_F (Nat.le_of_ble_eq_true rfl) ?_
    intro p e s m args below meth c X hH hex
    refine za_view [(0, fs_c 76 10 b q)] (by simp [hF]) ?_
    iterate 1 refine za_step X rfl rfl rfl ?_
    refine za_iflt X 9 rfl (by decide) (fun q1 => ?_) (fun q1 => ?_)
    · have e1 : sp_example (P, T, (k, f), b, q) x = (1, 0, (P, T, (k, f), b, q)) := if_neg (fun z => absurd z.1 (Int32.not_le.mpr q1))
      rw [e1]
      exact zg_throw X hH hst hex rfl rfl rfl rfl ze_IAE (by decide) (Nat.le_of_ble_eq_true rfl) (Nat.le_of_ble_eq_true rfl) (Nat.le_of_ble_eq_true rfl) ⟨hs, hfr, Or.inr (Or.inl ⟨rfl, rfl, rfl⟩)⟩ (Nat.le_of_ble_eq_true rfl) (Nat.le_of_ble_eq_true rfl)
    · iterate 2 refine za_step X rfl rfl rfl ?_
      refine za_icle X 17 rfl (by decide) (fun q2 => ?_) (fun q2 => ?_)
      · have hc : 0 ≤ x ∧ x ≤ 3 := ⟨Int32.not_lt.mp q1, q2⟩
        iterate 3 refine za_step X rfl rfl rfl ?_
        refine za_callV (b := 76) (d := 1) (mc := 0) (ms := 0) (as := [vI x]) (rest := []) X rfl cl_F_R_leastInputs cy_R_leastInputs cv_R_leastInputs (c_R_leastInputs l D (za_ov h [(0, fs_c 76 10 b q)]) n 76 (Or.inr rfl) w k f (by rw [hv]; exact hS) x) rfl rfl (show za_ov h _ 76 = _ from gr) rfl (Nat.le_of_ble_eq_true rfl) (Nat.le_of_ble_eq_true rfl) (Nat.le_of_ble_eq_true rfl) (Nat.le_of_ble_eq_true rfl) (Nat.le_of_ble_eq_true rfl) (fun v h' n' hq => ?_)
        obtain ⟨rfl, rfl, rfl⟩ := hq
        refine za_look (h1 := h) (v1 := [(0, fs_c 76 10 b q)]) rfl ?_
        iterate 3 refine za_step X rfl rfl rfl ?_
        rw [show (Int16.ofInt 256).toInt32 = 256 from by decide]
        refine za_icne X 41 rfl (by decide) (fun q3 => ?_) (fun q3 => ?_)
        · have e1 : sp_example (P, T, (k, f), b, q) x = (0, rs_li f x k 0 256, (P, T, (k, f), b, q)) := by
            show (if 0 ≤ x ∧ x ≤ 3 then (if rs_li f x k 0 256 = 256 then _ else (0, rs_li f x k 0 256, _)) else _) = _
            rw [if_pos hc, if_neg q3]
          rw [e1]
          iterate 1 refine za_step X rfl rfl rfl ?_
          exact zg_of (za_iret X rfl ⟨hs, hfr, Or.inl ⟨rfl, rfl, rfl⟩⟩ (Nat.le_of_ble_eq_true rfl) (Nat.le_of_ble_eq_true rfl))
        · have e1 : sp_example (P, T, (k, f), b, q) x = (2, 0, (P, T, (k, f), b, q)) := by
            show (if 0 ≤ x ∧ x ≤ 3 then (if rs_li f x k 0 256 = 256 then (2, 0, _) else _) else _) = _
            rw [if_pos hc, if_pos q3]
          rw [e1]
          exact zg_throw X hH hst hex rfl rfl rfl rfl ze_NSE (by decide) (Nat.le_of_ble_eq_true rfl) (Nat.le_of_ble_eq_true rfl) (Nat.le_of_ble_eq_true rfl) ⟨hs, hfr, Or.inr (Or.inr ⟨rfl, rfl, rfl⟩)⟩ (Nat.le_of_ble_eq_true rfl) (Nat.le_of_ble_eq_true rfl)
      · have e1 : sp_example (P, T, (k, f), b, q) x = (1, 0, (P, T, (k, f), b, q)) := if_neg (fun z => q2 z.2)
        rw [e1]
        exact zg_throw X hH hst hex rfl rfl rfl rfl ze_IAE (by decide) (Nat.le_of_ble_eq_true rfl) (Nat.le_of_ble_eq_true rfl) (Nat.le_of_ble_eq_true rfl) ⟨hs, hfr, Or.inr (Or.inl ⟨rfl, rfl, rfl⟩)⟩ (Nat.le_of_ble_eq_true rfl) (Nat.le_of_ble_eq_true rfl)
set_option maxHeartbeats 4000000 in
set_option maxRecDepth 100000 in
theorem c_F_count (l : Launch) (D : za_D) (h : za_H) (n : Nat) (hst : l.stackTraces = false) (σ : fs_T) (hσ : fs_at h σ) (x : Int32) : zg_M l D (.code Y_F_count.1 Y_F_count.2.1 Y_F_count.2.2.1 Y_F_count.2.2.2) Y_F_count 6 1 6 [vR 0, vI x] h n (fs_ps "java/lang/IllegalArgumentException" "java/lang/IllegalArgumentException" h n (sp_count σ x)) := by
  obtain ⟨P, T, S, b, q⟩ := σ
  have hσ0 := hσ
  obtain ⟨hok, hP, hT, hb1, hb4, ra, rb, hrr, hF, ⟨T8, h8⟩, ⟨w, hS⟩, wb, SD, hD⟩ := hσ
  obtain ⟨oo, aa, bb, cc0, pn⟩ := P
  obtain ⟨k, f⟩ := S
  rcases hrr with ⟨rfl, rfl⟩ | ⟨rfl, rfl⟩
  · have hr : h 10 = some (rs_c 10 k (rs_or f k)) := hS.1
    generalize rs_or f k = vis at hr
    have hv : za_ov h [(0, fs_c 10 76 b q), (10, rs_c 10 k vis), (1, pr_c pn)] = h := by rw [za_ov3, za_set_same hP.1, za_set_same hr, za_set_same hF]
    have hs : fs_at (za_ov h [(0, fs_c 10 76 b q), (10, rs_c 10 k vis), (1, pr_c pn)]) ((oo, aa, bb, cc0, pn), T, (k, f), b, q) := by rw [hv]; exact hσ0
    have hfr : fs_fr h (za_ov h [(0, fs_c 10 76 b q), (10, rs_c 10 k vis), (1, pr_c pn)]) := by rw [hv]; exact fs_fr_rf h
    refine zg_enter cd_F_count fl_F (zg_Kcode Y_F_count) (by decide) cdok_F_count flok_F (Nat.le_of_ble_eq_true rfl) ?_
    intro p e s m args below meth c X hH hex
    refine za_view [(0, fs_c 10 76 b q), (10, rs_c 10 k vis), (1, pr_c pn)] (by simp [hF, hr, hP.1]) ?_
    iterate 1 refine za_step X rfl rfl rfl ?_
    by_cases x0 : x = 0
    · subst x0
      have e1 : sp_count ((oo, aa, bb, cc0, pn), T, (k, f), b, q) 0 = (0, nI pn, ((oo, aa, bb, cc0, pn), T, (k, f), b, q)) := by simp [sp_count]
      rw [e1]
      refine za_tsw X 0 32 rfl (by decide) (by decide) (by decide) rfl (by decide) ?_
      iterate 3 refine za_step X rfl rfl rfl ?_
      exact zg_of (za_iret X rfl ⟨hs, hfr, Or.inl ⟨rfl, rfl, rfl⟩⟩ (Nat.le_of_ble_eq_true rfl) (Nat.le_of_ble_eq_true rfl))
    by_cases x1 : x = 1
    · subst x1
      have e1 : sp_count ((oo, aa, bb, cc0, pn), T, (k, f), b, q) 1 = (0, nI b, ((oo, aa, bb, cc0, pn), T, (k, f), b, q)) := by simp [sp_count]
      rw [e1]
      refine za_tsw X 1 40 rfl (by decide) (by decide) (by decide) rfl (by decide) ?_
      iterate 2 refine za_step X rfl rfl rfl ?_
      exact zg_of (za_iret X rfl ⟨hs, hfr, Or.inl ⟨rfl, rfl, rfl⟩⟩ (Nat.le_of_ble_eq_true rfl) (Nat.le_of_ble_eq_true rfl))
    by_cases x2 : x = 2
    · subst x2
      have e1 : sp_count ((oo, aa, bb, cc0, pn), T, (k, f), b, q) 2 = (0, nI k, ((oo, aa, bb, cc0, pn), T, (k, f), b, q)) := by simp [sp_count]
      rw [e1]
      refine za_tsw X 2 45 rfl (by decide) (by decide) (by decide) rfl (by decide) ?_
      iterate 3 refine za_step X rfl rfl rfl ?_
      exact zg_of (za_iret X rfl ⟨hs, hfr, Or.inl ⟨rfl, rfl, rfl⟩⟩ (Nat.le_of_ble_eq_true rfl) (Nat.le_of_ble_eq_true rfl))
    by_cases x3 : x = 3
    · subst x3
      have e1 : sp_count ((oo, aa, bb, cc0, pn), T, (k, f), b, q) 3 = (0, q, ((oo, aa, bb, cc0, pn), T, (k, f), b, q)) := by simp [sp_count]
      rw [e1]
      refine za_tsw X 3 53 rfl (by decide) (by decide) (by decide) rfl (by decide) ?_
      iterate 2 refine za_step X rfl rfl rfl ?_
      exact zg_of (za_iret X rfl ⟨hs, hfr, Or.inl ⟨rfl, rfl, rfl⟩⟩ (Nat.le_of_ble_eq_true rfl) (Nat.le_of_ble_eq_true rfl))
    have e1 : sp_count ((oo, aa, bb, cc0, pn), T, (k, f), b, q) x = (1, 0, ((oo, aa, bb, cc0, pn), T, (k, f), b, q)) := by simp [sp_count, x0, x1, x2, x3]
    refine za_tsd X 58 rfl (ts_o (hi := 3) (fun i h1 h2 => by rcases (show i = 0 ∨ i = 1 ∨ i = 2 ∨ i = 3 by omega) with rfl | rfl | rfl | rfl <;> first | exact x0 | exact x1 | exact x2 | exact x3)) (by decide) ?_
    rw [e1]
    exact zg_throw X hH hst hex rfl rfl rfl rfl ze_IAE (by decide) (Nat.le_of_ble_eq_true rfl) (Nat.le_of_ble_eq_true rfl) (Nat.le_of_ble_eq_true rfl) ⟨hs, hfr, Or.inr (Or.inl ⟨rfl, rfl, rfl⟩)⟩ (Nat.le_of_ble_eq_true rfl) (Nat.le_of_ble_eq_true rfl)
  · have hr : h 76 = some (rs_c 76 k (rs_or f k)) := hS.1
    generalize rs_or f k = vis at hr
    have hv : za_ov h [(0, fs_c 76 10 b q), (76, rs_c 76 k vis), (1, pr_c pn)] = h := by rw [za_ov3, za_set_same hP.1, za_set_same hr, za_set_same hF]
    have hs : fs_at (za_ov h [(0, fs_c 76 10 b q), (76, rs_c 76 k vis), (1, pr_c pn)]) ((oo, aa, bb, cc0, pn), T, (k, f), b, q) := by rw [hv]; exact hσ0
    have hfr : fs_fr h (za_ov h [(0, fs_c 76 10 b q), (76, rs_c 76 k vis), (1, pr_c pn)]) := by rw [hv]; exact fs_fr_rf h
    refine zg_enter cd_F_count fl_F (zg_Kcode Y_F_count) (by decide) cdok_F_count flok_F (Nat.le_of_ble_eq_true rfl) ?_
    intro p e s m args below meth c X hH hex
    refine za_view [(0, fs_c 76 10 b q), (76, rs_c 76 k vis), (1, pr_c pn)] (by simp [hF, hr, hP.1]) ?_
    iterate 1 refine za_step X rfl rfl rfl ?_
    by_cases x0 : x = 0
    · subst x0
      have e1 : sp_count ((oo, aa, bb, cc0, pn), T, (k, f), b, q) 0 = (0, nI pn, ((oo, aa, bb, cc0, pn), T, (k, f), b, q)) := by simp [sp_count]
      rw [e1]
      refine za_tsw X 0 32 rfl (by decide) (by decide) (by decide) rfl (by decide) ?_
      iterate 3 refine za_step X rfl rfl rfl ?_
      exact zg_of (za_iret X rfl ⟨hs, hfr, Or.inl ⟨rfl, rfl, rfl⟩⟩ (Nat.le_of_ble_eq_true rfl) (Nat.le_of_ble_eq_true rfl))
    by_cases x1 : x = 1
    · subst x1
      have e1 : sp_count ((oo, aa, bb, cc0, pn), T, (k, f), b, q) 1 = (0, nI b, ((oo, aa, bb, cc0, pn), T, (k, f), b, q)) := by simp [sp_count]
      rw [e1]
      refine za_tsw X 1 40 rfl (by decide) (by decide) (by decide) rfl (by decide) ?_
      iterate 2 refine za_step X rfl rfl rfl ?_
      exact zg_of (za_iret X rfl ⟨hs, hfr, Or.inl ⟨rfl, rfl, rfl⟩⟩ (Nat.le_of_ble_eq_true rfl) (Nat.le_of_ble_eq_true rfl))
    by_cases x2 : x = 2
    · subst x2
      have e1 : sp_count ((oo, aa, bb, cc0, pn), T, (k, f), b, q) 2 = (0, nI k, ((oo, aa, bb, cc0, pn), T, (k, f), b, q)) := by simp [sp_count]
      rw [e1]
      refine za_tsw X 2 45 rfl (by decide) (by decide) (by decide) rfl (by decide) ?_
      iterate 3 refine za_step X rfl rfl rfl ?_
      exact zg_of (za_iret X rfl ⟨hs, hfr, Or.inl ⟨rfl, rfl, rfl⟩⟩ (Nat.le_of_ble_eq_true rfl) (Nat.le_of_ble_eq_true rfl))
    by_cases x3 : x = 3
    · subst x3
      have e1 : sp_count ((oo, aa, bb, cc0, pn), T, (k, f), b, q) 3 = (0, q, ((oo, aa, bb, cc0, pn), T, (k, f), b, q)) := by simp [sp_count]
      rw [e1]
      refine za_tsw X 3 53 rfl (by decide) (by decide) (by decide) rfl (by decide) ?_
      iterate 2 refine za_step X rfl rfl rfl ?_
      exact zg_of (za_iret X rfl ⟨hs, hfr, Or.inl ⟨rfl, rfl, rfl⟩⟩ (Nat.le_of_ble_eq_true rfl) (Nat.le_of_ble_eq_true rfl))
    have e1 : sp_count ((oo, aa, bb, cc0, pn), T, (k, f), b, q) x = (1, 0, ((oo, aa, bb, cc0, pn), T, (k, f), b, q)) := by simp [sp_count, x0, x1, x2, x3]
    refine za_tsd X 58 rfl (ts_o (hi := 3) (fun i h1 h2 => by rcases (show i = 0 ∨ i = 1 ∨ i = 2 ∨ i = 3 by omega) with rfl | rfl | rfl | rfl <;> first | exact x0 | exact x1 | exact x2 | exact x3)) (by decide) ?_
    rw [e1]
    exact zg_throw X hH hst hex rfl rfl rfl rfl ze_IAE (by decide) (Nat.le_of_ble_eq_true rfl) (Nat.le_of_ble_eq_true rfl) (Nat.le_of_ble_eq_true rfl) ⟨hs, hfr, Or.inr (Or.inl ⟨rfl, rfl, rfl⟩)⟩ (Nat.le_of_ble_eq_true rfl) (Nat.le_of_ble_eq_true rfl)
set_option maxHeartbeats 4000000 in
set_option maxRecDepth 100000 in
theorem c_F_covered (l : Launch) (D : za_D) (h : za_H) (n : Nat) (σ : fs_T) (hσ : fs_at h σ) : za_M l D Y_F_covered 6 0 0 [vR 0] h n (fun v h' n' => v = some (vI (rs_or σ.2.2.1.2 σ.2.2.1.1)) ∧ h' = h ∧ n = n') := by
  obtain ⟨P, T, S, b, q⟩ := σ
  obtain ⟨hok, hP, hT, hb1, hb4, ra, rb, hrr, hF, ⟨T8, h8⟩, ⟨w, hS⟩, wb, SD, hD⟩ := hσ
  obtain ⟨k, f⟩ := S
  show za_M l D Y_F_covered 6 0 0 [vR 0] h n (fun v h' n' => v = some (vI (rs_or f k)) ∧ h' = h ∧ n = n')
  rcases hrr with ⟨rfl, rfl⟩ | ⟨rfl, rfl⟩
  · have hr : h 10 = some (rs_c 10 k (rs_or f k)) := hS.1
    generalize rs_or f k = vis at *
    have hv : za_ov h [(0, fs_c 10 76 b q), (10, rs_c 10 k vis)] = h := by rw [za_ov2, za_set_same hr, za_set_same hF]
    refine za_enter cd_F_covered fl_F (by decide) cdok_F_covered flok_F (Nat.le_of_ble_eq_true rfl) ?_
    intro p e s m args below meth c X hnm
    refine za_view [(0, fs_c 10 76 b q), (10, rs_c 10 k vis)] (by simp [hF, hr]) ?_
    iterate 3 refine za_step X rfl rfl rfl ?_
    exact za_iret X rfl ⟨rfl, hv, rfl⟩ (Nat.le_refl _) (Nat.le_refl _)
  · have hr : h 76 = some (rs_c 76 k (rs_or f k)) := hS.1
    generalize rs_or f k = vis at *
    have hv : za_ov h [(0, fs_c 76 10 b q), (76, rs_c 76 k vis)] = h := by rw [za_ov2, za_set_same hr, za_set_same hF]
    refine za_enter cd_F_covered fl_F (by decide) cdok_F_covered flok_F (Nat.le_of_ble_eq_true rfl) ?_
    intro p e s m args below meth c X hnm
    refine za_view [(0, fs_c 76 10 b q), (76, rs_c 76 k vis)] (by simp [hF, hr]) ?_
    iterate 3 refine za_step X rfl rfl rfl ?_
    exact za_iret X rfl ⟨rfl, hv, rfl⟩ (Nat.le_refl _) (Nat.le_refl _)
