set_option maxHeartbeats 4000000 in
set_option maxRecDepth 100000 in
theorem c_W_set (l : Launch) (D : za_D) (h : za_H) (n : Nat) (w : Nat) (hw8 : 8 ≠ w) (q : wr_T) (hq : h w = some (wr_c q)) (T : tr_T) (hT : h 8 = some (tr_c 8 T)) (x y : Int32) : za_M l D Y_W_set 0 0 0 [vR w, vR 8, vI x, vI y] h n (fun v h' n' => v = none ∧ h' = za_set h w (wr_c (wr_of T x y)) ∧ n = n') := by
  obtain ⟨r, pl, la, dn, vi, de, ct, en, ou, ed⟩ := T
  obtain ⟨qx, qy, qo, qe, qd, qc, qv⟩ := q
  refine za_enter cd_W_set fl_W (by decide) cdok_W_set flok_W (Nat.le_of_ble_eq_true rfl) ?_
  intro p e s m args below meth c X hnm
  refine za_view [(8, tr_c 8 (r, pl, la, dn, vi, de, ct, en, ou, ed)), (w, .inr (zn_W, [vI qx, vI qy, vI qo, vI qe, vL qd, vI qc]))] (by simp [hT, show h w = _ from hq, wr_c]) ?_
  iterate 2 refine za_step X rfl rfl rfl ?_
  refine za_putV X [(8, tr_c 8 (r, pl, la, dn, vi, de, ct, en, ou, ed)), (w, .inr (zn_W, [vI x, vI qy, vI qo, vI qe, vL qd, vI qc]))] rfl (za_ov_sat hw8) rfl rfl rfl (Nat.le_of_ble_eq_true rfl) (za_ov_sec hw8) ?_
  iterate 2 refine za_step X rfl rfl rfl ?_
  refine za_putV X [(8, tr_c 8 (r, pl, la, dn, vi, de, ct, en, ou, ed)), (w, .inr (zn_W, [vI x, vI y, vI qo, vI qe, vL qd, vI qc]))] rfl (za_ov_sat hw8) rfl rfl rfl (Nat.le_of_ble_eq_true rfl) (za_ov_sec hw8) ?_
  iterate 3 refine za_step X rfl rfl rfl ?_
  refine za_putV X [(8, tr_c 8 (r, pl, la, dn, vi, de, ct, en, ou, ed)), (w, .inr (zn_W, [vI x, vI y, vI ou, vI qe, vL qd, vI qc]))] rfl (za_ov_sat hw8) rfl rfl rfl (Nat.le_of_ble_eq_true rfl) (za_ov_sec hw8) ?_
  iterate 3 refine za_step X rfl rfl rfl ?_
  refine za_putV X [(8, tr_c 8 (r, pl, la, dn, vi, de, ct, en, ou, ed)), (w, .inr (zn_W, [vI x, vI y, vI ou, vI ed, vL qd, vI qc]))] rfl (za_ov_sat hw8) rfl rfl rfl (Nat.le_of_ble_eq_true rfl) (za_ov_sec hw8) ?_
  iterate 3 refine za_step X rfl rfl rfl ?_
  refine za_putV X [(8, tr_c 8 (r, pl, la, dn, vi, de, ct, en, ou, ed)), (w, .inr (zn_W, [vI x, vI y, vI ou, vI ed, vL de, vI qc]))] rfl (za_ov_sat hw8) rfl rfl rfl (Nat.le_of_ble_eq_true rfl) (za_ov_sec hw8) ?_
  iterate 3 refine za_step X rfl rfl rfl ?_
  refine za_putV X [(8, tr_c 8 (r, pl, la, dn, vi, de, ct, en, ou, ed)), (w, .inr (zn_W, [vI x, vI y, vI ou, vI ed, vL de, vI ct]))] rfl (za_ov_sat hw8) rfl rfl rfl (Nat.le_of_ble_eq_true rfl) (za_ov_sec hw8) ?_
  exact za_vret X rfl ⟨rfl, by
    rw [za_ov2]
    exact za_set_same (by rw [za_set_ne hw8]; exact hT), rfl⟩ (Nat.le_refl _) (Nat.le_refl _)
theorem ov_1 {h : za_H} {a j : Nat} {c : za_C} (e : a ≠ j) : za_ov h [(a, c)] j = h j := by
  rw [za_ov1, za_set_ne (Ne.symm e)]
set_option maxHeartbeats 4000000 in
set_option maxRecDepth 100000 in
theorem c_W_agreesWith (l : Launch) (D : za_D) (h : za_H) (n : Nat) (w : Nat) (hw8 : 8 ≠ w) (q : wr_T) (hq : h w = some (wr_c q)) (T : tr_T) (hT : h 8 = some (tr_c 8 T)) : za_M l D Y_W_agreesWith 0 0 0 [vR w, vR 8] h n (fun v h' n' => v = some (vI (bI (wr_ag q T))) ∧ h' = h ∧ n = n') := by
  obtain ⟨r, pl, la, dn, vi, de, ct, en, ou, ed⟩ := T
  obtain ⟨qx, qy, qo, qe, qd, qc, qv⟩ := q
  refine za_enter cd_W_agreesWith fl_W (by decide) cdok_W_agreesWith flok_W (Nat.le_of_ble_eq_true rfl) ?_
  intro p e s m args below meth c X hnm
  have k40 : (Int8.ofInt 40).toInt32 = 40 := by decide
  have hfin : za_ov h [(8, tr_c 8 (r, pl, la, dn, vi, de, ct, en, ou, ed))] = h := by rw [za_ov1, za_set_same hT]
  have hw : za_ov h [(8, tr_c 8 (r, pl, la, dn, vi, de, ct, en, ou, ed))] w = some (.inr (zn_W, [vI qx, vI qy, vI qo, vI qe, vL qd, vI qc])) := by rw [ov_1 hw8]; exact hq
  refine za_view [(8, tr_c 8 (r, pl, la, dn, vi, de, ct, en, ou, ed))] (by simp [hT]) ?_
  iterate 6 refine za_step X rfl rfl rfl ?_
  refine za_getH X rfl hw rfl rfl ?_
  iterate 2 refine za_step X rfl rfl rfl ?_
  refine za_iclt X 39 rfl (by decide) (fun q1 => ?_) (fun q1 => ?_)
  · iterate 1 refine za_step X rfl rfl rfl ?_
    exact za_zret X rfl (Or.inl rfl) ⟨by
      have e1 : wr_ag (qx, qy, qo, qe, qd, qc, qv) (r, pl, la, dn, vi, de, ct, en, ou, ed) = false := by
        have : ¬ ¬ qc < ct := fun z => z q1
        simp [wr_ag, wr_ct, tr_ct, q1]
      rw [e1]; rfl, hfin, rfl⟩ (Nat.le_refl _) (Nat.le_refl _)
  · iterate 1 refine za_step X rfl rfl rfl ?_
    refine za_getH X rfl hw rfl rfl ?_
    iterate 7 refine za_step X rfl rfl rfl ?_
    refine za_ifne X 39 rfl (by decide) (fun q2 => ?_) (fun q2 => ?_)
    · iterate 1 refine za_step X rfl rfl rfl ?_
      rw [k40] at q2
      have q3 : ¬ qd >>> ((40 - ct).toInt64 &&& 63) = de >>> ((40 - ct).toInt64 &&& 63) := fun z => q2 (lg_0.mpr z)
      exact za_zret X rfl (Or.inl rfl) ⟨by
        have e1 : wr_ag (qx, qy, qo, qe, qd, qc, qv) (r, pl, la, dn, vi, de, ct, en, ou, ed) = false := by
          simp [wr_ag, wr_ct, tr_ct, wr_de, tr_de, q3]
        rw [e1]; rfl, hfin, rfl⟩ (Nat.le_refl _) (Nat.le_refl _)
    · iterate 2 refine za_step X rfl rfl rfl ?_
      rw [k40] at q2
      have q3 : qd >>> ((40 - ct).toInt64 &&& 63) = de >>> ((40 - ct).toInt64 &&& 63) := lg_0.mp q2
      exact za_zret X rfl (Or.inr rfl) ⟨by
        have e1 : wr_ag (qx, qy, qo, qe, qd, qc, qv) (r, pl, la, dn, vi, de, ct, en, ou, ed) = true := by
          simp [wr_ag, wr_ct, tr_ct, wr_de, tr_de, q1, q3]
        rw [e1]; rfl, hfin, rfl⟩ (Nat.le_refl _) (Nat.le_refl _)
set_option maxHeartbeats 4000000 in
set_option maxRecDepth 100000 in
theorem c_R_empty (l : Launch) (D : za_D) (h : za_H) (n : Nat) (rid : Nat) (hrid : rid = 10 ∨ rid = 76) (k : Nat) (vis : Int32) (hr : h rid = some (rs_c rid k vis)) : za_M l D Y_R_empty 0 0 0 [vR rid] h n (fun v h' n' => v = none ∧ h' = za_set h rid (rs_c rid 0 0) ∧ n = n') := by
  rcases hrid with rfl | rfl
  · refine za_enter cd_R_empty fl_R (by decide) cdok_R_empty flok_R (Nat.le_of_ble_eq_true rfl) ?_
    intro p e s m args below meth c X hnm
    refine za_view [(10, rs_c 10 k vis)] (by simp [hr]) ?_
    iterate 6 refine za_step X rfl rfl rfl ?_
    exact za_vret X rfl ⟨rfl, za_ov1 h 10 (rs_c 10 0 0), rfl⟩ (Nat.le_refl _) (Nat.le_refl _)
  · refine za_enter cd_R_empty fl_R (by decide) cdok_R_empty flok_R (Nat.le_of_ble_eq_true rfl) ?_
    intro p e s m args below meth c X hnm
    refine za_view [(76, rs_c 76 k vis)] (by simp [hr]) ?_
    iterate 6 refine za_step X rfl rfl rfl ?_
    exact za_vret X rfl ⟨rfl, za_ov1 h 76 (rs_c 76 0 0), rfl⟩ (Nat.le_refl _) (Nat.le_refl _)
def rs_has (k : Nat) (x : Int32) : Bool := decide (0 ≤ x) && decide (x < nI k)
theorem rh_f1 {k : Nat} {x : Int32} (h : x < 0) : rs_has k x = false := by
  have : ¬ 0 ≤ x := Int32.not_le.mpr h
  simp [rs_has, this]
theorem rh_f2 {k : Nat} {x : Int32} (h : nI k ≤ x) : rs_has k x = false := by
  have : ¬ x < nI k := Int32.not_lt.mpr h
  simp [rs_has, this]
theorem rh_t {k : Nat} {x : Int32} (h1 : ¬ x < 0) (h2 : ¬ nI k ≤ x) : rs_has k x = true := by
  have a : 0 ≤ x := Int32.not_lt.mp h1
  have b : x < nI k := Int32.not_le.mp h2
  simp [rs_has, a, b]
set_option maxHeartbeats 4000000 in
set_option maxRecDepth 100000 in
theorem c_R_has (l : Launch) (D : za_D) (h : za_H) (n : Nat) (rid : Nat) (hrid : rid = 10 ∨ rid = 76) (k : Nat) (vis : Int32) (hr : h rid = some (rs_c rid k vis)) (x : Int32) : za_M l D Y_R_has 0 0 0 [vR rid, vI x] h n (fun v h' n' => v = some (vI (bI (rs_has k x))) ∧ h' = h ∧ n = n') := by
  rcases hrid with rfl | rfl
  · refine za_enter cd_R_has fl_R (by decide) cdok_R_has flok_R (Nat.le_of_ble_eq_true rfl) ?_
    intro p e s m args below meth c X hnm
    refine za_view [(10, rs_c 10 k vis)] (by simp [hr]) ?_
    have hfin : za_ov h [(10, rs_c 10 k vis)] = h := by rw [za_ov1, za_set_same hr]
    iterate 1 refine za_step X rfl rfl rfl ?_
    refine za_iflt X 16 rfl (by decide) (fun h1 => ?_) (fun h1 => ?_)
    · iterate 1 refine za_step X rfl rfl rfl ?_
      exact za_zret X rfl (Or.inl rfl) ⟨by rw [rh_f1 h1]; rfl, hfin, rfl⟩ (Nat.le_refl _) (Nat.le_refl _)
    · iterate 3 refine za_step X rfl rfl rfl ?_
      refine za_icge X 16 rfl (by decide) (fun h2 => ?_) (fun h2 => ?_)
      · iterate 1 refine za_step X rfl rfl rfl ?_
        exact za_zret X rfl (Or.inl rfl) ⟨by rw [rh_f2 h2]; rfl, hfin, rfl⟩ (Nat.le_refl _) (Nat.le_refl _)
      · iterate 2 refine za_step X rfl rfl rfl ?_
        exact za_zret X rfl (Or.inr rfl) ⟨by rw [rh_t h1 h2]; rfl, hfin, rfl⟩ (Nat.le_refl _) (Nat.le_refl _)
  · refine za_enter cd_R_has fl_R (by decide) cdok_R_has flok_R (Nat.le_of_ble_eq_true rfl) ?_
    intro p e s m args below meth c X hnm
    refine za_view [(76, rs_c 76 k vis)] (by simp [hr]) ?_
    have hfin : za_ov h [(76, rs_c 76 k vis)] = h := by rw [za_ov1, za_set_same hr]
    iterate 1 refine za_step X rfl rfl rfl ?_
    refine za_iflt X 16 rfl (by decide) (fun h1 => ?_) (fun h1 => ?_)
    · iterate 1 refine za_step X rfl rfl rfl ?_
      exact za_zret X rfl (Or.inl rfl) ⟨by rw [rh_f1 h1]; rfl, hfin, rfl⟩ (Nat.le_refl _) (Nat.le_refl _)
    · iterate 3 refine za_step X rfl rfl rfl ?_
      refine za_icge X 16 rfl (by decide) (fun h2 => ?_) (fun h2 => ?_)
      · iterate 1 refine za_step X rfl rfl rfl ?_
        exact za_zret X rfl (Or.inl rfl) ⟨by rw [rh_f2 h2]; rfl, hfin, rfl⟩ (Nat.le_refl _) (Nat.le_refl _)
      · iterate 2 refine za_step X rfl rfl rfl ?_
        exact za_zret X rfl (Or.inr rfl) ⟨by rw [rh_t h1 h2]; rfl, hfin, rfl⟩ (Nat.le_refl _) (Nat.le_refl _)
set_option maxHeartbeats 4000000 in
set_option maxRecDepth 100000 in
theorem c_R_firstNotBefore (l : Launch) (D : za_D) (h : za_H) (n : Nat) (rid : Nat) (hrid : rid = 10 ∨ rid = 76) (w : Nat → Nat) (k : Nat) (f : Nat → wr_T) (hS : rs_at h rid w (k, f)) (d : Int64) : za_M l D Y_R_firstNotBefore 0 0 0 [vR rid, vL d] h n (fun v h' n' => v = some (vI (nI (rs_pos f d k 0))) ∧ h' = h ∧ n = n') := by
  obtain ⟨hr, hg, hw, hf, hrg, hij, hk⟩ := hS
  dsimp only at hr hf hk
  generalize rs_or f k = vis at hr
  rcases hrid with rfl | rfl
  · refine za_enter cd_R_firstNotBefore fl_R (by decide) cdok_R_firstNotBefore flok_R (Nat.le_of_ble_eq_true rfl) ?_
    intro p e s m args below meth c X hnm
    refine za_view [(10, rs_c 10 k vis), (11, rs_g w)] (by simp [hr, hg]) ?_
    have hfin : za_ov h [(10, rs_c 10 k vis), (11, rs_g w)] = h := by rw [za_ov2, za_set_same hg, za_set_same hr]
    have loop : ∀ (g i : Nat), i + g = k → rs_pos f d g i = rs_pos f d k 0 → za_W p l e (za_rm 0 0 0) s m args below meth c D 4 (MQ below (za_Q D (fun v h' n' => v = some (vI (nI (rs_pos f d k 0))) ∧ h' = h ∧ n = n')) args s 0 0 (fun q : Nat => D.2.2 ≤ q)) h n 0 0 2 [(0, vR 10), (1, vL d), (3, vI (nI i))] [] [(10, rs_c 10 k vis), (11, rs_g w)] := by
      intro g
      induction g with
      | zero =>
        intro i hi hp
        iterate 3 refine za_step X rfl rfl rfl ?_
        refine za_icge X 30 rfl (by decide) (fun q1 => ?_) (fun q1 => ?_)
        · iterate 1 refine za_step X rfl rfl rfl ?_
          exact za_iret X rfl ⟨by rw [← hp]; rfl, hfin, rfl⟩ (Nat.le_refl _) (Nat.le_refl _)
        · exact absurd ((nI_leI (by omega) (by omega)).mpr (by omega)) q1
      | succ g ih =>
        intro i hi hp
        have hwi : za_ov h [(10, rs_c 10 k vis), (11, rs_g w)] (w i) = some (wr_c (f i)) := by
          have := hrg i (by omega)
          rw [za_ov2, za_set_ne (by omega), za_set_ne (by omega)]
          exact hf i (by omega)
        have hci : (nI i).toNatClampNeg = i := nI_clamp (by omega)
        rcases hfi : f i with ⟨ax, ay, ao, ae, ad, ac, av⟩
        rw [hfi] at hwi
        iterate 3 refine za_step X rfl rfl rfl ?_
        refine za_icge X 30 rfl (by decide) (fun q1 => ?_) (fun q1 => ?_)
        · exact absurd ((nI_leI (by omega) (by omega)).mp q1) (by omega)
        · iterate 3 refine za_step X rfl rfl rfl ?_
          refine za_aald X rfl rfl rfl (vp_in_nI (by omega) (by decide)) ?_
          rw [hci]
          refine za_getH X rfl hwi rfl rfl ?_
          iterate 2 refine za_step X rfl rfl rfl ?_
          refine za_ifge X 30 rfl (by decide) (fun q2 => ?_) (fun q2 => ?_)
          · iterate 1 refine za_step X rfl rfl rfl ?_
            have q3 : ¬ ad < d := lg_neg.mp q2
            exact za_iret X rfl ⟨by rw [← hp, show rs_pos f d (g + 1) i = i from if_neg (by rw [hfi]; exact q3)], hfin, rfl⟩ (Nat.le_refl _) (Nat.le_refl _)
          · have q3 : ad < d := by
              by_cases z : ad < d
              · exact z
              · exact absurd (lg_neg.mpr z) q2
            iterate 2 refine za_step X rfl rfl rfl ?_
            rw [show nI i + Int32.ofInt 1 = nI (i + 1) from nI_1 i]
            refine za_loc [(0, vR 10), (1, vL d), (3, vI (nI (i + 1)))] rfl (ih (i + 1) (by omega) ?_)
            rw [← hp, show rs_pos f d (g + 1) i = rs_pos f d g (i + 1) from if_pos (by rw [hfi]; exact q3)]
    iterate 2 refine za_step X rfl rfl rfl ?_
    exact za_loc [(0, vR 10), (1, vL d), (3, vI (nI 0))] rfl (loop k 0 (by omega) rfl)
  · refine za_enter cd_R_firstNotBefore fl_R (by decide) cdok_R_firstNotBefore flok_R (Nat.le_of_ble_eq_true rfl) ?_
    intro p e s m args below meth c X hnm
    refine za_view [(76, rs_c 76 k vis), (77, rs_g w)] (by simp [hr, hg]) ?_
    have hfin : za_ov h [(76, rs_c 76 k vis), (77, rs_g w)] = h := by rw [za_ov2, za_set_same hg, za_set_same hr]
    have loop : ∀ (g i : Nat), i + g = k → rs_pos f d g i = rs_pos f d k 0 → za_W p l e (za_rm 0 0 0) s m args below meth c D 4 (MQ below (za_Q D (fun v h' n' => v = some (vI (nI (rs_pos f d k 0))) ∧ h' = h ∧ n = n')) args s 0 0 (fun q : Nat => D.2.2 ≤ q)) h n 0 0 2 [(0, vR 76), (1, vL d), (3, vI (nI i))] [] [(76, rs_c 76 k vis), (77, rs_g w)] := by
      intro g
      induction g with
      | zero =>
        intro i hi hp
        iterate 3 refine za_step X rfl rfl rfl ?_
        refine za_icge X 30 rfl (by decide) (fun q1 => ?_) (fun q1 => ?_)
        · iterate 1 refine za_step X rfl rfl rfl ?_
          exact za_iret X rfl ⟨by rw [← hp]; rfl, hfin, rfl⟩ (Nat.le_refl _) (Nat.le_refl _)
        · exact absurd ((nI_leI (by omega) (by omega)).mpr (by omega)) q1
      | succ g ih =>
        intro i hi hp
        have hwi : za_ov h [(76, rs_c 76 k vis), (77, rs_g w)] (w i) = some (wr_c (f i)) := by
          have := hrg i (by omega)
          rw [za_ov2, za_set_ne (by omega), za_set_ne (by omega)]
          exact hf i (by omega)
        have hci : (nI i).toNatClampNeg = i := nI_clamp (by omega)
        rcases hfi : f i with ⟨ax, ay, ao, ae, ad, ac, av⟩
        rw [hfi] at hwi
        iterate 3 refine za_step X rfl rfl rfl ?_
        refine za_icge X 30 rfl (by decide) (fun q1 => ?_) (fun q1 => ?_)
        · exact absurd ((nI_leI (by omega) (by omega)).mp q1) (by omega)
        · iterate 3 refine za_step X rfl rfl rfl ?_
          refine za_aald X rfl rfl rfl (vp_in_nI (by omega) (by decide)) ?_
          rw [hci]
          refine za_getH X rfl hwi rfl rfl ?_
          iterate 2 refine za_step X rfl rfl rfl ?_
          refine za_ifge X 30 rfl (by decide) (fun q2 => ?_) (fun q2 => ?_)
          · iterate 1 refine za_step X rfl rfl rfl ?_
            have q3 : ¬ ad < d := lg_neg.mp q2
            exact za_iret X rfl ⟨by rw [← hp, show rs_pos f d (g + 1) i = i from if_neg (by rw [hfi]; exact q3)], hfin, rfl⟩ (Nat.le_refl _) (Nat.le_refl _)
          · have q3 : ad < d := by
              by_cases z : ad < d
              · exact z
              · exact absurd (lg_neg.mpr z) q2
            iterate 2 refine za_step X rfl rfl rfl ?_
            rw [show nI i + Int32.ofInt 1 = nI (i + 1) from nI_1 i]
            refine za_loc [(0, vR 76), (1, vL d), (3, vI (nI (i + 1)))] rfl (ih (i + 1) (by omega) ?_)
            rw [← hp, show rs_pos f d (g + 1) i = rs_pos f d g (i + 1) from if_pos (by rw [hfi]; exact q3)]
    iterate 2 refine za_step X rfl rfl rfl ?_
    exact za_loc [(0, vR 76), (1, vL d), (3, vI (nI 0))] rfl (loop k 0 (by omega) rfl)
