theorem up_f1 {L x : Int32} (h : x < 0) : pr_up L x = false := by
  have : ¬ 0 ≤ x := Int32.not_le.mpr h
  simp [pr_up, this]
theorem up_f2 {L x : Int32} (h : L < x) : pr_up L x = false := by
  have : ¬ x ≤ L := Int32.not_le.mpr h
  simp [pr_up, this]
theorem up_t {L x : Int32} (h1 : ¬ x < 0) (h2 : ¬ L < x) : pr_up L x = true := by
  have a : 0 ≤ x := Int32.not_lt.mp h1
  have b : x ≤ L := Int32.not_lt.mp h2
  simp [pr_up, a, b]
set_option maxHeartbeats 4000000 in
set_option maxRecDepth 100000 in
theorem c_F_isUpTo (l : Launch) (D : za_D) (h : za_H) (n : Nat) (a b : Int32) : za_M l D Y_F_isUpTo 0 0 0 [vI a, vI b] h n (fun v h' n' => v = some (vI (bI (pr_up a b))) ∧ h' = h ∧ n = n') := by
  refine za_enter cd_F_isUpTo fl_F (by decide) cdok_F_isUpTo flok_F (Nat.le_of_ble_eq_true rfl) ?_
  intro p e s m args below meth c X hnm
  iterate 1 refine za_step X rfl rfl rfl ?_
  refine za_iflt X 13 rfl (by decide) (fun h1 => ?_) (fun h1 => ?_)
  · iterate 1 refine za_step X rfl rfl rfl ?_
    exact za_zret X rfl (Or.inl rfl) ⟨by rw [up_f1 h1]; rfl, rfl, rfl⟩ (Nat.le_refl _) (Nat.le_refl _)
  · iterate 2 refine za_step X rfl rfl rfl ?_
    refine za_icgt X 13 rfl (by decide) (fun h2 => ?_) (fun h2 => ?_)
    · iterate 1 refine za_step X rfl rfl rfl ?_
      exact za_zret X rfl (Or.inl rfl) ⟨by rw [up_f2 h2]; rfl, rfl, rfl⟩ (Nat.le_refl _) (Nat.le_refl _)
    · iterate 2 refine za_step X rfl rfl rfl ?_
      exact za_zret X rfl (Or.inr rfl) ⟨by rw [up_t h1 h2]; rfl, rfl, rfl⟩ (Nat.le_refl _) (Nat.le_refl _)
set_option maxHeartbeats 4000000 in
set_option maxRecDepth 100000 in
theorem c_F_decisionBit (l : Launch) (D : za_D) (h : za_H) (n : Nat) (a : Int32) : za_M l D Y_F_decisionBit 0 0 0 [vI a] h n (fun v h' n' => v = some (vI (39 - a)) ∧ h' = h ∧ n = n') := by
  refine za_enter cd_F_decisionBit fl_F (by decide) cdok_F_decisionBit flok_F (Nat.le_of_ble_eq_true rfl) ?_
  intro p e s m args below meth c X hnm
  iterate 3 refine za_step X rfl rfl rfl ?_
  exact za_iret X rfl ⟨by rw [show (Int8.ofInt 39).toInt32 = 39 by decide], rfl, rfl⟩ (Nat.le_refl _) (Nat.le_refl _)
set_option maxHeartbeats 4000000 in
set_option maxRecDepth 100000 in
theorem c_P_isRegister (l : Launch) (D : za_D) (h : za_H) (n : Nat) (a : Int32) : za_M l D Y_P_isRegister 1 0 0 [vI a] h n (fun v h' n' => v = some (vI (bI (pr_up 3 a))) ∧ h' = h ∧ n = n') := by
  refine za_enter cd_P_isRegister fl_P (by decide) cdok_P_isRegister flok_P (Nat.le_of_ble_eq_true rfl) ?_
  intro p e s m args below meth c X hnm
  iterate 2 refine za_step X rfl rfl rfl ?_
  refine za_callS X rfl cl_P_F_isUpTo cy_F_isUpTo cs_F_isUpTo (c_F_isUpTo l D _ n _ a) rfl rfl (Nat.le_of_ble_eq_true rfl) (Nat.le_of_ble_eq_true rfl) (Nat.le_of_ble_eq_true rfl) (Nat.le_of_ble_eq_true rfl) (Nat.le_of_ble_eq_true rfl) (fun v h' n' hq => ?_)
  obtain ⟨rfl, rfl, rfl⟩ := hq
  exact za_zret X rfl (bI_01 _) ⟨by rw [show Int32.ofInt 3 = 3 by decide], rfl, rfl⟩ (Nat.le_refl _) (Nat.le_refl _)
theorem has_f1 {P : pr_T} {x : Int32} (h : x < 0) : pr_has P x = false := by
  have : ¬ 0 ≤ x := Int32.not_le.mpr h
  obtain ⟨o, a, b, c, k⟩ := P
  simp [pr_has, this]
theorem has_f2 {o a b c : Nat → Int32} {k : Nat} {x : Int32} (h : nI k ≤ x) : pr_has (o, a, b, c, k) x = false := by
  have : ¬ x < nI k := Int32.not_lt.mpr h
  simp [pr_has, this]
theorem has_t {o a b c : Nat → Int32} {k : Nat} {x : Int32} (h1 : ¬ x < 0) (h2 : ¬ nI k ≤ x) : pr_has (o, a, b, c, k) x = true := by
  have a : 0 ≤ x := Int32.not_lt.mp h1
  have b : x < nI k := Int32.not_le.mp h2
  simp [pr_has, a, b]
set_option maxHeartbeats 4000000 in
set_option maxRecDepth 100000 in
theorem c_P_has (l : Launch) (D : za_D) (h : za_H) (n : Nat) (P : pr_T) (hP : pr_at h P) (x : Int32) : za_M l D Y_P_has 0 0 0 [vR 1, vI x] h n (fun v h' n' => v = some (vI (bI (pr_has P x))) ∧ h' = h ∧ n = n') := by
  obtain ⟨o, a, b, cs, k⟩ := P
  obtain ⟨hP1, hP2, hP3, hP4, hP5⟩ := hP
  refine za_enter cd_P_has fl_P (by decide) cdok_P_has flok_P (Nat.le_of_ble_eq_true rfl) ?_
  intro p e s m args below meth c X hnm
  refine za_view [(1, pr_c k)] (by simp [hP1]) ?_
  have hfin : za_ov h [(1, pr_c k)] = h := by rw [za_ov1, za_set_same hP1]
  iterate 1 refine za_step X rfl rfl rfl ?_
  refine za_iflt X 16 rfl (by decide) (fun h1 => ?_) (fun h1 => ?_)
  · iterate 1 refine za_step X rfl rfl rfl ?_
    exact za_zret X rfl (Or.inl rfl) ⟨by rw [has_f1 h1]; rfl, hfin, rfl⟩ (Nat.le_refl _) (Nat.le_refl _)
  · iterate 3 refine za_step X rfl rfl rfl ?_
    refine za_icge X 16 rfl (by decide) (fun h2 => ?_) (fun h2 => ?_)
    · iterate 1 refine za_step X rfl rfl rfl ?_
      exact za_zret X rfl (Or.inl rfl) ⟨by rw [has_f2 h2]; rfl, hfin, rfl⟩ (Nat.le_refl _) (Nat.le_refl _)
    · iterate 2 refine za_step X rfl rfl rfl ?_
      exact za_zret X rfl (Or.inr rfl) ⟨by rw [has_t h1 h2]; rfl, hfin, rfl⟩ (Nat.le_refl _) (Nat.le_refl _)
set_option maxHeartbeats 4000000 in
set_option maxRecDepth 100000 in
theorem c_T_finish (l : Launch) (D : za_D) (h : za_H) (n : Nat) (t : Nat) (ht : t = 6 ∨ t = 8) (T : tr_T) (hT : tr_at h t T) (a b : Int32) : za_M l D Y_T_finish 0 0 0 [vR t, vI a, vI b] h n (fun v h' n' => v = none ∧ h' = tr_put h t (tr_fin T a b) ∧ n = n') := by
  obtain ⟨r, pl, la, dn, vi, de, ct, en, ou, ed⟩ := T
  obtain ⟨hT1, hT2⟩ := hT
  rcases ht with rfl | rfl
  · refine za_enter cd_T_finish fl_T (by decide) cdok_T_finish flok_T (Nat.le_of_ble_eq_true rfl) ?_
    intro p e s m args below meth c X hnm
    refine za_view [(6, tr_c 6 (r, pl, la, dn, vi, de, ct, en, ou, ed)), (7, tr_g (r, pl, la, dn, vi, de, ct, en, ou, ed))] (by simp [hT1, hT2]) ?_
    iterate 9 refine za_step X rfl rfl rfl ?_
    exact za_vret X rfl ⟨rfl, tr_ov h 6 (tr_fin (r, pl, la, dn, vi, de, ct, en, ou, ed) a b), rfl⟩ (Nat.le_refl _) (Nat.le_refl _)
  · refine za_enter cd_T_finish fl_T (by decide) cdok_T_finish flok_T (Nat.le_of_ble_eq_true rfl) ?_
    intro p e s m args below meth c X hnm
    refine za_view [(8, tr_c 8 (r, pl, la, dn, vi, de, ct, en, ou, ed)), (9, tr_g (r, pl, la, dn, vi, de, ct, en, ou, ed))] (by simp [hT1, hT2]) ?_
    iterate 9 refine za_step X rfl rfl rfl ?_
    exact za_vret X rfl ⟨rfl, tr_ov h 8 (tr_fin (r, pl, la, dn, vi, de, ct, en, ou, ed) a b), rfl⟩ (Nat.le_refl _) (Nat.le_refl _)
set_option maxHeartbeats 4000000 in
set_option maxRecDepth 100000 in
theorem c_T_begin (l : Launch) (D : za_D) (h : za_H) (n : Nat) (t : Nat) (ht : t = 6 ∨ t = 8) (T : tr_T) (hT : tr_at h t T) (a b : Int32) : za_M l D Y_T_begin 0 0 0 [vR t, vI a, vI b] h n (fun v h' n' => v = none ∧ h' = tr_put h t (tr_beg T a b) ∧ n = n') := by
  obtain ⟨r, pl, la, dn, vi, de, ct, en, ou, ed⟩ := T
  obtain ⟨hT1, hT2⟩ := hT
  rcases ht with rfl | rfl
  · refine za_enter cd_T_begin fl_T (by decide) cdok_T_begin flok_T (Nat.le_of_ble_eq_true rfl) ?_
    intro p e s m args below meth c X hnm
    refine za_view [(6, tr_c 6 (r, pl, la, dn, vi, de, ct, en, ou, ed)), (7, tr_g (r, pl, la, dn, vi, de, ct, en, ou, ed))] (by simp [hT1, hT2]) ?_
    iterate 4 refine za_step X rfl rfl rfl ?_
    refine za_iast X rfl rfl rfl (by unfold vp_in; decide) ?_
    iterate 4 refine za_step X rfl rfl rfl ?_
    refine za_iast X rfl rfl rfl (by unfold vp_in; decide) ?_
    iterate 4 refine za_step X rfl rfl rfl ?_
    refine za_iast X rfl rfl rfl (by unfold vp_in; decide) ?_
    iterate 4 refine za_step X rfl rfl rfl ?_
    refine za_iast X rfl rfl rfl (by unfold vp_in; decide) ?_
    refine za_ext (i := 7) (t0 := 0) (N := 4) (tr_cr a b) rfl (tr_cr_eq r a b) ?_
    iterate 21 refine za_step X rfl rfl rfl ?_
    exact za_vret X rfl ⟨rfl, tr_ov h 6 (tr_beg (r, pl, la, dn, vi, de, ct, en, ou, ed) a b), rfl⟩ (Nat.le_refl _) (Nat.le_refl _)
  · refine za_enter cd_T_begin fl_T (by decide) cdok_T_begin flok_T (Nat.le_of_ble_eq_true rfl) ?_
    intro p e s m args below meth c X hnm
    refine za_view [(8, tr_c 8 (r, pl, la, dn, vi, de, ct, en, ou, ed)), (9, tr_g (r, pl, la, dn, vi, de, ct, en, ou, ed))] (by simp [hT1, hT2]) ?_
    iterate 4 refine za_step X rfl rfl rfl ?_
    refine za_iast X rfl rfl rfl (by unfold vp_in; decide) ?_
    iterate 4 refine za_step X rfl rfl rfl ?_
    refine za_iast X rfl rfl rfl (by unfold vp_in; decide) ?_
    iterate 4 refine za_step X rfl rfl rfl ?_
    refine za_iast X rfl rfl rfl (by unfold vp_in; decide) ?_
    iterate 4 refine za_step X rfl rfl rfl ?_
    refine za_iast X rfl rfl rfl (by unfold vp_in; decide) ?_
    refine za_ext (i := 9) (t0 := 0) (N := 4) (tr_cr a b) rfl (tr_cr_eq r a b) ?_
    iterate 21 refine za_step X rfl rfl rfl ?_
    exact za_vret X rfl ⟨rfl, tr_ov h 8 (tr_beg (r, pl, la, dn, vi, de, ct, en, ou, ed) a b), rfl⟩ (Nat.le_refl _) (Nat.le_refl _)
set_option maxHeartbeats 4000000 in
set_option maxRecDepth 100000 in
theorem c_T_decide (l : Launch) (D : za_D) (h : za_H) (n : Nat) (t : Nat) (ht : t = 6 ∨ t = 8) (T : tr_T) (hT : tr_at h t T) (y : Bool) : za_M l D Y_T_decide 1 0 0 [vR t, vI (bI y)] h n (fun v h' n' => v = none ∧ h' = tr_put h t (tr_dec T y) ∧ n = n') := by
  obtain ⟨r, pl, la, dn, vi, de, ct, en, ou, ed⟩ := T
  obtain ⟨hT1, hT2⟩ := hT
  rcases ht with rfl | rfl
  · refine za_enter cd_T_decide fl_T (by decide) cdok_T_decide flok_T (Nat.le_of_ble_eq_true rfl) ?_
    intro p e s m args below meth c X hnm
    refine za_view [(6, tr_c 6 (r, pl, la, dn, vi, de, ct, en, ou, ed)), (7, tr_g (r, pl, la, dn, vi, de, ct, en, ou, ed))] (by simp [hT1, hT2]) ?_
    iterate 1 refine za_step X rfl rfl rfl ?_
    refine za_ifeq X 22 rfl (by decide) (fun h1 => ?_) (fun h1 => ?_)
    · have hy := bI_0 h1
      subst hy
      iterate 6 refine za_step X rfl rfl rfl ?_
      exact za_vret X rfl ⟨rfl, tr_ov h 6 (tr_dec (r, pl, la, dn, vi, de, ct, en, ou, ed) false), rfl⟩ (Nat.le_refl _) (Nat.le_refl _)
    · have hy := bI_n0 h1
      subst hy
      iterate 6 refine za_step X rfl rfl rfl ?_
      refine za_callS X rfl cl_T_F_decisionBit cy_F_decisionBit cs_F_decisionBit (c_F_decisionBit l D _ n ct) rfl rfl (Nat.le_of_ble_eq_true rfl) (Nat.le_of_ble_eq_true rfl) (Nat.le_of_ble_eq_true rfl) (Nat.le_of_ble_eq_true rfl) (Nat.le_of_ble_eq_true rfl) (fun v h' n' hq => ?_)
      obtain ⟨rfl, rfl, rfl⟩ := hq
      refine za_look (h1 := h) (v1 := [(6, tr_c 6 (r, pl, la, dn, vi, de, ct, en, ou, ed)), (7, tr_g (r, pl, la, dn, vi, de, ct, en, ou, ed))]) rfl ?_
      iterate 9 refine za_step X rfl rfl rfl ?_
      exact za_vret X rfl ⟨rfl, tr_ov h 6 (tr_dec (r, pl, la, dn, vi, de, ct, en, ou, ed) true), rfl⟩ (Nat.le_refl _) (Nat.le_refl _)
  · refine za_enter cd_T_decide fl_T (by decide) cdok_T_decide flok_T (Nat.le_of_ble_eq_true rfl) ?_
    intro p e s m args below meth c X hnm
    refine za_view [(8, tr_c 8 (r, pl, la, dn, vi, de, ct, en, ou, ed)), (9, tr_g (r, pl, la, dn, vi, de, ct, en, ou, ed))] (by simp [hT1, hT2]) ?_
    iterate 1 refine za_step X rfl rfl rfl ?_
    refine za_ifeq X 22 rfl (by decide) (fun h1 => ?_) (fun h1 => ?_)
    · have hy := bI_0 h1
      subst hy
      iterate 6 refine za_step X rfl rfl rfl ?_
      exact za_vret X rfl ⟨rfl, tr_ov h 8 (tr_dec (r, pl, la, dn, vi, de, ct, en, ou, ed) false), rfl⟩ (Nat.le_refl _) (Nat.le_refl _)
    · have hy := bI_n0 h1
      subst hy
      iterate 6 refine za_step X rfl rfl rfl ?_
      refine za_callS X rfl cl_T_F_decisionBit cy_F_decisionBit cs_F_decisionBit (c_F_decisionBit l D _ n ct) rfl rfl (Nat.le_of_ble_eq_true rfl) (Nat.le_of_ble_eq_true rfl) (Nat.le_of_ble_eq_true rfl) (Nat.le_of_ble_eq_true rfl) (Nat.le_of_ble_eq_true rfl) (fun v h' n' hq => ?_)
      obtain ⟨rfl, rfl, rfl⟩ := hq
      refine za_look (h1 := h) (v1 := [(8, tr_c 8 (r, pl, la, dn, vi, de, ct, en, ou, ed)), (9, tr_g (r, pl, la, dn, vi, de, ct, en, ou, ed))]) rfl ?_
      iterate 9 refine za_step X rfl rfl rfl ?_
      exact za_vret X rfl ⟨rfl, tr_ov h 8 (tr_dec (r, pl, la, dn, vi, de, ct, en, ou, ed) true), rfl⟩ (Nat.le_refl _) (Nat.le_refl _)
