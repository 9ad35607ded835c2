def fs_0 : fs_T := (pr_0, tr_0, (0, fun _ => wr_0), 3, 0)
theorem pr_ok_0 : pr_ok pr_0 := ⟨by decide, fun i hi => absurd hi (Nat.not_lt_zero i)⟩
theorem za_ov_n2 {h : za_H} {a b j : Nat} {x y : za_C} (h1 : j ≠ a) (h2 : j ≠ b) : za_ov h [(a, x), (b, y)] j = h j := by
  rw [za_ov2, za_set_ne h1, za_set_ne h2]
set_option maxHeartbeats 4000000 in
set_option maxRecDepth 100000 in
theorem c_F_init (l : Launch) (D : za_D) (h : za_H) (hp : h 0 = some (.inr (zn_F, [vN, vN, vN, vN, vN, vI 0, vI 0]))) : za_M l D Y_F_init 4 141 1031 [vR 0] h 1 (fun v h' n' => v = none ∧ fs_at h' fs_0 ∧ fs_fr h h' ∧ n' = 142) := by
  refine za_enter cd_F_init fl_F (by decide) cdok_F_init flok_F (Nat.le_of_ble_eq_true rfl) ?_
  intro p e s m args below meth c X hnm
  refine za_view [(0, .inr (zn_F, [vN, vN, vN, vN, vN, vI 0, vI 0]))] (by simp [hp]) ?_
  iterate 1 refine za_step X rfl rfl rfl ?_
  refine za_obj X rfl zo_F zo_1 zo_2 (Nat.le_of_ble_eq_true rfl) (Nat.le_of_ble_eq_true rfl) (Nat.le_of_ble_eq_true rfl) ?_
  iterate 1 refine za_step X rfl rfl rfl ?_
  refine za_new (N := 5) (ci := zn_P) (fs := [vN, vN, vN, vN, vI 0]) X rfl rfl zc_F_7 zi_P zj_P (fun z j hj => by rcases (show j = 0 ∨ j = 1 ∨ j = 2 ∨ j = 3 ∨ j = 4 by omega) with rfl | rfl | rfl | rfl | rfl <;> rfl) (Nat.le_of_ble_eq_true rfl) (Nat.le_of_ble_eq_true rfl) ?_
  iterate 1 refine za_step X rfl rfl rfl ?_
  refine za_callI (y := Y_P_init.1) (bytes := Y_P_init.2.1) (maxL := Y_P_init.2.2.1) (b := 1) (d := 1) (mc := 4) (ms := 96) (as := []) X rfl cl_F_P_init cy_P_init ci_P_init (c_P_init l D (za_ov h [(0, .inr (zn_F, [vN, vN, vN, vN, vN, vI 0, vI 0])), (1, .inr (zn_P, [vN, vN, vN, vN, vI 0]))]) rfl) rfl rfl (Nat.le_of_ble_eq_true rfl) (Nat.le_of_ble_eq_true rfl) (Nat.le_of_ble_eq_true rfl) (Nat.le_of_ble_eq_true rfl) (Nat.le_of_ble_eq_true rfl) (fun v k1 n' hq => ?_)
  obtain ⟨rfl, f1, o1, rfl⟩ := hq
  have e1 : ∀ j, j ≠ 0 → (j < 1 ∨ 5 < j) → k1 j = h j := fun j a1 a2 => by rw [o1 j a2, za_ov_n2 a1 (by omega)]
  have z1 : k1 0 = some (.inr (zn_F, [vN, vN, vN, vN, vN, vI 0, vI 0])) := (o1 0 (by omega)).trans rfl
  refine za_view [(0, .inr (zn_F, [vN, vN, vN, vN, vN, vI 0, vI 0]))] (by simp [z1]) ?_
  refine za_putF (k := 0) (ci := 4) X hnm rfl rfl rfl (by decide) rfl rfl (za_in 173 (by decide +kernel) rfl) rfl rfl (Nat.le_of_ble_eq_true rfl) ?_
  iterate 1 refine za_step X rfl rfl rfl ?_
  refine za_new (N := 10) (ci := zn_T) (fs := [vN, vI 0, vI 0, vI 0, vI 0, vL 0, vI 0, vI 0, vI 0, vI 0]) X rfl rfl zc_F_16 zi_T zj_T (fun z j hj => by rcases (show j = 0 ∨ j = 1 ∨ j = 2 ∨ j = 3 ∨ j = 4 ∨ j = 5 ∨ j = 6 ∨ j = 7 ∨ j = 8 ∨ j = 9 by omega) with rfl | rfl | rfl | rfl | rfl | rfl | rfl | rfl | rfl | rfl <;> rfl) (Nat.le_of_ble_eq_true rfl) (Nat.le_of_ble_eq_true rfl) ?_
  iterate 1 refine za_step X rfl rfl rfl ?_
  refine za_callI (y := Y_T_init.1) (bytes := Y_T_init.2.1) (maxL := Y_T_init.2.2.1) (b := 6) (d := 1) (mc := 1) (ms := 4) (as := []) X rfl cl_F_T_init cy_T_init ci_T_init (c_T_init6 l D (za_ov k1 [(0, .inr (zn_F, [vR 1, vN, vN, vN, vN, vI 0, vI 0])), (6, .inr (zn_T, [vN, vI 0, vI 0, vI 0, vI 0, vL 0, vI 0, vI 0, vI 0, vI 0]))]) rfl) rfl rfl (Nat.le_of_ble_eq_true rfl) (Nat.le_of_ble_eq_true rfl) (Nat.le_of_ble_eq_true rfl) (Nat.le_of_ble_eq_true rfl) (Nat.le_of_ble_eq_true rfl) (fun v k2 n' hq => ?_)
  obtain ⟨rfl, f2, o2, rfl⟩ := hq
  have e2 : ∀ j, j ≠ 0 → (j < 6 ∨ 7 < j) → k2 j = k1 j := fun j a1 a2 => by rw [o2 j a2, za_ov_n2 a1 (by omega)]
  have z2 : k2 0 = some (.inr (zn_F, [vR 1, vN, vN, vN, vN, vI 0, vI 0])) := (o2 0 (by omega)).trans rfl
  refine za_view [(0, .inr (zn_F, [vR 1, vN, vN, vN, vN, vI 0, vI 0]))] (by simp [z2]) ?_
  refine za_putF (k := 1) (ci := 4) X hnm rfl rfl rfl (by decide) rfl rfl (za_in 174 (by decide +kernel) rfl) rfl rfl (Nat.le_of_ble_eq_true rfl) ?_
  iterate 1 refine za_step X rfl rfl rfl ?_
  refine za_new (N := 10) (ci := zn_T) (fs := [vN, vI 0, vI 0, vI 0, vI 0, vL 0, vI 0, vI 0, vI 0, vI 0]) X rfl rfl zc_F_16 zi_T zj_T (fun z j hj => by rcases (show j = 0 ∨ j = 1 ∨ j = 2 ∨ j = 3 ∨ j = 4 ∨ j = 5 ∨ j = 6 ∨ j = 7 ∨ j = 8 ∨ j = 9 by omega) with rfl | rfl | rfl | rfl | rfl | rfl | rfl | rfl | rfl | rfl <;> rfl) (Nat.le_of_ble_eq_true rfl) (Nat.le_of_ble_eq_true rfl) ?_
  iterate 1 refine za_step X rfl rfl rfl ?_
  refine za_callI (y := Y_T_init.1) (bytes := Y_T_init.2.1) (maxL := Y_T_init.2.2.1) (b := 8) (d := 1) (mc := 1) (ms := 4) (as := []) X rfl cl_F_T_init cy_T_init ci_T_init (c_T_init8 l D (za_ov k2 [(0, .inr (zn_F, [vR 1, vR 6, vN, vN, vN, vI 0, vI 0])), (8, .inr (zn_T, [vN, vI 0, vI 0, vI 0, vI 0, vL 0, vI 0, vI 0, vI 0, vI 0]))]) rfl) rfl rfl (Nat.le_of_ble_eq_true rfl) (Nat.le_of_ble_eq_true rfl) (Nat.le_of_ble_eq_true rfl) (Nat.le_of_ble_eq_true rfl) (Nat.le_of_ble_eq_true rfl) (fun v k3 n' hq => ?_)
  obtain ⟨rfl, f3, o3, rfl⟩ := hq
  have e3 : ∀ j, j ≠ 0 → (j < 8 ∨ 9 < j) → k3 j = k2 j := fun j a1 a2 => by rw [o3 j a2, za_ov_n2 a1 (by omega)]
  have z3 : k3 0 = some (.inr (zn_F, [vR 1, vR 6, vN, vN, vN, vI 0, vI 0])) := (o3 0 (by omega)).trans rfl
  refine za_view [(0, .inr (zn_F, [vR 1, vR 6, vN, vN, vN, vI 0, vI 0]))] (by simp [z3]) ?_
  refine za_putF (k := 2) (ci := 4) X hnm rfl rfl rfl (by decide) rfl rfl (za_in 175 (by decide +kernel) rfl) rfl rfl (Nat.le_of_ble_eq_true rfl) ?_
  iterate 1 refine za_step X rfl rfl rfl ?_
  refine za_new (N := 3) (ci := zn_R) (fs := [vN, vI 0, vI 0]) X rfl rfl zc_F_26 zi_R zj_R (fun z j hj => by rcases (show j = 0 ∨ j = 1 ∨ j = 2 by omega) with rfl | rfl | rfl <;> rfl) (Nat.le_of_ble_eq_true rfl) (Nat.le_of_ble_eq_true rfl) ?_
  iterate 1 refine za_step X rfl rfl rfl ?_
  refine za_callI (y := Y_R_init.1) (bytes := Y_R_init.2.1) (maxL := Y_R_init.2.2.1) (b := 10) (d := 2) (mc := 65) (ms := 448) (as := []) X rfl cl_F_R_init cy_R_init ci_R_init (c_R_init10 l D (za_ov k3 [(0, .inr (zn_F, [vR 1, vR 6, vR 8, vN, vN, vI 0, vI 0])), (10, .inr (zn_R, [vN, vI 0, vI 0]))]) rfl) rfl rfl (Nat.le_of_ble_eq_true rfl) (Nat.le_of_ble_eq_true rfl) (Nat.le_of_ble_eq_true rfl) (Nat.le_of_ble_eq_true rfl) (Nat.le_of_ble_eq_true rfl) (fun v k4 n' hq => ?_)
  obtain ⟨rfl, f4, o4, rfl⟩ := hq
  have e4 : ∀ j, j ≠ 0 → (j < 10 ∨ 75 < j) → k4 j = k3 j := fun j a1 a2 => by rw [o4 j a2, za_ov_n2 a1 (by omega)]
  have z4 : k4 0 = some (.inr (zn_F, [vR 1, vR 6, vR 8, vN, vN, vI 0, vI 0])) := (o4 0 (by omega)).trans rfl
  refine za_view [(0, .inr (zn_F, [vR 1, vR 6, vR 8, vN, vN, vI 0, vI 0]))] (by simp [z4]) ?_
  iterate 1 refine za_step X rfl rfl rfl ?_
  iterate 1 refine za_step X rfl rfl rfl ?_
  refine za_new (N := 3) (ci := zn_R) (fs := [vN, vI 0, vI 0]) X rfl rfl zc_F_26 zi_R zj_R (fun z j hj => by rcases (show j = 0 ∨ j = 1 ∨ j = 2 by omega) with rfl | rfl | rfl <;> rfl) (Nat.le_of_ble_eq_true rfl) (Nat.le_of_ble_eq_true rfl) ?_
  iterate 1 refine za_step X rfl rfl rfl ?_
  refine za_callI (y := Y_R_init.1) (bytes := Y_R_init.2.1) (maxL := Y_R_init.2.2.1) (b := 76) (d := 2) (mc := 65) (ms := 448) (as := []) X rfl cl_F_R_init cy_R_init ci_R_init (c_R_init76 l D (za_ov k4 [(0, .inr (zn_F, [vR 1, vR 6, vR 8, vR 10, vN, vI 0, vI 0])), (76, .inr (zn_R, [vN, vI 0, vI 0]))]) rfl) rfl rfl (Nat.le_of_ble_eq_true rfl) (Nat.le_of_ble_eq_true rfl) (Nat.le_of_ble_eq_true rfl) (Nat.le_of_ble_eq_true rfl) (Nat.le_of_ble_eq_true rfl) (fun v k5 n' hq => ?_)
  obtain ⟨rfl, f5, o5, rfl⟩ := hq
  have e5 : ∀ j, j ≠ 0 → (j < 76 ∨ 141 < j) → k5 j = k4 j := fun j a1 a2 => by rw [o5 j a2, za_ov_n2 a1 (by omega)]
  have z5 : k5 0 = some (.inr (zn_F, [vR 1, vR 6, vR 8, vR 10, vN, vI 0, vI 0])) := (o5 0 (by omega)).trans rfl
  refine za_view [(0, .inr (zn_F, [vR 1, vR 6, vR 8, vR 10, vN, vI 0, vI 0]))] (by simp [z5]) ?_
  iterate 1 refine za_step X rfl rfl rfl ?_
  iterate 6 refine za_step X rfl rfl rfl ?_
  have hfin : za_ov k5 [(0, fs_c 10 76 3 0)] = za_set k5 0 (fs_c 10 76 3 0) := za_ov1 _ _ _
  have ge : ∀ j, j ≠ 0 → za_set k5 0 (fs_c 10 76 3 0) j = k5 j := fun j a => za_set_ne a
  have g1 : ∀ j, 1 ≤ j → j ≤ 5 → za_set k5 0 (fs_c 10 76 3 0) j = k1 j := fun j a b => by rw [ge j (by omega), e5 j (by omega) (by omega), e4 j (by omega) (by omega), e3 j (by omega) (by omega), e2 j (by omega) (by omega)]
  have g2 : ∀ j, 6 ≤ j → j ≤ 7 → za_set k5 0 (fs_c 10 76 3 0) j = k2 j := fun j a b => by rw [ge j (by omega), e5 j (by omega) (by omega), e4 j (by omega) (by omega), e3 j (by omega) (by omega)]
  have g3 : ∀ j, 8 ≤ j → j ≤ 9 → za_set k5 0 (fs_c 10 76 3 0) j = k3 j := fun j a b => by rw [ge j (by omega), e5 j (by omega) (by omega), e4 j (by omega) (by omega)]
  have g4 : ∀ j, 10 ≤ j → j < 10 + 66 → za_set k5 0 (fs_c 10 76 3 0) j = k4 j := fun j a b => by rw [ge j (by omega), e5 j (by omega) (by omega)]
  obtain ⟨w4, f4⟩ := f4
  obtain ⟨w5, f5⟩ := f5
  refine za_vret X rfl ⟨rfl, ?_, ?_, rfl⟩ (Nat.le_of_ble_eq_true rfl) (Nat.le_of_ble_eq_true rfl)
  · show fs_at (za_ov k5 [(0, fs_c 10 76 3 0)]) fs_0
    rw [hfin]
    exact ⟨pr_ok_0, pr_at_off f1 g1, ⟨by rw [g2 6 (by omega) (by omega)]; exact f2.1, by rw [g2 (6 + 1) (by omega) (by omega)]; exact f2.2⟩, by decide, by decide, 10, 76, Or.inl ⟨rfl, rfl⟩, za_set_eq _ _ _, ⟨tr_0, by rw [g3 8 (by omega) (by omega)]; exact f3.1, by rw [g3 (8 + 1) (by omega) (by omega)]; exact f3.2⟩, ⟨w4, rs_at_off f4 g4⟩, w5, (0, fun _ => wr_0), rs_at_off f5 (fun j a b => ge j (by omega))⟩
  · show fs_fr h (za_ov k5 [(0, fs_c 10 76 3 0)])
    rw [hfin]
    intro j hj
    rw [ge j (by omega), e5 j (by omega) (by omega), e4 j (by omega) (by omega), e3 j (by omega) (by omega), e2 j (by omega) (by omega), e1 j (by omega) (by omega)]
set_option maxHeartbeats 4000000 in
set_option maxRecDepth 100000 in
theorem c_M_init (l : Launch) (D : za_D) (h : za_H) (hp : h 142 = some (.inr (zn_M, [vI 0, vN, vN, vN, vN, vI 0, vI 0, vN, vI 0, vI 0, vI 0, vI 0, vL 0, vI 0, vI 0, vI 0, vI 0, vI 0, vN, vN, vN, vN, vN, vN, vI 0, vN, vN, vN, vN, vN, vI 0, vI 0]))) : za_M l D Y_M_init 1 16 810 [vR 142] h 143 (fun v h' n' => v = none ∧ ms_at h' 0 fs_0 ∧ ms_fr h h' ∧ n' = 159) := by
  refine za_enter cd_M_init fl_M (by decide) cdok_M_init flok_M (Nat.le_of_ble_eq_true rfl) ?_
  intro p e s m args below meth c X hnm
  refine za_view [(142, .inr (zn_M, [vI 0, vN, vN, vN, vN, vI 0, vI 0, vN, vI 0, vI 0, vI 0, vI 0, vL 0, vI 0, vI 0, vI 0, vI 0, vI 0, vN, vN, vN, vN, vN, vN, vI 0, vN, vN, vN, vN, vN, vI 0, vI 0]))] (by simp [hp]) ?_
  iterate 1 refine za_step X rfl rfl rfl ?_
  refine za_obj X rfl zo_M zo_1 zo_2 (Nat.le_of_ble_eq_true rfl) (Nat.le_of_ble_eq_true rfl) (Nat.le_of_ble_eq_true rfl) ?_
  iterate 2 refine za_step X rfl rfl rfl ?_
  refine za_newi (N := 24) (t0 := 0) X rfl rfl za_intA (by decide) (by decide) (by decide) (Nat.le_of_ble_eq_true rfl) (Nat.le_of_ble_eq_true rfl) ?_
  refine za_putF (k := 1) (ci := 5) X hnm rfl rfl rfl (by decide) rfl rfl (za_in 488 (by decide +kernel) rfl) rfl rfl (Nat.le_of_ble_eq_true rfl) ?_
  iterate 2 refine za_step X rfl rfl rfl ?_
  refine za_newi (N := 24) (t0 := 0) X rfl rfl za_intA (by decide) (by decide) (by decide) (Nat.le_of_ble_eq_true rfl) (Nat.le_of_ble_eq_true rfl) ?_
  refine za_putF (k := 2) (ci := 5) X hnm rfl rfl rfl (by decide) rfl rfl (za_in 489 (by decide +kernel) rfl) rfl rfl (Nat.le_of_ble_eq_true rfl) ?_
  iterate 2 refine za_step X rfl rfl rfl ?_
  refine za_newi (N := 24) (t0 := 0) X rfl rfl za_intA (by decide) (by decide) (by decide) (Nat.le_of_ble_eq_true rfl) (Nat.le_of_ble_eq_true rfl) ?_
  refine za_putF (k := 3) (ci := 5) X hnm rfl rfl rfl (by decide) rfl rfl (za_in 490 (by decide +kernel) rfl) rfl rfl (Nat.le_of_ble_eq_true rfl) ?_
  iterate 2 refine za_step X rfl rfl rfl ?_
  refine za_newi (N := 24) (t0 := 0) X rfl rfl za_intA (by decide) (by decide) (by decide) (Nat.le_of_ble_eq_true rfl) (Nat.le_of_ble_eq_true rfl) ?_
  refine za_putF (k := 4) (ci := 5) X hnm rfl rfl rfl (by decide) rfl rfl (za_in 491 (by decide +kernel) rfl) rfl rfl (Nat.le_of_ble_eq_true rfl) ?_
  iterate 3 refine za_step X rfl rfl rfl ?_
  iterate 2 refine za_step X rfl rfl rfl ?_
  refine za_newi (N := 4) (t0 := 0) X rfl rfl za_intA (by decide) (by decide) (by decide) (Nat.le_of_ble_eq_true rfl) (Nat.le_of_ble_eq_true rfl) ?_
  refine za_putF (k := 7) (ci := 5) X hnm rfl rfl rfl (by decide) rfl rfl (za_in 494 (by decide +kernel) rfl) rfl rfl (Nat.le_of_ble_eq_true rfl) ?_
  iterate 2 refine za_step X rfl rfl rfl ?_
  refine za_newl (N := 65) (t0 := 1) X rfl rfl za_longA (by decide) (by decide) (by decide) (Nat.le_of_ble_eq_true rfl) (Nat.le_of_ble_eq_true rfl) ?_
  refine za_putF (k := 18) (ci := 5) X hnm rfl rfl rfl (by decide) rfl rfl (za_in 505 (by decide +kernel) rfl) rfl rfl (Nat.le_of_ble_eq_true rfl) ?_
  iterate 2 refine za_step X rfl rfl rfl ?_
  refine za_newi (N := 65) (t0 := 0) X rfl rfl za_intA (by decide) (by decide) (by decide) (Nat.le_of_ble_eq_true rfl) (Nat.le_of_ble_eq_true rfl) ?_
  refine za_putF (k := 19) (ci := 5) X hnm rfl rfl rfl (by decide) rfl rfl (za_in 506 (by decide +kernel) rfl) rfl rfl (Nat.le_of_ble_eq_true rfl) ?_
  iterate 2 refine za_step X rfl rfl rfl ?_
  refine za_newi (N := 65) (t0 := 0) X rfl rfl za_intA (by decide) (by decide) (by decide) (Nat.le_of_ble_eq_true rfl) (Nat.le_of_ble_eq_true rfl) ?_
  refine za_putF (k := 20) (ci := 5) X hnm rfl rfl rfl (by decide) rfl rfl (za_in 507 (by decide +kernel) rfl) rfl rfl (Nat.le_of_ble_eq_true rfl) ?_
  iterate 2 refine za_step X rfl rfl rfl ?_
  refine za_newi (N := 65) (t0 := 0) X rfl rfl za_intA (by decide) (by decide) (by decide) (Nat.le_of_ble_eq_true rfl) (Nat.le_of_ble_eq_true rfl) ?_
  refine za_putF (k := 21) (ci := 5) X hnm rfl rfl rfl (by decide) rfl rfl (za_in 508 (by decide +kernel) rfl) rfl rfl (Nat.le_of_ble_eq_true rfl) ?_
  iterate 2 refine za_step X rfl rfl rfl ?_
  refine za_newi (N := 65) (t0 := 0) X rfl rfl za_intA (by decide) (by decide) (by decide) (Nat.le_of_ble_eq_true rfl) (Nat.le_of_ble_eq_true rfl) ?_
  refine za_putF (k := 22) (ci := 5) X hnm rfl rfl rfl (by decide) rfl rfl (za_in 509 (by decide +kernel) rfl) rfl rfl (Nat.le_of_ble_eq_true rfl) ?_
  iterate 2 refine za_step X rfl rfl rfl ?_
  refine za_newi (N := 65) (t0 := 0) X rfl rfl za_intA (by decide) (by decide) (by decide) (Nat.le_of_ble_eq_true rfl) (Nat.le_of_ble_eq_true rfl) ?_
  refine za_putF (k := 23) (ci := 5) X hnm rfl rfl rfl (by decide) rfl rfl (za_in 510 (by decide +kernel) rfl) rfl rfl (Nat.le_of_ble_eq_true rfl) ?_
  iterate 2 refine za_step X rfl rfl rfl ?_
  refine za_newl (N := 64) (t0 := 1) X rfl rfl za_longA (by decide) (by decide) (by decide) (Nat.le_of_ble_eq_true rfl) (Nat.le_of_ble_eq_true rfl) ?_
  refine za_putF (k := 25) (ci := 5) X hnm rfl rfl rfl (by decide) rfl rfl (za_in 512 (by decide +kernel) rfl) rfl rfl (Nat.le_of_ble_eq_true rfl) ?_
  iterate 2 refine za_step X rfl rfl rfl ?_
  refine za_newi (N := 64) (t0 := 0) X rfl rfl za_intA (by decide) (by decide) (by decide) (Nat.le_of_ble_eq_true rfl) (Nat.le_of_ble_eq_true rfl) ?_
  refine za_putF (k := 26) (ci := 5) X hnm rfl rfl rfl (by decide) rfl rfl (za_in 513 (by decide +kernel) rfl) rfl rfl (Nat.le_of_ble_eq_true rfl) ?_
  iterate 2 refine za_step X rfl rfl rfl ?_
  refine za_newi (N := 64) (t0 := 0) X rfl rfl za_intA (by decide) (by decide) (by decide) (Nat.le_of_ble_eq_true rfl) (Nat.le_of_ble_eq_true rfl) ?_
  refine za_putF (k := 27) (ci := 5) X hnm rfl rfl rfl (by decide) rfl rfl (za_in 514 (by decide +kernel) rfl) rfl rfl (Nat.le_of_ble_eq_true rfl) ?_
  iterate 2 refine za_step X rfl rfl rfl ?_
  refine za_newi (N := 64) (t0 := 0) X rfl rfl za_intA (by decide) (by decide) (by decide) (Nat.le_of_ble_eq_true rfl) (Nat.le_of_ble_eq_true rfl) ?_
  refine za_putF (k := 28) (ci := 5) X hnm rfl rfl rfl (by decide) rfl rfl (za_in 515 (by decide +kernel) rfl) rfl rfl (Nat.le_of_ble_eq_true rfl) ?_
  iterate 2 refine za_step X rfl rfl rfl ?_
  refine za_newi (N := 64) (t0 := 0) X rfl rfl za_intA (by decide) (by decide) (by decide) (Nat.le_of_ble_eq_true rfl) (Nat.le_of_ble_eq_true rfl) ?_
  refine za_putF (k := 29) (ci := 5) X hnm rfl rfl rfl (by decide) rfl rfl (za_in 516 (by decide +kernel) rfl) rfl rfl (Nat.le_of_ble_eq_true rfl) ?_
  refine za_vret X rfl ⟨rfl, ⟨pr_ok_0, by decide, by decide, tr_0, 0, rfl, rfl, ⟨rfl, rfl, rfl, rfl⟩, ⟨fun _ => (0, 0, 0, 0, 0, 0), rfl, rfl, rfl, rfl, rfl, rfl⟩, ⟨fun _ => (0, 0, 0, 0, 0, 0), ⟨rfl, rfl, rfl, rfl, rfl⟩, fun i hi => absurd hi (Nat.not_lt_zero i)⟩, fun i hi => absurd hi (Nat.not_lt_zero i), Nat.zero_le _⟩, ?_, rfl⟩ (Nat.le_of_ble_eq_true rfl) (Nat.le_of_ble_eq_true rfl)
  intro j hj
  refine za_ov_off (v := [(142, _), (143, _), (144, _), (145, _), (146, _), (147, _), (148, _), (149, _), (150, _), (151, _), (152, _), (153, _), (154, _), (155, _), (156, _), (157, _), (158, _)]) ?_
  intro q hq
  simp only [List.mem_cons, List.not_mem_nil, or_false] at hq
  rcases hq with rfl | rfl | rfl | rfl | rfl | rfl | rfl | rfl | rfl | rfl | rfl | rfl | rfl | rfl | rfl | rfl | rfl <;> (show _ ≠ j; omega)
