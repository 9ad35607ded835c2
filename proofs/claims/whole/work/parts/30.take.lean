def rs_fa (f : Nat → wr_T) (T : tr_T) : Nat → Nat → Nat
  | 0, i => i
  | m + 1, i => if wr_ag (f i) T = true then i else rs_fa f T m (i + 1)
def wr_in : wr_T → Int32 | (x, y, _, _, _, _, _) => (x <<< ((4 : Int32) &&& 31)) + y
def wr_ou (q : wr_T) : Int32 := q.2.2.1
def rs_li (f : Nat → wr_T) (o : Int32) : Nat → Nat → Int32 → Int32
  | 0, _, a => a
  | m + 1, i, a => rs_li f o m (i + 1) (if wr_ou (f i) = o then (if wr_in (f i) < a then wr_in (f i) else a) else a)
theorem za_ov3 (h : za_H) (i j k : Nat) (c d e : za_C) : za_ov h [(i, c), (j, d), (k, e)] = za_set (za_set (za_set h k e) j d) i c := by
  funext q
  show (match za_vg [(i, c), (j, d), (k, e)] q with | some c => some c | none => h q) = _
  rw [za_vg_cons, za_vg_cons, za_vg_cons]
  by_cases e1 : i = q
  · subst e1; rw [if_pos rfl, za_set_eq]
  · rw [if_neg e1, za_set_ne (fun z => e1 z.symm)]
    by_cases e2 : j = q
    · subst e2; rw [if_pos rfl, za_set_eq]
    · rw [if_neg e2, za_set_ne (fun z => e2 z.symm)]
      by_cases e3 : k = q
      · subst e3; rw [if_pos rfl, za_set_eq]
      · rw [if_neg e3, za_set_ne (fun z => e3 z.symm)]; rfl
set_option maxHeartbeats 4000000 in
set_option maxRecDepth 100000 in
theorem c_R_firstAgreeing (l : Launch) (D : za_D) (h : za_H) (n : Nat) (rid : Nat) (hrid : rid = 10 ∨ rid = 76) (w : Nat → Nat) (k : Nat) (f : Nat → wr_T) (hS : rs_at h rid w (k, f)) (T : tr_T) (hT : h 8 = some (tr_c 8 T)) : za_M l D Y_R_firstAgreeing 1 0 0 [vR rid, vR 8] h n (fun v h' n' => v = some (vI (nI (rs_fa f T k 0))) ∧ h' = h ∧ n = n') := by
  obtain ⟨r, pl, la, dn, vi, de, ct, en, ou, ed⟩ := T
  obtain ⟨hr, hg, hw, hf, hrg, hij, hk⟩ := hS
  dsimp only at hr hf hk
  generalize rs_or f k = vis at hr
  rcases hrid with rfl | rfl
  · refine za_enter cd_R_firstAgreeing fl_R (by decide) cdok_R_firstAgreeing flok_R (Nat.le_of_ble_eq_true rfl) ?_
    intro p e s m args below meth c X hnm
    have hfin : za_ov h [(10, rs_c 10 k vis), (11, rs_g w), (8, tr_c 8 (r, pl, la, dn, vi, de, ct, en, ou, ed))] = h := by rw [za_ov3, za_set_same hT, za_set_same hg, za_set_same hr]
    have loop : ∀ (g i : Nat), i + g = k → rs_fa f (r, pl, la, dn, vi, de, ct, en, ou, ed) g i = rs_fa f (r, pl, la, dn, vi, de, ct, en, ou, ed) k 0 → za_W p l e (za_rm 1 0 0) s m args below meth c D 3 (MQ below (za_Q D (fun v h' n' => v = some (vI (nI (rs_fa f (r, pl, la, dn, vi, de, ct, en, ou, ed) k 0))) ∧ h' = h ∧ n = n')) args s 0 0 (fun q : Nat => D.2.2 ≤ q)) h n 0 0 2 [(0, vR 10), (1, vR 8), (2, vI (nI i))] [] [(10, rs_c 10 k vis), (11, rs_g w), (8, tr_c 8 (r, pl, la, dn, vi, de, ct, en, ou, ed))] := by
      intro g
      induction g with
      | zero =>
        intro i hi hp
        iterate 3 refine za_step X rfl rfl rfl ?_
        refine za_icge X 29 rfl (by decide) (fun q1 => ?_) (fun q1 => ?_)
        · iterate 1 refine za_step X rfl rfl rfl ?_
          exact za_iret X rfl ⟨by rw [← hp]; rfl, hfin, rfl⟩ (Nat.le_refl _) (Nat.le_refl _)
        · exact absurd ((nI_leI (by omega) (by omega)).mpr (by omega)) q1
      | succ g ih =>
        intro i hi hp
        have hrgi := hrg i (by omega)
        have hwi : za_ov h [(10, rs_c 10 k vis), (11, rs_g w), (8, tr_c 8 (r, pl, la, dn, vi, de, ct, en, ou, ed))] (w i) = some (wr_c (f i)) := by rw [hfin]; exact hf i (by omega)
        have hci : (nI i).toNatClampNeg = i := nI_clamp (by omega)
        iterate 3 refine za_step X rfl rfl rfl ?_
        refine za_icge X 29 rfl (by decide) (fun q1 => ?_) (fun q1 => ?_)
        · exact absurd ((nI_leI (by omega) (by omega)).mp q1) (by omega)
        · iterate 3 refine za_step X rfl rfl rfl ?_
          refine za_aald X rfl rfl rfl (vp_in_nI (by omega) (by decide)) ?_
          rw [hci]
          iterate 1 refine za_step X rfl rfl rfl ?_
          refine za_callV (b := w i) (d := 0) (mc := 0) (ms := 0) (as := [vR 8]) (rest := []) X rfl cl_R_W_agreesWith cy_W_agreesWith cv_W_agreesWith (c_W_agreesWith l D (za_ov h [(10, rs_c 10 k vis), (11, rs_g w), (8, tr_c 8 (r, pl, la, dn, vi, de, ct, en, ou, ed))]) n (w i) (by omega) (f i) hwi (r, pl, la, dn, vi, de, ct, en, ou, ed) rfl) rfl rfl hwi rfl (Nat.le_of_ble_eq_true rfl) (Nat.le_of_ble_eq_true rfl) (Nat.le_of_ble_eq_true rfl) (Nat.le_of_ble_eq_true rfl) (Nat.le_of_ble_eq_true rfl) (fun v h' n' hq => ?_)
          obtain ⟨rfl, rfl, rfl⟩ := hq
          refine za_look (h1 := h) (v1 := [(10, rs_c 10 k vis), (11, rs_g w), (8, tr_c 8 (r, pl, la, dn, vi, de, ct, en, ou, ed))]) rfl ?_
          refine za_ifne X 29 rfl (by decide) (fun q2 => ?_) (fun q2 => ?_)
          · iterate 1 refine za_step X rfl rfl rfl ?_
            exact za_iret X rfl ⟨by rw [← hp, show rs_fa f (r, pl, la, dn, vi, de, ct, en, ou, ed) (g + 1) i = i from if_pos (bI_n0 q2)], hfin, rfl⟩ (Nat.le_refl _) (Nat.le_refl _)
          · iterate 2 refine za_step X rfl rfl rfl ?_
            rw [show nI i + Int32.ofInt 1 = nI (i + 1) from nI_1 i]
            refine za_loc [(0, vR 10), (1, vR 8), (2, vI (nI (i + 1)))] rfl (ih (i + 1) (by omega) ?_)
            rw [← hp, show rs_fa f (r, pl, la, dn, vi, de, ct, en, ou, ed) (g + 1) i = rs_fa f (r, pl, la, dn, vi, de, ct, en, ou, ed) g (i + 1) from if_neg (by rw [bI_0 q2]; decide)]
    refine za_view [(10, rs_c 10 k vis), (11, rs_g w), (8, tr_c 8 (r, pl, la, dn, vi, de, ct, en, ou, ed))] (by simp [hr, hg, hT]) ?_
    iterate 2 refine za_step X rfl rfl rfl ?_
    exact za_loc [(0, vR 10), (1, vR 8), (2, vI (nI 0))] rfl (loop k 0 (by omega) rfl)
  · refine za_enter cd_R_firstAgreeing fl_R (by decide) cdok_R_firstAgreeing flok_R (Nat.le_of_ble_eq_true rfl) ?_
    intro p e s m args below meth c X hnm
    have hfin : za_ov h [(76, rs_c 76 k vis), (77, rs_g w), (8, tr_c 8 (r, pl, la, dn, vi, de, ct, en, ou, ed))] = h := by rw [za_ov3, za_set_same hT, za_set_same hg, za_set_same hr]
    have loop : ∀ (g i : Nat), i + g = k → rs_fa f (r, pl, la, dn, vi, de, ct, en, ou, ed) g i = rs_fa f (r, pl, la, dn, vi, de, ct, en, ou, ed) k 0 → za_W p l e (za_rm 1 0 0) s m args below meth c D 3 (MQ below (za_Q D (fun v h' n' => v = some (vI (nI (rs_fa f (r, pl, la, dn, vi, de, ct, en, ou, ed) k 0))) ∧ h' = h ∧ n = n')) args s 0 0 (fun q : Nat => D.2.2 ≤ q)) h n 0 0 2 [(0, vR 76), (1, vR 8), (2, vI (nI i))] [] [(76, rs_c 76 k vis), (77, rs_g w), (8, tr_c 8 (r, pl, la, dn, vi, de, ct, en, ou, ed))] := by
      intro g
      induction g with
      | zero =>
        intro i hi hp
        iterate 3 refine za_step X rfl rfl rfl ?_
        refine za_icge X 29 rfl (by decide) (fun q1 => ?_) (fun q1 => ?_)
        · iterate 1 refine za_step X rfl rfl rfl ?_
          exact za_iret X rfl ⟨by rw [← hp]; rfl, hfin, rfl⟩ (Nat.le_refl _) (Nat.le_refl _)
        · exact absurd ((nI_leI (by omega) (by omega)).mpr (by omega)) q1
      | succ g ih =>
        intro i hi hp
        have hrgi := hrg i (by omega)
        have hwi : za_ov h [(76, rs_c 76 k vis), (77, rs_g w), (8, tr_c 8 (r, pl, la, dn, vi, de, ct, en, ou, ed))] (w i) = some (wr_c (f i)) := by rw [hfin]; exact hf i (by omega)
        have hci : (nI i).toNatClampNeg = i := nI_clamp (by omega)
        iterate 3 refine za_step X rfl rfl rfl ?_
        refine za_icge X 29 rfl (by decide) (fun q1 => ?_) (fun q1 => ?_)
        · exact absurd ((nI_leI (by omega) (by omega)).mp q1) (by omega)
        · iterate 3 refine za_step X rfl rfl rfl ?_
          refine za_aald X rfl rfl rfl (vp_in_nI (by omega) (by decide)) ?_
          rw [hci]
          iterate 1 refine za_step X rfl rfl rfl ?_
          refine za_callV (b := w i) (d := 0) (mc := 0) (ms := 0) (as := [vR 8]) (rest := []) X rfl cl_R_W_agreesWith cy_W_agreesWith cv_W_agreesWith (c_W_agreesWith l D (za_ov h [(76, rs_c 76 k vis), (77, rs_g w), (8, tr_c 8 (r, pl, la, dn, vi, de, ct, en, ou, ed))]) n (w i) (by omega) (f i) hwi (r, pl, la, dn, vi, de, ct, en, ou, ed) rfl) rfl rfl hwi rfl (Nat.le_of_ble_eq_true rfl) (Nat.le_of_ble_eq_true rfl) (Nat.le_of_ble_eq_true rfl) (Nat.le_of_ble_eq_true rfl) (Nat.le_of_ble_eq_true rfl) (fun v h' n' hq => ?_)
          obtain ⟨rfl, rfl, rfl⟩ := hq
          refine za_look (h1 := h) (v1 := [(76, rs_c 76 k vis), (77, rs_g w), (8, tr_c 8 (r, pl, la, dn, vi, de, ct, en, ou, ed))]) rfl ?_
          refine za_ifne X 29 rfl (by decide) (fun q2 => ?_) (fun q2 => ?_)
          · iterate 1 refine za_step X rfl rfl rfl ?_
            exact za_iret X rfl ⟨by rw [← hp, show rs_fa f (r, pl, la, dn, vi, de, ct, en, ou, ed) (g + 1) i = i from if_pos (bI_n0 q2)], hfin, rfl⟩ (Nat.le_refl _) (Nat.le_refl _)
          · iterate 2 refine za_step X rfl rfl rfl ?_
            rw [show nI i + Int32.ofInt 1 = nI (i + 1) from nI_1 i]
            refine za_loc [(0, vR 76), (1, vR 8), (2, vI (nI (i + 1)))] rfl (ih (i + 1) (by omega) ?_)
            rw [← hp, show rs_fa f (r, pl, la, dn, vi, de, ct, en, ou, ed) (g + 1) i = rs_fa f (r, pl, la, dn, vi, de, ct, en, ou, ed) g (i + 1) from if_neg (by rw [bI_0 q2]; decide)]
    refine za_view [(76, rs_c 76 k vis), (77, rs_g w), (8, tr_c 8 (r, pl, la, dn, vi, de, ct, en, ou, ed))] (by simp [hr, hg, hT]) ?_
    iterate 2 refine za_step X rfl rfl rfl ?_
    exact za_loc [(0, vR 76), (1, vR 8), (2, vI (nI 0))] rfl (loop k 0 (by omega) rfl)
theorem wr_cu (q : wr_T) : ∃ (x y ou ed : Int32) (de : Int64) (ct vi : Int32), q = (x, y, ou, ed, de, ct, vi) := ⟨_, _, _, _, _, _, _, rfl⟩
set_option maxHeartbeats 4000000 in
set_option maxRecDepth 100000 in
theorem c_R_leastInputs (l : Launch) (D : za_D) (h : za_H) (n : Nat) (rid : Nat) (hrid : rid = 10 ∨ rid = 76) (w : Nat → Nat) (k : Nat) (f : Nat → wr_T) (hS : rs_at h rid w (k, f)) (o : Int32) : za_M l D Y_R_leastInputs 1 0 0 [vR rid, vI o] h n (fun v h' n' => v = some (vI (rs_li f o k 0 256)) ∧ h' = h ∧ n = n') := by
  obtain ⟨hr, hg, hw, hf, hrg, hij, hk⟩ := hS
  dsimp only at hr hf hk
  generalize rs_or f k = vis at hr
  rcases hrid with rfl | rfl
  · refine za_enter cd_R_leastInputs fl_R (by decide) cdok_R_leastInputs flok_R (Nat.le_of_ble_eq_true rfl) ?_
    intro p e s m args below meth c X hnm
    have hfin : za_ov h [(10, rs_c 10 k vis), (11, rs_g w)] = h := by rw [za_ov2, za_set_same hg, za_set_same hr]
    have loop : ∀ (g i : Nat) (a : Int32), i + g = k → rs_li f o g i a = rs_li f o k 0 256 → za_W p l e (za_rm 1 0 0) s m args below meth c D 4 (MQ below (za_Q D (fun v h' n' => v = some (vI (rs_li f o k 0 256)) ∧ h' = h ∧ n = n')) args s 0 0 (fun q : Nat => D.2.2 ≤ q)) h n 0 0 6 [(0, vR 10), (1, vI o), (2, vI a), (3, vI (nI i))] [] [(10, rs_c 10 k vis), (11, rs_g w)] := by
      intro g
      induction g with
      | zero =>
        intro i a hi hp
        iterate 3 refine za_step X rfl rfl rfl ?_
        refine za_icge X 59 rfl (by decide) (fun q1 => ?_) (fun q1 => ?_)
        · iterate 1 refine za_step X rfl rfl rfl ?_
          exact za_iret X rfl ⟨by rw [← hp]; rfl, hfin, rfl⟩ (Nat.le_refl _) (Nat.le_refl _)
        · exact absurd ((nI_leI (by omega) (by omega)).mpr (by omega)) q1
      | succ g ih =>
        intro i a hi hp
        have hwi : za_ov h [(10, rs_c 10 k vis), (11, rs_g w)] (w i) = some (wr_c (f i)) := by rw [hfin]; exact hf i (by omega)
        have hci : (nI i).toNatClampNeg = i := nI_clamp (by omega)
        obtain ⟨ax, ay, ao, ae, ad, ac, av, hfi⟩ := wr_cu (f i)
        rw [hfi] at hwi
        have hp2 : rs_li f o g (i + 1) (if ao = o then (if (ax <<< ((4 : Int32) &&& 31)) + ay < a then (ax <<< ((4 : Int32) &&& 31)) + ay else a) else a) = rs_li f o k 0 256 := by
          rw [← hp]
          show _ = rs_li f o g (i + 1) (if wr_ou (f i) = o then (if wr_in (f i) < a then wr_in (f i) else a) else a)
          rw [hfi]
          rfl
        iterate 3 refine za_step X rfl rfl rfl ?_
        refine za_icge X 59 rfl (by decide) (fun q1 => ?_) (fun q1 => ?_)
        · exact absurd ((nI_leI (by omega) (by omega)).mp q1) (by omega)
        · iterate 3 refine za_step X rfl rfl rfl ?_
          refine za_aald X rfl rfl rfl (vp_in_nI (by omega) (by decide)) ?_
          rw [hci]
          refine za_getH X rfl hwi rfl rfl ?_
          iterate 1 refine za_step X rfl rfl rfl ?_
          refine za_icne X 53 rfl (by decide) (fun q2 => ?_) (fun q2 => ?_)
          · rw [if_neg q2] at hp2
            iterate 2 refine za_step X rfl rfl rfl ?_
            rw [show nI i + Int32.ofInt 1 = nI (i + 1) from nI_1 i]
            exact za_loc [(0, vR 10), (1, vI o), (2, vI a), (3, vI (nI (i + 1)))] rfl (ih (i + 1) a (by omega) hp2)
          · rw [if_pos q2] at hp2
            iterate 4 refine za_step X rfl rfl rfl ?_
            refine za_aald X rfl rfl rfl (vp_in_nI (by omega) (by decide)) ?_
            rw [hci]
            refine za_getH X rfl hwi rfl rfl ?_
            iterate 5 refine za_step X rfl rfl rfl ?_
            refine za_aald X rfl rfl rfl (vp_in_nI (by omega) (by decide)) ?_
            rw [hci]
            refine za_getH X rfl hwi rfl rfl ?_
            iterate 1 refine za_step X rfl rfl rfl ?_
            refine za_min X rfl zmin_R zm_1 zj_Math zm_2 (Nat.le_of_ble_eq_true rfl) (Nat.le_of_ble_eq_true rfl) (Nat.le_of_ble_eq_true rfl) (Nat.le_of_ble_eq_true rfl) (Nat.le_of_ble_eq_true rfl) ?_
            iterate 3 refine za_step X rfl rfl rfl ?_
            rw [show nI i + Int32.ofInt 1 = nI (i + 1) from nI_1 i]
            exact za_loc [(0, vR 10), (1, vI o), (2, vI (if (ax <<< ((4 : Int32) &&& 31)) + ay < a then (ax <<< ((4 : Int32) &&& 31)) + ay else a)), (3, vI (nI (i + 1)))] rfl (ih (i + 1) _ (by omega) hp2)
    refine za_view [(10, rs_c 10 k vis), (11, rs_g w)] (by simp [hr, hg]) ?_
    iterate 4 refine za_step X rfl rfl rfl ?_
    exact za_loc [(0, vR 10), (1, vI o), (2, vI 256), (3, vI (nI 0))] rfl (loop k 0 256 (by omega) rfl)
  · refine za_enter cd_R_leastInputs fl_R (by decide) cdok_R_leastInputs flok_R (Nat.le_of_ble_eq_true rfl) ?_
    intro p e s m args below meth c X hnm
    have hfin : za_ov h [(76, rs_c 76 k vis), (77, rs_g w)] = h := by rw [za_ov2, za_set_same hg, za_set_same hr]
    have loop : ∀ (g i : Nat) (a : Int32), i + g = k → rs_li f o g i a = rs_li f o k 0 256 → za_W p l e (za_rm 1 0 0) s m args below meth c D 4 (MQ below (za_Q D (fun v h' n' => v = some (vI (rs_li f o k 0 256)) ∧ h' = h ∧ n = n')) args s 0 0 (fun q : Nat => D.2.2 ≤ q)) h n 0 0 6 [(0, vR 76), (1, vI o), (2, vI a), (3, vI (nI i))] [] [(76, rs_c 76 k vis), (77, rs_g w)] := by
      intro g
      induction g with
      | zero =>
        intro i a hi hp
        iterate 3 refine za_step X rfl rfl rfl ?_
        refine za_icge X 59 rfl (by decide) (fun q1 => ?_) (fun q1 => ?_)
        · iterate 1 refine za_step X rfl rfl rfl ?_
          exact za_iret X rfl ⟨by rw [← hp]; rfl, hfin, rfl⟩ (Nat.le_refl _) (Nat.le_refl _)
        · exact absurd ((nI_leI (by omega) (by omega)).mpr (by omega)) q1
      | succ g ih =>
        intro i a hi hp
        have hwi : za_ov h [(76, rs_c 76 k vis), (77, rs_g w)] (w i) = some (wr_c (f i)) := by rw [hfin]; exact hf i (by omega)
        have hci : (nI i).toNatClampNeg = i := nI_clamp (by omega)
        obtain ⟨ax, ay, ao, ae, ad, ac, av, hfi⟩ := wr_cu (f i)
        rw [hfi] at hwi
        have hp2 : rs_li f o g (i + 1) (if ao = o then (if (ax <<< ((4 : Int32) &&& 31)) + ay < a then (ax <<< ((4 : Int32) &&& 31)) + ay else a) else a) = rs_li f o k 0 256 := by
          rw [← hp]
          show _ = rs_li f o g (i + 1) (if wr_ou (f i) = o then (if wr_in (f i) < a then wr_in (f i) else a) else a)
          rw [hfi]
          rfl
        iterate 3 refine za_step X rfl rfl rfl ?_
        refine za_icge X 59 rfl (by decide) (fun q1 => ?_) (fun q1 => ?_)
        · exact absurd ((nI_leI (by omega) (by omega)).mp q1) (by omega)
        · iterate 3 refine za_step X rfl rfl rfl ?_
          refine za_aald X rfl rfl rfl (vp_in_nI (by omega) (by decide)) ?_
          rw [hci]
          refine za_getH X rfl hwi rfl rfl ?_
          iterate 1 refine za_step X rfl rfl rfl ?_
          refine za_icne X 53 rfl (by decide) (fun q2 => ?_) (fun q2 => ?_)
          · rw [if_neg q2] at hp2
            iterate 2 refine za_step X rfl rfl rfl ?_
            rw [show nI i + Int32.ofInt 1 = nI (i + 1) from nI_1 i]
            exact za_loc [(0, vR 76), (1, vI o), (2, vI a), (3, vI (nI (i + 1)))] rfl (ih (i + 1) a (by omega) hp2)
          · rw [if_pos q2] at hp2
            iterate 4 refine za_step X rfl rfl rfl ?_
            refine za_aald X rfl rfl rfl (vp_in_nI (by omega) (by decide)) ?_
            rw [hci]
            refine za_getH X rfl hwi rfl rfl ?_
            iterate 5 refine za_step X rfl rfl rfl ?_
            refine za_aald X rfl rfl rfl (vp_in_nI (by omega) (by decide)) ?_
            rw [hci]
            refine za_getH X rfl hwi rfl rfl ?_
            iterate 1 refine za_step X rfl rfl rfl ?_
            refine za_min X rfl zmin_R zm_1 zj_Math zm_2 (Nat.le_of_ble_eq_true rfl) (Nat.le_of_ble_eq_true rfl) (Nat.le_of_ble_eq_true rfl) (Nat.le_of_ble_eq_true rfl) (Nat.le_of_ble_eq_true rfl) ?_
            iterate 3 refine za_step X rfl rfl rfl ?_
            rw [show nI i + Int32.ofInt 1 = nI (i + 1) from nI_1 i]
            exact za_loc [(0, vR 76), (1, vI o), (2, vI (if (ax <<< ((4 : Int32) &&& 31)) + ay < a then (ax <<< ((4 : Int32) &&& 31)) + ay else a)), (3, vI (nI (i + 1)))] rfl (ih (i + 1) _ (by omega) hp2)
    refine za_view [(76, rs_c 76 k vis), (77, rs_g w)] (by simp [hr, hg]) ?_
    iterate 4 refine za_step X rfl rfl rfl ?_
    exact za_loc [(0, vR 76), (1, vI o), (2, vI 256), (3, vI (nI 0))] rfl (loop k 0 256 (by omega) rfl)
def rs_tk (h : za_H) (rid : Nat) (v : Option za_V) (h' : za_H) (R : Option rs_T) : Prop := match R with
  | none => v = some (vI 0) ∧ h' = h
  | some S => v = some (vI 1) ∧ (∃ w, rs_at h' rid w S) ∧ ∀ j, (j < rid ∨ rid + 66 ≤ j) → h' j = h j
theorem rs_taken {h h3 : za_H} {rid : Nat} {w : Nat → Nat} {k j : Nat} {f : Nat → wr_T} {q : wr_T} (hS : rs_at h rid w (k, f)) (hj : j ≤ k) (hk : k < 64) (e3 : h3 = za_set (za_set (za_set h (rid + 1) (rs_g (rs_rot w j k))) (w k) (wr_c q)) rid (rs_c rid (k + 1) (rs_or f k ||| wr_vi q))) :
    rs_at h3 rid (rs_rot w j k) (k + 1, rs_ins f j q) ∧ ∀ i, (i < rid ∨ rid + 66 ≤ i) → h3 i = h i := by
  obtain ⟨hr, hg, hw, hf, hrg, hij, -⟩ := hS
  dsimp only at hr hf
  have hwk := hrg k hk
  have off : ∀ i, i < 64 → i ≠ k → h3 (w i) = h (w i) := by
    intro i hi hne
    have := hrg i hi
    rw [e3, za_set_ne (by omega), za_set_ne (fun z => hne (hij _ _ hi hk z)), za_set_ne (by omega)]
  have atk : h3 (w k) = some (wr_c q) := by
    rw [e3, za_set_ne (by omega), za_set_eq]
  refine ⟨⟨?_, ?_, ?_, ?_, rs_rot_range hk hrg, rs_rot_inj hk hj hij, by show k + 1 ≤ 64; omega⟩, ?_⟩
  · show h3 rid = some (rs_c rid (k + 1) (rs_or (rs_ins f j q) (k + 1)))
    rw [rs_or_ins f q k j hj, e3, za_set_eq]
  · rw [e3, za_set_ne (by omega), za_set_ne (by omega), za_set_eq]
  · intro i hi
    by_cases e1 : i = j
    · rw [show rs_rot w j k i = w k by unfold rs_rot; rw [if_pos e1]]
      exact ⟨q, atk⟩
    · by_cases e2 : j < i ∧ i ≤ k
      · rw [show rs_rot w j k i = w (i - 1) by unfold rs_rot rs_mv; rw [if_neg e1, if_pos e2], off (i - 1) (by omega) (by omega)]
        exact hw (i - 1) (by omega)
      · rw [show rs_rot w j k i = w i by unfold rs_rot rs_mv; rw [if_neg e1, if_neg e2]]
        by_cases e4 : i = k
        · subst e4; exact ⟨q, atk⟩
        · rw [off i hi e4]; exact hw i hi
  · intro i hi
    have hi2 : i < k + 1 := hi
    show h3 (rs_rot w j k i) = some (wr_c (rs_ins f j q i))
    by_cases e1 : i = j
    · rw [show rs_rot w j k i = w k by unfold rs_rot; rw [if_pos e1], show rs_ins f j q i = q by unfold rs_ins; rw [if_neg (by omega), if_pos e1]]
      exact atk
    · by_cases e2 : j < i ∧ i ≤ k
      · rw [show rs_rot w j k i = w (i - 1) by unfold rs_rot rs_mv; rw [if_neg e1, if_pos e2], off (i - 1) (by omega) (by omega), show rs_ins f j q i = f (i - 1) by unfold rs_ins; rw [if_neg (by omega), if_neg e1]]
        exact hf (i - 1) (by omega)
      · rw [show rs_rot w j k i = w i by unfold rs_rot rs_mv; rw [if_neg e1, if_neg e2], off i (by omega) (by omega), show rs_ins f j q i = f i by unfold rs_ins; rw [if_pos (by omega)]]
        exact hf i (by omega)
  · intro i hi
    rw [e3, za_set_ne (by omega), za_set_ne (by omega), za_set_ne (by omega)]
set_option maxHeartbeats 4000000 in
set_option maxRecDepth 100000 in
theorem c_R_take (l : Launch) (D : za_D) (h : za_H) (n : Nat) (rid : Nat) (hrid : rid = 10 ∨ rid = 76) (w : Nat → Nat) (k : Nat) (f : Nat → wr_T) (hS : rs_at h rid w (k, f)) (T : tr_T) (hT : h 8 = some (tr_c 8 T)) (x y : Int32) : za_M l D Y_R_take 1 0 0 [vR rid, vR 8, vI x, vI y] h n (fun v h' n' => rs_tk h rid v h' (rs_take (k, f) (wr_of T x y)) ∧ n = n') := by
  obtain ⟨r, pl, la, dn, vi, de, ct, en, ou, ed⟩ := T
  have hS0 := hS
  obtain ⟨hr, hg, hw, hf, hrg, hij, hk⟩ := hS
  dsimp only at hr hf hk
  generalize hj : rs_pos f de k 0 = j
  have hjk : j ≤ k := by have := (rs_pos_le f de k 0).2; omega
  have htk : rs_take (k, f) (wr_of (r, pl, la, dn, vi, de, ct, en, ou, ed) x y) = if j < k ∧ wr_de (f j) = de then some (k, f) else if k = 64 then none else some (k + 1, rs_ins f j (wr_of (r, pl, la, dn, vi, de, ct, en, ou, ed) x y)) := by
    show (if rs_pos f de k 0 < k ∧ wr_de (f (rs_pos f de k 0)) = de then some (k, f) else if k = 64 then none else some (k + 1, rs_ins f (rs_pos f de k 0) (wr_of (r, pl, la, dn, vi, de, ct, en, ou, ed) x y))) = _
    rw [hj]
  rw [htk]
  have k64 : (Int8.ofInt 64).toInt32 = nI 64 := by decide
  have hcj : (nI j).toNatClampNeg = j := nI_clamp (by omega)
  obtain ⟨vis, hvis⟩ : ∃ v, v = rs_or f k := ⟨_, rfl⟩
  rw [← hvis] at hr
  rcases hrid with rfl | rfl
  · refine za_enter cd_R_take fl_R (by decide) cdok_R_take flok_R (Nat.le_of_ble_eq_true rfl) ?_
    intro p e s m args below meth c X hnm
    have hfin : za_ov h [(10, rs_c 10 k vis), (11, rs_g w), (8, tr_c 8 (r, pl, la, dn, vi, de, ct, en, ou, ed))] = h := by rw [za_ov3, za_set_same hT, za_set_same hg, za_set_same hr]
    have go39 : ¬ (j < k ∧ wr_de (f j) = de) → za_W p l e (za_rm 1 0 0) s m args below meth c D 5 (MQ below (za_Q D (fun v h' n' => rs_tk h 10 v h' (if j < k ∧ wr_de (f j) = de then some (k, f) else if k = 64 then none else some (k + 1, rs_ins f j (wr_of (r, pl, la, dn, vi, de, ct, en, ou, ed) x y))) ∧ n = n')) args s 0 0 (fun q : Nat => D.2.2 ≤ q)) h n 0 0 39 [(0, vR 10), (1, vR 8), (2, vI x), (3, vI y), (4, vI (nI j))] [] [(10, rs_c 10 k vis), (11, rs_g w), (8, tr_c 8 (r, pl, la, dn, vi, de, ct, en, ou, ed))] := by
      intro hno
      rw [if_neg hno]
      iterate 3 refine za_step X rfl rfl rfl ?_
      refine za_icne X 50 rfl (by decide) (fun q1 => ?_) (fun q1 => ?_)
      · rw [k64] at q1
        have hk2 : k ≠ 64 := fun z => q1 (by rw [z])
        have hk3 : k < 64 := by omega
        rw [if_neg hk2]
        iterate 2 refine za_step X rfl rfl rfl ?_
        refine za_callV (b := 10) (d := 0) (mc := 0) (ms := 0) (as := [vI (nI j)]) (rest := []) X rfl cl_R_R_makeRoom cy_R_makeRoom cv_R_makeRoom (c_R_makeRoom l D (za_ov h [(10, rs_c 10 k vis), (11, rs_g w), (8, tr_c 8 (r, pl, la, dn, vi, de, ct, en, ou, ed))]) n 10 (Or.inl rfl) w k j vis rfl rfl (by rw [hfin]; exact hw) hrg hjk hk3) rfl rfl rfl rfl (Nat.le_of_ble_eq_true rfl) (Nat.le_of_ble_eq_true rfl) (Nat.le_of_ble_eq_true rfl) (Nat.le_of_ble_eq_true rfl) (Nat.le_of_ble_eq_true rfl) (fun v h' n' hq => ?_)
        obtain ⟨rfl, rfl, rfl⟩ := hq
        rw [hfin]
        have hwk := hrg k hk3
        generalize hh1 : za_set (za_set h (10 + 1) (rs_g (rs_rot w j k))) 10 (rs_c 10 (k + 1) vis) = h1
        have a1 : h1 10 = some (rs_c 10 (k + 1) vis) := by rw [← hh1, za_set_eq]
        have a2 : h1 11 = some (rs_g (rs_rot w j k)) := by rw [← hh1, za_set_ne (by omega), za_set_eq]
        have a3 : h1 8 = some (tr_c 8 (r, pl, la, dn, vi, de, ct, en, ou, ed)) := by rw [← hh1, za_set_ne (by omega), za_set_ne (by omega)]; exact hT
        have a4 : ∃ q, h1 (w k) = some (wr_c q) := by rw [← hh1, za_set_ne (by omega), za_set_ne (by omega)]; exact hw k hk3
        obtain ⟨q4, a4⟩ := a4
        have hrot : rs_rot w j k j = w k := by unfold rs_rot; rw [if_pos rfl]
        have hf1 : za_ov h1 [(10, rs_c 10 (k + 1) vis), (11, rs_g (rs_rot w j k)), (8, tr_c 8 (r, pl, la, dn, vi, de, ct, en, ou, ed))] = h1 := by rw [za_ov3, za_set_same a3, za_set_same a2, za_set_same a1]
        refine za_view [(10, rs_c 10 (k + 1) vis), (11, rs_g (rs_rot w j k)), (8, tr_c 8 (r, pl, la, dn, vi, de, ct, en, ou, ed))] (by simp [a1, a2, a3]) ?_
        iterate 3 refine za_step X rfl rfl rfl ?_
        refine za_aald X rfl rfl rfl (vp_in_nI (by omega) (by decide)) ?_
        rw [hcj, hrot]
        iterate 3 refine za_step X rfl rfl rfl ?_
        refine za_callV (b := w k) (d := 0) (mc := 0) (ms := 0) (as := [vR 8, vI x, vI y]) (rest := []) X rfl cl_R_W_set cy_W_set cv_W_set (c_W_set l D (za_ov h1 [(10, rs_c 10 (k + 1) vis), (11, rs_g (rs_rot w j k)), (8, tr_c 8 (r, pl, la, dn, vi, de, ct, en, ou, ed))]) n (w k) (by omega) q4 (by rw [hf1]; exact a4) (r, pl, la, dn, vi, de, ct, en, ou, ed) rfl x y) rfl rfl (show za_ov h1 _ (w k) = _ by rw [hf1]; exact a4) rfl (Nat.le_of_ble_eq_true rfl) (Nat.le_of_ble_eq_true rfl) (Nat.le_of_ble_eq_true rfl) (Nat.le_of_ble_eq_true rfl) (Nat.le_of_ble_eq_true rfl) (fun v h' n' hq => ?_)
        obtain ⟨rfl, rfl, rfl⟩ := hq
        rw [hf1]
        generalize hh2 : za_set h1 (w k) (wr_c (wr_of (r, pl, la, dn, vi, de, ct, en, ou, ed) x y)) = h2
        have b1 : h2 10 = some (rs_c 10 (k + 1) vis) := by rw [← hh2, za_set_ne (by omega)]; exact a1
        have b3 : h2 8 = some (tr_c 8 (r, pl, la, dn, vi, de, ct, en, ou, ed)) := by rw [← hh2, za_set_ne (by omega)]; exact a3
        refine za_view [(10, rs_c 10 (k + 1) vis), (8, tr_c 8 (r, pl, la, dn, vi, de, ct, en, ou, ed))] (by simp [b1, b3]) ?_
        iterate 8 refine za_step X rfl rfl rfl ?_
        refine za_zret X rfl (Or.inr rfl) ⟨?_, rfl⟩ (Nat.le_refl _) (Nat.le_refl _)
        have e3 : za_ov h2 [(10, rs_c 10 (k + 1) (vis ||| vi)), (8, tr_c 8 (r, pl, la, dn, vi, de, ct, en, ou, ed))] = za_set (za_set (za_set h (10 + 1) (rs_g (rs_rot w j k))) (w k) (wr_c (wr_of (r, pl, la, dn, vi, de, ct, en, ou, ed) x y))) 10 (rs_c 10 (k + 1) (rs_or f k ||| wr_vi (wr_of (r, pl, la, dn, vi, de, ct, en, ou, ed) x y))) := by
          rw [za_ov2, za_set_same b3, ← hh2, ← hh1, za_set_comm (show 10 ≠ w k by omega), za_set_set, hvis]
          rfl
        have e4 := rs_taken (q := wr_of (r, pl, la, dn, vi, de, ct, en, ou, ed) x y) hS0 hjk hk3 e3
        exact ⟨rfl, ⟨_, e4.1⟩, e4.2⟩
      · rw [k64] at q1
        have hk2 : k = 64 := (nI_eq (by omega) (by omega)).mp q1
        rw [if_pos hk2]
        iterate 1 refine za_step X rfl rfl rfl ?_
        exact za_zret X rfl (Or.inl rfl) ⟨⟨rfl, hfin⟩, rfl⟩ (Nat.le_refl _) (Nat.le_refl _)
    refine za_view [(10, rs_c 10 k vis), (11, rs_g w), (8, tr_c 8 (r, pl, la, dn, vi, de, ct, en, ou, ed))] (by simp [hr, hg, hT]) ?_
    iterate 3 refine za_step X rfl rfl rfl ?_
    refine za_callV (b := 10) (d := 0) (mc := 0) (ms := 0) (as := [vL de]) (rest := []) X rfl cl_R_R_firstNotBefore cy_R_firstNotBefore cv_R_firstNotBefore (c_R_firstNotBefore l D (za_ov h [(10, rs_c 10 k vis), (11, rs_g w), (8, tr_c 8 (r, pl, la, dn, vi, de, ct, en, ou, ed))]) n 10 (Or.inl rfl) w k f (by rw [hfin]; exact hS0) de) rfl rfl rfl rfl (Nat.le_of_ble_eq_true rfl) (Nat.le_of_ble_eq_true rfl) (Nat.le_of_ble_eq_true rfl) (Nat.le_of_ble_eq_true rfl) (Nat.le_of_ble_eq_true rfl) (fun v h' n' hq => ?_)
    obtain ⟨rfl, rfl, rfl⟩ := hq
    refine za_look (h1 := h) (v1 := [(10, rs_c 10 k vis), (11, rs_g w), (8, tr_c 8 (r, pl, la, dn, vi, de, ct, en, ou, ed))]) rfl ?_
    rw [hj]
    iterate 3 refine za_step X rfl rfl rfl ?_
    refine za_callV (b := 10) (d := 0) (mc := 0) (ms := 0) (as := [vI (nI j)]) (rest := []) X rfl cl_R_R_has cy_R_has cv_R_has (c_R_has l D (za_ov h [(10, rs_c 10 k vis), (11, rs_g w), (8, tr_c 8 (r, pl, la, dn, vi, de, ct, en, ou, ed))]) n 10 (Or.inl rfl) k vis rfl (nI j)) rfl rfl rfl rfl (Nat.le_of_ble_eq_true rfl) (Nat.le_of_ble_eq_true rfl) (Nat.le_of_ble_eq_true rfl) (Nat.le_of_ble_eq_true rfl) (Nat.le_of_ble_eq_true rfl) (fun v h' n' hq => ?_)
    obtain ⟨rfl, rfl, rfl⟩ := hq
    refine za_look (h1 := h) (v1 := [(10, rs_c 10 k vis), (11, rs_g w), (8, tr_c 8 (r, pl, la, dn, vi, de, ct, en, ou, ed))]) rfl ?_
    have hhas : rs_has k (nI j) = decide (j < k) := by
      have p1 : (0 : Int32) ≤ nI j := nI_pos' (by omega)
      have p2 : (nI j < nI k) = (j < k) := propext (nI_ltI (by omega) (by omega))
      simp [rs_has, p1, p2]
    refine za_ifeq X 39 rfl (by decide) (fun q1 => ?_) (fun q1 => ?_)
    · have q2 := bI_0 q1
      rw [hhas] at q2
      exact za_loc [(0, vR 10), (1, vR 8), (2, vI x), (3, vI y), (4, vI (nI j))] rfl (go39 (fun z => by simp [z.1] at q2))
    · have q2 := bI_n0 q1
      rw [hhas] at q2
      have q3 : j < k := by simpa using q2
      have hwi : za_ov h [(10, rs_c 10 k vis), (11, rs_g w), (8, tr_c 8 (r, pl, la, dn, vi, de, ct, en, ou, ed))] (w j) = some (wr_c (f j)) := by rw [hfin]; exact hf j q3
      obtain ⟨ax, ay, ao, ae, ad, ac, av, hfi⟩ := wr_cu (f j)
      rw [hfi] at hwi
      iterate 3 refine za_step X rfl rfl rfl ?_
      refine za_aald X rfl rfl rfl (vp_in_nI (by omega) (by decide)) ?_
      rw [hcj]
      refine za_getH X rfl hwi rfl rfl ?_
      iterate 3 refine za_step X rfl rfl rfl ?_
      refine za_ifne X 39 rfl (by decide) (fun q4 => ?_) (fun q4 => ?_)
      · exact za_loc [(0, vR 10), (1, vR 8), (2, vI x), (3, vI y), (4, vI (nI j))] rfl (go39 (fun z => q4 (lg_0.mpr (by have := z.2; rw [hfi] at this; exact this))))
      · rw [if_pos ⟨q3, by rw [hfi]; exact lg_0.mp q4⟩]
        iterate 1 refine za_step X rfl rfl rfl ?_
        exact za_zret X rfl (Or.inr rfl) ⟨⟨rfl, ⟨w, by rw [hfin]; exact hS0⟩, fun i _ => by rw [hfin]⟩, rfl⟩ (Nat.le_refl _) (Nat.le_refl _)
  · refine za_enter cd_R_take fl_R (by decide) cdok_R_take flok_R (Nat.le_of_ble_eq_true rfl) ?_
    intro p e s m args below meth c X hnm
    have hfin : za_ov h [(76, rs_c 76 k vis), (77, rs_g w), (8, tr_c 8 (r, pl, la, dn, vi, de, ct, en, ou, ed))] = h := by rw [za_ov3, za_set_same hT, za_set_same hg, za_set_same hr]
    have go39 : ¬ (j < k ∧ wr_de (f j) = de) → za_W p l e (za_rm 1 0 0) s m args below meth c D 5 (MQ below (za_Q D (fun v h' n' => rs_tk h 76 v h' (if j < k ∧ wr_de (f j) = de then some (k, f) else if k = 64 then none else some (k + 1, rs_ins f j (wr_of (r, pl, la, dn, vi, de, ct, en, ou, ed) x y))) ∧ n = n')) args s 0 0 (fun q : Nat => D.2.2 ≤ q)) h n 0 0 39 [(0, vR 76), (1, vR 8), (2, vI x), (3, vI y), (4, vI (nI j))] [] [(76, rs_c 76 k vis), (77, rs_g w), (8, tr_c 8 (r, pl, la, dn, vi, de, ct, en, ou, ed))] := by
      intro hno
      rw [if_neg hno]
      iterate 3 refine za_step X rfl rfl rfl ?_
      refine za_icne X 50 rfl (by decide) (fun q1 => ?_) (fun q1 => ?_)
      · rw [k64] at q1
        have hk2 : k ≠ 64 := fun z => q1 (by rw [z])
        have hk3 : k < 64 := by omega
        rw [if_neg hk2]
        iterate 2 refine za_step X rfl rfl rfl ?_
        refine za_callV (b := 76) (d := 0) (mc := 0) (ms := 0) (as := [vI (nI j)]) (rest := []) X rfl cl_R_R_makeRoom cy_R_makeRoom cv_R_makeRoom (c_R_makeRoom l D (za_ov h [(76, rs_c 76 k vis), (77, rs_g w), (8, tr_c 8 (r, pl, la, dn, vi, de, ct, en, ou, ed))]) n 76 (Or.inr rfl) w k j vis rfl rfl (by rw [hfin]; exact hw) hrg hjk hk3) rfl rfl rfl rfl (Nat.le_of_ble_eq_true rfl) (Nat.le_of_ble_eq_true rfl) (Nat.le_of_ble_eq_true rfl) (Nat.le_of_ble_eq_true rfl) (Nat.le_of_ble_eq_true rfl) (fun v h' n' hq => ?_)
        obtain ⟨rfl, rfl, rfl⟩ := hq
        rw [hfin]
        have hwk := hrg k hk3
        generalize hh1 : za_set (za_set h (76 + 1) (rs_g (rs_rot w j k))) 76 (rs_c 76 (k + 1) vis) = h1
        have a1 : h1 76 = some (rs_c 76 (k + 1) vis) := by rw [← hh1, za_set_eq]
        have a2 : h1 77 = some (rs_g (rs_rot w j k)) := by rw [← hh1, za_set_ne (by omega), za_set_eq]
        have a3 : h1 8 = some (tr_c 8 (r, pl, la, dn, vi, de, ct, en, ou, ed)) := by rw [← hh1, za_set_ne (by omega), za_set_ne (by omega)]; exact hT
        have a4 : ∃ q, h1 (w k) = some (wr_c q) := by rw [← hh1, za_set_ne (by omega), za_set_ne (by omega)]; exact hw k hk3
        obtain ⟨q4, a4⟩ := a4
        have hrot : rs_rot w j k j = w k := by unfold rs_rot; rw [if_pos rfl]
        have hf1 : za_ov h1 [(76, rs_c 76 (k + 1) vis), (77, rs_g (rs_rot w j k)), (8, tr_c 8 (r, pl, la, dn, vi, de, ct, en, ou, ed))] = h1 := by rw [za_ov3, za_set_same a3, za_set_same a2, za_set_same a1]
        refine za_view [(76, rs_c 76 (k + 1) vis), (77, rs_g (rs_rot w j k)), (8, tr_c 8 (r, pl, la, dn, vi, de, ct, en, ou, ed))] (by simp [a1, a2, a3]) ?_
        iterate 3 refine za_step X rfl rfl rfl ?_
        refine za_aald X rfl rfl rfl (vp_in_nI (by omega) (by decide)) ?_
        rw [hcj, hrot]
        iterate 3 refine za_step X rfl rfl rfl ?_
        refine za_callV (b := w k) (d := 0) (mc := 0) (ms := 0) (as := [vR 8, vI x, vI y]) (rest := []) X rfl cl_R_W_set cy_W_set cv_W_set (c_W_set l D (za_ov h1 [(76, rs_c 76 (k + 1) vis), (77, rs_g (rs_rot w j k)), (8, tr_c 8 (r, pl, la, dn, vi, de, ct, en, ou, ed))]) n (w k) (by omega) q4 (by rw [hf1]; exact a4) (r, pl, la, dn, vi, de, ct, en, ou, ed) rfl x y) rfl rfl (show za_ov h1 _ (w k) = _ by rw [hf1]; exact a4) rfl (Nat.le_of_ble_eq_true rfl) (Nat.le_of_ble_eq_true rfl) (Nat.le_of_ble_eq_true rfl) (Nat.le_of_ble_eq_true rfl) (Nat.le_of_ble_eq_true rfl) (fun v h' n' hq => ?_)
        obtain ⟨rfl, rfl, rfl⟩ := hq
        rw [hf1]
        generalize hh2 : za_set h1 (w k) (wr_c (wr_of (r, pl, la, dn, vi, de, ct, en, ou, ed) x y)) = h2
        have b1 : h2 76 = some (rs_c 76 (k + 1) vis) := by rw [← hh2, za_set_ne (by omega)]; exact a1
        have b3 : h2 8 = some (tr_c 8 (r, pl, la, dn, vi, de, ct, en, ou, ed)) := by rw [← hh2, za_set_ne (by omega)]; exact a3
        refine za_view [(76, rs_c 76 (k + 1) vis), (8, tr_c 8 (r, pl, la, dn, vi, de, ct, en, ou, ed))] (by simp [b1, b3]) ?_
        iterate 8 refine za_step X rfl rfl rfl ?_
        refine za_zret X rfl (Or.inr rfl) ⟨?_, rfl⟩ (Nat.le_refl _) (Nat.le_refl _)
        have e3 : za_ov h2 [(76, rs_c 76 (k + 1) (vis ||| vi)), (8, tr_c 8 (r, pl, la, dn, vi, de, ct, en, ou, ed))] = za_set (za_set (za_set h (76 + 1) (rs_g (rs_rot w j k))) (w k) (wr_c (wr_of (r, pl, la, dn, vi, de, ct, en, ou, ed) x y))) 76 (rs_c 76 (k + 1) (rs_or f k ||| wr_vi (wr_of (r, pl, la, dn, vi, de, ct, en, ou, ed) x y))) := by
          rw [za_ov2, za_set_same b3, ← hh2, ← hh1, za_set_comm (show 76 ≠ w k by omega), za_set_set, hvis]
          rfl
        have e4 := rs_taken (q := wr_of (r, pl, la, dn, vi, de, ct, en, ou, ed) x y) hS0 hjk hk3 e3
        exact ⟨rfl, ⟨_, e4.1⟩, e4.2⟩
      · rw [k64] at q1
        have hk2 : k = 64 := (nI_eq (by omega) (by omega)).mp q1
        rw [if_pos hk2]
        iterate 1 refine za_step X rfl rfl rfl ?_
        exact za_zret X rfl (Or.inl rfl) ⟨⟨rfl, hfin⟩, rfl⟩ (Nat.le_refl _) (Nat.le_refl _)
    refine za_view [(76, rs_c 76 k vis), (77, rs_g w), (8, tr_c 8 (r, pl, la, dn, vi, de, ct, en, ou, ed))] (by simp [hr, hg, hT]) ?_
    iterate 3 refine za_step X rfl rfl rfl ?_
    refine za_callV (b := 76) (d := 0) (mc := 0) (ms := 0) (as := [vL de]) (rest := []) X rfl cl_R_R_firstNotBefore cy_R_firstNotBefore cv_R_firstNotBefore (c_R_firstNotBefore l D (za_ov h [(76, rs_c 76 k vis), (77, rs_g w), (8, tr_c 8 (r, pl, la, dn, vi, de, ct, en, ou, ed))]) n 76 (Or.inr rfl) w k f (by rw [hfin]; exact hS0) de) rfl rfl rfl rfl (Nat.le_of_ble_eq_true rfl) (Nat.le_of_ble_eq_true rfl) (Nat.le_of_ble_eq_true rfl) (Nat.le_of_ble_eq_true rfl) (Nat.le_of_ble_eq_true rfl) (fun v h' n' hq => ?_)
    obtain ⟨rfl, rfl, rfl⟩ := hq
    refine za_look (h1 := h) (v1 := [(76, rs_c 76 k vis), (77, rs_g w), (8, tr_c 8 (r, pl, la, dn, vi, de, ct, en, ou, ed))]) rfl ?_
    rw [hj]
    iterate 3 refine za_step X rfl rfl rfl ?_
    refine za_callV (b := 76) (d := 0) (mc := 0) (ms := 0) (as := [vI (nI j)]) (rest := []) X rfl cl_R_R_has cy_R_has cv_R_has (c_R_has l D (za_ov h [(76, rs_c 76 k vis), (77, rs_g w), (8, tr_c 8 (r, pl, la, dn, vi, de, ct, en, ou, ed))]) n 76 (Or.inr rfl) k vis rfl (nI j)) rfl rfl rfl rfl (Nat.le_of_ble_eq_true rfl) (Nat.le_of_ble_eq_true rfl) (Nat.le_of_ble_eq_true rfl) (Nat.le_of_ble_eq_true rfl) (Nat.le_of_ble_eq_true rfl) (fun v h' n' hq => ?_)
    obtain ⟨rfl, rfl, rfl⟩ := hq
    refine za_look (h1 := h) (v1 := [(76, rs_c 76 k vis), (77, rs_g w), (8, tr_c 8 (r, pl, la, dn, vi, de, ct, en, ou, ed))]) rfl ?_
    have hhas : rs_has k (nI j) = decide (j < k) := by
      have p1 : (0 : Int32) ≤ nI j := nI_pos' (by omega)
      have p2 : (nI j < nI k) = (j < k) := propext (nI_ltI (by omega) (by omega))
      simp [rs_has, p1, p2]
    refine za_ifeq X 39 rfl (by decide) (fun q1 => ?_) (fun q1 => ?_)
    · have q2 := bI_0 q1
      rw [hhas] at q2
      exact za_loc [(0, vR 76), (1, vR 8), (2, vI x), (3, vI y), (4, vI (nI j))] rfl (go39 (fun z => by simp [z.1] at q2))
    · have q2 := bI_n0 q1
      rw [hhas] at q2
      have q3 : j < k := by simpa using q2
      have hwi : za_ov h [(76, rs_c 76 k vis), (77, rs_g w), (8, tr_c 8 (r, pl, la, dn, vi, de, ct, en, ou, ed))] (w j) = some (wr_c (f j)) := by rw [hfin]; exact hf j q3
      obtain ⟨ax, ay, ao, ae, ad, ac, av, hfi⟩ := wr_cu (f j)
      rw [hfi] at hwi
      iterate 3 refine za_step X rfl rfl rfl ?_
      refine za_aald X rfl rfl rfl (vp_in_nI (by omega) (by decide)) ?_
      rw [hcj]
      refine za_getH X rfl hwi rfl rfl ?_
      iterate 3 refine za_step X rfl rfl rfl ?_
      refine za_ifne X 39 rfl (by decide) (fun q4 => ?_) (fun q4 => ?_)
      · exact za_loc [(0, vR 76), (1, vR 8), (2, vI x), (3, vI y), (4, vI (nI j))] rfl (go39 (fun z => q4 (lg_0.mpr (by have := z.2; rw [hfi] at this; exact this))))
      · rw [if_pos ⟨q3, by rw [hfi]; exact lg_0.mp q4⟩]
        iterate 1 refine za_step X rfl rfl rfl ?_
        exact za_zret X rfl (Or.inr rfl) ⟨⟨rfl, ⟨w, by rw [hfin]; exact hS0⟩, fun i _ => by rw [hfin]⟩, rfl⟩ (Nat.le_refl _) (Nat.le_refl _)
