/-- the WayFinder at 0 -/
def fs_c (ra rb b : Nat) (q : Int32) : za_C := .inr (zn_F, [vR 1, vR 6, vR 8, vR ra, vR rb, vI (nI b), vI q])
set_option maxHeartbeats 4000000 in
set_option maxRecDepth 100000 in
theorem c_F_areInputs (l : Launch) (D : za_D) (h : za_H) (n : Nat) (ra rb b : Nat) (q : Int32) (hF : h 0 = some (fs_c ra rb b q)) (x y : Int32) : za_M l D Y_F_areInputs 1 0 0 [vR 0, vI x, vI y] h n (fun v h' n' => v = some (vI (bI (in_ok b x y))) ∧ h' = h ∧ n = n') := by
  refine za_enter cd_F_areInputs fl_F (by decide) cdok_F_areInputs flok_F (Nat.le_of_ble_eq_true rfl) ?_
  intro p e s m args below meth c X hnm
  have hfin : za_ov h [(0, fs_c ra rb b q)] = h := by rw [za_ov1, za_set_same hF]
  refine za_view [(0, fs_c ra rb b q)] (by simp [hF]) ?_
  iterate 9 refine za_step X rfl rfl rfl ?_
  refine za_callS X rfl cl_F_F_isUpTo cy_F_isUpTo cs_F_isUpTo (c_F_isUpTo l D _ n (in_lg b) x) rfl rfl (Nat.le_of_ble_eq_true rfl) (Nat.le_of_ble_eq_true rfl) (Nat.le_of_ble_eq_true rfl) (Nat.le_of_ble_eq_true rfl) (Nat.le_of_ble_eq_true rfl) (fun v h' n' hq => ?_)
  obtain ⟨rfl, rfl, rfl⟩ := hq
  refine za_look (h1 := h) (v1 := [(0, fs_c ra rb b q)]) rfl ?_
  refine za_ifeq X 29 rfl (by decide) (fun q1 => ?_) (fun q1 => ?_)
  · iterate 1 refine za_step X rfl rfl rfl ?_
    exact za_zret X rfl (Or.inl rfl) ⟨by simp [in_ok, bI_0 q1, bI], hfin, rfl⟩ (Nat.le_refl _) (Nat.le_refl _)
  · iterate 2 refine za_step X rfl rfl rfl ?_
    refine za_callS X rfl cl_F_F_isUpTo cy_F_isUpTo cs_F_isUpTo (c_F_isUpTo l D _ n (in_lg b) y) rfl rfl (Nat.le_of_ble_eq_true rfl) (Nat.le_of_ble_eq_true rfl) (Nat.le_of_ble_eq_true rfl) (Nat.le_of_ble_eq_true rfl) (Nat.le_of_ble_eq_true rfl) (fun v h' n' hq => ?_)
    obtain ⟨rfl, rfl, rfl⟩ := hq
    refine za_look (h1 := h) (v1 := [(0, fs_c ra rb b q)]) rfl ?_
    refine za_ifeq X 29 rfl (by decide) (fun q2 => ?_) (fun q2 => ?_)
    · iterate 1 refine za_step X rfl rfl rfl ?_
      exact za_zret X rfl (Or.inl rfl) ⟨by simp [in_ok, bI_0 q2, bI], hfin, rfl⟩ (Nat.le_refl _) (Nat.le_refl _)
    · iterate 2 refine za_step X rfl rfl rfl ?_
      exact za_zret X rfl (Or.inr rfl) ⟨by simp [in_ok, bI_n0 q1, bI_n0 q2, bI], hfin, rfl⟩ (Nat.le_refl _) (Nat.le_refl _)
theorem rs_at_off {h h' : za_H} {rid : Nat} {w : Nat → Nat} {S : rs_T} (hS : rs_at h rid w S) (e : ∀ j, rid ≤ j → j < rid + 66 → h' j = h j) : rs_at h' rid w S := by
  obtain ⟨hr, hg, hw, hf, hrg, hij, hk⟩ := hS
  refine ⟨by rw [e rid (by omega) (by omega)]; exact hr, by rw [e (rid + 1) (by omega) (by omega)]; exact hg, fun i hi => ?_, fun i hi => ?_, hrg, hij, hk⟩
  · have := hrg i hi
    rw [e (w i) (by omega) (by omega)]; exact hw i hi
  · have := hrg i (by omega)
    rw [e (w i) (by omega) (by omega)]; exact hf i hi
def wr_0 : wr_T := (0, 0, 0, 0, 0, 0, 0)
def ex_res (P : pr_T) (b : Nat) : Option rs_T := ex_all P (2 ^ b) (2 ^ b) 0 (0, fun _ => wr_0)
/-- the draft at rb holds S; the probe holds some run; all else is as in h -/
def fd_at (h h' : za_H) (rb : Nat) (S : rs_T) : Prop := (∃ T, tr_at h' 8 T) ∧ (∃ w, rs_at h' rb w S) ∧ ∀ j, j ≠ 8 → j ≠ 9 → (j < rb ∨ rb + 66 ≤ j) → h' j = h j
def fd_ps (h : za_H) (rb : Nat) (v : Option za_V) (h' : za_H) (R : Option rs_T) : Prop := match R with
  | none => v = some (vI 0) ∧ ∃ S, fd_at h h' rb S
  | some S => v = some (vI 1) ∧ fd_at h h' rb S
set_option maxHeartbeats 4000000 in
set_option maxRecDepth 100000 in
theorem c_F_fillDraft (l : Launch) (D : za_D) (h : za_H) (n : Nat) (ra rb b : Nat) (q : Int32) (hF : h 0 = some (fs_c ra rb b q)) (hrid : rb = 10 ∨ rb = 76) (hb1 : 1 ≤ b) (hb4 : b ≤ 4) (P : pr_T) (hP : pr_at h P) (hok : pr_ok P) (T8 : tr_T) (hT : tr_at h 8 T8) (wb : Nat → Nat) (SD : rs_T) (hD : rs_at h rb wb SD) : za_M l D Y_F_fillDraft 5 0 0 [vR 0] h n (fun v h' n' => fd_ps h rb v h' (ex_res P b) ∧ n = n') := by
  obtain ⟨k0, f0⟩ := SD
  rcases hrid with rfl | rfl
  · refine za_enter cd_F_fillDraft fl_F (by decide) cdok_F_fillDraft flok_F (Nat.le_of_ble_eq_true rfl) ?_
    intro p e s m args below meth c X hnm
    have hN : 2 ^ b ≤ 16 := by rcases (show b = 1 ∨ b = 2 ∨ b = 3 ∨ b = 4 by omega) with rfl | rfl | rfl | rfl <;> decide
    have outer : ∀ (gx x : Nat) (S : rs_T) (h1 : za_H), x + gx = 2 ^ b → fd_at h h1 10 S → ex_all P (2 ^ b) gx x S = ex_res P b → za_W p l e (za_rm 5 0 0) s m args below meth c D 4 (MQ below (za_Q D (fun v h' n' => fd_ps h 10 v h' (ex_res P b) ∧ n = n')) args s 0 0 (fun q : Nat => D.2.2 ≤ q)) h1 n 0 0 16 [(0, vR 0), (1, vI (nI (2 ^ b))), (2, vI (nI x))] [] [] := by
      intro gx
      induction gx with
      | zero =>
        intro x S h1 hx hfd hR
        iterate 2 refine za_step X rfl rfl rfl ?_
        refine za_icge X 71 rfl (by decide) (fun q1 => ?_) (fun q1 => ?_)
        · iterate 1 refine za_step X rfl rfl rfl ?_
          exact za_zret X rfl (Or.inr rfl) ⟨by rw [← hR]; exact ⟨rfl, hfd⟩, rfl⟩ (Nat.le_refl _) (Nat.le_refl _)
        · exact absurd ((nI_leI (by omega) (by omega)).mpr (by omega)) q1
      | succ gx ihx =>
        intro x S h1 hx hfd hR
        have inner : ∀ (gy y : Nat) (S : rs_T) (h1 : za_H), y + gy = 2 ^ b → fd_at h h1 10 S → (match ex_row P x gy y S with | none => none | some S' => ex_all P (2 ^ b) gx (x + 1) S') = ex_res P b → za_W p l e (za_rm 5 0 0) s m args below meth c D 4 (MQ below (za_Q D (fun v h' n' => fd_ps h 10 v h' (ex_res P b) ∧ n = n')) args s 0 0 (fun q : Nat => D.2.2 ≤ q)) h1 n 0 0 23 [(0, vR 0), (1, vI (nI (2 ^ b))), (2, vI (nI x)), (3, vI (nI y))] [] [] := by
          intro gy
          induction gy with
          | zero =>
            intro y S h1 hy hfd hR
            iterate 2 refine za_step X rfl rfl rfl ?_
            refine za_icge X 65 rfl (by decide) (fun q1 => ?_) (fun q1 => ?_)
            · iterate 2 refine za_step X rfl rfl rfl ?_
              rw [show nI x + Int32.ofInt 1 = nI (x + 1) from nI_1 x]
              exact za_loc [(0, vR 0), (1, vI (nI (2 ^ b))), (2, vI (nI (x + 1)))] rfl (ihx (x + 1) S h1 (by omega) hfd hR)
            · exact absurd ((nI_leI (by omega) (by omega)).mpr (by omega)) q1
          | succ gy ihy =>
            intro y S h1 hy hfd hR
            iterate 2 refine za_step X rfl rfl rfl ?_
            refine za_icge X 65 rfl (by decide) (fun q1 => ?_) (fun q1 => ?_)
            · exact absurd ((nI_leI (by omega) (by omega)).mp q1) (by omega)
            · obtain ⟨⟨T, hT⟩, ⟨w, hw⟩, hoff⟩ := hfd
              obtain ⟨k, f⟩ := S
              have f0 : h1 0 = some (fs_c ra 10 b q) := by rw [hoff 0 (by omega) (by omega) (by omega)]; exact hF
              have fP : pr_at h1 P := pr_at_off hP (fun j a1 a2 => hoff j (by omega) (by omega) (by omega))
              have hv : za_ov h1 [(0, fs_c ra 10 b q)] = h1 := by rw [za_ov1, za_set_same f0]
              refine za_view [(0, fs_c ra 10 b q)] (by simp [f0]) ?_
              iterate 6 refine za_step X rfl rfl rfl ?_
              obtain ⟨r, pl, la, dn, vi, de, ct, en, ou, ed⟩ := T
              refine za_callV (b := 8) (d := 4) (mc := 0) (ms := 0) (as := [vR 1, vI (nI x), vI (nI y)]) (rest := []) X rfl cl_F_T_follow cy_T_follow cv_T_follow (c_T_follow l D (za_ov h1 [(0, fs_c ra 10 b q)]) n 8 (Or.inr rfl) (r, pl, la, dn, vi, de, ct, en, ou, ed) (by rw [hv]; exact hT) P (by rw [hv]; exact fP) hok (nI x) (nI y)) rfl rfl (show za_ov h1 _ 8 = _ from hT.1) rfl (Nat.le_of_ble_eq_true rfl) (Nat.le_of_ble_eq_true rfl) (Nat.le_of_ble_eq_true rfl) (Nat.le_of_ble_eq_true rfl) (Nat.le_of_ble_eq_true rfl) (fun v h' n' hq => ?_)
              obtain ⟨rfl, rfl, rfl⟩ := hq
              rw [hv, tr_run_eq]
              generalize hh2 : tr_put h1 8 (tr_run0 P (nI x) (nI y)) = h2
              have g8 : tr_at h2 8 (tr_run0 P (nI x) (nI y)) := by rw [← hh2]; exact tr_put_at _ _ _
              have goff : ∀ j, j ≠ 8 → j ≠ 9 → h2 j = h1 j := fun j a1 a2 => by rw [← hh2]; exact tr_put_ne a1 a2
              have g0 : h2 0 = some (fs_c ra 10 b q) := by rw [goff 0 (by omega) (by omega)]; exact f0
              have gS : rs_at h2 10 w (k, f) := rs_at_off hw (fun j a1 a2 => goff j (by omega) (by omega))
              have gv : za_ov h2 [(0, fs_c ra 10 b q)] = h2 := by rw [za_ov1, za_set_same g0]
              have gd : fd_at h h2 10 (k, f) := ⟨⟨_, g8⟩, ⟨w, gS⟩, fun j a1 a2 a3 => (goff j a1 a2).trans (hoff j a1 a2 a3)⟩
              refine za_view [(0, fs_c ra 10 b q)] (by simp [g0]) ?_
              iterate 6 refine za_step X rfl rfl rfl ?_
              have hrow : ex_row P x (gy + 1) y (k, f) = (match rs_take (k, f) (wr_of (tr_run0 P (nI x) (nI y)) (nI x) (nI y)) with | none => none | some S' => ex_row P x gy (y + 1) S') := rfl
              refine za_callV (b := 10) (d := 1) (mc := 0) (ms := 0) (as := [vR 8, vI (nI x), vI (nI y)]) (rest := []) X rfl cl_F_R_take cy_R_take cv_R_take (c_R_take l D (za_ov h2 [(0, fs_c ra 10 b q)]) n 10 (Or.inl rfl) w k f (by rw [gv]; exact gS) (tr_run0 P (nI x) (nI y)) (by rw [gv]; exact g8.1) (nI x) (nI y)) rfl rfl (show za_ov h2 _ 10 = _ from gS.1) rfl (Nat.le_of_ble_eq_true rfl) (Nat.le_of_ble_eq_true rfl) (Nat.le_of_ble_eq_true rfl) (Nat.le_of_ble_eq_true rfl) (Nat.le_of_ble_eq_true rfl) (fun v h' n' hq => ?_)
              obtain ⟨hq, rfl⟩ := hq
              rw [gv] at hq
              rw [hrow] at hR
              cases hst : rs_take (k, f) (wr_of (tr_run0 P (nI x) (nI y)) (nI x) (nI y)) with
              | none =>
                rw [hst] at hq hR
                obtain ⟨rfl, rfl⟩ := hq
                refine za_ifne X 59 rfl (by decide) (fun q2 => absurd rfl q2) (fun q2 => ?_)
                iterate 1 refine za_step X rfl rfl rfl ?_
                exact za_zret X rfl (Or.inl rfl) ⟨by rw [← hR]; exact ⟨rfl, _, gd⟩, rfl⟩ (Nat.le_refl _) (Nat.le_refl _)
              | some S' =>
                rw [hst] at hq hR
                obtain ⟨rfl, hS', hoff'⟩ := hq
                refine za_ifne X 59 rfl (by decide) (fun q2 => ?_) (fun q2 => absurd q2 (by decide))
                iterate 2 refine za_step X rfl rfl rfl ?_
                rw [show nI y + Int32.ofInt 1 = nI (y + 1) from nI_1 y]
                refine za_loc [(0, vR 0), (1, vI (nI (2 ^ b))), (2, vI (nI x)), (3, vI (nI (y + 1)))] rfl (ihy (y + 1) S' h' (by omega) ⟨⟨tr_run0 P (nI x) (nI y), ?_⟩, hS', fun j a1 a2 a3 => ?_⟩ hR)
                · exact ⟨by rw [hoff' 8 (by omega)]; exact g8.1, by rw [hoff' 9 (by omega)]; exact g8.2⟩
                · rw [hoff' j a3]; exact gd.2.2 j a1 a2 a3
        iterate 2 refine za_step X rfl rfl rfl ?_
        refine za_icge X 71 rfl (by decide) (fun q1 => ?_) (fun q1 => ?_)
        · exact absurd ((nI_leI (by omega) (by omega)).mp q1) (by omega)
        · iterate 2 refine za_step X rfl rfl rfl ?_
          exact za_loc [(0, vR 0), (1, vI (nI (2 ^ b))), (2, vI (nI x)), (3, vI (nI 0))] rfl (inner (2 ^ b) 0 S h1 (by omega) hfd hR)
    have hv : za_ov h [(0, fs_c ra 10 b q)] = h := by rw [za_ov1, za_set_same hF]
    refine za_view [(0, fs_c ra 10 b q)] (by simp [hF]) ?_
    iterate 2 refine za_step X rfl rfl rfl ?_
    refine za_callV (b := 10) (d := 0) (mc := 0) (ms := 0) (as := []) (rest := []) X rfl cl_F_R_empty cy_R_empty cv_R_empty (c_R_empty l D (za_ov h [(0, fs_c ra 10 b q)]) n 10 (Or.inl rfl) k0 (rs_or f0 k0) (by rw [hv]; exact hD.1)) rfl rfl (show za_ov h _ 10 = _ from hD.1) rfl (Nat.le_of_ble_eq_true rfl) (Nat.le_of_ble_eq_true rfl) (Nat.le_of_ble_eq_true rfl) (Nat.le_of_ble_eq_true rfl) (Nat.le_of_ble_eq_true rfl) (fun v h' n' hq => ?_)
    obtain ⟨rfl, rfl, rfl⟩ := hq
    rw [hv]
    generalize hh1 : za_set h 10 (rs_c 10 0 0) = h1
    have goff : ∀ j, j ≠ 10 → h1 j = h j := fun j a1 => by rw [← hh1]; exact za_set_ne a1
    have g0 : h1 0 = some (fs_c ra 10 b q) := by rw [goff 0 (by omega)]; exact hF
    have gS : rs_at h1 10 wb (0, fun _ => wr_0) := by
      obtain ⟨hr, hg, hw, hf, hrg, hij, hk⟩ := hD
      refine ⟨by rw [← hh1]; exact za_set_eq _ _ _, by rw [goff (10 + 1) (by omega)]; exact hg, fun i hi => ?_, fun i hi => absurd hi (Nat.not_lt_zero i), hrg, hij, Nat.zero_le _⟩
      have := hrg i hi
      rw [goff (wb i) (by omega)]; exact hw i hi
    have gd : fd_at h h1 10 (0, fun _ => wr_0) := ⟨⟨T8, by rw [goff 8 (by omega)]; exact hT.1, by rw [goff (8 + 1) (by omega)]; exact hT.2⟩, ⟨wb, gS⟩, fun j a1 a2 a3 => goff j (by omega)⟩
    refine za_view [(0, fs_c ra 10 b q)] (by simp [g0]) ?_
    iterate 4 refine za_step X rfl rfl rfl ?_
    rw [show (Int32.ofInt 1) <<< (nI b &&& 31) = nI (2 ^ b) from in_pw hb1 hb4]
    iterate 3 refine za_step X rfl rfl rfl ?_
    refine za_look (h1 := h1) (v1 := []) (by rw [za_ov1, za_set_same g0]; rfl) ?_
    exact za_loc [(0, vR 0), (1, vI (nI (2 ^ b))), (2, vI (nI 0))] rfl (outer (2 ^ b) 0 (0, fun _ => wr_0) h1 (by omega) gd rfl)
  · refine za_enter cd_F_fillDraft fl_F (by decide) cdok_F_fillDraft flok_F (Nat.le_of_ble_eq_true rfl) ?_
    intro p e s m args below meth c X hnm
    have hN : 2 ^ b ≤ 16 := by rcases (show b = 1 ∨ b = 2 ∨ b = 3 ∨ b = 4 by omega) with rfl | rfl | rfl | rfl <;> decide
    have outer : ∀ (gx x : Nat) (S : rs_T) (h1 : za_H), x + gx = 2 ^ b → fd_at h h1 76 S → ex_all P (2 ^ b) gx x S = ex_res P b → za_W p l e (za_rm 5 0 0) s m args below meth c D 4 (MQ below (za_Q D (fun v h' n' => fd_ps h 76 v h' (ex_res P b) ∧ n = n')) args s 0 0 (fun q : Nat => D.2.2 ≤ q)) h1 n 0 0 16 [(0, vR 0), (1, vI (nI (2 ^ b))), (2, vI (nI x))] [] [] := by
      intro gx
      induction gx with
      | zero =>
        intro x S h1 hx hfd hR
        iterate 2 refine za_step X rfl rfl rfl ?_
        refine za_icge X 71 rfl (by decide) (fun q1 => ?_) (fun q1 => ?_)
        · iterate 1 refine za_step X rfl rfl rfl ?_
          exact za_zret X rfl (Or.inr rfl) ⟨by rw [← hR]; exact ⟨rfl, hfd⟩, rfl⟩ (Nat.le_refl _) (Nat.le_refl _)
        · exact absurd ((nI_leI (by omega) (by omega)).mpr (by omega)) q1
      | succ gx ihx =>
        intro x S h1 hx hfd hR
        have inner : ∀ (gy y : Nat) (S : rs_T) (h1 : za_H), y + gy = 2 ^ b → fd_at h h1 76 S → (match ex_row P x gy y S with | none => none | some S' => ex_all P (2 ^ b) gx (x + 1) S') = ex_res P b → za_W p l e (za_rm 5 0 0) s m args below meth c D 4 (MQ below (za_Q D (fun v h' n' => fd_ps h 76 v h' (ex_res P b) ∧ n = n')) args s 0 0 (fun q : Nat => D.2.2 ≤ q)) h1 n 0 0 23 [(0, vR 0), (1, vI (nI (2 ^ b))), (2, vI (nI x)), (3, vI (nI y))] [] [] := by
          intro gy
          induction gy with
          | zero =>
            intro y S h1 hy hfd hR
            iterate 2 refine za_step X rfl rfl rfl ?_
            refine za_icge X 65 rfl (by decide) (fun q1 => ?_) (fun q1 => ?_)
            · iterate 2 refine za_step X rfl rfl rfl ?_
              rw [show nI x + Int32.ofInt 1 = nI (x + 1) from nI_1 x]
              exact za_loc [(0, vR 0), (1, vI (nI (2 ^ b))), (2, vI (nI (x + 1)))] rfl (ihx (x + 1) S h1 (by omega) hfd hR)
            · exact absurd ((nI_leI (by omega) (by omega)).mpr (by omega)) q1
          | succ gy ihy =>
            intro y S h1 hy hfd hR
            iterate 2 refine za_step X rfl rfl rfl ?_
            refine za_icge X 65 rfl (by decide) (fun q1 => ?_) (fun q1 => ?_)
            · exact absurd ((nI_leI (by omega) (by omega)).mp q1) (by omega)
            · obtain ⟨⟨T, hT⟩, ⟨w, hw⟩, hoff⟩ := hfd
              obtain ⟨k, f⟩ := S
              have f0 : h1 0 = some (fs_c ra 76 b q) := by rw [hoff 0 (by omega) (by omega) (by omega)]; exact hF
              have fP : pr_at h1 P := pr_at_off hP (fun j a1 a2 => hoff j (by omega) (by omega) (by omega))
              have hv : za_ov h1 [(0, fs_c ra 76 b q)] = h1 := by rw [za_ov1, za_set_same f0]
              refine za_view [(0, fs_c ra 76 b q)] (by simp [f0]) ?_
              iterate 6 refine za_step X rfl rfl rfl ?_
              obtain ⟨r, pl, la, dn, vi, de, ct, en, ou, ed⟩ := T
              refine za_callV (b := 8) (d := 4) (mc := 0) (ms := 0) (as := [vR 1, vI (nI x), vI (nI y)]) (rest := []) X rfl cl_F_T_follow cy_T_follow cv_T_follow (c_T_follow l D (za_ov h1 [(0, fs_c ra 76 b q)]) n 8 (Or.inr rfl) (r, pl, la, dn, vi, de, ct, en, ou, ed) (by rw [hv]; exact hT) P (by rw [hv]; exact fP) hok (nI x) (nI y)) rfl rfl (show za_ov h1 _ 8 = _ from hT.1) rfl (Nat.le_of_ble_eq_true rfl) (Nat.le_of_ble_eq_true rfl) (Nat.le_of_ble_eq_true rfl) (Nat.le_of_ble_eq_true rfl) (Nat.le_of_ble_eq_true rfl) (fun v h' n' hq => ?_)
              obtain ⟨rfl, rfl, rfl⟩ := hq
              rw [hv, tr_run_eq]
              generalize hh2 : tr_put h1 8 (tr_run0 P (nI x) (nI y)) = h2
              have g8 : tr_at h2 8 (tr_run0 P (nI x) (nI y)) := by rw [← hh2]; exact tr_put_at _ _ _
              have goff : ∀ j, j ≠ 8 → j ≠ 9 → h2 j = h1 j := fun j a1 a2 => by rw [← hh2]; exact tr_put_ne a1 a2
              have g0 : h2 0 = some (fs_c ra 76 b q) := by rw [goff 0 (by omega) (by omega)]; exact f0
              have gS : rs_at h2 76 w (k, f) := rs_at_off hw (fun j a1 a2 => goff j (by omega) (by omega))
              have gv : za_ov h2 [(0, fs_c ra 76 b q)] = h2 := by rw [za_ov1, za_set_same g0]
              have gd : fd_at h h2 76 (k, f) := ⟨⟨_, g8⟩, ⟨w, gS⟩, fun j a1 a2 a3 => (goff j a1 a2).trans (hoff j a1 a2 a3)⟩
              refine za_view [(0, fs_c ra 76 b q)] (by simp [g0]) ?_
              iterate 6 refine za_step X rfl rfl rfl ?_
              have hrow : ex_row P x (gy + 1) y (k, f) = (match rs_take (k, f) (wr_of (tr_run0 P (nI x) (nI y)) (nI x) (nI y)) with | none => none | some S' => ex_row P x gy (y + 1) S') := rfl
              refine za_callV (b := 76) (d := 1) (mc := 0) (ms := 0) (as := [vR 8, vI (nI x), vI (nI y)]) (rest := []) X rfl cl_F_R_take cy_R_take cv_R_take (c_R_take l D (za_ov h2 [(0, fs_c ra 76 b q)]) n 76 (Or.inr rfl) w k f (by rw [gv]; exact gS) (tr_run0 P (nI x) (nI y)) (by rw [gv]; exact g8.1) (nI x) (nI y)) rfl rfl (show za_ov h2 _ 76 = _ from gS.1) rfl (Nat.le_of_ble_eq_true rfl) (Nat.le_of_ble_eq_true rfl) (Nat.le_of_ble_eq_true rfl) (Nat.le_of_ble_eq_true rfl) (Nat.le_of_ble_eq_true rfl) (fun v h' n' hq => ?_)
              obtain ⟨hq, rfl⟩ := hq
              rw [gv] at hq
              rw [hrow] at hR
              cases hst : rs_take (k, f) (wr_of (tr_run0 P (nI x) (nI y)) (nI x) (nI y)) with
              | none =>
                rw [hst] at hq hR
                obtain ⟨rfl, rfl⟩ := hq
                refine za_ifne X 59 rfl (by decide) (fun q2 => absurd rfl q2) (fun q2 => ?_)
                iterate 1 refine za_step X rfl rfl rfl ?_
                exact za_zret X rfl (Or.inl rfl) ⟨by rw [← hR]; exact ⟨rfl, _, gd⟩, rfl⟩ (Nat.le_refl _) (Nat.le_refl _)
              | some S' =>
                rw [hst] at hq hR
                obtain ⟨rfl, hS', hoff'⟩ := hq
                refine za_ifne X 59 rfl (by decide) (fun q2 => ?_) (fun q2 => absurd q2 (by decide))
                iterate 2 refine za_step X rfl rfl rfl ?_
                rw [show nI y + Int32.ofInt 1 = nI (y + 1) from nI_1 y]
                refine za_loc [(0, vR 0), (1, vI (nI (2 ^ b))), (2, vI (nI x)), (3, vI (nI (y + 1)))] rfl (ihy (y + 1) S' h' (by omega) ⟨⟨tr_run0 P (nI x) (nI y), ?_⟩, hS', fun j a1 a2 a3 => ?_⟩ hR)
                · exact ⟨by rw [hoff' 8 (by omega)]; exact g8.1, by rw [hoff' 9 (by omega)]; exact g8.2⟩
                · rw [hoff' j a3]; exact gd.2.2 j a1 a2 a3
        iterate 2 refine za_step X rfl rfl rfl ?_
        refine za_icge X 71 rfl (by decide) (fun q1 => ?_) (fun q1 => ?_)
        · exact absurd ((nI_leI (by omega) (by omega)).mp q1) (by omega)
        · iterate 2 refine za_step X rfl rfl rfl ?_
          exact za_loc [(0, vR 0), (1, vI (nI (2 ^ b))), (2, vI (nI x)), (3, vI (nI 0))] rfl (inner (2 ^ b) 0 S h1 (by omega) hfd hR)
    have hv : za_ov h [(0, fs_c ra 76 b q)] = h := by rw [za_ov1, za_set_same hF]
    refine za_view [(0, fs_c ra 76 b q)] (by simp [hF]) ?_
    iterate 2 refine za_step X rfl rfl rfl ?_
    refine za_callV (b := 76) (d := 0) (mc := 0) (ms := 0) (as := []) (rest := []) X rfl cl_F_R_empty cy_R_empty cv_R_empty (c_R_empty l D (za_ov h [(0, fs_c ra 76 b q)]) n 76 (Or.inr rfl) k0 (rs_or f0 k0) (by rw [hv]; exact hD.1)) rfl rfl (show za_ov h _ 76 = _ from hD.1) rfl (Nat.le_of_ble_eq_true rfl) (Nat.le_of_ble_eq_true rfl) (Nat.le_of_ble_eq_true rfl) (Nat.le_of_ble_eq_true rfl) (Nat.le_of_ble_eq_true rfl) (fun v h' n' hq => ?_)
    obtain ⟨rfl, rfl, rfl⟩ := hq
    rw [hv]
    generalize hh1 : za_set h 76 (rs_c 76 0 0) = h1
    have goff : ∀ j, j ≠ 76 → h1 j = h j := fun j a1 => by rw [← hh1]; exact za_set_ne a1
    have g0 : h1 0 = some (fs_c ra 76 b q) := by rw [goff 0 (by omega)]; exact hF
    have gS : rs_at h1 76 wb (0, fun _ => wr_0) := by
      obtain ⟨hr, hg, hw, hf, hrg, hij, hk⟩ := hD
      refine ⟨by rw [← hh1]; exact za_set_eq _ _ _, by rw [goff (76 + 1) (by omega)]; exact hg, fun i hi => ?_, fun i hi => absurd hi (Nat.not_lt_zero i), hrg, hij, Nat.zero_le _⟩
      have := hrg i hi
      rw [goff (wb i) (by omega)]; exact hw i hi
    have gd : fd_at h h1 76 (0, fun _ => wr_0) := ⟨⟨T8, by rw [goff 8 (by omega)]; exact hT.1, by rw [goff (8 + 1) (by omega)]; exact hT.2⟩, ⟨wb, gS⟩, fun j a1 a2 a3 => goff j (by omega)⟩
    refine za_view [(0, fs_c ra 76 b q)] (by simp [g0]) ?_
    iterate 4 refine za_step X rfl rfl rfl ?_
    rw [show (Int32.ofInt 1) <<< (nI b &&& 31) = nI (2 ^ b) from in_pw hb1 hb4]
    iterate 3 refine za_step X rfl rfl rfl ?_
    refine za_look (h1 := h1) (v1 := []) (by rw [za_ov1, za_set_same g0]; rfl) ?_
    exact za_loc [(0, vR 0), (1, vI (nI (2 ^ b))), (2, vI (nI 0))] rfl (outer (2 ^ b) 0 (0, fun _ => wr_0) h1 (by omega) gd rfl)
