set_option maxHeartbeats 4000000 in
set_option maxRecDepth 100000 in
theorem c_R_makeRoom (l : Launch) (D : za_D) (h : za_H) (n : Nat) (rid : Nat) (hrid : rid = 10 ∨ rid = 76) (w : Nat → Nat) (k j : Nat) (vis : Int32) (hr : h rid = some (rs_c rid k vis)) (hg : h (rid + 1) = some (rs_g w)) (hw : ∀ i, i < 64 → ∃ q, h (w i) = some (wr_c q)) (hrg : ∀ i, i < 64 → rid + 2 ≤ w i ∧ w i < rid + 66) (hj : j ≤ k) (hk : k < 64) : za_M l D Y_R_makeRoom 0 0 0 [vR rid, vI (nI j)] h n (fun v h' n' => v = none ∧ h' = za_set (za_set h (rid + 1) (rs_g (rs_rot w j k))) rid (rs_c rid (k + 1) vis) ∧ n = n') := by
  rcases hrid with rfl | rfl
  · refine za_enter cd_R_makeRoom fl_R (by decide) cdok_R_makeRoom flok_R (Nat.le_of_ble_eq_true rfl) ?_
    intro p e s m args below meth c X hnm
    have hwo : ∀ (g : Nat → Nat) (i : Nat), i < 64 → ∃ q, za_ov h [(10, rs_c 10 k vis), (11, rs_g (g))] (w i) = some (wr_c q) := by
      intro g i hi
      have := hrg i hi
      rw [za_ov2, za_set_ne (by omega), za_set_ne (by omega)]
      exact hw i hi
    have hck : (nI k).toNatClampNeg = k := nI_clamp (by omega)
    have hcj : (nI j).toNatClampNeg = j := nI_clamp (by omega)
    have loop : ∀ (g i : Nat), i = j + g → i ≤ k → za_W p l e (za_rm 0 0 0) s m args below meth c D 4 (MQ below (za_Q D (fun v h' n' => v = none ∧ h' = za_set (za_set h (10 + 1) (rs_g (rs_rot w j k))) 10 (rs_c 10 (k + 1) vis) ∧ n = n')) args s 0 0 (fun q : Nat => D.2.2 ≤ q)) h n 0 0 15 [(0, vR 10), (1, vI (nI j)), (2, vR (w k)), (3, vI (nI i))] [] [(10, rs_c 10 k vis), (11, rs_g (rs_mv w i k))] := by
      intro g
      induction g with
      | zero =>
        intro i hi hik
        have hi2 : i = j := by omega
        subst hi2
        iterate 2 refine za_step X rfl rfl rfl ?_
        refine za_icle X 40 rfl (by decide) (fun q1 => ?_) (fun q1 => ?_)
        · iterate 4 refine za_step X rfl rfl rfl ?_
          obtain ⟨⟨ax, ay, ao, ae, ad, ac, av⟩, hq⟩ := hwo (rs_mv w i k) k hk
          refine za_aast X rfl rfl rfl hq rfl (vp_in_nI (by omega) (by decide)) ?_
          refine za_look (h1 := h) (v1 := [(10, rs_c 10 k vis), (11, rs_g (rs_rot w i k))]) ?_ ?_
          · show za_ov h [(10, rs_c 10 k vis), (11, rs_g (rs_rot w i k))] = za_ov h [(10, rs_c 10 k vis), (11, .inl (2, 64, .inr (.inr (va_up (fun p => some (rs_mv w i k p)) (nI i).toNatClampNeg (some (w k))))))]
            rw [hcj, rs_g_up]
            rfl
          · iterate 6 refine za_step X rfl rfl rfl ?_
            refine za_vret X rfl ⟨rfl, ?_, rfl⟩ (Nat.le_refl _) (Nat.le_refl _)
            show za_ov h [(10, .inr (zn_R, [vR (10 + 1), vI (nI k + 1), vI vis])), (11, rs_g (rs_rot w i k))] = _
            rw [nI_1]
            exact za_ov2 h 10 11 (rs_c 10 (k + 1) vis) (rs_g (rs_rot w i k))
        · exact absurd ((nI_leI (by omega) (by omega)).mpr (by omega)) q1
      | succ g ih =>
        intro i hi hik
        obtain ⟨i', rfl⟩ : ∃ i', i = i' + 1 := ⟨j + g, by omega⟩
        have hci : (nI i').toNatClampNeg = i' := nI_clamp (by omega)
        have hci1 : (nI (i' + 1)).toNatClampNeg = i' + 1 := nI_clamp (by omega)
        iterate 2 refine za_step X rfl rfl rfl ?_
        refine za_icle X 40 rfl (by decide) (fun q1 => ?_) (fun q1 => ?_)
        · exact absurd ((nI_leI (by omega) (by omega)).mp q1) (by omega)
        · iterate 8 refine za_step X rfl rfl rfl ?_
          rw [show nI (i' + 1) - Int32.ofInt 1 = nI i' from nI_pred i']
          refine za_aald X rfl rfl rfl (vp_in_nI (by omega) (by decide)) ?_
          rw [hci]
          obtain ⟨⟨ax, ay, ao, ae, ad, ac, av⟩, hq⟩ := hwo (rs_mv w (i' + 1) k) i' (by omega)
          have hmv : rs_mv w (i' + 1) k i' = w i' := by unfold rs_mv; rw [if_neg (by omega)]
          rw [← hmv] at hq
          refine za_aast X rfl rfl rfl hq rfl (vp_in_nI (by omega) (by decide)) ?_
          refine za_look (h1 := h) (v1 := [(10, rs_c 10 k vis), (11, rs_g (rs_mv w i' k))]) ?_ ?_
          · show za_ov h [(10, rs_c 10 k vis), (11, rs_g (rs_mv w i' k))] = za_ov h [(10, rs_c 10 k vis), (11, .inl (2, 64, .inr (.inr (va_up (fun p => some (rs_mv w (i' + 1) k p)) (nI (i' + 1)).toNatClampNeg (some (rs_mv w (i' + 1) k i'))))))]
            have e9 := rs_mv_s (w := w) (i := i') (k := k) (by omega)
            rw [if_pos (by omega)] at e9
            rw [hci1, rs_g_up]
            show za_ov h [(10, rs_c 10 k vis), (11, rs_g (rs_mv w i' k))] = za_ov h [(10, rs_c 10 k vis), (11, rs_g (fun p => if p = i' + 1 then rs_mv w (i' + 1) k i' else rs_mv w (i' + 1) k p))]
            rw [e9]
          · iterate 2 refine za_step X rfl rfl rfl ?_
            rw [show nI (i' + 1) + Int32.ofInt (-1) = nI i' from pk_m1 i']
            exact za_loc [(0, vR 10), (1, vI (nI j)), (2, vR (w k)), (3, vI (nI i'))] rfl (ih i' (by omega) (by omega))
    refine za_view [(10, rs_c 10 k vis), (11, rs_g (w))] (by simp [hr, hg]) ?_
    iterate 4 refine za_step X rfl rfl rfl ?_
    refine za_aald X rfl rfl rfl (vp_in_nI (by omega) (by decide)) ?_
    rw [hck]
    iterate 4 refine za_step X rfl rfl rfl ?_
    have := loop (k - j) k (by omega) (Nat.le_refl _)
    rw [rs_mv_0] at this
    exact za_loc [(0, vR 10), (1, vI (nI j)), (2, vR (w k)), (3, vI (nI k))] rfl this
  · refine za_enter cd_R_makeRoom fl_R (by decide) cdok_R_makeRoom flok_R (Nat.le_of_ble_eq_true rfl) ?_
    intro p e s m args below meth c X hnm
    have hwo : ∀ (g : Nat → Nat) (i : Nat), i < 64 → ∃ q, za_ov h [(76, rs_c 76 k vis), (77, rs_g (g))] (w i) = some (wr_c q) := by
      intro g i hi
      have := hrg i hi
      rw [za_ov2, za_set_ne (by omega), za_set_ne (by omega)]
      exact hw i hi
    have hck : (nI k).toNatClampNeg = k := nI_clamp (by omega)
    have hcj : (nI j).toNatClampNeg = j := nI_clamp (by omega)
    have loop : ∀ (g i : Nat), i = j + g → i ≤ k → za_W p l e (za_rm 0 0 0) s m args below meth c D 4 (MQ below (za_Q D (fun v h' n' => v = none ∧ h' = za_set (za_set h (76 + 1) (rs_g (rs_rot w j k))) 76 (rs_c 76 (k + 1) vis) ∧ n = n')) args s 0 0 (fun q : Nat => D.2.2 ≤ q)) h n 0 0 15 [(0, vR 76), (1, vI (nI j)), (2, vR (w k)), (3, vI (nI i))] [] [(76, rs_c 76 k vis), (77, rs_g (rs_mv w i k))] := by
      intro g
      induction g with
      | zero =>
        intro i hi hik
        have hi2 : i = j := by omega
        subst hi2
        iterate 2 refine za_step X rfl rfl rfl ?_
        refine za_icle X 40 rfl (by decide) (fun q1 => ?_) (fun q1 => ?_)
        · iterate 4 refine za_step X rfl rfl rfl ?_
          obtain ⟨⟨ax, ay, ao, ae, ad, ac, av⟩, hq⟩ := hwo (rs_mv w i k) k hk
          refine za_aast X rfl rfl rfl hq rfl (vp_in_nI (by omega) (by decide)) ?_
          refine za_look (h1 := h) (v1 := [(76, rs_c 76 k vis), (77, rs_g (rs_rot w i k))]) ?_ ?_
          · show za_ov h [(76, rs_c 76 k vis), (77, rs_g (rs_rot w i k))] = za_ov h [(76, rs_c 76 k vis), (77, .inl (2, 64, .inr (.inr (va_up (fun p => some (rs_mv w i k p)) (nI i).toNatClampNeg (some (w k))))))]
            rw [hcj, rs_g_up]
            rfl
          · iterate 6 refine za_step X rfl rfl rfl ?_
            refine za_vret X rfl ⟨rfl, ?_, rfl⟩ (Nat.le_refl _) (Nat.le_refl _)
            show za_ov h [(76, .inr (zn_R, [vR (76 + 1), vI (nI k + 1), vI vis])), (77, rs_g (rs_rot w i k))] = _
            rw [nI_1]
            exact za_ov2 h 76 77 (rs_c 76 (k + 1) vis) (rs_g (rs_rot w i k))
        · exact absurd ((nI_leI (by omega) (by omega)).mpr (by omega)) q1
      | succ g ih =>
        intro i hi hik
        obtain ⟨i', rfl⟩ : ∃ i', i = i' + 1 := ⟨j + g, by omega⟩
        have hci : (nI i').toNatClampNeg = i' := nI_clamp (by omega)
        have hci1 : (nI (i' + 1)).toNatClampNeg = i' + 1 := nI_clamp (by omega)
        iterate 2 refine za_step X rfl rfl rfl ?_
        refine za_icle X 40 rfl (by decide) (fun q1 => ?_) (fun q1 => ?_)
        · exact absurd ((nI_leI (by omega) (by omega)).mp q1) (by omega)
        · iterate 8 refine za_step X rfl rfl rfl ?_
          rw [show nI (i' + 1) - Int32.ofInt 1 = nI i' from nI_pred i']
          refine za_aald X rfl rfl rfl (vp_in_nI (by omega) (by decide)) ?_
          rw [hci]
          obtain ⟨⟨ax, ay, ao, ae, ad, ac, av⟩, hq⟩ := hwo (rs_mv w (i' + 1) k) i' (by omega)
          have hmv : rs_mv w (i' + 1) k i' = w i' := by unfold rs_mv; rw [if_neg (by omega)]
          rw [← hmv] at hq
          refine za_aast X rfl rfl rfl hq rfl (vp_in_nI (by omega) (by decide)) ?_
          refine za_look (h1 := h) (v1 := [(76, rs_c 76 k vis), (77, rs_g (rs_mv w i' k))]) ?_ ?_
          · show za_ov h [(76, rs_c 76 k vis), (77, rs_g (rs_mv w i' k))] = za_ov h [(76, rs_c 76 k vis), (77, .inl (2, 64, .inr (.inr (va_up (fun p => some (rs_mv w (i' + 1) k p)) (nI (i' + 1)).toNatClampNeg (some (rs_mv w (i' + 1) k i'))))))]
            have e9 := rs_mv_s (w := w) (i := i') (k := k) (by omega)
            rw [if_pos (by omega)] at e9
            rw [hci1, rs_g_up]
            show za_ov h [(76, rs_c 76 k vis), (77, rs_g (rs_mv w i' k))] = za_ov h [(76, rs_c 76 k vis), (77, rs_g (fun p => if p = i' + 1 then rs_mv w (i' + 1) k i' else rs_mv w (i' + 1) k p))]
            rw [e9]
          · iterate 2 refine za_step X rfl rfl rfl ?_
            rw [show nI (i' + 1) + Int32.ofInt (-1) = nI i' from pk_m1 i']
            exact za_loc [(0, vR 76), (1, vI (nI j)), (2, vR (w k)), (3, vI (nI i'))] rfl (ih i' (by omega) (by omega))
    refine za_view [(76, rs_c 76 k vis), (77, rs_g (w))] (by simp [hr, hg]) ?_
    iterate 4 refine za_step X rfl rfl rfl ?_
    refine za_aald X rfl rfl rfl (vp_in_nI (by omega) (by decide)) ?_
    rw [hck]
    iterate 4 refine za_step X rfl rfl rfl ?_
    have := loop (k - j) k (by omega) (Nat.le_refl _)
    rw [rs_mv_0] at this
    exact za_loc [(0, vR 76), (1, vI (nI j)), (2, vR (w k)), (3, vI (nI k))] rfl this
