set_option maxHeartbeats 4000000 in
set_option maxRecDepth 100000 in
theorem c_T_goIf (l : Launch) (D : za_D) (h : za_H) (n : Nat) (t : Nat) (ht : t = 6 ∨ t = 8) (T : tr_T) (hT : tr_at h t T) (y : Bool) (x : Int32) : za_M l D Y_T_goIf 2 0 0 [vR t, vI (bI y), vI x] h n (fun v h' n' => v = none ∧ h' = tr_put h t (tr_goif T y x) ∧ n = n') := by
  obtain ⟨r, pl, la, dn, vi, de, ct, en, ou, ed⟩ := T
  obtain ⟨hT1, hT2⟩ := hT
  rcases ht with rfl | rfl
  · refine za_enter cd_T_goIf fl_T (by decide) cdok_T_goIf flok_T (Nat.le_of_ble_eq_true rfl) ?_
    intro p e s m args below meth c X hnm
    refine za_view [(6, tr_c 6 (r, pl, la, dn, vi, de, ct, en, ou, ed)), (7, tr_g (r, pl, la, dn, vi, de, ct, en, ou, ed))] (by simp [hT1, hT2]) ?_
    iterate 2 refine za_step X rfl rfl rfl ?_
    refine za_callV X rfl cl_T_T_decide cy_T_decide cv_T_decide (c_T_decide l D _ n 6 (Or.inl rfl) (r, pl, la, dn, vi, de, ct, en, ou, ed) ⟨rfl, rfl⟩ y) rfl rfl rfl rfl (Nat.le_of_ble_eq_true rfl) (Nat.le_of_ble_eq_true rfl) (Nat.le_of_ble_eq_true rfl) (Nat.le_of_ble_eq_true rfl) (Nat.le_of_ble_eq_true rfl) (fun v h' n' hq => ?_)
    obtain ⟨rfl, rfl, rfl⟩ := hq
    refine za_look (h1 := h) (v1 := [(6, tr_c 6 (tr_dec (r, pl, la, dn, vi, de, ct, en, ou, ed) y)), (7, tr_g (tr_dec (r, pl, la, dn, vi, de, ct, en, ou, ed) y))]) (tr_back h 6 ((r, pl, la, dn, vi, de, ct, en, ou, ed)) (tr_dec (r, pl, la, dn, vi, de, ct, en, ou, ed) y)) ?_
    iterate 1 refine za_step X rfl rfl rfl ?_
    refine za_ifeq X 14 rfl (by decide) (fun h1 => ?_) (fun h1 => ?_)
    · have hy := bI_0 h1
      subst hy
      exact za_vret X rfl ⟨rfl, tr_ov h 6 (tr_dec (r, pl, la, dn, vi, de, ct, en, ou, ed) false), rfl⟩ (Nat.le_refl _) (Nat.le_refl _)
    · have hy := bI_n0 h1
      subst hy
      iterate 3 refine za_step X rfl rfl rfl ?_
      exact za_vret X rfl ⟨rfl, tr_ov h 6 (tr_go (tr_dec (r, pl, la, dn, vi, de, ct, en, ou, ed) true) x), rfl⟩ (Nat.le_refl _) (Nat.le_refl _)
  · refine za_enter cd_T_goIf fl_T (by decide) cdok_T_goIf flok_T (Nat.le_of_ble_eq_true rfl) ?_
    intro p e s m args below meth c X hnm
    refine za_view [(8, tr_c 8 (r, pl, la, dn, vi, de, ct, en, ou, ed)), (9, tr_g (r, pl, la, dn, vi, de, ct, en, ou, ed))] (by simp [hT1, hT2]) ?_
    iterate 2 refine za_step X rfl rfl rfl ?_
    refine za_callV X rfl cl_T_T_decide cy_T_decide cv_T_decide (c_T_decide l D _ n 8 (Or.inr rfl) (r, pl, la, dn, vi, de, ct, en, ou, ed) ⟨rfl, rfl⟩ y) rfl rfl rfl rfl (Nat.le_of_ble_eq_true rfl) (Nat.le_of_ble_eq_true rfl) (Nat.le_of_ble_eq_true rfl) (Nat.le_of_ble_eq_true rfl) (Nat.le_of_ble_eq_true rfl) (fun v h' n' hq => ?_)
    obtain ⟨rfl, rfl, rfl⟩ := hq
    refine za_look (h1 := h) (v1 := [(8, tr_c 8 (tr_dec (r, pl, la, dn, vi, de, ct, en, ou, ed) y)), (9, tr_g (tr_dec (r, pl, la, dn, vi, de, ct, en, ou, ed) y))]) (tr_back h 8 ((r, pl, la, dn, vi, de, ct, en, ou, ed)) (tr_dec (r, pl, la, dn, vi, de, ct, en, ou, ed) y)) ?_
    iterate 1 refine za_step X rfl rfl rfl ?_
    refine za_ifeq X 14 rfl (by decide) (fun h1 => ?_) (fun h1 => ?_)
    · have hy := bI_0 h1
      subst hy
      exact za_vret X rfl ⟨rfl, tr_ov h 8 (tr_dec (r, pl, la, dn, vi, de, ct, en, ou, ed) false), rfl⟩ (Nat.le_refl _) (Nat.le_refl _)
    · have hy := bI_n0 h1
      subst hy
      iterate 3 refine za_step X rfl rfl rfl ?_
      exact za_vret X rfl ⟨rfl, tr_ov h 8 (tr_go (tr_dec (r, pl, la, dn, vi, de, ct, en, ou, ed) true) x), rfl⟩ (Nat.le_refl _) (Nat.le_refl _)
theorem rg_in {x : Int32} (h : pr_up 3 x = true) : vp_in x 4 := by
  simp only [pr_up, Bool.and_eq_true, decide_eq_true_eq] at h
  have h1 := Int32.le_iff_toInt_le.mp h.1
  have h2 := Int32.le_iff_toInt_le.mp h.2
  rw [vp_in_iff]
  have e0 : (0 : Int32).toInt = 0 := by decide
  have e3 : (3 : Int32).toInt = 3 := by decide
  omega
set_option maxHeartbeats 4000000 in
set_option maxRecDepth 100000 in
theorem c_T_divide (l : Launch) (D : za_D) (h : za_H) (n : Nat) (t : Nat) (ht : t = 6 ∨ t = 8) (T : tr_T) (hT : tr_at h t T) (a b x : Int32) (ha : pr_up 3 a = true) (hb : pr_up 3 b = true) (hx : pr_up 3 x = true) : za_M l D Y_T_divide 2 0 0 [vR t, vI a, vI b, vI x] h n (fun v h' n' => v = none ∧ h' = tr_put h t (tr_div T a b x) ∧ n = n') := by
  obtain ⟨r, pl, la, dn, vi, de, ct, en, ou, ed⟩ := T
  obtain ⟨hT1, hT2⟩ := hT
  rcases ht with rfl | rfl
  · refine za_enter cd_T_divide fl_T (by decide) cdok_T_divide flok_T (Nat.le_of_ble_eq_true rfl) ?_
    intro p e s m args below meth c X hnm
    refine za_view [(6, tr_c 6 (r, pl, la, dn, vi, de, ct, en, ou, ed)), (7, tr_g (r, pl, la, dn, vi, de, ct, en, ou, ed))] (by simp [hT1, hT2]) ?_
    iterate 3 refine za_step X rfl rfl rfl ?_
    refine za_iald X rfl rfl rfl (rg_in hx) ?_
    iterate 3 refine za_step X rfl rfl rfl ?_
    refine za_ifne X 18 rfl (by decide) (fun h1 => ?_) (fun h1 => ?_)
    · iterate 1 refine za_step X rfl rfl rfl ?_
      refine za_callV X rfl cl_T_T_decide cy_T_decide cv_T_decide (c_T_decide l D _ n 6 (Or.inl rfl) (r, pl, la, dn, vi, de, ct, en, ou, ed) ⟨rfl, rfl⟩ false) rfl rfl rfl rfl (Nat.le_of_ble_eq_true rfl) (Nat.le_of_ble_eq_true rfl) (Nat.le_of_ble_eq_true rfl) (Nat.le_of_ble_eq_true rfl) (Nat.le_of_ble_eq_true rfl) (fun v h' n' hq => ?_)
      obtain ⟨rfl, rfl, rfl⟩ := hq
      refine za_look (h1 := h) (v1 := [(6, tr_c 6 (tr_dec (r, pl, la, dn, vi, de, ct, en, ou, ed) false)), (7, tr_g (tr_dec (r, pl, la, dn, vi, de, ct, en, ou, ed) false))]) (tr_back h 6 ((r, pl, la, dn, vi, de, ct, en, ou, ed)) (tr_dec (r, pl, la, dn, vi, de, ct, en, ou, ed) false)) ?_
      iterate 1 refine za_step X rfl rfl rfl ?_
      refine za_ifne X 39 rfl (by decide) (fun h2 => ?_) (fun h2 => absurd h2 h1)
      iterate 6 refine za_step X rfl rfl rfl ?_
      refine za_iald X rfl rfl rfl (rg_in hb) ?_
      iterate 1 refine za_step X rfl rfl rfl ?_
      refine za_idiv X rfl h1 ?_
      refine za_iast X rfl rfl rfl (rg_in ha) ?_
      exact za_vret X rfl ⟨rfl, by
        have e : tr_div (r, pl, la, dn, vi, de, ct, en, ou, ed) a b x = tr_reg (tr_dec (r, pl, la, dn, vi, de, ct, en, ou, ed) false) a.toNatClampNeg (r b.toNatClampNeg / r x.toNatClampNeg) := if_neg h1
        rw [e]
        exact tr_ov h 6 (tr_reg (tr_dec (r, pl, la, dn, vi, de, ct, en, ou, ed) false) a.toNatClampNeg (r b.toNatClampNeg / r x.toNatClampNeg)), rfl⟩ (Nat.le_refl _) (Nat.le_refl _)
    · iterate 2 refine za_step X rfl rfl rfl ?_
      refine za_callV X rfl cl_T_T_decide cy_T_decide cv_T_decide (c_T_decide l D _ n 6 (Or.inl rfl) (r, pl, la, dn, vi, de, ct, en, ou, ed) ⟨rfl, rfl⟩ true) rfl rfl rfl rfl (Nat.le_of_ble_eq_true rfl) (Nat.le_of_ble_eq_true rfl) (Nat.le_of_ble_eq_true rfl) (Nat.le_of_ble_eq_true rfl) (Nat.le_of_ble_eq_true rfl) (fun v h' n' hq => ?_)
      obtain ⟨rfl, rfl, rfl⟩ := hq
      refine za_look (h1 := h) (v1 := [(6, tr_c 6 (tr_dec (r, pl, la, dn, vi, de, ct, en, ou, ed) true)), (7, tr_g (tr_dec (r, pl, la, dn, vi, de, ct, en, ou, ed) true))]) (tr_back h 6 ((r, pl, la, dn, vi, de, ct, en, ou, ed)) (tr_dec (r, pl, la, dn, vi, de, ct, en, ou, ed) true)) ?_
      iterate 1 refine za_step X rfl rfl rfl ?_
      refine za_ifne X 39 rfl (by decide) (fun h2 => absurd h1 h2) (fun h2 => ?_)
      iterate 4 refine za_step X rfl rfl rfl ?_
      refine za_callV X rfl cl_T_T_finish cy_T_finish cv_T_finish (c_T_finish l D _ n 6 (Or.inl rfl) (tr_dec (r, pl, la, dn, vi, de, ct, en, ou, ed) true) ⟨rfl, rfl⟩ 1 la) rfl rfl rfl rfl (Nat.le_of_ble_eq_true rfl) (Nat.le_of_ble_eq_true rfl) (Nat.le_of_ble_eq_true rfl) (Nat.le_of_ble_eq_true rfl) (Nat.le_of_ble_eq_true rfl) (fun v h' n' hq => ?_)
      obtain ⟨rfl, rfl, rfl⟩ := hq
      refine za_look (h1 := h) (v1 := [(6, tr_c 6 (tr_fin (tr_dec (r, pl, la, dn, vi, de, ct, en, ou, ed) true) 1 la)), (7, tr_g (tr_fin (tr_dec (r, pl, la, dn, vi, de, ct, en, ou, ed) true) 1 la))]) (tr_back h 6 (tr_dec (r, pl, la, dn, vi, de, ct, en, ou, ed) true) (tr_fin (tr_dec (r, pl, la, dn, vi, de, ct, en, ou, ed) true) 1 la)) ?_
      iterate 1 refine za_step X rfl rfl rfl ?_
      exact za_vret X rfl ⟨rfl, by
        have e : tr_div (r, pl, la, dn, vi, de, ct, en, ou, ed) a b x = tr_fin (tr_dec (r, pl, la, dn, vi, de, ct, en, ou, ed) true) 1 la := if_pos h1
        rw [e]
        exact tr_ov h 6 (tr_fin (tr_dec (r, pl, la, dn, vi, de, ct, en, ou, ed) true) 1 la), rfl⟩ (Nat.le_refl _) (Nat.le_refl _)
  · refine za_enter cd_T_divide fl_T (by decide) cdok_T_divide flok_T (Nat.le_of_ble_eq_true rfl) ?_
    intro p e s m args below meth c X hnm
    refine za_view [(8, tr_c 8 (r, pl, la, dn, vi, de, ct, en, ou, ed)), (9, tr_g (r, pl, la, dn, vi, de, ct, en, ou, ed))] (by simp [hT1, hT2]) ?_
    iterate 3 refine za_step X rfl rfl rfl ?_
    refine za_iald X rfl rfl rfl (rg_in hx) ?_
    iterate 3 refine za_step X rfl rfl rfl ?_
    refine za_ifne X 18 rfl (by decide) (fun h1 => ?_) (fun h1 => ?_)
    · iterate 1 refine za_step X rfl rfl rfl ?_
      refine za_callV X rfl cl_T_T_decide cy_T_decide cv_T_decide (c_T_decide l D _ n 8 (Or.inr rfl) (r, pl, la, dn, vi, de, ct, en, ou, ed) ⟨rfl, rfl⟩ false) rfl rfl rfl rfl (Nat.le_of_ble_eq_true rfl) (Nat.le_of_ble_eq_true rfl) (Nat.le_of_ble_eq_true rfl) (Nat.le_of_ble_eq_true rfl) (Nat.le_of_ble_eq_true rfl) (fun v h' n' hq => ?_)
      obtain ⟨rfl, rfl, rfl⟩ := hq
      refine za_look (h1 := h) (v1 := [(8, tr_c 8 (tr_dec (r, pl, la, dn, vi, de, ct, en, ou, ed) false)), (9, tr_g (tr_dec (r, pl, la, dn, vi, de, ct, en, ou, ed) false))]) (tr_back h 8 ((r, pl, la, dn, vi, de, ct, en, ou, ed)) (tr_dec (r, pl, la, dn, vi, de, ct, en, ou, ed) false)) ?_
      iterate 1 refine za_step X rfl rfl rfl ?_
      refine za_ifne X 39 rfl (by decide) (fun h2 => ?_) (fun h2 => absurd h2 h1)
      iterate 6 refine za_step X rfl rfl rfl ?_
      refine za_iald X rfl rfl rfl (rg_in hb) ?_
      iterate 1 refine za_step X rfl rfl rfl ?_
      refine za_idiv X rfl h1 ?_
      refine za_iast X rfl rfl rfl (rg_in ha) ?_
      exact za_vret X rfl ⟨rfl, by
        have e : tr_div (r, pl, la, dn, vi, de, ct, en, ou, ed) a b x = tr_reg (tr_dec (r, pl, la, dn, vi, de, ct, en, ou, ed) false) a.toNatClampNeg (r b.toNatClampNeg / r x.toNatClampNeg) := if_neg h1
        rw [e]
        exact tr_ov h 8 (tr_reg (tr_dec (r, pl, la, dn, vi, de, ct, en, ou, ed) false) a.toNatClampNeg (r b.toNatClampNeg / r x.toNatClampNeg)), rfl⟩ (Nat.le_refl _) (Nat.le_refl _)
    · iterate 2 refine za_step X rfl rfl rfl ?_
      refine za_callV X rfl cl_T_T_decide cy_T_decide cv_T_decide (c_T_decide l D _ n 8 (Or.inr rfl) (r, pl, la, dn, vi, de, ct, en, ou, ed) ⟨rfl, rfl⟩ true) rfl rfl rfl rfl (Nat.le_of_ble_eq_true rfl) (Nat.le_of_ble_eq_true rfl) (Nat.le_of_ble_eq_true rfl) (Nat.le_of_ble_eq_true rfl) (Nat.le_of_ble_eq_true rfl) (fun v h' n' hq => ?_)
      obtain ⟨rfl, rfl, rfl⟩ := hq
      refine za_look (h1 := h) (v1 := [(8, tr_c 8 (tr_dec (r, pl, la, dn, vi, de, ct, en, ou, ed) true)), (9, tr_g (tr_dec (r, pl, la, dn, vi, de, ct, en, ou, ed) true))]) (tr_back h 8 ((r, pl, la, dn, vi, de, ct, en, ou, ed)) (tr_dec (r, pl, la, dn, vi, de, ct, en, ou, ed) true)) ?_
      iterate 1 refine za_step X rfl rfl rfl ?_
      refine za_ifne X 39 rfl (by decide) (fun h2 => absurd h1 h2) (fun h2 => ?_)
      iterate 4 refine za_step X rfl rfl rfl ?_
      refine za_callV X rfl cl_T_T_finish cy_T_finish cv_T_finish (c_T_finish l D _ n 8 (Or.inr rfl) (tr_dec (r, pl, la, dn, vi, de, ct, en, ou, ed) true) ⟨rfl, rfl⟩ 1 la) rfl rfl rfl rfl (Nat.le_of_ble_eq_true rfl) (Nat.le_of_ble_eq_true rfl) (Nat.le_of_ble_eq_true rfl) (Nat.le_of_ble_eq_true rfl) (Nat.le_of_ble_eq_true rfl) (fun v h' n' hq => ?_)
      obtain ⟨rfl, rfl, rfl⟩ := hq
      refine za_look (h1 := h) (v1 := [(8, tr_c 8 (tr_fin (tr_dec (r, pl, la, dn, vi, de, ct, en, ou, ed) true) 1 la)), (9, tr_g (tr_fin (tr_dec (r, pl, la, dn, vi, de, ct, en, ou, ed) true) 1 la))]) (tr_back h 8 (tr_dec (r, pl, la, dn, vi, de, ct, en, ou, ed) true) (tr_fin (tr_dec (r, pl, la, dn, vi, de, ct, en, ou, ed) true) 1 la)) ?_
      iterate 1 refine za_step X rfl rfl rfl ?_
      exact za_vret X rfl ⟨rfl, by
        have e : tr_div (r, pl, la, dn, vi, de, ct, en, ou, ed) a b x = tr_fin (tr_dec (r, pl, la, dn, vi, de, ct, en, ou, ed) true) 1 la := if_pos h1
        rw [e]
        exact tr_ov h 8 (tr_fin (tr_dec (r, pl, la, dn, vi, de, ct, en, ou, ed) true) 1 la), rfl⟩ (Nat.le_refl _) (Nat.le_refl _)
set_option maxHeartbeats 4000000 in
set_option maxRecDepth 100000 in
theorem c_T_claim (l : Launch) (D : za_D) (h : za_H) (n : Nat) (t : Nat) (ht : t = 6 ∨ t = 8) (T : tr_T) (hT : tr_at h t T) (a : Int32) (ha : pr_up 3 a = true) : za_M l D Y_T_claim 2 0 0 [vR t, vI a] h n (fun v h' n' => v = none ∧ h' = tr_put h t (tr_clm T a) ∧ n = n') := by
  obtain ⟨r, pl, la, dn, vi, de, ct, en, ou, ed⟩ := T
  obtain ⟨hT1, hT2⟩ := hT
  rcases ht with rfl | rfl
  · refine za_enter cd_T_claim fl_T (by decide) cdok_T_claim flok_T (Nat.le_of_ble_eq_true rfl) ?_
    intro p e s m args below meth c X hnm
    refine za_view [(6, tr_c 6 (r, pl, la, dn, vi, de, ct, en, ou, ed)), (7, tr_g (r, pl, la, dn, vi, de, ct, en, ou, ed))] (by simp [hT1, hT2]) ?_
    iterate 3 refine za_step X rfl rfl rfl ?_
    refine za_iald X rfl rfl rfl (rg_in ha) ?_
    refine za_ifne X 13 rfl (by decide) (fun h1 => ?_) (fun h1 => ?_)
    · iterate 4 refine za_step X rfl rfl rfl ?_
      refine za_callV X rfl cl_T_T_decide cy_T_decide cv_T_decide (c_T_decide l D _ n 6 (Or.inl rfl) (r, pl, la, dn, vi, de, ct, en, ou, ed) ⟨rfl, rfl⟩ false) rfl rfl rfl rfl (Nat.le_of_ble_eq_true rfl) (Nat.le_of_ble_eq_true rfl) (Nat.le_of_ble_eq_true rfl) (Nat.le_of_ble_eq_true rfl) (Nat.le_of_ble_eq_true rfl) (fun v h' n' hq => ?_)
      obtain ⟨rfl, rfl, rfl⟩ := hq
      refine za_look (h1 := h) (v1 := [(6, tr_c 6 (tr_dec (r, pl, la, dn, vi, de, ct, en, ou, ed) false)), (7, tr_g (tr_dec (r, pl, la, dn, vi, de, ct, en, ou, ed) false))]) (tr_back h 6 ((r, pl, la, dn, vi, de, ct, en, ou, ed)) (tr_dec (r, pl, la, dn, vi, de, ct, en, ou, ed) false)) ?_
      iterate 1 refine za_step X rfl rfl rfl ?_
      refine za_ifeq X 33 rfl (by decide) (fun h2 => ?_) (fun h2 => absurd rfl h2)
      exact za_vret X rfl ⟨rfl, by
        have e : tr_clm (r, pl, la, dn, vi, de, ct, en, ou, ed) a = tr_dec (r, pl, la, dn, vi, de, ct, en, ou, ed) false := if_neg h1
        rw [e]
        exact tr_ov h 6 (tr_dec (r, pl, la, dn, vi, de, ct, en, ou, ed) false), rfl⟩ (Nat.le_refl _) (Nat.le_refl _)
    · iterate 5 refine za_step X rfl rfl rfl ?_
      refine za_callV X rfl cl_T_T_decide cy_T_decide cv_T_decide (c_T_decide l D _ n 6 (Or.inl rfl) (r, pl, la, dn, vi, de, ct, en, ou, ed) ⟨rfl, rfl⟩ true) rfl rfl rfl rfl (Nat.le_of_ble_eq_true rfl) (Nat.le_of_ble_eq_true rfl) (Nat.le_of_ble_eq_true rfl) (Nat.le_of_ble_eq_true rfl) (Nat.le_of_ble_eq_true rfl) (fun v h' n' hq => ?_)
      obtain ⟨rfl, rfl, rfl⟩ := hq
      refine za_look (h1 := h) (v1 := [(6, tr_c 6 (tr_dec (r, pl, la, dn, vi, de, ct, en, ou, ed) true)), (7, tr_g (tr_dec (r, pl, la, dn, vi, de, ct, en, ou, ed) true))]) (tr_back h 6 ((r, pl, la, dn, vi, de, ct, en, ou, ed)) (tr_dec (r, pl, la, dn, vi, de, ct, en, ou, ed) true)) ?_
      iterate 1 refine za_step X rfl rfl rfl ?_
      refine za_ifeq X 33 rfl (by decide) (fun h2 => absurd h2 (by decide)) (fun h2 => ?_)
      iterate 4 refine za_step X rfl rfl rfl ?_
      refine za_callV X rfl cl_T_T_finish cy_T_finish cv_T_finish (c_T_finish l D _ n 6 (Or.inl rfl) (tr_dec (r, pl, la, dn, vi, de, ct, en, ou, ed) true) ⟨rfl, rfl⟩ 2 la) rfl rfl rfl rfl (Nat.le_of_ble_eq_true rfl) (Nat.le_of_ble_eq_true rfl) (Nat.le_of_ble_eq_true rfl) (Nat.le_of_ble_eq_true rfl) (Nat.le_of_ble_eq_true rfl) (fun v h' n' hq => ?_)
      obtain ⟨rfl, rfl, rfl⟩ := hq
      refine za_look (h1 := h) (v1 := [(6, tr_c 6 (tr_fin (tr_dec (r, pl, la, dn, vi, de, ct, en, ou, ed) true) 2 la)), (7, tr_g (tr_fin (tr_dec (r, pl, la, dn, vi, de, ct, en, ou, ed) true) 2 la))]) (tr_back h 6 (tr_dec (r, pl, la, dn, vi, de, ct, en, ou, ed) true) (tr_fin (tr_dec (r, pl, la, dn, vi, de, ct, en, ou, ed) true) 2 la)) ?_
      exact za_vret X rfl ⟨rfl, by
        have e : tr_clm (r, pl, la, dn, vi, de, ct, en, ou, ed) a = tr_fin (tr_dec (r, pl, la, dn, vi, de, ct, en, ou, ed) true) 2 la := if_pos h1
        rw [e]
        exact tr_ov h 6 (tr_fin (tr_dec (r, pl, la, dn, vi, de, ct, en, ou, ed) true) 2 la), rfl⟩ (Nat.le_refl _) (Nat.le_refl _)
  · refine za_enter cd_T_claim fl_T (by decide) cdok_T_claim flok_T (Nat.le_of_ble_eq_true rfl) ?_
    intro p e s m args below meth c X hnm
    refine za_view [(8, tr_c 8 (r, pl, la, dn, vi, de, ct, en, ou, ed)), (9, tr_g (r, pl, la, dn, vi, de, ct, en, ou, ed))] (by simp [hT1, hT2]) ?_
    iterate 3 refine za_step X rfl rfl rfl ?_
    refine za_iald X rfl rfl rfl (rg_in ha) ?_
    refine za_ifne X 13 rfl (by decide) (fun h1 => ?_) (fun h1 => ?_)
    · iterate 4 refine za_step X rfl rfl rfl ?_
      refine za_callV X rfl cl_T_T_decide cy_T_decide cv_T_decide (c_T_decide l D _ n 8 (Or.inr rfl) (r, pl, la, dn, vi, de, ct, en, ou, ed) ⟨rfl, rfl⟩ false) rfl rfl rfl rfl (Nat.le_of_ble_eq_true rfl) (Nat.le_of_ble_eq_true rfl) (Nat.le_of_ble_eq_true rfl) (Nat.le_of_ble_eq_true rfl) (Nat.le_of_ble_eq_true rfl) (fun v h' n' hq => ?_)
      obtain ⟨rfl, rfl, rfl⟩ := hq
      refine za_look (h1 := h) (v1 := [(8, tr_c 8 (tr_dec (r, pl, la, dn, vi, de, ct, en, ou, ed) false)), (9, tr_g (tr_dec (r, pl, la, dn, vi, de, ct, en, ou, ed) false))]) (tr_back h 8 ((r, pl, la, dn, vi, de, ct, en, ou, ed)) (tr_dec (r, pl, la, dn, vi, de, ct, en, ou, ed) false)) ?_
      iterate 1 refine za_step X rfl rfl rfl ?_
      refine za_ifeq X 33 rfl (by decide) (fun h2 => ?_) (fun h2 => absurd rfl h2)
      exact za_vret X rfl ⟨rfl, by
        have e : tr_clm (r, pl, la, dn, vi, de, ct, en, ou, ed) a = tr_dec (r, pl, la, dn, vi, de, ct, en, ou, ed) false := if_neg h1
        rw [e]
        exact tr_ov h 8 (tr_dec (r, pl, la, dn, vi, de, ct, en, ou, ed) false), rfl⟩ (Nat.le_refl _) (Nat.le_refl _)
    · iterate 5 refine za_step X rfl rfl rfl ?_
      refine za_callV X rfl cl_T_T_decide cy_T_decide cv_T_decide (c_T_decide l D _ n 8 (Or.inr rfl) (r, pl, la, dn, vi, de, ct, en, ou, ed) ⟨rfl, rfl⟩ true) rfl rfl rfl rfl (Nat.le_of_ble_eq_true rfl) (Nat.le_of_ble_eq_true rfl) (Nat.le_of_ble_eq_true rfl) (Nat.le_of_ble_eq_true rfl) (Nat.le_of_ble_eq_true rfl) (fun v h' n' hq => ?_)
      obtain ⟨rfl, rfl, rfl⟩ := hq
      refine za_look (h1 := h) (v1 := [(8, tr_c 8 (tr_dec (r, pl, la, dn, vi, de, ct, en, ou, ed) true)), (9, tr_g (tr_dec (r, pl, la, dn, vi, de, ct, en, ou, ed) true))]) (tr_back h 8 ((r, pl, la, dn, vi, de, ct, en, ou, ed)) (tr_dec (r, pl, la, dn, vi, de, ct, en, ou, ed) true)) ?_
      iterate 1 refine za_step X rfl rfl rfl ?_
      refine za_ifeq X 33 rfl (by decide) (fun h2 => absurd h2 (by decide)) (fun h2 => ?_)
      iterate 4 refine za_step X rfl rfl rfl ?_
      refine za_callV X rfl cl_T_T_finish cy_T_finish cv_T_finish (c_T_finish l D _ n 8 (Or.inr rfl) (tr_dec (r, pl, la, dn, vi, de, ct, en, ou, ed) true) ⟨rfl, rfl⟩ 2 la) rfl rfl rfl rfl (Nat.le_of_ble_eq_true rfl) (Nat.le_of_ble_eq_true rfl) (Nat.le_of_ble_eq_true rfl) (Nat.le_of_ble_eq_true rfl) (Nat.le_of_ble_eq_true rfl) (fun v h' n' hq => ?_)
      obtain ⟨rfl, rfl, rfl⟩ := hq
      refine za_look (h1 := h) (v1 := [(8, tr_c 8 (tr_fin (tr_dec (r, pl, la, dn, vi, de, ct, en, ou, ed) true) 2 la)), (9, tr_g (tr_fin (tr_dec (r, pl, la, dn, vi, de, ct, en, ou, ed) true) 2 la))]) (tr_back h 8 (tr_dec (r, pl, la, dn, vi, de, ct, en, ou, ed) true) (tr_fin (tr_dec (r, pl, la, dn, vi, de, ct, en, ou, ed) true) 2 la)) ?_
      exact za_vret X rfl ⟨rfl, by
        have e : tr_clm (r, pl, la, dn, vi, de, ct, en, ou, ed) a = tr_fin (tr_dec (r, pl, la, dn, vi, de, ct, en, ou, ed) true) 2 la := if_pos h1
        rw [e]
        exact tr_ov h 8 (tr_fin (tr_dec (r, pl, la, dn, vi, de, ct, en, ou, ed) true) 2 la), rfl⟩ (Nat.le_refl _) (Nat.le_refl _)
