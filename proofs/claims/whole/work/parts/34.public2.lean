theorem ts_o {x : Int32} {hi : Int} (hh : ∀ i : Int, 0 ≤ i → i ≤ hi → x ≠ Int32.ofInt i) : x.toInt < 0 ∨ hi < x.toInt := by
  by_cases a : x.toInt < 0
  · exact Or.inl a
  · by_cases b : hi < x.toInt
    · exact Or.inr b
    · exact absurd (Int32.ofInt_toInt x).symm (hh x.toInt (by omega) (by omega))
theorem rs_has_n {k : Nat} {x : Int32} (hk : k ≤ 64) (h : rs_has k x = true) : ∃ i, i < k ∧ x = nI i := by
  unfold rs_has at h
  rw [Bool.and_eq_true, decide_eq_true_eq, decide_eq_true_eq] at h
  have h1 : 0 ≤ x.toInt := Int32.le_iff_toInt_le.mp h.1
  have h2 : x.toInt < (nI k).toInt := Int32.lt_iff_toInt_lt.mp h.2
  rw [nI_toInt (by omega)] at h2
  refine ⟨x.toInt.toNat, by omega, ?_⟩
  refine Int32.toInt_inj.mp ?_
  rw [nI_toInt (by omega)]
  omega
theorem rs_has_i {k i : Nat} (hk : k ≤ 64) (h : i < k) : rs_has k (nI i) = true := rh_t (fun q => absurd ((nI_ltI (a := i) (b := 0) (by omega) (by omega)).mp q) (by omega)) (fun q => absurd ((nI_leI (by omega) (by omega)).mp q) (by omega))
theorem rs_has_k {k i : Nat} (hk : k ≤ 64) (h : rs_has k (nI i) = true) (hi : i ≤ 64) : i < k := by
  obtain ⟨j, hj, e⟩ := rs_has_n hk h
  have := (nI_eq (by omega) (by omega)).mp e
  omega
theorem fs_ch {h h' : za_H} {P : pr_T} {T : tr_T} {S : rs_T} {b : Nat} {q : Int32} (hσ : fs_at h (P, T, S, b, q)) (P' : pr_T) (b' : Nat) (q' : Int32) (hok : pr_ok P') (hP : pr_at h' P') (hb1 : 1 ≤ b') (hb4 : b' ≤ 4) (h0 : ∀ ra rb, h 0 = some (fs_c ra rb b q) → h' 0 = some (fs_c ra rb b' q')) (hoff : ∀ j, 6 ≤ j → h' j = h j) : fs_at h' (P', T, S, b', q') := by
  obtain ⟨_, _, hT, _, _, ra, rb, hrr, hF, ⟨T8, h8⟩, ⟨w, hS⟩, wb, SD, hD⟩ := hσ
  exact ⟨hok, hP, ⟨by rw [hoff 6 (by omega)]; exact hT.1, by rw [hoff (6 + 1) (by omega)]; exact hT.2⟩, hb1, hb4, ra, rb, hrr, h0 ra rb hF, ⟨T8, by rw [hoff 8 (by omega)]; exact h8.1, by rw [hoff (8 + 1) (by omega)]; exact h8.2⟩, ⟨w, rs_at_off hS (fun j a1 a2 => hoff j (by omega))⟩, wb, SD, rs_at_off hD (fun j a1 a2 => hoff j (by omega))⟩
theorem fs_t8 {h : za_H} {P : pr_T} {T : tr_T} {S : rs_T} {b : Nat} {q : Int32} (hσ : fs_at h (P, T, S, b, q)) (T8 : tr_T) : fs_at (tr_put h 8 T8) (P, T, S, b, q) := by
  obtain ⟨hok, hP, hT, hb1, hb4, ra, rb, hrr, hF, _, ⟨w, hS⟩, wb, SD, hD⟩ := hσ
  have goff : ∀ j, j ≠ 8 → j ≠ 9 → tr_put h 8 T8 j = h j := fun j a1 a2 => tr_put_ne a1 a2
  exact ⟨hok, pr_at_off hP (fun j a1 a2 => goff j (by omega) (by omega)), ⟨by rw [goff 6 (by omega) (by omega)]; exact hT.1, by rw [goff (6 + 1) (by omega) (by omega)]; exact hT.2⟩, hb1, hb4, ra, rb, hrr, by rw [goff 0 (by omega) (by omega)]; exact hF, ⟨T8, tr_put_at _ _ _⟩, ⟨w, rs_at_off hS (fun j a1 a2 => goff j (by omega) (by omega))⟩, wb, SD, rs_at_off hD (fun j a1 a2 => goff j (by omega) (by omega))⟩
theorem za_ov_f1 {h : za_H} {F c : za_C} (hF : h 0 = some F) : za_ov h [(0, F), (1, c)] = za_set h 1 c := by
  rw [za_ov2, za_set_same (by rw [za_set_ne (by omega)]; exact hF)]
set_option maxHeartbeats 4000000 in
set_option maxRecDepth 100000 in
theorem c_F_undo (l : Launch) (D : za_D) (h : za_H) (n : Nat) (hst : l.stackTraces = false) (σ : fs_T) (hσ : fs_at h σ)  : zg_M l D (.code Y_F_undo.1 Y_F_undo.2.1 Y_F_undo.2.2.1 Y_F_undo.2.2.2) Y_F_undo 6 1 6 [vR 0] h n (fs_ps "java/util/NoSuchElementException" "java/util/NoSuchElementException" h n (sp_undo σ)) := by
  obtain ⟨P, T, S, b, q⟩ := σ
  have hσ0 := hσ
  obtain ⟨hok, hP, hT, hb1, hb4, ra, rb, hrr, hF, ⟨T8, h8⟩, ⟨w, hS⟩, wb, SD, hD⟩ := hσ
  obtain ⟨oo, aa, bb, cc0, k⟩ := P
  obtain ⟨hP1, hP2, hP3, hP4, hP5⟩ := hP
  have hv : za_ov h [(0, fs_c ra rb b q), (1, pr_c k)] = h := by rw [za_ov2, za_set_same hP1, za_set_same hF]
  have hs : fs_at (za_ov h [(0, fs_c ra rb b q), (1, pr_c k)]) ((oo, aa, bb, cc0, k), T, S, b, q) := by rw [hv]; exact hσ0
  have hfr : fs_fr h (za_ov h [(0, fs_c ra rb b q), (1, pr_c k)]) := by rw [hv]; exact fs_fr_rf h
  
  refine zg_enter cd_F_undo fl_F (zg_Kcode Y_F_undo) (by decide) cdok_F_undo flok_F (Nat.le_of_ble_eq_true rfl) ?_
  intro p e s m args below meth c X hH hex
  refine za_view [(0, fs_c ra rb b q), (1, pr_c k)] (by simp [hF, hP1]) ?_
  iterate 3 refine za_step X rfl rfl rfl ?_
  refine za_ifne X 18 rfl (by decide) (fun q1 => ?_) (fun q1 => ?_)
  · have hk : k ≠ 0 := fun z => q1 (by rw [z]; rfl)
    have e1 : sp_undo ((oo, aa, bb, cc0, k), T, S, b, q) = (0, nI (k - 1), ((oo, aa, bb, cc0, k - 1), T, S, b, q)) := if_neg hk
    rw [e1]
    iterate 6 refine za_step X rfl rfl rfl ?_
    rw [show nI k - Int32.ofInt 1 = nI (k - 1) from by have := nI_pred (k - 1); rw [show k - 1 + 1 = k by omega] at this; exact this]
    iterate 4 refine za_step X rfl rfl rfl ?_
    have hfin : za_ov h [(0, fs_c ra rb b q), (1, pr_c (k - 1))] = za_set h 1 (pr_c (k - 1)) := za_ov_f1 hF
    have goff : ∀ j, j ≠ 1 → za_set h 1 (pr_c (k - 1)) j = h j := fun j a => za_set_ne a
    refine zg_of (za_iret X rfl ⟨?_, ?_, Or.inl ⟨rfl, rfl, rfl⟩⟩ (Nat.le_of_ble_eq_true rfl) (Nat.le_of_ble_eq_true rfl))
    · show fs_at (za_ov h [(0, fs_c ra rb b q), (1, pr_c (k - 1))]) _
      rw [hfin]
      refine fs_ch hσ0 (oo, aa, bb, cc0, k - 1) b q ⟨by show k - 1 ≤ 24; have := hok.1; omega, fun i hi => hok.2 i (by have : i < k - 1 := hi; omega)⟩ ⟨za_set_eq _ _ _, by rw [goff 2 (by omega)]; exact hP2, by rw [goff 3 (by omega)]; exact hP3, by rw [goff 4 (by omega)]; exact hP4, by rw [goff 5 (by omega)]; exact hP5⟩ hb1 hb4 (fun ra rb g => by rw [goff 0 (by omega)]; exact g) (fun j hj => goff j (by omega))
    · show fs_fr h (za_ov h [(0, fs_c ra rb b q), (1, pr_c (k - 1))])
      rw [hfin]; exact fun j hj => goff j (by omega)
  · have hk : k = 0 := (nI_eq (by have := hok.1; omega) (by omega)).mp (q1.trans rfl)
    have e1 : sp_undo ((oo, aa, bb, cc0, k), T, S, b, q) = (1, 0, ((oo, aa, bb, cc0, k), T, S, b, q)) := if_pos hk
    rw [e1]
    exact zg_throw X hH hst hex rfl rfl rfl rfl ze_NSE (by decide) (Nat.le_of_ble_eq_true rfl) (Nat.le_of_ble_eq_true rfl) (Nat.le_of_ble_eq_true rfl) ⟨hs, hfr, Or.inr (Or.inl ⟨rfl, rfl, rfl⟩)⟩ (Nat.le_of_ble_eq_true rfl) (Nat.le_of_ble_eq_true rfl)
set_option maxHeartbeats 4000000 in
set_option maxRecDepth 100000 in
theorem c_F_width (l : Launch) (D : za_D) (h : za_H) (n : Nat) (hst : l.stackTraces = false) (σ : fs_T) (hσ : fs_at h σ) (x : Int32) : zg_M l D (.code Y_F_width.1 Y_F_width.2.1 Y_F_width.2.2.1 Y_F_width.2.2.2) Y_F_width 6 1 6 [vR 0, vI x] h n (fs_ps "java/lang/IllegalArgumentException" "java/lang/IllegalArgumentException" h n (sp_width σ x)) := by
  obtain ⟨P, T, S, b, q⟩ := σ
  have hσ0 := hσ
  obtain ⟨hok, hP, hT, hb1, hb4, ra, rb, hrr, hF, ⟨T8, h8⟩, ⟨w, hS⟩, wb, SD, hD⟩ := hσ
  have hv : za_ov h [(0, fs_c ra rb b q)] = h := by rw [za_ov1, za_set_same hF]
  have hs : fs_at (za_ov h [(0, fs_c ra rb b q)]) (P, T, S, b, q) := by rw [hv]; exact hσ0
  have hfr : fs_fr h (za_ov h [(0, fs_c ra rb b q)]) := by rw [hv]; exact fs_fr_rf h
  
  refine zg_enter cd_F_width fl_F (zg_Kcode Y_F_width) (by decide) cdok_F_width flok_F (Nat.le_of_ble_eq_true rfl) ?_
  intro p e s m args below meth c X hH hex
  refine za_view [(0, fs_c ra rb b q)] (by simp [hF]) ?_
  iterate 2 refine za_step X rfl rfl rfl ?_
  refine za_iclt X 10 rfl (by decide) (fun q1 => ?_) (fun q1 => ?_)
  · have e1 : sp_width (P, T, S, b, q) x = (1, 0, (P, T, S, b, q)) := if_neg (fun z => absurd z.1 (Int32.not_le.mpr q1))
    rw [e1]
    exact zg_throw X hH hst hex rfl rfl rfl rfl ze_IAE (by decide) (Nat.le_of_ble_eq_true rfl) (Nat.le_of_ble_eq_true rfl) (Nat.le_of_ble_eq_true rfl) ⟨hs, hfr, Or.inr (Or.inl ⟨rfl, rfl, rfl⟩)⟩ (Nat.le_of_ble_eq_true rfl) (Nat.le_of_ble_eq_true rfl)
  · iterate 2 refine za_step X rfl rfl rfl ?_
    refine za_icle X 18 rfl (by decide) (fun q2 => ?_) (fun q2 => ?_)
    · have hx1 : (1 : Int32) ≤ x := Int32.not_lt.mp q1
      have hx4 : x ≤ (4 : Int32) := q2
      have e1 : sp_width (P, T, S, b, q) x = (0, nI b, (P, T, S, x.toNatClampNeg, q)) := if_pos ⟨hx1, hx4⟩
      rw [e1]
      have t1 : 1 ≤ x.toInt := Int32.le_iff_toInt_le.mp hx1
      have t4 : x.toInt ≤ 4 := Int32.le_iff_toInt_le.mp hx4
      have hc : x.toNatClampNeg = x.toInt.toNat := rfl
      have hx : x = nI x.toNatClampNeg := by
        refine Int32.toInt_inj.mp ?_
        rw [nI_toInt (by omega)]
        omega
      generalize x.toNatClampNeg = k at *
      subst hx
      iterate 7 refine za_step X rfl rfl rfl ?_
      have hfin : za_ov h [(0, fs_c ra rb k q)] = za_set h 0 (fs_c ra rb k q) := za_ov1 _ _ _
      have goff : ∀ j, j ≠ 0 → za_set h 0 (fs_c ra rb k q) j = h j := fun j a => za_set_ne a
      refine zg_of (za_iret X rfl ⟨?_, ?_, Or.inl ⟨rfl, rfl, rfl⟩⟩ (Nat.le_of_ble_eq_true rfl) (Nat.le_of_ble_eq_true rfl))
      · show fs_at (za_ov h [(0, fs_c ra rb k q)]) _
        rw [hfin]
        have hrr2 := hrr
        refine ⟨hok, pr_at_off hP (fun j a1 a2 => goff j (by omega)), ⟨by rw [goff 6 (by omega)]; exact hT.1, by rw [goff (6 + 1) (by omega)]; exact hT.2⟩, by omega, by omega, ra, rb, hrr, za_set_eq _ _ _, ⟨T8, by rw [goff 8 (by omega)]; exact h8.1, by rw [goff (8 + 1) (by omega)]; exact h8.2⟩, ⟨w, rs_at_off hS (fun j a1 a2 => goff j (by omega))⟩, wb, SD, rs_at_off hD (fun j a1 a2 => goff j (by omega))⟩
      · show fs_fr h (za_ov h [(0, fs_c ra rb k q)])
        rw [hfin]; exact fun j hj => goff j (by omega)
    · have e1 : sp_width (P, T, S, b, q) x = (1, 0, (P, T, S, b, q)) := if_neg (fun z => q2 z.2)
      rw [e1]
      exact zg_throw X hH hst hex rfl rfl rfl rfl ze_IAE (by decide) (Nat.le_of_ble_eq_true rfl) (Nat.le_of_ble_eq_true rfl) (Nat.le_of_ble_eq_true rfl) ⟨hs, hfr, Or.inr (Or.inl ⟨rfl, rfl, rfl⟩)⟩ (Nat.le_of_ble_eq_true rfl) (Nat.le_of_ble_eq_true rfl)
set_option maxHeartbeats 4000000 in
set_option maxRecDepth 100000 in
theorem c_F_run (l : Launch) (D : za_D) (h : za_H) (n : Nat) (hst : l.stackTraces = false) (σ : fs_T) (hσ : fs_at h σ) (x y : Int32) : zg_M l D (.code Y_F_run.1 Y_F_run.2.1 Y_F_run.2.2.1 Y_F_run.2.2.2) Y_F_run 6 1 6 [vR 0, vI x, vI y] h n (fs_ps "java/lang/IllegalArgumentException" "java/lang/IllegalArgumentException" h n (sp_run σ x y)) := by
  obtain ⟨P, T, S, b, q⟩ := σ
  have hσ0 := hσ
  obtain ⟨hok, hP, hT, hb1, hb4, ra, rb, hrr, hF, ⟨T8, h8⟩, ⟨w, hS⟩, wb, SD, hD⟩ := hσ
  have hv : za_ov h [(0, fs_c ra rb b q)] = h := by rw [za_ov1, za_set_same hF]
  have hs : fs_at (za_ov h [(0, fs_c ra rb b q)]) (P, T, S, b, q) := by rw [hv]; exact hσ0
  have hfr : fs_fr h (za_ov h [(0, fs_c ra rb b q)]) := by rw [hv]; exact fs_fr_rf h
  
  refine zg_enter cd_F_run fl_F (zg_Kcode Y_F_run) (by decide) cdok_F_run flok_F (Nat.le_of_ble_eq_true rfl) ?_
  intro p e s m args below meth c X hH hex
  refine za_view [(0, fs_c ra rb b q)] (by simp [hF]) ?_
  iterate 3 refine za_step X rfl rfl rfl ?_
  refine za_callV X rfl cl_F_F_areInputs cy_F_areInputs cv_F_areInputs (c_F_areInputs l D (za_ov h [(0, fs_c ra rb b q)]) n ra rb b q rfl x y) rfl rfl rfl rfl (Nat.le_of_ble_eq_true rfl) (Nat.le_of_ble_eq_true rfl) (Nat.le_of_ble_eq_true rfl) (Nat.le_of_ble_eq_true rfl) (Nat.le_of_ble_eq_true rfl) (fun v h' n' hq => ?_)
  obtain ⟨rfl, rfl, rfl⟩ := hq
  refine za_look (h1 := h) (v1 := [(0, fs_c ra rb b q)]) rfl ?_
  refine za_ifne X 17 rfl (by decide) (fun q1 => ?_) (fun q1 => ?_)
  · have e1 : sp_run (P, T, S, b, q) x y = (0, tr_ou (tr_run0 P x y), (P, tr_run0 P x y, S, b, q + 1)) := if_pos (bI_n0 q1)
    rw [e1]
    iterate 6 refine za_step X rfl rfl rfl ?_
    obtain ⟨r, pl, la, dn, vi, de, ct, en, ou, ed⟩ := T
    refine za_callV (b := 6) (d := 4) (mc := 0) (ms := 0) (as := [vR 1, vI x, vI y]) (rest := []) X rfl cl_F_T_follow cy_T_follow cv_T_follow (c_T_follow l D (za_ov h [(0, fs_c ra rb b q)]) n 6 (Or.inl rfl) (r, pl, la, dn, vi, de, ct, en, ou, ed) (by rw [hv]; exact hT) P (by rw [hv]; exact hP) hok x y) rfl rfl (show za_ov h _ 6 = _ from hT.1) rfl (Nat.le_of_ble_eq_true rfl) (Nat.le_of_ble_eq_true rfl) (Nat.le_of_ble_eq_true rfl) (Nat.le_of_ble_eq_true rfl) (Nat.le_of_ble_eq_true rfl) (fun v h' n' hq => ?_)
    obtain ⟨rfl, rfl, rfl⟩ := hq
    rw [hv, tr_run_eq]
    generalize tr_run0 P x y = T'
    generalize hh2 : tr_put h 6 T' = h2
    have g6 : tr_at h2 6 T' := by rw [← hh2]; exact tr_put_at _ _ _
    have goff : ∀ j, j ≠ 6 → j ≠ 7 → h2 j = h j := fun j a1 a2 => by rw [← hh2]; exact tr_put_ne a1 a2
    have g0 : h2 0 = some (fs_c ra rb b q) := by rw [goff 0 (by omega) (by omega)]; exact hF
    clear hh2
    obtain ⟨r, pl, la, dn, vi, de, ct, en, ou, ed⟩ := T'
    refine za_view [(0, fs_c ra rb b q), (6, tr_c 6 (r, pl, la, dn, vi, de, ct, en, ou, ed))] (by simp [g0, g6.1]) ?_
    iterate 9 refine za_step X rfl rfl rfl ?_
    have hfin : za_ov h2 [(0, fs_c ra rb b (q + 1)), (6, tr_c 6 (r, pl, la, dn, vi, de, ct, en, ou, ed))] = za_set h2 0 (fs_c ra rb b (q + 1)) := by rw [za_ov2, za_set_same g6.1]
    have foff : ∀ j, j ≠ 0 → j ≠ 6 → j ≠ 7 → za_set h2 0 (fs_c ra rb b (q + 1)) j = h j := fun j a a1 a2 => (za_set_ne a).trans (goff j a1 a2)
    refine zg_of (za_iret X rfl ⟨?_, ?_, Or.inl ⟨rfl, rfl, rfl⟩⟩ (Nat.le_of_ble_eq_true rfl) (Nat.le_of_ble_eq_true rfl))
    · show fs_at (za_ov h2 [(0, fs_c ra rb b (q + 1)), (6, tr_c 6 (r, pl, la, dn, vi, de, ct, en, ou, ed))]) _
      rw [hfin]
      exact ⟨hok, pr_at_off hP (fun j a1 a2 => foff j (by omega) (by omega) (by omega)), ⟨by rw [za_set_ne (by omega)]; exact g6.1, by rw [za_set_ne (by omega)]; exact g6.2⟩, hb1, hb4, ra, rb, hrr, za_set_eq _ _ _, ⟨T8, by rw [foff 8 (by omega) (by omega) (by omega)]; exact h8.1, by rw [foff (8 + 1) (by omega) (by omega) (by omega)]; exact h8.2⟩, ⟨w, rs_at_off hS (fun j a1 a2 => foff j (by omega) (by omega) (by omega))⟩, wb, SD, rs_at_off hD (fun j a1 a2 => foff j (by omega) (by omega) (by omega))⟩
    · show fs_fr h (za_ov h2 [(0, fs_c ra rb b (q + 1)), (6, tr_c 6 (r, pl, la, dn, vi, de, ct, en, ou, ed))])
      rw [hfin]; exact fun j hj => foff j (by omega) (by omega) (by omega)
  · have e1 : sp_run (P, T, S, b, q) x y = (1, 0, (P, T, S, b, q)) := if_neg (by rw [bI_0 q1]; decide)
    rw [e1]
    exact zg_throw X hH hst hex rfl rfl rfl rfl ze_IAE (by decide) (Nat.le_of_ble_eq_true rfl) (Nat.le_of_ble_eq_true rfl) (Nat.le_of_ble_eq_true rfl) ⟨hs, hfr, Or.inr (Or.inl ⟨rfl, rfl, rfl⟩)⟩ (Nat.le_of_ble_eq_true rfl) (Nat.le_of_ble_eq_true rfl)
set_option maxHeartbeats 4000000 in
set_option maxRecDepth 100000 in
theorem c_F_last (l : Launch) (D : za_D) (h : za_H) (n : Nat) (hst : l.stackTraces = false) (σ : fs_T) (hσ : fs_at h σ) (x : Int32) : zg_M l D (.code Y_F_last.1 Y_F_last.2.1 Y_F_last.2.2.1 Y_F_last.2.2.2) Y_F_last 6 1 6 [vR 0, vI x] h n (fs_ps "java/util/NoSuchElementException" "java/lang/IllegalArgumentException" h n (sp_last σ x)) := by
  obtain ⟨P, T, S, b, q⟩ := σ
  have hσ0 := hσ
  obtain ⟨hok, hP, hT, hb1, hb4, ra, rb, hrr, hF, ⟨T8, h8⟩, ⟨w, hS⟩, wb, SD, hD⟩ := hσ
  obtain ⟨r, pl, la, dn, vi, de, ct, en, ou, ed⟩ := T
  have hv : za_ov h [(0, fs_c ra rb b q), (6, tr_c 6 (r, pl, la, dn, vi, de, ct, en, ou, ed))] = h := by rw [za_ov2, za_set_same hT.1, za_set_same hF]
  have hs : fs_at (za_ov h [(0, fs_c ra rb b q), (6, tr_c 6 (r, pl, la, dn, vi, de, ct, en, ou, ed))]) (P, (r, pl, la, dn, vi, de, ct, en, ou, ed), S, b, q) := by rw [hv]; exact hσ0
  have hfr : fs_fr h (za_ov h [(0, fs_c ra rb b q), (6, tr_c 6 (r, pl, la, dn, vi, de, ct, en, ou, ed))]) := by rw [hv]; exact fs_fr_rf h
  
  refine zg_enter cd_F_last fl_F (zg_Kcode Y_F_last) (by decide) cdok_F_last flok_F (Nat.le_of_ble_eq_true rfl) ?_
  intro p e s m args below meth c X hH hex
  refine za_view [(0, fs_c ra rb b q), (6, tr_c 6 (r, pl, la, dn, vi, de, ct, en, ou, ed))] (by simp [hF, hT.1]) ?_
  iterate 2 refine za_step X rfl rfl rfl ?_
  refine za_ifne X 15 rfl (by decide) (fun q1 => ?_) (fun q1 => ?_)
  · iterate 1 refine za_step X rfl rfl rfl ?_
    by_cases x0 : x = 0
    · subst x0
      have e1 : sp_last (P, (r, pl, la, dn, vi, de, ct, en, ou, ed), S, b, q) 0 = (0, ed, (P, (r, pl, la, dn, vi, de, ct, en, ou, ed), S, b, q)) := by simp [sp_last, q1, tr_ed, tr_dn, tr_ct]
      rw [e1]
      refine za_tsw X 0 44 rfl (by decide) (by decide) (by decide) rfl (by decide) ?_
      iterate 3 refine za_step X rfl rfl rfl ?_
      exact zg_of (za_iret X rfl ⟨hs, hfr, Or.inl ⟨rfl, rfl, rfl⟩⟩ (Nat.le_of_ble_eq_true rfl) (Nat.le_of_ble_eq_true rfl))
    by_cases x1 : x = 1
    · subst x1
      have e1 : sp_last (P, (r, pl, la, dn, vi, de, ct, en, ou, ed), S, b, q) 1 = (0, dn, (P, (r, pl, la, dn, vi, de, ct, en, ou, ed), S, b, q)) := by simp [sp_last, q1, tr_ed, tr_dn, tr_ct]
      rw [e1]
      refine za_tsw X 1 52 rfl (by decide) (by decide) (by decide) rfl (by decide) ?_
      iterate 3 refine za_step X rfl rfl rfl ?_
      exact zg_of (za_iret X rfl ⟨hs, hfr, Or.inl ⟨rfl, rfl, rfl⟩⟩ (Nat.le_of_ble_eq_true rfl) (Nat.le_of_ble_eq_true rfl))
    by_cases x2 : x = 2
    · subst x2
      have e1 : sp_last (P, (r, pl, la, dn, vi, de, ct, en, ou, ed), S, b, q) 2 = (0, ct, (P, (r, pl, la, dn, vi, de, ct, en, ou, ed), S, b, q)) := by simp [sp_last, q1, tr_ed, tr_dn, tr_ct]
      rw [e1]
      refine za_tsw X 2 60 rfl (by decide) (by decide) (by decide) rfl (by decide) ?_
      iterate 3 refine za_step X rfl rfl rfl ?_
      exact zg_of (za_iret X rfl ⟨hs, hfr, Or.inl ⟨rfl, rfl, rfl⟩⟩ (Nat.le_of_ble_eq_true rfl) (Nat.le_of_ble_eq_true rfl))
    
    have e1 : sp_last (P, (r, pl, la, dn, vi, de, ct, en, ou, ed), S, b, q) x = (2, 0, (P, (r, pl, la, dn, vi, de, ct, en, ou, ed), S, b, q)) := by simp [sp_last, q1, x0, x1, x2]
    refine za_tsd X 68 rfl (ts_o (hi := 2) (fun i h1 h2 => by rcases (show i = 0 ∨ i = 1 ∨ i = 2 by omega) with rfl | rfl | rfl <;> first | exact x0 | exact x1 | exact x2)) (by decide) ?_
    rw [e1]
    exact zg_throw X hH hst hex rfl rfl rfl rfl ze_IAE (by decide) (Nat.le_of_ble_eq_true rfl) (Nat.le_of_ble_eq_true rfl) (Nat.le_of_ble_eq_true rfl) ⟨hs, hfr, Or.inr (Or.inr ⟨rfl, rfl, rfl⟩)⟩ (Nat.le_of_ble_eq_true rfl) (Nat.le_of_ble_eq_true rfl)
  · have e1 : sp_last (P, (r, pl, la, dn, vi, de, ct, en, ou, ed), S, b, q) x = (1, 0, (P, (r, pl, la, dn, vi, de, ct, en, ou, ed), S, b, q)) := if_pos q1
    rw [e1]
    exact zg_throw X hH hst hex rfl rfl rfl rfl ze_NSE (by decide) (Nat.le_of_ble_eq_true rfl) (Nat.le_of_ble_eq_true rfl) (Nat.le_of_ble_eq_true rfl) ⟨hs, hfr, Or.inr (Or.inl ⟨rfl, rfl, rfl⟩)⟩ (Nat.le_of_ble_eq_true rfl) (Nat.le_of_ble_eq_true rfl)
