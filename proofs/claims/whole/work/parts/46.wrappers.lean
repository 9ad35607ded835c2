/-! THE LAW'S METHODS: each calls the class and says 0, 1 or 2 -/
theorem fs_off {h h' : za_H} {σ : fs_T} (hσ : fs_at h σ) (e : ∀ j, j < 142 → h' j = h j) : fs_at h' σ := by
  obtain ⟨P, T, S, b, q⟩ := σ
  obtain ⟨hok, hP, hT, hb1, hb4, ra, rb, hrr, hF, ⟨T8, h8⟩, ⟨w, hS⟩, wb, SD, hD⟩ := hσ
  exact ⟨hok, pr_at_off hP (fun j a1 a2 => e j (by omega)), ⟨by rw [e 6 (by omega)]; exact hT.1, by rw [e (6 + 1) (by omega)]; exact hT.2⟩, hb1, hb4, ra, rb, hrr, by rw [e 0 (by omega)]; exact hF, ⟨T8, by rw [e 8 (by omega)]; exact h8.1, by rw [e (8 + 1) (by omega)]; exact h8.2⟩, ⟨w, rs_at_off hS (fun j a1 a2 => e j (by omega))⟩, wb, SD, rs_at_off hD (fun j a1 a2 => e j (by omega))⟩
def ou_at (h : za_H) (w : Nat → Int64) : Prop := h 159 = some (.inl (1, 1, .inr (.inl w)))
def lw_ps (h : za_H) (n : Nat) (R : Nat × Int32 × fs_T) (r : Option za_V ⊕ String) (h' : za_H) (n' : Nat) : Prop := r = .inl (some (vI (nI R.1))) ∧ fs_at h' R.2.2 ∧ (∀ j, 142 ≤ j → j ≠ 159 → h' j = h j) ∧ (∃ w, ou_at h' w ∧ (R.1 = 0 → w 0 = R.2.1.toInt64)) ∧ n ≤ n' ∧ n' ≤ n + 1
theorem lw_fin {h h1 : za_H} {n n' : Nat} {c : Nat} {v : Int32} {σ : fs_T} {w : Nat → Int64} (hc : ¬ c = 0) (hf : fs_at h1 σ) (hfr : fs_fr h h1) (ho : ou_at h w) (h1' : n ≤ n') (h2' : n' ≤ n + 1) : lw_ps h n (c, v, σ) (.inl (some (vI (nI c)))) h1 n' := ⟨rfl, hf, fun j hj _ => hfr j hj, ⟨w, (hfr 159 (by omega)).trans ho, fun z => absurd z hc⟩, h1', h2'⟩
set_option maxHeartbeats 4000000 in
set_option maxRecDepth 100000 in
theorem c_L_instr (l : Launch) (D : za_D) (h : za_H) (n : Nat) (hst : l.stackTraces = false) (σ : fs_T) (hσ : fs_at h σ) (w0 : Nat → Int64) (ho : ou_at h w0) (op a1 x1 y1 : Int32) : zg_M l D (.codeWith Y_L_instr.1 Y_L_instr.2.1 Y_L_instr.2.2.1 Y_L_instr.2.2.2 hs_L_instr) Y_L_instr 7 1 6 [vR 0, vI op, vI a1, vI x1, vI y1, vR 159] h n (lw_ps h n (sp_instr σ op a1 x1 y1)) := by
  have h2 : True := trivial
  have hF : ∃ cl, h 0 = some (.inr (zn_F, cl)) := by
    obtain ⟨P, T, S, b, q⟩ := σ
    obtain ⟨_, _, _, _, _, ra, rb, _, hF, _⟩ := hσ
    exact ⟨_, hF⟩
  obtain ⟨cl, hF⟩ := hF
  refine zg_enter cd_L_instr fl_L (zg_Kwith Y_L_instr hs_L_instr) (by decide) cdok_L_instr flok_L (Nat.le_of_ble_eq_true rfl) ?_
  intro p e s m args below meth c X hH hex
  iterate 7 refine za_step X rfl rfl rfl ?_
  refine zg_callV (K := .code Y_F_instr.1 Y_F_instr.2.1 Y_F_instr.2.2.1 Y_F_instr.2.2.2) (Y := Y_F_instr) (hs := []) (b := 0) (d := 6) (mc := 1) (ms := 6) (as := [vI op, vI a1, vI x1, vI y1]) (rest := [vI 0, vR 159]) X hH rfl (za_in 204 (by decide +kernel) rfl) (zg_Kcode Y_F_instr) kc_F_instr zj_F cv_F_instr.1 cv_F_instr.2 (by decide) cy_F_instr.2.2.2 (c_F_instr l D h n hst σ hσ op a1 x1 y1) rfl (show za_ov h [] 0 = _ from hF) rfl (Nat.le_of_ble_eq_true rfl) (Nat.le_of_ble_eq_true rfl) (Nat.le_of_ble_eq_true rfl) (Nat.le_of_ble_eq_true rfl) (Nat.le_of_ble_eq_true rfl) (fun r h' n' hq => ?_)
  have hq' : fs_ps "java/lang/IllegalArgumentException" "java/lang/IllegalStateException" h n (sp_instr σ op a1 x1 y1) r h' n' := hq
  generalize sp_instr σ op a1 x1 y1 = R at hq' h2 ⊢
  obtain ⟨cd, v, σ'⟩ := R
  obtain ⟨hfs, hfr, hc⟩ := hq'
  rcases hc with ⟨hR, rfl, rfl⟩ | ⟨hR, rfl, rfl⟩ | ⟨hR, rfl, rfl⟩
  · have hR' : cd = 0 := hR
    subst hR'
    have ho' : h' 159 = some (.inl (1, 1, .inr (.inl w0))) := (hfr 159 (by omega)).trans ho
    refine za_view [(159, .inl (1, 1, .inr (.inl w0)))] (by simp [ho']) ?_
    iterate 1 refine za_step X rfl rfl rfl ?_
    refine za_last X rfl rfl rfl (by unfold vp_in; decide) ?_
    iterate 2 refine za_step X rfl rfl rfl ?_
    refine zg_of (za_iret X rfl ⟨rfl, ?_, ?_, ⟨_, rfl, fun _ => rfl⟩, Nat.le_refl _, Nat.le_succ _⟩ (Nat.le_of_ble_eq_true rfl) (Nat.le_of_ble_eq_true rfl))
    · refine fs_off hfs (fun j hj => ?_)
      refine za_ov_off (v := [(159, _)]) ?_
      intro q hq
      rw [List.mem_singleton] at hq
      subst hq
      show 159 ≠ j
      omega
    · intro j hj hj9
      refine Eq.trans (za_ov_off (v := [(159, _)]) ?_) (hfr j hj)
      intro q hq
      rw [List.mem_singleton] at hq
      subst hq
      show 159 ≠ j
      omega
  · have hR' : cd = 1 := hR
    subst hR'
    intro i
    refine zg_catch (q := (0, 14, 17, 13)) (pr := []) (su := [(0, 14, 21, 15)]) (nm := "java/lang/IllegalArgumentException") X hH hex rfl (fun y hy => absurd hy List.not_mem_nil) rfl (by decide) zc_L_13 zk_IllegalArgumentException ?_
    iterate 2 refine za_step X rfl rfl rfl ?_
    exact zg_of (za_iret X rfl (lw_fin (by decide) hfs hfr ho (by omega) (by omega)) (Nat.le_of_ble_eq_true rfl) (Nat.le_of_ble_eq_true rfl))
  · have hR2 : cd = 2 := hR
    subst hR2
    intro i
    refine zg_catch (q := (0, 14, 21, 15)) (pr := [(0, 14, 17, 13)]) (su := []) (nm := "java/lang/IllegalStateException") X hH hex rfl (fun y hy => by rw [List.mem_singleton] at hy; subst hy; exact Or.inr ⟨rfl, by decide, "java/lang/IllegalArgumentException", zc_L_13, by decide⟩) rfl (by decide) zc_L_15 zk_IllegalStateException ?_
    iterate 2 refine za_step X rfl rfl rfl ?_
    exact zg_of (za_iret X rfl (lw_fin (by decide) hfs hfr ho (by omega) (by omega)) (Nat.le_of_ble_eq_true rfl) (Nat.le_of_ble_eq_true rfl))
theorem sp2_undo (σ : fs_T)  : ¬ (sp_undo σ).1 = 2 := by
  obtain ⟨P, T, S, b, q⟩ := σ
  unfold sp_undo
  repeat' split
  all_goals (first | (show ¬ (0 : Nat) = 2; decide) | (show ¬ (1 : Nat) = 2; decide))
set_option maxHeartbeats 4000000 in
set_option maxRecDepth 100000 in
theorem c_L_undo (l : Launch) (D : za_D) (h : za_H) (n : Nat) (hst : l.stackTraces = false) (σ : fs_T) (hσ : fs_at h σ) (w0 : Nat → Int64) (ho : ou_at h w0)  : zg_M l D (.codeWith Y_L_undo.1 Y_L_undo.2.1 Y_L_undo.2.2.1 Y_L_undo.2.2.2 hs_L_undo) Y_L_undo 7 1 6 [vR 0, vR 159] h n (lw_ps h n (sp_undo σ)) := by
  have h2 : ¬ (sp_undo σ).1 = 2 := sp2_undo σ
  have hF : ∃ cl, h 0 = some (.inr (zn_F, cl)) := by
    obtain ⟨P, T, S, b, q⟩ := σ
    obtain ⟨_, _, _, _, _, ra, rb, _, hF, _⟩ := hσ
    exact ⟨_, hF⟩
  obtain ⟨cl, hF⟩ := hF
  refine zg_enter cd_L_undo fl_L (zg_Kwith Y_L_undo hs_L_undo) (by decide) cdok_L_undo flok_L (Nat.le_of_ble_eq_true rfl) ?_
  intro p e s m args below meth c X hH hex
  iterate 3 refine za_step X rfl rfl rfl ?_
  refine zg_callV (K := .code Y_F_undo.1 Y_F_undo.2.1 Y_F_undo.2.2.1 Y_F_undo.2.2.2) (Y := Y_F_undo) (hs := []) (b := 0) (d := 6) (mc := 1) (ms := 6) (as := []) (rest := [vI 0, vR 159]) X hH rfl (za_in 303 (by decide +kernel) rfl) (zg_Kcode Y_F_undo) kc_F_undo zj_F cv_F_undo.1 cv_F_undo.2 (by decide) cy_F_undo.2.2.2 (c_F_undo l D h n hst σ hσ) rfl (show za_ov h [] 0 = _ from hF) rfl (Nat.le_of_ble_eq_true rfl) (Nat.le_of_ble_eq_true rfl) (Nat.le_of_ble_eq_true rfl) (Nat.le_of_ble_eq_true rfl) (Nat.le_of_ble_eq_true rfl) (fun r h' n' hq => ?_)
  have hq' : fs_ps "java/util/NoSuchElementException" "java/util/NoSuchElementException" h n (sp_undo σ) r h' n' := hq
  generalize sp_undo σ = R at hq' h2 ⊢
  obtain ⟨cd, v, σ'⟩ := R
  obtain ⟨hfs, hfr, hc⟩ := hq'
  rcases hc with ⟨hR, rfl, rfl⟩ | ⟨hR, rfl, rfl⟩ | ⟨hR, rfl, rfl⟩
  · have hR' : cd = 0 := hR
    subst hR'
    have ho' : h' 159 = some (.inl (1, 1, .inr (.inl w0))) := (hfr 159 (by omega)).trans ho
    refine za_view [(159, .inl (1, 1, .inr (.inl w0)))] (by simp [ho']) ?_
    iterate 1 refine za_step X rfl rfl rfl ?_
    refine za_last X rfl rfl rfl (by unfold vp_in; decide) ?_
    iterate 2 refine za_step X rfl rfl rfl ?_
    refine zg_of (za_iret X rfl ⟨rfl, ?_, ?_, ⟨_, rfl, fun _ => rfl⟩, Nat.le_refl _, Nat.le_succ _⟩ (Nat.le_of_ble_eq_true rfl) (Nat.le_of_ble_eq_true rfl))
    · refine fs_off hfs (fun j hj => ?_)
      refine za_ov_off (v := [(159, _)]) ?_
      intro q hq
      rw [List.mem_singleton] at hq
      subst hq
      show 159 ≠ j
      omega
    · intro j hj hj9
      refine Eq.trans (za_ov_off (v := [(159, _)]) ?_) (hfr j hj)
      intro q hq
      rw [List.mem_singleton] at hq
      subst hq
      show 159 ≠ j
      omega
  · have hR' : cd = 1 := hR
    subst hR'
    intro i
    refine zg_catch (q := (0, 8, 11, 21)) (pr := []) (su := []) (nm := "java/util/NoSuchElementException") X hH hex rfl (fun y hy => absurd hy List.not_mem_nil) rfl (by decide) zc_L_21 zk_NoSuchElementException ?_
    iterate 2 refine za_step X rfl rfl rfl ?_
    exact zg_of (za_iret X rfl (lw_fin (by decide) hfs hfr ho (by omega) (by omega)) (Nat.le_of_ble_eq_true rfl) (Nat.le_of_ble_eq_true rfl))
  · skip
    skip
    exact absurd hR h2
theorem sp2_width (σ : fs_T) (x1 : Int32) : ¬ (sp_width σ x1).1 = 2 := by
  obtain ⟨P, T, S, b, q⟩ := σ
  unfold sp_width
  repeat' split
  all_goals (first | (show ¬ (0 : Nat) = 2; decide) | (show ¬ (1 : Nat) = 2; decide))
set_option maxHeartbeats 4000000 in
set_option maxRecDepth 100000 in
theorem c_L_width (l : Launch) (D : za_D) (h : za_H) (n : Nat) (hst : l.stackTraces = false) (σ : fs_T) (hσ : fs_at h σ) (w0 : Nat → Int64) (ho : ou_at h w0) (x1 : Int32) : zg_M l D (.codeWith Y_L_width.1 Y_L_width.2.1 Y_L_width.2.2.1 Y_L_width.2.2.2 hs_L_width) Y_L_width 7 1 6 [vR 0, vI x1, vR 159] h n (lw_ps h n (sp_width σ x1)) := by
  have h2 : ¬ (sp_width σ x1).1 = 2 := sp2_width σ x1
  have hF : ∃ cl, h 0 = some (.inr (zn_F, cl)) := by
    obtain ⟨P, T, S, b, q⟩ := σ
    obtain ⟨_, _, _, _, _, ra, rb, _, hF, _⟩ := hσ
    exact ⟨_, hF⟩
  obtain ⟨cl, hF⟩ := hF
  refine zg_enter cd_L_width fl_L (zg_Kwith Y_L_width hs_L_width) (by decide) cdok_L_width flok_L (Nat.le_of_ble_eq_true rfl) ?_
  intro p e s m args below meth c X hH hex
  iterate 4 refine za_step X rfl rfl rfl ?_
  refine zg_callV (K := .code Y_F_width.1 Y_F_width.2.1 Y_F_width.2.2.1 Y_F_width.2.2.2) (Y := Y_F_width) (hs := []) (b := 0) (d := 6) (mc := 1) (ms := 6) (as := [vI x1]) (rest := [vI 0, vR 159]) X hH rfl (za_in 325 (by decide +kernel) rfl) (zg_Kcode Y_F_width) kc_F_width zj_F cv_F_width.1 cv_F_width.2 (by decide) cy_F_width.2.2.2 (c_F_width l D h n hst σ hσ x1) rfl (show za_ov h [] 0 = _ from hF) rfl (Nat.le_of_ble_eq_true rfl) (Nat.le_of_ble_eq_true rfl) (Nat.le_of_ble_eq_true rfl) (Nat.le_of_ble_eq_true rfl) (Nat.le_of_ble_eq_true rfl) (fun r h' n' hq => ?_)
  have hq' : fs_ps "java/lang/IllegalArgumentException" "java/lang/IllegalArgumentException" h n (sp_width σ x1) r h' n' := hq
  generalize sp_width σ x1 = R at hq' h2 ⊢
  obtain ⟨cd, v, σ'⟩ := R
  obtain ⟨hfs, hfr, hc⟩ := hq'
  rcases hc with ⟨hR, rfl, rfl⟩ | ⟨hR, rfl, rfl⟩ | ⟨hR, rfl, rfl⟩
  · have hR' : cd = 0 := hR
    subst hR'
    have ho' : h' 159 = some (.inl (1, 1, .inr (.inl w0))) := (hfr 159 (by omega)).trans ho
    refine za_view [(159, .inl (1, 1, .inr (.inl w0)))] (by simp [ho']) ?_
    iterate 1 refine za_step X rfl rfl rfl ?_
    refine za_last X rfl rfl rfl (by unfold vp_in; decide) ?_
    iterate 2 refine za_step X rfl rfl rfl ?_
    refine zg_of (za_iret X rfl ⟨rfl, ?_, ?_, ⟨_, rfl, fun _ => rfl⟩, Nat.le_refl _, Nat.le_succ _⟩ (Nat.le_of_ble_eq_true rfl) (Nat.le_of_ble_eq_true rfl))
    · refine fs_off hfs (fun j hj => ?_)
      refine za_ov_off (v := [(159, _)]) ?_
      intro q hq
      rw [List.mem_singleton] at hq
      subst hq
      show 159 ≠ j
      omega
    · intro j hj hj9
      refine Eq.trans (za_ov_off (v := [(159, _)]) ?_) (hfr j hj)
      intro q hq
      rw [List.mem_singleton] at hq
      subst hq
      show 159 ≠ j
      omega
  · have hR' : cd = 1 := hR
    subst hR'
    intro i
    refine zg_catch (q := (0, 9, 12, 13)) (pr := []) (su := []) (nm := "java/lang/IllegalArgumentException") X hH hex rfl (fun y hy => absurd hy List.not_mem_nil) rfl (by decide) zc_L_13 zk_IllegalArgumentException ?_
    iterate 2 refine za_step X rfl rfl rfl ?_
    exact zg_of (za_iret X rfl (lw_fin (by decide) hfs hfr ho (by omega) (by omega)) (Nat.le_of_ble_eq_true rfl) (Nat.le_of_ble_eq_true rfl))
  · skip
    skip
    exact absurd hR h2
theorem sp2_run (σ : fs_T) (x1 y1 : Int32) : ¬ (sp_run σ x1 y1).1 = 2 := by
  obtain ⟨P, T, S, b, q⟩ := σ
  unfold sp_run
  repeat' split
  all_goals (first | (show ¬ (0 : Nat) = 2; decide) | (show ¬ (1 : Nat) = 2; decide))
set_option maxHeartbeats 4000000 in
set_option maxRecDepth 100000 in
theorem c_L_run (l : Launch) (D : za_D) (h : za_H) (n : Nat) (hst : l.stackTraces = false) (σ : fs_T) (hσ : fs_at h σ) (w0 : Nat → Int64) (ho : ou_at h w0) (x1 y1 : Int32) : zg_M l D (.codeWith Y_L_run.1 Y_L_run.2.1 Y_L_run.2.2.1 Y_L_run.2.2.2 hs_L_run) Y_L_run 7 1 6 [vR 0, vI x1, vI y1, vR 159] h n (lw_ps h n (sp_run σ x1 y1)) := by
  have h2 : ¬ (sp_run σ x1 y1).1 = 2 := sp2_run σ x1 y1
  have hF : ∃ cl, h 0 = some (.inr (zn_F, cl)) := by
    obtain ⟨P, T, S, b, q⟩ := σ
    obtain ⟨_, _, _, _, _, ra, rb, _, hF, _⟩ := hσ
    exact ⟨_, hF⟩
  obtain ⟨cl, hF⟩ := hF
  refine zg_enter cd_L_run fl_L (zg_Kwith Y_L_run hs_L_run) (by decide) cdok_L_run flok_L (Nat.le_of_ble_eq_true rfl) ?_
  intro p e s m args below meth c X hH hex
  iterate 5 refine za_step X rfl rfl rfl ?_
  refine zg_callV (K := .code Y_F_run.1 Y_F_run.2.1 Y_F_run.2.2.1 Y_F_run.2.2.2) (Y := Y_F_run) (hs := []) (b := 0) (d := 6) (mc := 1) (ms := 6) (as := [vI x1, vI y1]) (rest := [vI 0, vR 159]) X hH rfl (za_in 332 (by decide +kernel) rfl) (zg_Kcode Y_F_run) kc_F_run zj_F cv_F_run.1 cv_F_run.2 (by decide) cy_F_run.2.2.2 (c_F_run l D h n hst σ hσ x1 y1) rfl (show za_ov h [] 0 = _ from hF) rfl (Nat.le_of_ble_eq_true rfl) (Nat.le_of_ble_eq_true rfl) (Nat.le_of_ble_eq_true rfl) (Nat.le_of_ble_eq_true rfl) (Nat.le_of_ble_eq_true rfl) (fun r h' n' hq => ?_)
  have hq' : fs_ps "java/lang/IllegalArgumentException" "java/lang/IllegalArgumentException" h n (sp_run σ x1 y1) r h' n' := hq
  generalize sp_run σ x1 y1 = R at hq' h2 ⊢
  obtain ⟨cd, v, σ'⟩ := R
  obtain ⟨hfs, hfr, hc⟩ := hq'
  rcases hc with ⟨hR, rfl, rfl⟩ | ⟨hR, rfl, rfl⟩ | ⟨hR, rfl, rfl⟩
  · have hR' : cd = 0 := hR
    subst hR'
    have ho' : h' 159 = some (.inl (1, 1, .inr (.inl w0))) := (hfr 159 (by omega)).trans ho
    refine za_view [(159, .inl (1, 1, .inr (.inl w0)))] (by simp [ho']) ?_
    iterate 1 refine za_step X rfl rfl rfl ?_
    refine za_last X rfl rfl rfl (by unfold vp_in; decide) ?_
    iterate 2 refine za_step X rfl rfl rfl ?_
    refine zg_of (za_iret X rfl ⟨rfl, ?_, ?_, ⟨_, rfl, fun _ => rfl⟩, Nat.le_refl _, Nat.le_succ _⟩ (Nat.le_of_ble_eq_true rfl) (Nat.le_of_ble_eq_true rfl))
    · refine fs_off hfs (fun j hj => ?_)
      refine za_ov_off (v := [(159, _)]) ?_
      intro q hq
      rw [List.mem_singleton] at hq
      subst hq
      show 159 ≠ j
      omega
    · intro j hj hj9
      refine Eq.trans (za_ov_off (v := [(159, _)]) ?_) (hfr j hj)
      intro q hq
      rw [List.mem_singleton] at hq
      subst hq
      show 159 ≠ j
      omega
  · have hR' : cd = 1 := hR
    subst hR'
    intro i
    refine zg_catch (q := (0, 10, 13, 13)) (pr := []) (su := []) (nm := "java/lang/IllegalArgumentException") X hH hex rfl (fun y hy => absurd hy List.not_mem_nil) rfl (by decide) zc_L_13 zk_IllegalArgumentException ?_
    iterate 2 refine za_step X rfl rfl rfl ?_
    exact zg_of (za_iret X rfl (lw_fin (by decide) hfs hfr ho (by omega) (by omega)) (Nat.le_of_ble_eq_true rfl) (Nat.le_of_ble_eq_true rfl))
  · skip
    skip
    exact absurd hR h2
set_option maxHeartbeats 4000000 in
set_option maxRecDepth 100000 in
theorem c_L_last (l : Launch) (D : za_D) (h : za_H) (n : Nat) (hst : l.stackTraces = false) (σ : fs_T) (hσ : fs_at h σ) (w0 : Nat → Int64) (ho : ou_at h w0) (x1 : Int32) : zg_M l D (.codeWith Y_L_last.1 Y_L_last.2.1 Y_L_last.2.2.1 Y_L_last.2.2.2 hs_L_last) Y_L_last 7 1 6 [vR 0, vI x1, vR 159] h n (lw_ps h n (sp_last σ x1)) := by
  have h2 : True := trivial
  have hF : ∃ cl, h 0 = some (.inr (zn_F, cl)) := by
    obtain ⟨P, T, S, b, q⟩ := σ
    obtain ⟨_, _, _, _, _, ra, rb, _, hF, _⟩ := hσ
    exact ⟨_, hF⟩
  obtain ⟨cl, hF⟩ := hF
  refine zg_enter cd_L_last fl_L (zg_Kwith Y_L_last hs_L_last) (by decide) cdok_L_last flok_L (Nat.le_of_ble_eq_true rfl) ?_
  intro p e s m args below meth c X hH hex
  iterate 4 refine za_step X rfl rfl rfl ?_
  refine zg_callV (K := .code Y_F_last.1 Y_F_last.2.1 Y_F_last.2.2.1 Y_F_last.2.2.2) (Y := Y_F_last) (hs := []) (b := 0) (d := 6) (mc := 1) (ms := 6) (as := [vI x1]) (rest := [vI 0, vR 159]) X hH rfl (za_in 390 (by decide +kernel) rfl) (zg_Kcode Y_F_last) kc_F_last zj_F cv_F_last.1 cv_F_last.2 (by decide) cy_F_last.2.2.2 (c_F_last l D h n hst σ hσ x1) rfl (show za_ov h [] 0 = _ from hF) rfl (Nat.le_of_ble_eq_true rfl) (Nat.le_of_ble_eq_true rfl) (Nat.le_of_ble_eq_true rfl) (Nat.le_of_ble_eq_true rfl) (Nat.le_of_ble_eq_true rfl) (fun r h' n' hq => ?_)
  have hq' : fs_ps "java/util/NoSuchElementException" "java/lang/IllegalArgumentException" h n (sp_last σ x1) r h' n' := hq
  generalize sp_last σ x1 = R at hq' h2 ⊢
  obtain ⟨cd, v, σ'⟩ := R
  obtain ⟨hfs, hfr, hc⟩ := hq'
  rcases hc with ⟨hR, rfl, rfl⟩ | ⟨hR, rfl, rfl⟩ | ⟨hR, rfl, rfl⟩
  · have hR' : cd = 0 := hR
    subst hR'
    have ho' : h' 159 = some (.inl (1, 1, .inr (.inl w0))) := (hfr 159 (by omega)).trans ho
    refine za_view [(159, .inl (1, 1, .inr (.inl w0)))] (by simp [ho']) ?_
    iterate 1 refine za_step X rfl rfl rfl ?_
    refine za_last X rfl rfl rfl (by unfold vp_in; decide) ?_
    iterate 2 refine za_step X rfl rfl rfl ?_
    refine zg_of (za_iret X rfl ⟨rfl, ?_, ?_, ⟨_, rfl, fun _ => rfl⟩, Nat.le_refl _, Nat.le_succ _⟩ (Nat.le_of_ble_eq_true rfl) (Nat.le_of_ble_eq_true rfl))
    · refine fs_off hfs (fun j hj => ?_)
      refine za_ov_off (v := [(159, _)]) ?_
      intro q hq
      rw [List.mem_singleton] at hq
      subst hq
      show 159 ≠ j
      omega
    · intro j hj hj9
      refine Eq.trans (za_ov_off (v := [(159, _)]) ?_) (hfr j hj)
      intro q hq
      rw [List.mem_singleton] at hq
      subst hq
      show 159 ≠ j
      omega
  · have hR' : cd = 1 := hR
    subst hR'
    intro i
    refine zg_catch (q := (0, 9, 12, 21)) (pr := []) (su := [(0, 9, 15, 13)]) (nm := "java/util/NoSuchElementException") X hH hex rfl (fun y hy => absurd hy List.not_mem_nil) rfl (by decide) zc_L_21 zk_NoSuchElementException ?_
    iterate 2 refine za_step X rfl rfl rfl ?_
    exact zg_of (za_iret X rfl (lw_fin (by decide) hfs hfr ho (by omega) (by omega)) (Nat.le_of_ble_eq_true rfl) (Nat.le_of_ble_eq_true rfl))
  · have hR2 : cd = 2 := hR
    subst hR2
    intro i
    refine zg_catch (q := (0, 9, 15, 13)) (pr := [(0, 9, 12, 21)]) (su := []) (nm := "java/lang/IllegalArgumentException") X hH hex rfl (fun y hy => by rw [List.mem_singleton] at hy; subst hy; exact Or.inr ⟨rfl, by decide, "java/util/NoSuchElementException", zc_L_21, by decide⟩) rfl (by decide) zc_L_13 zk_IllegalArgumentException ?_
    iterate 2 refine za_step X rfl rfl rfl ?_
    exact zg_of (za_iret X rfl (lw_fin (by decide) hfs hfr ho (by omega) (by omega)) (Nat.le_of_ble_eq_true rfl) (Nat.le_of_ble_eq_true rfl))
theorem sp2_explore (σ : fs_T)  : ¬ (sp_explore σ).1 = 2 := by
  obtain ⟨P, T, S, b, q⟩ := σ
  unfold sp_explore
  repeat' split
  all_goals (first | (show ¬ (0 : Nat) = 2; decide) | (show ¬ (1 : Nat) = 2; decide))
set_option maxHeartbeats 4000000 in
set_option maxRecDepth 100000 in
theorem c_L_explore (l : Launch) (D : za_D) (h : za_H) (n : Nat) (hst : l.stackTraces = false) (σ : fs_T) (hσ : fs_at h σ) (w0 : Nat → Int64) (ho : ou_at h w0)  : zg_M l D (.codeWith Y_L_explore.1 Y_L_explore.2.1 Y_L_explore.2.2.1 Y_L_explore.2.2.2 hs_L_explore) Y_L_explore 7 1 6 [vR 0, vR 159] h n (lw_ps h n (sp_explore σ)) := by
  have h2 : ¬ (sp_explore σ).1 = 2 := sp2_explore σ
  have hF : ∃ cl, h 0 = some (.inr (zn_F, cl)) := by
    obtain ⟨P, T, S, b, q⟩ := σ
    obtain ⟨_, _, _, _, _, ra, rb, _, hF, _⟩ := hσ
    exact ⟨_, hF⟩
  obtain ⟨cl, hF⟩ := hF
  refine zg_enter cd_L_explore fl_L (zg_Kwith Y_L_explore hs_L_explore) (by decide) cdok_L_explore flok_L (Nat.le_of_ble_eq_true rfl) ?_
  intro p e s m args below meth c X hH hex
  iterate 3 refine za_step X rfl rfl rfl ?_
  refine zg_callV (K := .code Y_F_explore.1 Y_F_explore.2.1 Y_F_explore.2.2.1 Y_F_explore.2.2.2) (Y := Y_F_explore) (hs := []) (b := 0) (d := 6) (mc := 1) (ms := 6) (as := []) (rest := [vI 0, vR 159]) X hH rfl (za_in 397 (by decide +kernel) rfl) (zg_Kcode Y_F_explore) kc_F_explore zj_F cv_F_explore.1 cv_F_explore.2 (by decide) cy_F_explore.2.2.2 (c_F_explore l D h n hst σ hσ) rfl (show za_ov h [] 0 = _ from hF) rfl (Nat.le_of_ble_eq_true rfl) (Nat.le_of_ble_eq_true rfl) (Nat.le_of_ble_eq_true rfl) (Nat.le_of_ble_eq_true rfl) (Nat.le_of_ble_eq_true rfl) (fun r h' n' hq => ?_)
  have hq' : fs_ps "java/lang/IllegalStateException" "java/lang/IllegalStateException" h n (sp_explore σ) r h' n' := hq
  generalize sp_explore σ = R at hq' h2 ⊢
  obtain ⟨cd, v, σ'⟩ := R
  obtain ⟨hfs, hfr, hc⟩ := hq'
  rcases hc with ⟨hR, rfl, rfl⟩ | ⟨hR, rfl, rfl⟩ | ⟨hR, rfl, rfl⟩
  · have hR' : cd = 0 := hR
    subst hR'
    have ho' : h' 159 = some (.inl (1, 1, .inr (.inl w0))) := (hfr 159 (by omega)).trans ho
    refine za_view [(159, .inl (1, 1, .inr (.inl w0)))] (by simp [ho']) ?_
    iterate 1 refine za_step X rfl rfl rfl ?_
    refine za_last X rfl rfl rfl (by unfold vp_in; decide) ?_
    iterate 2 refine za_step X rfl rfl rfl ?_
    refine zg_of (za_iret X rfl ⟨rfl, ?_, ?_, ⟨_, rfl, fun _ => rfl⟩, Nat.le_refl _, Nat.le_succ _⟩ (Nat.le_of_ble_eq_true rfl) (Nat.le_of_ble_eq_true rfl))
    · refine fs_off hfs (fun j hj => ?_)
      refine za_ov_off (v := [(159, _)]) ?_
      intro q hq
      rw [List.mem_singleton] at hq
      subst hq
      show 159 ≠ j
      omega
    · intro j hj hj9
      refine Eq.trans (za_ov_off (v := [(159, _)]) ?_) (hfr j hj)
      intro q hq
      rw [List.mem_singleton] at hq
      subst hq
      show 159 ≠ j
      omega
  · have hR' : cd = 1 := hR
    subst hR'
    intro i
    refine zg_catch (q := (0, 8, 11, 15)) (pr := []) (su := []) (nm := "java/lang/IllegalStateException") X hH hex rfl (fun y hy => absurd hy List.not_mem_nil) rfl (by decide) zc_L_15 zk_IllegalStateException ?_
    iterate 2 refine za_step X rfl rfl rfl ?_
    exact zg_of (za_iret X rfl (lw_fin (by decide) hfs hfr ho (by omega) (by omega)) (Nat.le_of_ble_eq_true rfl) (Nat.le_of_ble_eq_true rfl))
  · skip
    skip
    exact absurd hR h2
set_option maxHeartbeats 4000000 in
set_option maxRecDepth 100000 in
theorem c_L_way (l : Launch) (D : za_D) (h : za_H) (n : Nat) (hst : l.stackTraces = false) (σ : fs_T) (hσ : fs_at h σ) (w0 : Nat → Int64) (ho : ou_at h w0) (x1 y1 : Int32) : zg_M l D (.codeWith Y_L_way.1 Y_L_way.2.1 Y_L_way.2.2.1 Y_L_way.2.2.2 hs_L_way) Y_L_way 7 1 6 [vR 0, vI x1, vI y1, vR 159] h n (lw_ps h n (sp_way σ x1 y1)) := by
  have h2 : True := trivial
  have hF : ∃ cl, h 0 = some (.inr (zn_F, cl)) := by
    obtain ⟨P, T, S, b, q⟩ := σ
    obtain ⟨_, _, _, _, _, ra, rb, _, hF, _⟩ := hσ
    exact ⟨_, hF⟩
  obtain ⟨cl, hF⟩ := hF
  refine zg_enter cd_L_way fl_L (zg_Kwith Y_L_way hs_L_way) (by decide) cdok_L_way flok_L (Nat.le_of_ble_eq_true rfl) ?_
  intro p e s m args below meth c X hH hex
  iterate 5 refine za_step X rfl rfl rfl ?_
  refine zg_callV (K := .code Y_F_way.1 Y_F_way.2.1 Y_F_way.2.2.1 Y_F_way.2.2.2) (Y := Y_F_way) (hs := []) (b := 0) (d := 6) (mc := 1) (ms := 6) (as := [vI x1, vI y1]) (rest := [vI 0, vR 159]) X hH rfl (za_in 432 (by decide +kernel) rfl) (zg_Kcode Y_F_way) kc_F_way zj_F cv_F_way.1 cv_F_way.2 (by decide) cy_F_way.2.2.2 (c_F_way l D h n hst σ hσ x1 y1) rfl (show za_ov h [] 0 = _ from hF) rfl (Nat.le_of_ble_eq_true rfl) (Nat.le_of_ble_eq_true rfl) (Nat.le_of_ble_eq_true rfl) (Nat.le_of_ble_eq_true rfl) (Nat.le_of_ble_eq_true rfl) (fun r h' n' hq => ?_)
  have hq' : fs_ps "java/util/NoSuchElementException" "java/lang/IllegalArgumentException" h n (sp_way σ x1 y1) r h' n' := hq
  generalize sp_way σ x1 y1 = R at hq' h2 ⊢
  obtain ⟨cd, v, σ'⟩ := R
  obtain ⟨hfs, hfr, hc⟩ := hq'
  rcases hc with ⟨hR, rfl, rfl⟩ | ⟨hR, rfl, rfl⟩ | ⟨hR, rfl, rfl⟩
  · have hR' : cd = 0 := hR
    subst hR'
    have ho' : h' 159 = some (.inl (1, 1, .inr (.inl w0))) := (hfr 159 (by omega)).trans ho
    refine za_view [(159, .inl (1, 1, .inr (.inl w0)))] (by simp [ho']) ?_
    iterate 1 refine za_step X rfl rfl rfl ?_
    refine za_last X rfl rfl rfl (by unfold vp_in; decide) ?_
    iterate 2 refine za_step X rfl rfl rfl ?_
    refine zg_of (za_iret X rfl ⟨rfl, ?_, ?_, ⟨_, rfl, fun _ => rfl⟩, Nat.le_refl _, Nat.le_succ _⟩ (Nat.le_of_ble_eq_true rfl) (Nat.le_of_ble_eq_true rfl))
    · refine fs_off hfs (fun j hj => ?_)
      refine za_ov_off (v := [(159, _)]) ?_
      intro q hq
      rw [List.mem_singleton] at hq
      subst hq
      show 159 ≠ j
      omega
    · intro j hj hj9
      refine Eq.trans (za_ov_off (v := [(159, _)]) ?_) (hfr j hj)
      intro q hq
      rw [List.mem_singleton] at hq
      subst hq
      show 159 ≠ j
      omega
  · have hR' : cd = 1 := hR
    subst hR'
    intro i
    refine zg_catch (q := (0, 10, 13, 21)) (pr := []) (su := [(0, 10, 17, 13)]) (nm := "java/util/NoSuchElementException") X hH hex rfl (fun y hy => absurd hy List.not_mem_nil) rfl (by decide) zc_L_21 zk_NoSuchElementException ?_
    iterate 2 refine za_step X rfl rfl rfl ?_
    exact zg_of (za_iret X rfl (lw_fin (by decide) hfs hfr ho (by omega) (by omega)) (Nat.le_of_ble_eq_true rfl) (Nat.le_of_ble_eq_true rfl))
  · have hR2 : cd = 2 := hR
    subst hR2
    intro i
    refine zg_catch (q := (0, 10, 17, 13)) (pr := [(0, 10, 13, 21)]) (su := []) (nm := "java/lang/IllegalArgumentException") X hH hex rfl (fun y hy => by rw [List.mem_singleton] at hy; subst hy; exact Or.inr ⟨rfl, by decide, "java/util/NoSuchElementException", zc_L_21, by decide⟩) rfl (by decide) zc_L_13 zk_IllegalArgumentException ?_
    iterate 2 refine za_step X rfl rfl rfl ?_
    exact zg_of (za_iret X rfl (lw_fin (by decide) hfs hfr ho (by omega) (by omega)) (Nat.le_of_ble_eq_true rfl) (Nat.le_of_ble_eq_true rfl))
theorem sp2_decision (σ : fs_T) (x1 y1 : Int32) : ¬ (sp_decision σ x1 y1).1 = 2 := by
  obtain ⟨P, T, S, b, q⟩ := σ
  unfold sp_decision
  repeat' split
  all_goals (first | (show ¬ (0 : Nat) = 2; decide) | (show ¬ (1 : Nat) = 2; decide))
set_option maxHeartbeats 4000000 in
set_option maxRecDepth 100000 in
theorem c_L_decision (l : Launch) (D : za_D) (h : za_H) (n : Nat) (hst : l.stackTraces = false) (σ : fs_T) (hσ : fs_at h σ) (w0 : Nat → Int64) (ho : ou_at h w0) (x1 y1 : Int32) : zg_M l D (.codeWith Y_L_decision.1 Y_L_decision.2.1 Y_L_decision.2.2.1 Y_L_decision.2.2.2 hs_L_decision) Y_L_decision 7 1 6 [vR 0, vI x1, vI y1, vR 159] h n (lw_ps h n (sp_decision σ x1 y1)) := by
  have h2 : ¬ (sp_decision σ x1 y1).1 = 2 := sp2_decision σ x1 y1
  have hF : ∃ cl, h 0 = some (.inr (zn_F, cl)) := by
    obtain ⟨P, T, S, b, q⟩ := σ
    obtain ⟨_, _, _, _, _, ra, rb, _, hF, _⟩ := hσ
    exact ⟨_, hF⟩
  obtain ⟨cl, hF⟩ := hF
  refine zg_enter cd_L_decision fl_L (zg_Kwith Y_L_decision hs_L_decision) (by decide) cdok_L_decision flok_L (Nat.le_of_ble_eq_true rfl) ?_
  intro p e s m args below meth c X hH hex
  iterate 5 refine za_step X rfl rfl rfl ?_
  refine zg_callV (K := .code Y_F_decision.1 Y_F_decision.2.1 Y_F_decision.2.2.1 Y_F_decision.2.2.2) (Y := Y_F_decision) (hs := []) (b := 0) (d := 6) (mc := 1) (ms := 6) (as := [vI x1, vI y1]) (rest := [vI 0, vR 159]) X hH rfl (za_in 440 (by decide +kernel) rfl) (zg_Kcode Y_F_decision) kc_F_decision zj_F cv_F_decision.1 cv_F_decision.2 (by decide) cy_F_decision.2.2.2 (c_F_decision l D h n hst σ hσ x1 y1) rfl (show za_ov h [] 0 = _ from hF) rfl (Nat.le_of_ble_eq_true rfl) (Nat.le_of_ble_eq_true rfl) (Nat.le_of_ble_eq_true rfl) (Nat.le_of_ble_eq_true rfl) (Nat.le_of_ble_eq_true rfl) (fun r h' n' hq => ?_)
  have hq' : fs_ps "java/util/NoSuchElementException" "java/util/NoSuchElementException" h n (sp_decision σ x1 y1) r h' n' := hq
  generalize sp_decision σ x1 y1 = R at hq' h2 ⊢
  obtain ⟨cd, v, σ'⟩ := R
  obtain ⟨hfs, hfr, hc⟩ := hq'
  rcases hc with ⟨hR, rfl, rfl⟩ | ⟨hR, rfl, rfl⟩ | ⟨hR, rfl, rfl⟩
  · have hR' : cd = 0 := hR
    subst hR'
    have ho' : h' 159 = some (.inl (1, 1, .inr (.inl w0))) := (hfr 159 (by omega)).trans ho
    refine za_view [(159, .inl (1, 1, .inr (.inl w0)))] (by simp [ho']) ?_
    iterate 1 refine za_step X rfl rfl rfl ?_
    refine za_last X rfl rfl rfl (by unfold vp_in; decide) ?_
    iterate 2 refine za_step X rfl rfl rfl ?_
    refine zg_of (za_iret X rfl ⟨rfl, ?_, ?_, ⟨_, rfl, fun _ => rfl⟩, Nat.le_refl _, Nat.le_succ _⟩ (Nat.le_of_ble_eq_true rfl) (Nat.le_of_ble_eq_true rfl))
    · refine fs_off hfs (fun j hj => ?_)
      refine za_ov_off (v := [(159, _)]) ?_
      intro q hq
      rw [List.mem_singleton] at hq
      subst hq
      show 159 ≠ j
      omega
    · intro j hj hj9
      refine Eq.trans (za_ov_off (v := [(159, _)]) ?_) (hfr j hj)
      intro q hq
      rw [List.mem_singleton] at hq
      subst hq
      show 159 ≠ j
      omega
  · have hR' : cd = 1 := hR
    subst hR'
    intro i
    refine zg_catch (q := (0, 10, 13, 21)) (pr := []) (su := []) (nm := "java/util/NoSuchElementException") X hH hex rfl (fun y hy => absurd hy List.not_mem_nil) rfl (by decide) zc_L_21 zk_NoSuchElementException ?_
    iterate 2 refine za_step X rfl rfl rfl ?_
    exact zg_of (za_iret X rfl (lw_fin (by decide) hfs hfr ho (by omega) (by omega)) (Nat.le_of_ble_eq_true rfl) (Nat.le_of_ble_eq_true rfl))
  · skip
    skip
    exact absurd hR h2
set_option maxHeartbeats 4000000 in
set_option maxRecDepth 100000 in
theorem c_L_match (l : Launch) (D : za_D) (h : za_H) (n : Nat) (hst : l.stackTraces = false) (σ : fs_T) (hσ : fs_at h σ) (w0 : Nat → Int64) (ho : ou_at h w0) (x1 y1 : Int32) : zg_M l D (.codeWith Y_L_match.1 Y_L_match.2.1 Y_L_match.2.2.1 Y_L_match.2.2.2 hs_L_match) Y_L_match 7 1 6 [vR 0, vI x1, vI y1, vR 159] h n (lw_ps h n (sp_match σ x1 y1)) := by
  have h2 : True := trivial
  have hF : ∃ cl, h 0 = some (.inr (zn_F, cl)) := by
    obtain ⟨P, T, S, b, q⟩ := σ
    obtain ⟨_, _, _, _, _, ra, rb, _, hF, _⟩ := hσ
    exact ⟨_, hF⟩
  obtain ⟨cl, hF⟩ := hF
  refine zg_enter cd_L_match fl_L (zg_Kwith Y_L_match hs_L_match) (by decide) cdok_L_match flok_L (Nat.le_of_ble_eq_true rfl) ?_
  intro p e s m args below meth c X hH hex
  iterate 5 refine za_step X rfl rfl rfl ?_
  refine zg_callV (K := .code Y_F_match.1 Y_F_match.2.1 Y_F_match.2.2.1 Y_F_match.2.2.2) (Y := Y_F_match) (hs := []) (b := 0) (d := 6) (mc := 1) (ms := 6) (as := [vI x1, vI y1]) (rest := [vI 0, vR 159]) X hH rfl (za_in 448 (by decide +kernel) rfl) (zg_Kcode Y_F_match) kc_F_match zj_F cv_F_match.1 cv_F_match.2 (by decide) cy_F_match.2.2.2 (c_F_match l D h n hst σ hσ x1 y1) rfl (show za_ov h [] 0 = _ from hF) rfl (Nat.le_of_ble_eq_true rfl) (Nat.le_of_ble_eq_true rfl) (Nat.le_of_ble_eq_true rfl) (Nat.le_of_ble_eq_true rfl) (Nat.le_of_ble_eq_true rfl) (fun r h' n' hq => ?_)
  have hq' : fs_ps "java/lang/IllegalArgumentException" "java/util/NoSuchElementException" h n (sp_match σ x1 y1) r h' n' := hq
  generalize sp_match σ x1 y1 = R at hq' h2 ⊢
  obtain ⟨cd, v, σ'⟩ := R
  obtain ⟨hfs, hfr, hc⟩ := hq'
  rcases hc with ⟨hR, rfl, rfl⟩ | ⟨hR, rfl, rfl⟩ | ⟨hR, rfl, rfl⟩
  · have hR' : cd = 0 := hR
    subst hR'
    have ho' : h' 159 = some (.inl (1, 1, .inr (.inl w0))) := (hfr 159 (by omega)).trans ho
    refine za_view [(159, .inl (1, 1, .inr (.inl w0)))] (by simp [ho']) ?_
    iterate 1 refine za_step X rfl rfl rfl ?_
    refine za_last X rfl rfl rfl (by unfold vp_in; decide) ?_
    iterate 2 refine za_step X rfl rfl rfl ?_
    refine zg_of (za_iret X rfl ⟨rfl, ?_, ?_, ⟨_, rfl, fun _ => rfl⟩, Nat.le_refl _, Nat.le_succ _⟩ (Nat.le_of_ble_eq_true rfl) (Nat.le_of_ble_eq_true rfl))
    · refine fs_off hfs (fun j hj => ?_)
      refine za_ov_off (v := [(159, _)]) ?_
      intro q hq
      rw [List.mem_singleton] at hq
      subst hq
      show 159 ≠ j
      omega
    · intro j hj hj9
      refine Eq.trans (za_ov_off (v := [(159, _)]) ?_) (hfr j hj)
      intro q hq
      rw [List.mem_singleton] at hq
      subst hq
      show 159 ≠ j
      omega
  · have hR' : cd = 1 := hR
    subst hR'
    intro i
    refine zg_catch (q := (0, 10, 13, 13)) (pr := []) (su := [(0, 10, 17, 21)]) (nm := "java/lang/IllegalArgumentException") X hH hex rfl (fun y hy => absurd hy List.not_mem_nil) rfl (by decide) zc_L_13 zk_IllegalArgumentException ?_
    iterate 2 refine za_step X rfl rfl rfl ?_
    exact zg_of (za_iret X rfl (lw_fin (by decide) hfs hfr ho (by omega) (by omega)) (Nat.le_of_ble_eq_true rfl) (Nat.le_of_ble_eq_true rfl))
  · have hR2 : cd = 2 := hR
    subst hR2
    intro i
    refine zg_catch (q := (0, 10, 17, 21)) (pr := [(0, 10, 13, 13)]) (su := []) (nm := "java/util/NoSuchElementException") X hH hex rfl (fun y hy => by rw [List.mem_singleton] at hy; subst hy; exact Or.inr ⟨rfl, by decide, "java/lang/IllegalArgumentException", zc_L_13, by decide⟩) rfl (by decide) zc_L_21 zk_NoSuchElementException ?_
    iterate 2 refine za_step X rfl rfl rfl ?_
    exact zg_of (za_iret X rfl (lw_fin (by decide) hfs hfr ho (by omega) (by omega)) (Nat.le_of_ble_eq_true rfl) (Nat.le_of_ble_eq_true rfl))
set_option maxHeartbeats 4000000 in
set_option maxRecDepth 100000 in
theorem c_L_example (l : Launch) (D : za_D) (h : za_H) (n : Nat) (hst : l.stackTraces = false) (σ : fs_T) (hσ : fs_at h σ) (w0 : Nat → Int64) (ho : ou_at h w0) (x1 : Int32) : zg_M l D (.codeWith Y_L_example.1 Y_L_example.2.1 Y_L_example.2.2.1 Y_L_example.2.2.2 hs_L_example) Y_L_example 7 1 6 [vR 0, vI x1, vR 159] h n (lw_ps h n (sp_example σ x1)) := by
  have h2 : True := trivial
  have hF : ∃ cl, h 0 = some (.inr (zn_F, cl)) := by
    obtain ⟨P, T, S, b, q⟩ := σ
    obtain ⟨_, _, _, _, _, ra, rb, _, hF, _⟩ := hσ
    exact ⟨_, hF⟩
  obtain ⟨cl, hF⟩ := hF
  refine zg_enter cd_L_example fl_L (zg_Kwith Y_L_example hs_L_example) (by decide) cdok_L_example flok_L (Nat.le_of_ble_eq_true rfl) ?_
  intro p e s m args below meth c X hH hex
  iterate 4 refine za_step X rfl rfl rfl ?_
  refine zg_callV (K := .code Y_F_example.1 Y_F_example.2.1 Y_F_example.2.2.1 Y_F_example.2.2.2) (Y := Y_F_example) (hs := []) (b := 0) (d := 6) (mc := 1) (ms := 6) (as := [vI x1]) (rest := [vI 0, vR 159]) X hH rfl (za_in 463 (by decide +kernel) rfl) (zg_Kcode Y_F_example) kc_F_example zj_F cv_F_example.1 cv_F_example.2 (by decide) cy_F_example.2.2.2 (c_F_example l D h n hst σ hσ x1) rfl (show za_ov h [] 0 = _ from hF) rfl (Nat.le_of_ble_eq_true rfl) (Nat.le_of_ble_eq_true rfl) (Nat.le_of_ble_eq_true rfl) (Nat.le_of_ble_eq_true rfl) (Nat.le_of_ble_eq_true rfl) (fun r h' n' hq => ?_)
  have hq' : fs_ps "java/lang/IllegalArgumentException" "java/util/NoSuchElementException" h n (sp_example σ x1) r h' n' := hq
  generalize sp_example σ x1 = R at hq' h2 ⊢
  obtain ⟨cd, v, σ'⟩ := R
  obtain ⟨hfs, hfr, hc⟩ := hq'
  rcases hc with ⟨hR, rfl, rfl⟩ | ⟨hR, rfl, rfl⟩ | ⟨hR, rfl, rfl⟩
  · have hR' : cd = 0 := hR
    subst hR'
    have ho' : h' 159 = some (.inl (1, 1, .inr (.inl w0))) := (hfr 159 (by omega)).trans ho
    refine za_view [(159, .inl (1, 1, .inr (.inl w0)))] (by simp [ho']) ?_
    iterate 1 refine za_step X rfl rfl rfl ?_
    refine za_last X rfl rfl rfl (by unfold vp_in; decide) ?_
    iterate 2 refine za_step X rfl rfl rfl ?_
    refine zg_of (za_iret X rfl ⟨rfl, ?_, ?_, ⟨_, rfl, fun _ => rfl⟩, Nat.le_refl _, Nat.le_succ _⟩ (Nat.le_of_ble_eq_true rfl) (Nat.le_of_ble_eq_true rfl))
    · refine fs_off hfs (fun j hj => ?_)
      refine za_ov_off (v := [(159, _)]) ?_
      intro q hq
      rw [List.mem_singleton] at hq
      subst hq
      show 159 ≠ j
      omega
    · intro j hj hj9
      refine Eq.trans (za_ov_off (v := [(159, _)]) ?_) (hfr j hj)
      intro q hq
      rw [List.mem_singleton] at hq
      subst hq
      show 159 ≠ j
      omega
  · have hR' : cd = 1 := hR
    subst hR'
    intro i
    refine zg_catch (q := (0, 9, 12, 13)) (pr := []) (su := [(0, 9, 15, 21)]) (nm := "java/lang/IllegalArgumentException") X hH hex rfl (fun y hy => absurd hy List.not_mem_nil) rfl (by decide) zc_L_13 zk_IllegalArgumentException ?_
    iterate 2 refine za_step X rfl rfl rfl ?_
    exact zg_of (za_iret X rfl (lw_fin (by decide) hfs hfr ho (by omega) (by omega)) (Nat.le_of_ble_eq_true rfl) (Nat.le_of_ble_eq_true rfl))
  · have hR2 : cd = 2 := hR
    subst hR2
    intro i
    refine zg_catch (q := (0, 9, 15, 21)) (pr := [(0, 9, 12, 13)]) (su := []) (nm := "java/util/NoSuchElementException") X hH hex rfl (fun y hy => by rw [List.mem_singleton] at hy; subst hy; exact Or.inr ⟨rfl, by decide, "java/lang/IllegalArgumentException", zc_L_13, by decide⟩) rfl (by decide) zc_L_21 zk_NoSuchElementException ?_
    iterate 2 refine za_step X rfl rfl rfl ?_
    exact zg_of (za_iret X rfl (lw_fin (by decide) hfs hfr ho (by omega) (by omega)) (Nat.le_of_ble_eq_true rfl) (Nat.le_of_ble_eq_true rfl))
theorem sp2_count (σ : fs_T) (x1 : Int32) : ¬ (sp_count σ x1).1 = 2 := by
  obtain ⟨P, T, S, b, q⟩ := σ
  unfold sp_count
  repeat' split
  all_goals (first | (show ¬ (0 : Nat) = 2; decide) | (show ¬ (1 : Nat) = 2; decide))
set_option maxHeartbeats 4000000 in
set_option maxRecDepth 100000 in
theorem c_L_count (l : Launch) (D : za_D) (h : za_H) (n : Nat) (hst : l.stackTraces = false) (σ : fs_T) (hσ : fs_at h σ) (w0 : Nat → Int64) (ho : ou_at h w0) (x1 : Int32) : zg_M l D (.codeWith Y_L_count.1 Y_L_count.2.1 Y_L_count.2.2.1 Y_L_count.2.2.2 hs_L_count) Y_L_count 7 1 6 [vR 0, vI x1, vR 159] h n (lw_ps h n (sp_count σ x1)) := by
  have h2 : ¬ (sp_count σ x1).1 = 2 := sp2_count σ x1
  have hF : ∃ cl, h 0 = some (.inr (zn_F, cl)) := by
    obtain ⟨P, T, S, b, q⟩ := σ
    obtain ⟨_, _, _, _, _, ra, rb, _, hF, _⟩ := hσ
    exact ⟨_, hF⟩
  obtain ⟨cl, hF⟩ := hF
  refine zg_enter cd_L_count fl_L (zg_Kwith Y_L_count hs_L_count) (by decide) cdok_L_count flok_L (Nat.le_of_ble_eq_true rfl) ?_
  intro p e s m args below meth c X hH hex
  iterate 4 refine za_step X rfl rfl rfl ?_
  refine zg_callV (K := .code Y_F_count.1 Y_F_count.2.1 Y_F_count.2.2.1 Y_F_count.2.2.2) (Y := Y_F_count) (hs := []) (b := 0) (d := 6) (mc := 1) (ms := 6) (as := [vI x1]) (rest := [vI 0, vR 159]) X hH rfl (za_in 477 (by decide +kernel) rfl) (zg_Kcode Y_F_count) kc_F_count zj_F cv_F_count.1 cv_F_count.2 (by decide) cy_F_count.2.2.2 (c_F_count l D h n hst σ hσ x1) rfl (show za_ov h [] 0 = _ from hF) rfl (Nat.le_of_ble_eq_true rfl) (Nat.le_of_ble_eq_true rfl) (Nat.le_of_ble_eq_true rfl) (Nat.le_of_ble_eq_true rfl) (Nat.le_of_ble_eq_true rfl) (fun r h' n' hq => ?_)
  have hq' : fs_ps "java/lang/IllegalArgumentException" "java/lang/IllegalArgumentException" h n (sp_count σ x1) r h' n' := hq
  generalize sp_count σ x1 = R at hq' h2 ⊢
  obtain ⟨cd, v, σ'⟩ := R
  obtain ⟨hfs, hfr, hc⟩ := hq'
  rcases hc with ⟨hR, rfl, rfl⟩ | ⟨hR, rfl, rfl⟩ | ⟨hR, rfl, rfl⟩
  · have hR' : cd = 0 := hR
    subst hR'
    have ho' : h' 159 = some (.inl (1, 1, .inr (.inl w0))) := (hfr 159 (by omega)).trans ho
    refine za_view [(159, .inl (1, 1, .inr (.inl w0)))] (by simp [ho']) ?_
    iterate 1 refine za_step X rfl rfl rfl ?_
    refine za_last X rfl rfl rfl (by unfold vp_in; decide) ?_
    iterate 2 refine za_step X rfl rfl rfl ?_
    refine zg_of (za_iret X rfl ⟨rfl, ?_, ?_, ⟨_, rfl, fun _ => rfl⟩, Nat.le_refl _, Nat.le_succ _⟩ (Nat.le_of_ble_eq_true rfl) (Nat.le_of_ble_eq_true rfl))
    · refine fs_off hfs (fun j hj => ?_)
      refine za_ov_off (v := [(159, _)]) ?_
      intro q hq
      rw [List.mem_singleton] at hq
      subst hq
      show 159 ≠ j
      omega
    · intro j hj hj9
      refine Eq.trans (za_ov_off (v := [(159, _)]) ?_) (hfr j hj)
      intro q hq
      rw [List.mem_singleton] at hq
      subst hq
      show 159 ≠ j
      omega
  · have hR' : cd = 1 := hR
    subst hR'
    intro i
    refine zg_catch (q := (0, 9, 12, 13)) (pr := []) (su := []) (nm := "java/lang/IllegalArgumentException") X hH hex rfl (fun y hy => absurd hy List.not_mem_nil) rfl (by decide) zc_L_13 zk_IllegalArgumentException ?_
    iterate 2 refine za_step X rfl rfl rfl ?_
    exact zg_of (za_iret X rfl (lw_fin (by decide) hfs hfr ho (by omega) (by omega)) (Nat.le_of_ble_eq_true rfl) (Nat.le_of_ble_eq_true rfl))
  · skip
    skip
    exact absurd hR h2
