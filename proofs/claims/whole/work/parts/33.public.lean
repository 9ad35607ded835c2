/-! THE PUBLIC METHODS: what each answers (0 and a number; 1, 2: it throws) and the state behind it: program, last run, results, width, runs -/
theorem ze_IAE : zt_E "WayFinder" 47 49 "java/lang/IllegalArgumentException" ["java/lang/RuntimeException", "java/lang/Exception"] := ⟨by decide, by decide, zc_F_47, zj_IllegalArgumentException, by decide +kernel⟩
theorem ze_ISE : zt_E "WayFinder" 53 55 "java/lang/IllegalStateException" ["java/lang/RuntimeException", "java/lang/Exception"] := ⟨by decide, by decide, zc_F_53, zj_IllegalStateException, by decide +kernel⟩
theorem ze_NSE : zt_E "WayFinder" 60 62 "java/util/NoSuchElementException" ["java/lang/RuntimeException", "java/lang/Exception"] := ⟨by decide, by decide, zc_F_60, zj_NoSuchElementException, by decide +kernel⟩
abbrev fs_T : Type := pr_T × tr_T × rs_T × Nat × Int32
def fs_at (h : za_H) : fs_T → Prop | (P, T, S, b, q) => pr_ok P ∧ pr_at h P ∧ tr_at h 6 T ∧ 1 ≤ b ∧ b ≤ 4 ∧ ∃ ra rb, ((ra = 10 ∧ rb = 76) ∨ (ra = 76 ∧ rb = 10)) ∧ h 0 = some (fs_c ra rb b q) ∧ (∃ T8, tr_at h 8 T8) ∧ (∃ w, rs_at h ra w S) ∧ ∃ w SD, rs_at h rb w SD
def fs_fr (h h' : za_H) : Prop := ∀ j, 142 ≤ j → h' j = h j
def fs_ps (E1 E2 : String) (h : za_H) (n : Nat) (R : Nat × Int32 × fs_T) (r : Option za_V ⊕ String) (h' : za_H) (n' : Nat) : Prop :=
  fs_at h' R.2.2 ∧ fs_fr h h' ∧ ((R.1 = 0 ∧ r = .inl (some (vI R.2.1)) ∧ n' = n) ∨ (R.1 = 1 ∧ r = .inr E1 ∧ n' = n + 1) ∨ (R.1 = 2 ∧ r = .inr E2 ∧ n' = n + 1))
def sp_instr : fs_T → Int32 → Int32 → Int32 → Int32 → Nat × Int32 × fs_T | (P, T, S, b, q), o, x, y, z => if pr_al o x y z = true then (if P.2.2.2.2 = 24 then (2, 0, (P, T, S, b, q)) else (0, nI (P.2.2.2.2 + 1), (pr_add P o x y z, T, S, b, q))) else (1, 0, (P, T, S, b, q))
def pr_less : pr_T → pr_T | (o, a, b, c, n) => (o, a, b, c, n - 1)
def sp_undo : fs_T → Nat × Int32 × fs_T | (P, T, S, b, q) => if P.2.2.2.2 = 0 then (1, 0, (P, T, S, b, q)) else (0, nI (P.2.2.2.2 - 1), (pr_less P, T, S, b, q))
def sp_width : fs_T → Int32 → Nat × Int32 × fs_T | (P, T, S, b, q), x => if 1 ≤ x ∧ x ≤ 4 then (0, nI b, (P, T, S, x.toNatClampNeg, q)) else (1, 0, (P, T, S, b, q))
def tr_ou (T : tr_T) : Int32 := T.2.2.2.2.2.2.2.2.1
def tr_ed (T : tr_T) : Int32 := T.2.2.2.2.2.2.2.2.2
def tr_dn (T : tr_T) : Int32 := T.2.2.2.1
def sp_run : fs_T → Int32 → Int32 → Nat × Int32 × fs_T | (P, T, S, b, q), x, y => if in_ok b x y = true then (0, tr_ou (tr_run0 P x y), (P, tr_run0 P x y, S, b, q + 1)) else (1, 0, (P, T, S, b, q))
def sp_last : fs_T → Int32 → Nat × Int32 × fs_T | (P, T, S, b, q), x => if q = 0 then (1, 0, (P, T, S, b, q)) else if x = 0 then (0, tr_ed T, (P, T, S, b, q)) else if x = 1 then (0, tr_dn T, (P, T, S, b, q)) else if x = 2 then (0, tr_ct T, (P, T, S, b, q)) else (2, 0, (P, T, S, b, q))
def sp_explore : fs_T → Nat × Int32 × fs_T | (P, T, S, b, q) => match ex_res P b with
  | none => (1, 0, (P, T, S, b, q))
  | some S' => (0, nI S'.1, (P, T, S', b, q))
def wr_x (q : wr_T) : Int32 := q.1
def wr_y (q : wr_T) : Int32 := q.2.1
def wr_ed (q : wr_T) : Int32 := q.2.2.2.1
def sp_way : fs_T → Int32 → Int32 → Nat × Int32 × fs_T | (P, T, S, b, q), k, x => if rs_has S.1 k = true then (if x = 0 then (0, wr_x (S.2 k.toNatClampNeg), (P, T, S, b, q)) else if x = 1 then (0, wr_y (S.2 k.toNatClampNeg), (P, T, S, b, q)) else if x = 2 then (0, wr_ou (S.2 k.toNatClampNeg), (P, T, S, b, q)) else if x = 3 then (0, wr_ed (S.2 k.toNatClampNeg), (P, T, S, b, q)) else if x = 4 then (0, wr_ct (S.2 k.toNatClampNeg), (P, T, S, b, q)) else (2, 0, (P, T, S, b, q))) else (1, 0, (P, T, S, b, q))
def sp_decision : fs_T → Int32 → Int32 → Nat × Int32 × fs_T | (P, T, S, b, q), k, j => if rs_has S.1 k = true ∧ 0 ≤ j ∧ j < wr_ct (S.2 k.toNatClampNeg) then (0, (wr_de (S.2 k.toNatClampNeg) >>> ((39 - j).toInt64 &&& 63)).toInt32 &&& 1, (P, T, S, b, q)) else (1, 0, (P, T, S, b, q))
def sp_match : fs_T → Int32 → Int32 → Nat × Int32 × fs_T | (P, T, S, b, q), x, y => if in_ok b x y = true then (if rs_fa S.2 (tr_run0 P x y) S.1 0 < S.1 then (0, nI (rs_fa S.2 (tr_run0 P x y) S.1 0), (P, T, S, b, q)) else (2, 0, (P, T, S, b, q))) else (1, 0, (P, T, S, b, q))
def sp_example : fs_T → Int32 → Nat × Int32 × fs_T | (P, T, S, b, q), o => if 0 ≤ o ∧ o ≤ 3 then (if rs_li S.2 o S.1 0 256 = 256 then (2, 0, (P, T, S, b, q)) else (0, rs_li S.2 o S.1 0 256, (P, T, S, b, q))) else (1, 0, (P, T, S, b, q))
def sp_count : fs_T → Int32 → Nat × Int32 × fs_T | (P, T, S, b, q), x => if x = 0 then (0, nI P.2.2.2.2, (P, T, S, b, q)) else if x = 1 then (0, nI b, (P, T, S, b, q)) else if x = 2 then (0, nI S.1, (P, T, S, b, q)) else if x = 3 then (0, q, (P, T, S, b, q)) else (1, 0, (P, T, S, b, q))
theorem fs_fr_rf (h : za_H) : fs_fr h h := fun _ _ => rfl
set_option maxHeartbeats 4000000 in
set_option maxRecDepth 100000 in
theorem c_F_instr (l : Launch) (D : za_D) (h : za_H) (n : Nat) (hst : l.stackTraces = false) (σ : fs_T) (hσ : fs_at h σ) (op a x y : Int32) : zg_M l D (.code Y_F_instr.1 Y_F_instr.2.1 Y_F_instr.2.2.1 Y_F_instr.2.2.2) Y_F_instr 6 1 6 [vR 0, vI op, vI a, vI x, vI y] h n (fs_ps "java/lang/IllegalArgumentException" "java/lang/IllegalStateException" h n (sp_instr σ op a x y)) := by
  obtain ⟨P, T, S, b, q⟩ := σ
  have hσ0 := hσ
  obtain ⟨hok, hP, hT, hb1, hb4, ra, rb, hrr, hF, ⟨T8, h8⟩, ⟨w, hS⟩, wb, SD, hD⟩ := hσ
  obtain ⟨oo, aa, bb, cc0, k⟩ := P
  obtain ⟨hP1, hP2, hP3, hP4, hP5⟩ := hP
  have k24 : (Int8.ofInt 24).toInt32 = nI 24 := by decide
  have hv : za_ov h [(0, fs_c ra rb b q), (1, pr_c k)] = h := by rw [za_ov2, za_set_same hP1, za_set_same hF]
  have hs : fs_at (za_ov h [(0, fs_c ra rb b q), (1, pr_c k)]) ((oo, aa, bb, cc0, k), T, S, b, q) := by rw [hv]; exact hσ0
  have hfr : fs_fr h (za_ov h [(0, fs_c ra rb b q), (1, pr_c k)]) := by rw [hv]; exact fs_fr_rf h
  refine zg_enter cd_F_instr fl_F (zg_Kcode Y_F_instr) (by decide) cdok_F_instr flok_F (Nat.le_of_ble_eq_true rfl) ?_
  intro p e s m args below meth c X hH hex
  refine za_view [(0, fs_c ra rb b q), (1, pr_c k)] (by simp [hF, hP1]) ?_
  iterate 4 refine za_step X rfl rfl rfl ?_
  refine za_callS X rfl cl_F_P_allows cy_P_allows cs_P_allows (c_P_allows l D _ n op a x y) rfl rfl (Nat.le_of_ble_eq_true rfl) (Nat.le_of_ble_eq_true rfl) (Nat.le_of_ble_eq_true rfl) (Nat.le_of_ble_eq_true rfl) (Nat.le_of_ble_eq_true rfl) (fun v h' n' hq => ?_)
  obtain ⟨rfl, rfl, rfl⟩ := hq
  refine za_look (h1 := h) (v1 := [(0, fs_c ra rb b q), (1, pr_c k)]) rfl ?_
  refine za_ifne X 19 rfl (by decide) (fun q1 => ?_) (fun q1 => ?_)
  · have hal := bI_n0 q1
    iterate 4 refine za_step X rfl rfl rfl ?_
    refine za_icne X 39 rfl (by decide) (fun q2 => ?_) (fun q2 => ?_)
    · rw [k24] at q2
      have hk : k ≠ 24 := fun z => q2 (by rw [z])
      have hk2 : k < 24 := by have := hok.1; omega
      have e1 : sp_instr ((oo, aa, bb, cc0, k), T, S, b, q) op a x y = (0, nI (k + 1), (pr_add (oo, aa, bb, cc0, k) op a x y, T, S, b, q)) := by
        show (if _ then (if k = 24 then _ else _) else _) = _
        rw [if_pos hal, if_neg hk]
      rw [e1]
      iterate 6 refine za_step X rfl rfl rfl ?_
      refine za_callV (b := 1) (d := 0) (mc := 0) (ms := 0) (as := [vI op, vI a, vI x, vI y]) (rest := []) X rfl cl_F_P_append cy_P_append cv_P_append (c_P_append l D (za_ov h [(0, fs_c ra rb b q), (1, pr_c k)]) n (oo, aa, bb, cc0, k) (by rw [hv]; exact ⟨hP1, hP2, hP3, hP4, hP5⟩) hk2 op a x y) rfl rfl rfl rfl (Nat.le_of_ble_eq_true rfl) (Nat.le_of_ble_eq_true rfl) (Nat.le_of_ble_eq_true rfl) (Nat.le_of_ble_eq_true rfl) (Nat.le_of_ble_eq_true rfl) (fun v h' n' hq => ?_)
      obtain ⟨rfl, ⟨hP', hoff⟩, rfl⟩ := hq
      rw [hv] at hoff
      have g0 : h' 0 = some (fs_c ra rb b q) := by rw [hoff 0 (by omega)]; exact hF
      have g1 : h' 1 = some (pr_c (k + 1)) := hP'.1
      refine za_view [(0, fs_c ra rb b q), (1, pr_c (k + 1))] (by simp [g0, g1]) ?_
      have hv2 : za_ov h' [(0, fs_c ra rb b q), (1, pr_c (k + 1))] = h' := by rw [za_ov2, za_set_same g1, za_set_same g0]
      iterate 3 refine za_step X rfl rfl rfl ?_
      refine zg_of (za_iret X rfl ⟨?_, ?_, Or.inl ⟨rfl, rfl, rfl⟩⟩ (Nat.le_of_ble_eq_true rfl) (Nat.le_of_ble_eq_true rfl))
      · rw [hv2]
        refine ⟨⟨by show k + 1 ≤ 24; omega, fun i hi => ?_⟩, hP', ⟨by rw [hoff 6 (by omega)]; exact hT.1, by rw [hoff (6 + 1) (by omega)]; exact hT.2⟩, hb1, hb4, ra, rb, hrr, g0, ⟨T8, by rw [hoff 8 (by omega)]; exact h8.1, by rw [hoff (8 + 1) (by omega)]; exact h8.2⟩, ⟨w, rs_at_off hS (fun j a1 a2 => hoff j (by omega))⟩, wb, SD, rs_at_off hD (fun j a1 a2 => hoff j (by omega))⟩
        by_cases e : i = k
        · subst e
          simp only [upd, if_true]
          exact hal
        · simp only [upd, if_neg e]
          exact hok.2 i (by have : i < k + 1 := hi; omega)
      · rw [hv2]; exact fun j hj => hoff j (by omega)
    · rw [k24] at q2
      have hk : k = 24 := (nI_eq (by have := hok.1; omega) (by omega)).mp q2
      have e1 : sp_instr ((oo, aa, bb, cc0, k), T, S, b, q) op a x y = (2, 0, ((oo, aa, bb, cc0, k), T, S, b, q)) := by
        show (if _ then (if k = 24 then _ else _) else _) = _
        rw [if_pos hal, if_pos hk]
      rw [e1]
      exact zg_throw X hH hst hex rfl rfl rfl rfl ze_ISE (by decide) (Nat.le_of_ble_eq_true rfl) (Nat.le_of_ble_eq_true rfl) (Nat.le_of_ble_eq_true rfl) ⟨hs, hfr, Or.inr (Or.inr ⟨rfl, rfl, rfl⟩)⟩ (Nat.le_of_ble_eq_true rfl) (Nat.le_of_ble_eq_true rfl)
  · have e1 : sp_instr ((oo, aa, bb, cc0, k), T, S, b, q) op a x y = (1, 0, ((oo, aa, bb, cc0, k), T, S, b, q)) := if_neg (by rw [bI_0 q1]; decide)
    rw [e1]
    exact zg_throw X hH hst hex rfl rfl rfl rfl ze_IAE (by decide) (Nat.le_of_ble_eq_true rfl) (Nat.le_of_ble_eq_true rfl) (Nat.le_of_ble_eq_true rfl) ⟨hs, hfr, Or.inr (Or.inl ⟨rfl, rfl, rfl⟩)⟩ (Nat.le_of_ble_eq_true rfl) (Nat.le_of_ble_eq_true rfl)
