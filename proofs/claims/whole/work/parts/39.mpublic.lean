/-! THE MODEL'S STATE, held against the class's -/
/-- a way in the model's lists: decisions, length, least, outcome, number, which -/
abbrev mw_T : Type := Int64 × Int32 × Int32 × Int32 × Int32 × Int32
def mw_at (h : za_H) (f : Nat → mw_T) : Prop := h 148 = some (.inl (1, 65, .inr (.inl (fun i => (f i).1)))) ∧ h 149 = some (.inl (0, 65, .inl (fun i => (f i).2.1))) ∧ h 150 = some (.inl (0, 65, .inl (fun i => (f i).2.2.1))) ∧ h 151 = some (.inl (0, 65, .inl (fun i => (f i).2.2.2.1))) ∧ h 152 = some (.inl (0, 65, .inl (fun i => (f i).2.2.2.2.1))) ∧ h 153 = some (.inl (0, 65, .inl (fun i => (f i).2.2.2.2.2)))
def mr_at (h : za_H) (f : Nat → mw_T) : Prop := h 154 = some (.inl (1, 64, .inr (.inl (fun i => (f i).1)))) ∧ h 155 = some (.inl (0, 64, .inl (fun i => (f i).2.1))) ∧ h 156 = some (.inl (0, 64, .inl (fun i => (f i).2.2.1))) ∧ h 157 = some (.inl (0, 64, .inl (fun i => (f i).2.2.2.1))) ∧ h 158 = some (.inl (0, 64, .inl (fun i => (f i).2.2.2.2.1)))
def wr_le (q : wr_T) : Int32 := 16 * wr_x q + wr_y q
def mw_of (q : wr_T) : mw_T := (wr_de q, wr_ct q, wr_le q, wr_ou q, wr_ed q, wr_vi q)
def mr_eq (a : mw_T) (q : wr_T) : Prop := a.1 = wr_de q ∧ a.2.1 = wr_ct q ∧ a.2.2.1 = wr_le q ∧ a.2.2.2.1 = wr_ou q ∧ a.2.2.2.2.1 = wr_ed q
def wr_ok (q : wr_T) : Prop := (∃ a b : Nat, a < 16 ∧ b < 16 ∧ wr_x q = nI a ∧ wr_y q = nI b) ∧ ∃ c : Nat, c ≤ 40 ∧ wr_ct q = nI c
def ms_in (h : za_H) (P : pr_T) (S : rs_T) (G : tr_T) : Prop := h 147 = some (tr_g G) ∧ mp_at h P ∧ (∃ f, mw_at h f) ∧ (∃ r, mr_at h r ∧ ∀ i, i < S.1 → mr_eq (r i) (S.2 i)) ∧ (∀ i, i < S.1 → wr_ok (S.2 i)) ∧ S.1 ≤ 64
def ms_z (T : tr_T) (S : rs_T) (q : Int32) (fd : Nat) : mz_T := (q, tr_ed T, tr_dn T, tr_ct T, fd, S.1, rs_or S.2 S.1)
def ms_at (h : za_H) (th : Int32) : fs_T → Prop | (P, T, S, b, q) => pr_ok P ∧ 1 ≤ b ∧ b ≤ 4 ∧ ∃ G fd, h 142 = some (mo_c (th, P.2.2.2.2, b) G (ms_z T S q fd)) ∧ ms_in h P S G
def ms_fr (h h' : za_H) : Prop := ∀ j, j < 142 ∨ 159 ≤ j → h' j = h j
def ms_ps (h : za_H) (n : Nat) (R : Nat × Int32 × fs_T) (v : Option za_V) (h' : za_H) (n' : Nat) : Prop := v = some (vI R.2.1) ∧ ms_at h' (nI R.1) R.2.2 ∧ ms_fr h h' ∧ n = n'
theorem ms_off {h h' : za_H} {P : pr_T} {S : rs_T} {G : tr_T} (hi : ms_in h P S G) (e : ∀ j, 143 ≤ j → j ≤ 158 → h' j = h j) : ms_in h' P S G := by
  obtain ⟨o, a, b, c, k⟩ := P
  obtain ⟨h1, ⟨p1, p2, p3, p4⟩, ⟨f, f1, f2, f3, f4, f5, f6⟩, ⟨r, ⟨r1, r2, r3, r4, r5⟩, hr⟩, h5⟩ := hi
  refine ⟨?_, ⟨?_, ?_, ?_, ?_⟩, ⟨f, ?_, ?_, ?_, ?_, ?_, ?_⟩, ⟨r, ⟨?_, ?_, ?_, ?_, ?_⟩, hr⟩, h5⟩
  all_goals rw [e _ (by omega) (by omega)]
  all_goals assumption
theorem ms_set {h : za_H} {P : pr_T} {S : rs_T} {G : tr_T} (hi : ms_in h P S G) (cl : za_C) : ms_in (za_set h 142 cl) P S G := ms_off hi (fun j _ _ => za_set_ne (by omega))
theorem ms_fr1 (h : za_H) (cl : za_C) : ms_fr h (za_set h 142 cl) := fun j hj => za_set_ne (by omega)
theorem za_ov11 (h : za_H) (i : Nat) (a d : za_C) : za_ov (za_set (za_ov h [(i, a)]) i d) [] = za_set h i d := by
  rw [za_ov_nil, za_ov1, za_set_set]
theorem hm_has {rs : Nat} (hr : rs ≤ 64) (x : Int32) : mi_in x 0 (nI rs - 1) = rs_has rs x := by
  unfold mi_in rs_has
  congr 1
  refine decide_eq_decide.mpr ?_
  rw [Int32.le_iff_toInt_le, Int32.lt_iff_toInt_lt]
  have e1 : (nI rs).toInt = rs := nI_toInt (by omega)
  have e2 : (nI rs - 1).toInt = (rs : Int) - 1 := by
    rw [Int32.toInt_sub, e1]
    show Int.bmod ((rs : Int) - 1) (2 ^ 32) = _
    rw [Int.bmod_eq_of_le (by omega) (by omega)]
  omega
set_option maxHeartbeats 4000000 in
set_option maxRecDepth 100000 in
theorem c_M_instr (l : Launch) (D : za_D) (h : za_H) (n : Nat) (th : Int32) (σ : fs_T) (hσ : ms_at h th σ) (op a1 x1 y1 : Int32) : za_M l D Y_M_instr 3 0 0 [vR 142, vI op, vI a1, vI x1, vI y1] h n (ms_ps h n (sp_instr σ op a1 x1 y1)) := by
  obtain ⟨P, T, S, b, q⟩ := σ
  obtain ⟨hok, hb1, hb4, G, fd, hM, hin⟩ := hσ
  obtain ⟨oo, aa, bb, cc0, k⟩ := P
  obtain ⟨Tr, Tpl, Tla, Tdn, Tvi, Tde, Tct, Ten, Tou, Ted⟩ := T
  obtain ⟨r, pl, la, dn, vi, de, ct, en, ou, ed⟩ := G
  obtain ⟨sk, sf⟩ := S
  have hk24 : k ≤ 24 := hok.1
  refine za_enter cd_M_instr fl_M (by decide) cdok_M_instr flok_M (Nat.le_of_ble_eq_true rfl) ?_
  intro p e s m args below meth c X hnm
  refine za_view [(142, mo_c (th, k, b) (r, pl, la, dn, vi, de, ct, en, ou, ed) (q, Ted, Tdn, Tct, fd, sk, (rs_or sf sk)))] (by simp [show h 142 = some (mo_c (th, k, b) (r, pl, la, dn, vi, de, ct, en, ou, ed) (q, Ted, Tdn, Tct, fd, sk, (rs_or sf sk))) from hM]) ?_
  iterate 7 refine za_step X rfl rfl rfl ?_
  refine za_callS X rfl cl_M_M_fits cy_M_fits cs_M_fits (c_M_fits l D _ n op a1 x1 y1) rfl rfl (Nat.le_of_ble_eq_true rfl) (Nat.le_of_ble_eq_true rfl) (Nat.le_of_ble_eq_true rfl) (Nat.le_of_ble_eq_true rfl) (Nat.le_of_ble_eq_true rfl) (fun v h' n' hq => ?_)
  obtain ⟨rfl, rfl, rfl⟩ := hq
  rw [mi_fits_al]
  refine za_look (h1 := h) (v1 := [(142, mo_c (0, k, b) (r, pl, la, dn, vi, de, ct, en, ou, ed) (q, Ted, Tdn, Tct, fd, sk, (rs_or sf sk)))]) rfl ?_
  refine za_ifne X 22 rfl (by decide) (fun q1 => ?_) (fun q1 => ?_)
  · have hal := bI_n0 q1
    iterate 3 refine za_step X rfl rfl rfl ?_
    rw [show (Int8.ofInt 24).toInt32 = nI 24 by decide]
    refine za_icne X 37 rfl (by decide) (fun q2 => ?_) (fun q2 => ?_)
    · have hk : k ≠ 24 := fun z => q2 (by rw [z])
      have e1 : sp_instr ((oo, aa, bb, cc0, k), (Tr, Tpl, Tla, Tdn, Tvi, Tde, Tct, Ten, Tou, Ted), (sk, sf), b, q) op a1 x1 y1 = (0, nI (k + 1), (pr_add (oo, aa, bb, cc0, k) op a1 x1 y1, (Tr, Tpl, Tla, Tdn, Tvi, Tde, Tct, Ten, Tou, Ted), (sk, sf), b, q)) := by
        show (if _ then (if k = 24 then _ else _) else _) = _
        rw [if_pos hal, if_neg hk]
      rw [e1]
      obtain ⟨h147, ⟨p1, p2, p3, p4⟩, hw, hr, hx⟩ := hin
      have hin24 : vp_in (nI k) 24 := vp_in_nI (by omega) (by decide)
      have hcl : (nI k).toNatClampNeg = k := nI_clamp (by omega)
      refine za_look (h1 := h) (v1 := [(142, mo_c (0, k, b) (r, pl, la, dn, vi, de, ct, en, ou, ed) (q, Ted, Tdn, Tct, fd, sk, (rs_or sf sk))), (143, pr_g oo), (144, pr_g aa), (145, pr_g bb), (146, pr_g cc0)]) (za_ov_app (h := h) [(142, mo_c (0, k, b) (r, pl, la, dn, vi, de, ct, en, ou, ed) (q, Ted, Tdn, Tct, fd, sk, (rs_or sf sk)))] (w := [(143, pr_g oo), (144, pr_g aa), (145, pr_g bb), (146, pr_g cc0)]) (by simp [p1, p2, p3, p4])).symm ?_
      iterate 5 refine za_step X rfl rfl rfl ?_
      refine za_iast X rfl rfl rfl hin24 ?_
      iterate 5 refine za_step X rfl rfl rfl ?_
      refine za_iast X rfl rfl rfl hin24 ?_
      iterate 5 refine za_step X rfl rfl rfl ?_
      refine za_iast X rfl rfl rfl hin24 ?_
      iterate 5 refine za_step X rfl rfl rfl ?_
      refine za_iast X rfl rfl rfl hin24 ?_
      iterate 5 refine za_step X rfl rfl rfl ?_
      rw [show nI k + Int32.ofInt 1 = nI (k + 1) from nI_1 k, hcl]
      iterate 3 refine za_step X rfl rfl rfl ?_
      refine za_iret X rfl ⟨rfl, ?_, ?_, rfl⟩ (Nat.le_refl _) (Nat.le_refl _)
      · refine ⟨⟨by show k + 1 ≤ 24; omega, fun i hi => ?_⟩, hb1, hb4, (r, pl, la, dn, vi, de, ct, en, ou, ed), fd, rfl, h147, ⟨rfl, rfl, rfl, rfl⟩, hw, hr, hx⟩
        by_cases e : i = k
        · subst e
          simp only [upd, if_true]
          exact hal
        · simp only [upd, if_neg e]
          exact hok.2 i (by have : i < k + 1 := hi; omega)
      · intro j hj
        refine za_ov_off (v := [(142, _), (143, _), (144, _), (145, _), (146, _)]) ?_
        intro q hq
        simp only [List.mem_cons, List.not_mem_nil, or_false] at hq
        rcases hq with rfl | rfl | rfl | rfl | rfl <;> (show _ ≠ j; omega)
    · have hk : k = 24 := (nI_eq (by omega) (by omega)).mp q2
      have e1 : sp_instr ((oo, aa, bb, cc0, k), (Tr, Tpl, Tla, Tdn, Tvi, Tde, Tct, Ten, Tou, Ted), (sk, sf), b, q) op a1 x1 y1 = (2, 0, ((oo, aa, bb, cc0, k), (Tr, Tpl, Tla, Tdn, Tvi, Tde, Tct, Ten, Tou, Ted), (sk, sf), b, q)) := by
        show (if _ then (if k = 24 then _ else _) else _) = _
        rw [if_pos hal, if_pos hk]
      rw [e1]
      iterate 2 refine za_step X rfl rfl rfl ?_
      refine za_callV (b := 142) (d := 0) (mc := 0) (ms := 0) (as := [vI 2]) (rest := []) X rfl cl_M_M_raise cy_M_raise cv_M_raise (c_M_raise l D (za_ov h [(142, mo_c (0, k, b) (r, pl, la, dn, vi, de, ct, en, ou, ed) (q, Ted, Tdn, Tct, fd, sk, (rs_or sf sk)))]) n (0, k, b) (r, pl, la, dn, vi, de, ct, en, ou, ed) (q, Ted, Tdn, Tct, fd, sk, (rs_or sf sk)) rfl 2) rfl rfl rfl rfl (Nat.le_of_ble_eq_true rfl) (Nat.le_of_ble_eq_true rfl) (Nat.le_of_ble_eq_true rfl) (Nat.le_of_ble_eq_true rfl) (Nat.le_of_ble_eq_true rfl) (fun v h' n' hq => ?_)
      obtain ⟨rfl, rfl, rfl⟩ := hq
      refine za_iret X rfl ⟨rfl, ?_, ?_, rfl⟩ (Nat.le_refl _) (Nat.le_refl _)
      · show ms_at (za_ov (za_set (za_ov h [(142, mo_c (0, k, b) (r, pl, la, dn, vi, de, ct, en, ou, ed) (q, Ted, Tdn, Tct, fd, sk, (rs_or sf sk)))]) 142 (mo_c (2, k, b) (r, pl, la, dn, vi, de, ct, en, ou, ed) (q, Ted, Tdn, Tct, fd, sk, (rs_or sf sk)))) []) 2 ((oo, aa, bb, cc0, k), (Tr, Tpl, Tla, Tdn, Tvi, Tde, Tct, Ten, Tou, Ted), (sk, sf), b, q)
        rw [za_ov11]
        exact ⟨hok, hb1, hb4, (r, pl, la, dn, vi, de, ct, en, ou, ed), fd, za_set_eq _ _ _, ms_set hin _⟩
      · show ms_fr h (za_ov (za_set (za_ov h [(142, mo_c (0, k, b) (r, pl, la, dn, vi, de, ct, en, ou, ed) (q, Ted, Tdn, Tct, fd, sk, (rs_or sf sk)))]) 142 (mo_c (2, k, b) (r, pl, la, dn, vi, de, ct, en, ou, ed) (q, Ted, Tdn, Tct, fd, sk, (rs_or sf sk)))) [])
        rw [za_ov11]
        exact ms_fr1 h _
  · have e1 : sp_instr ((oo, aa, bb, cc0, k), (Tr, Tpl, Tla, Tdn, Tvi, Tde, Tct, Ten, Tou, Ted), (sk, sf), b, q) op a1 x1 y1 = (1, 0, ((oo, aa, bb, cc0, k), (Tr, Tpl, Tla, Tdn, Tvi, Tde, Tct, Ten, Tou, Ted), (sk, sf), b, q)) := if_neg (by rw [bI_0 q1]; decide)
    rw [e1]
    iterate 2 refine za_step X rfl rfl rfl ?_
    refine za_callV (b := 142) (d := 0) (mc := 0) (ms := 0) (as := [vI 1]) (rest := []) X rfl cl_M_M_raise cy_M_raise cv_M_raise (c_M_raise l D (za_ov h [(142, mo_c (0, k, b) (r, pl, la, dn, vi, de, ct, en, ou, ed) (q, Ted, Tdn, Tct, fd, sk, (rs_or sf sk)))]) n (0, k, b) (r, pl, la, dn, vi, de, ct, en, ou, ed) (q, Ted, Tdn, Tct, fd, sk, (rs_or sf sk)) rfl 1) rfl rfl rfl rfl (Nat.le_of_ble_eq_true rfl) (Nat.le_of_ble_eq_true rfl) (Nat.le_of_ble_eq_true rfl) (Nat.le_of_ble_eq_true rfl) (Nat.le_of_ble_eq_true rfl) (fun v h' n' hq => ?_)
    obtain ⟨rfl, rfl, rfl⟩ := hq
    refine za_iret X rfl ⟨rfl, ?_, ?_, rfl⟩ (Nat.le_refl _) (Nat.le_refl _)
    · show ms_at (za_ov (za_set (za_ov h [(142, mo_c (0, k, b) (r, pl, la, dn, vi, de, ct, en, ou, ed) (q, Ted, Tdn, Tct, fd, sk, (rs_or sf sk)))]) 142 (mo_c (1, k, b) (r, pl, la, dn, vi, de, ct, en, ou, ed) (q, Ted, Tdn, Tct, fd, sk, (rs_or sf sk)))) []) 1 ((oo, aa, bb, cc0, k), (Tr, Tpl, Tla, Tdn, Tvi, Tde, Tct, Ten, Tou, Ted), (sk, sf), b, q)
      rw [za_ov11]
      exact ⟨hok, hb1, hb4, (r, pl, la, dn, vi, de, ct, en, ou, ed), fd, za_set_eq _ _ _, ms_set hin _⟩
    · show ms_fr h (za_ov (za_set (za_ov h [(142, mo_c (0, k, b) (r, pl, la, dn, vi, de, ct, en, ou, ed) (q, Ted, Tdn, Tct, fd, sk, (rs_or sf sk)))]) 142 (mo_c (1, k, b) (r, pl, la, dn, vi, de, ct, en, ou, ed) (q, Ted, Tdn, Tct, fd, sk, (rs_or sf sk)))) [])
      rw [za_ov11]
      exact ms_fr1 h _
set_option maxHeartbeats 4000000 in
set_option maxRecDepth 100000 in
theorem c_M_undo (l : Launch) (D : za_D) (h : za_H) (n : Nat) (th : Int32) (σ : fs_T) (hσ : ms_at h th σ)  : za_M l D Y_M_undo 3 0 0 [vR 142] h n (ms_ps h n (sp_undo σ)) := by
  obtain ⟨P, T, S, b, q⟩ := σ
  obtain ⟨hok, hb1, hb4, G, fd, hM, hin⟩ := hσ
  obtain ⟨oo, aa, bb, cc0, k⟩ := P
  obtain ⟨Tr, Tpl, Tla, Tdn, Tvi, Tde, Tct, Ten, Tou, Ted⟩ := T
  obtain ⟨r, pl, la, dn, vi, de, ct, en, ou, ed⟩ := G
  obtain ⟨sk, sf⟩ := S
  have hk24 : k ≤ 24 := hok.1
  refine za_enter cd_M_undo fl_M (by decide) cdok_M_undo flok_M (Nat.le_of_ble_eq_true rfl) ?_
  intro p e s m args below meth c X hnm
  refine za_view [(142, mo_c (th, k, b) (r, pl, la, dn, vi, de, ct, en, ou, ed) (q, Ted, Tdn, Tct, fd, sk, (rs_or sf sk)))] (by simp [show h 142 = some (mo_c (th, k, b) (r, pl, la, dn, vi, de, ct, en, ou, ed) (q, Ted, Tdn, Tct, fd, sk, (rs_or sf sk))) from hM]) ?_
  iterate 5 refine za_step X rfl rfl rfl ?_
  refine za_ifne X 18 rfl (by decide) (fun q1 => ?_) (fun q1 => ?_)
  · have hk : k ≠ 0 := fun z => q1 (by rw [z]; rfl)
    have e1 : sp_undo ((oo, aa, bb, cc0, k), (Tr, Tpl, Tla, Tdn, Tvi, Tde, Tct, Ten, Tou, Ted), (sk, sf), b, q) = (0, nI (k - 1), ((oo, aa, bb, cc0, k - 1), (Tr, Tpl, Tla, Tdn, Tvi, Tde, Tct, Ten, Tou, Ted), (sk, sf), b, q)) := if_neg hk
    rw [e1]
    iterate 5 refine za_step X rfl rfl rfl ?_
    rw [show nI k - Int32.ofInt 1 = nI (k - 1) from by have := nI_pred (k - 1); rw [show k - 1 + 1 = k by omega] at this; exact this]
    iterate 3 refine za_step X rfl rfl rfl ?_
    refine za_iret X rfl ⟨rfl, ?_, ?_, rfl⟩ (Nat.le_refl _) (Nat.le_refl _)
    · show ms_at (za_ov h [(142, mo_c (0, (k - 1), b) (r, pl, la, dn, vi, de, ct, en, ou, ed) (q, Ted, Tdn, Tct, fd, sk, (rs_or sf sk)))]) 0 ((oo, aa, bb, cc0, k - 1), (Tr, Tpl, Tla, Tdn, Tvi, Tde, Tct, Ten, Tou, Ted), (sk, sf), b, q)
      rw [za_ov1]
      exact ⟨⟨by show k - 1 ≤ 24; omega, fun i hi => hok.2 i (by have : i < k - 1 := hi; omega)⟩, hb1, hb4, (r, pl, la, dn, vi, de, ct, en, ou, ed), fd, za_set_eq _ _ _, ms_set hin _⟩
    · show ms_fr h (za_ov h [(142, mo_c (0, (k - 1), b) (r, pl, la, dn, vi, de, ct, en, ou, ed) (q, Ted, Tdn, Tct, fd, sk, (rs_or sf sk)))])
      rw [za_ov1]
      exact ms_fr1 h _
  · have hk : k = 0 := (nI_eq (by omega) (by omega)).mp (q1.trans rfl)
    have e1 : sp_undo ((oo, aa, bb, cc0, k), (Tr, Tpl, Tla, Tdn, Tvi, Tde, Tct, Ten, Tou, Ted), (sk, sf), b, q) = (1, 0, ((oo, aa, bb, cc0, k), (Tr, Tpl, Tla, Tdn, Tvi, Tde, Tct, Ten, Tou, Ted), (sk, sf), b, q)) := if_pos hk
    rw [e1]
    iterate 2 refine za_step X rfl rfl rfl ?_
    refine za_callV (b := 142) (d := 0) (mc := 0) (ms := 0) (as := [vI 1]) (rest := []) X rfl cl_M_M_raise cy_M_raise cv_M_raise (c_M_raise l D (za_ov h [(142, mo_c (0, k, b) (r, pl, la, dn, vi, de, ct, en, ou, ed) (q, Ted, Tdn, Tct, fd, sk, (rs_or sf sk)))]) n (0, k, b) (r, pl, la, dn, vi, de, ct, en, ou, ed) (q, Ted, Tdn, Tct, fd, sk, (rs_or sf sk)) rfl 1) rfl rfl rfl rfl (Nat.le_of_ble_eq_true rfl) (Nat.le_of_ble_eq_true rfl) (Nat.le_of_ble_eq_true rfl) (Nat.le_of_ble_eq_true rfl) (Nat.le_of_ble_eq_true rfl) (fun v h' n' hq => ?_)
    obtain ⟨rfl, rfl, rfl⟩ := hq
    refine za_iret X rfl ⟨rfl, ?_, ?_, rfl⟩ (Nat.le_refl _) (Nat.le_refl _)
    · show ms_at (za_ov (za_set (za_ov h [(142, mo_c (0, k, b) (r, pl, la, dn, vi, de, ct, en, ou, ed) (q, Ted, Tdn, Tct, fd, sk, (rs_or sf sk)))]) 142 (mo_c (1, k, b) (r, pl, la, dn, vi, de, ct, en, ou, ed) (q, Ted, Tdn, Tct, fd, sk, (rs_or sf sk)))) []) 1 ((oo, aa, bb, cc0, k), (Tr, Tpl, Tla, Tdn, Tvi, Tde, Tct, Ten, Tou, Ted), (sk, sf), b, q)
      rw [za_ov11]
      exact ⟨hok, hb1, hb4, (r, pl, la, dn, vi, de, ct, en, ou, ed), fd, za_set_eq _ _ _, ms_set hin _⟩
    · show ms_fr h (za_ov (za_set (za_ov h [(142, mo_c (0, k, b) (r, pl, la, dn, vi, de, ct, en, ou, ed) (q, Ted, Tdn, Tct, fd, sk, (rs_or sf sk)))]) 142 (mo_c (1, k, b) (r, pl, la, dn, vi, de, ct, en, ou, ed) (q, Ted, Tdn, Tct, fd, sk, (rs_or sf sk)))) [])
      rw [za_ov11]
      exact ms_fr1 h _
set_option maxHeartbeats 4000000 in
set_option maxRecDepth 100000 in
theorem c_M_width (l : Launch) (D : za_D) (h : za_H) (n : Nat) (th : Int32) (σ : fs_T) (hσ : ms_at h th σ) (x : Int32) : za_M l D Y_M_width 3 0 0 [vR 142, vI x] h n (ms_ps h n (sp_width σ x)) := by
  obtain ⟨P, T, S, b, q⟩ := σ
  obtain ⟨hok, hb1, hb4, G, fd, hM, hin⟩ := hσ
  obtain ⟨oo, aa, bb, cc0, k⟩ := P
  obtain ⟨Tr, Tpl, Tla, Tdn, Tvi, Tde, Tct, Ten, Tou, Ted⟩ := T
  obtain ⟨r, pl, la, dn, vi, de, ct, en, ou, ed⟩ := G
  obtain ⟨sk, sf⟩ := S
  refine za_enter cd_M_width fl_M (by decide) cdok_M_width flok_M (Nat.le_of_ble_eq_true rfl) ?_
  intro p e s m args below meth c X hnm
  refine za_view [(142, mo_c (th, k, b) (r, pl, la, dn, vi, de, ct, en, ou, ed) (q, Ted, Tdn, Tct, fd, sk, (rs_or sf sk)))] (by simp [show h 142 = some (mo_c (th, k, b) (r, pl, la, dn, vi, de, ct, en, ou, ed) (q, Ted, Tdn, Tct, fd, sk, (rs_or sf sk))) from hM]) ?_
  iterate 6 refine za_step X rfl rfl rfl ?_
  refine za_callS X rfl cl_M_M_in cy_M_in cs_M_in (c_M_in l D _ n x 1 4) rfl rfl (Nat.le_of_ble_eq_true rfl) (Nat.le_of_ble_eq_true rfl) (Nat.le_of_ble_eq_true rfl) (Nat.le_of_ble_eq_true rfl) (Nat.le_of_ble_eq_true rfl) (fun v h' n' hq => ?_)
  obtain ⟨rfl, rfl, rfl⟩ := hq
  refine za_look (h1 := h) (v1 := [(142, mo_c (0, k, b) (r, pl, la, dn, vi, de, ct, en, ou, ed) (q, Ted, Tdn, Tct, fd, sk, (rs_or sf sk)))]) rfl ?_
  refine za_ifne X 20 rfl (by decide) (fun q1 => ?_) (fun q1 => ?_)
  · have hin2 : mi_in x 1 4 = true := bI_n0 q1
    have hx : 1 ≤ x ∧ x ≤ 4 := by simpa [mi_in] using hin2
    have e1 : sp_width ((oo, aa, bb, cc0, k), (Tr, Tpl, Tla, Tdn, Tvi, Tde, Tct, Ten, Tou, Ted), (sk, sf), b, q) x = (0, nI b, ((oo, aa, bb, cc0, k), (Tr, Tpl, Tla, Tdn, Tvi, Tde, Tct, Ten, Tou, Ted), (sk, sf), x.toNatClampNeg, q)) := if_pos hx
    rw [e1]
    have t1 : 1 ≤ x.toInt := Int32.le_iff_toInt_le.mp hx.1
    have t4 : x.toInt ≤ 4 := Int32.le_iff_toInt_le.mp hx.2
    have hc : x.toNatClampNeg = x.toInt.toNat := rfl
    have hxn : x = nI x.toNatClampNeg := by
      refine Int32.toInt_inj.mp ?_
      rw [nI_toInt (by omega)]
      omega
    generalize x.toNatClampNeg = w at *
    subst hxn
    iterate 7 refine za_step X rfl rfl rfl ?_
    refine za_iret X rfl ⟨rfl, ?_, ?_, rfl⟩ (Nat.le_refl _) (Nat.le_refl _)
    · show ms_at (za_ov h [(142, mo_c (0, k, w) (r, pl, la, dn, vi, de, ct, en, ou, ed) (q, Ted, Tdn, Tct, fd, sk, (rs_or sf sk)))]) 0 ((oo, aa, bb, cc0, k), (Tr, Tpl, Tla, Tdn, Tvi, Tde, Tct, Ten, Tou, Ted), (sk, sf), w, q)
      rw [za_ov1]
      exact ⟨hok, by omega, by omega, (r, pl, la, dn, vi, de, ct, en, ou, ed), fd, za_set_eq _ _ _, ms_set hin _⟩
    · show ms_fr h (za_ov h [(142, mo_c (0, k, w) (r, pl, la, dn, vi, de, ct, en, ou, ed) (q, Ted, Tdn, Tct, fd, sk, (rs_or sf sk)))])
      rw [za_ov1]
      exact ms_fr1 h _
  · have hin2 : mi_in x 1 4 = false := bI_0 q1
    have e1 : sp_width ((oo, aa, bb, cc0, k), (Tr, Tpl, Tla, Tdn, Tvi, Tde, Tct, Ten, Tou, Ted), (sk, sf), b, q) x = (1, 0, ((oo, aa, bb, cc0, k), (Tr, Tpl, Tla, Tdn, Tvi, Tde, Tct, Ten, Tou, Ted), (sk, sf), b, q)) := if_neg (by intro z; simp [mi_in, z.1, z.2] at hin2)
    rw [e1]
    iterate 2 refine za_step X rfl rfl rfl ?_
    refine za_callV (b := 142) (d := 0) (mc := 0) (ms := 0) (as := [vI 1]) (rest := []) X rfl cl_M_M_raise cy_M_raise cv_M_raise (c_M_raise l D (za_ov h [(142, mo_c (0, k, b) (r, pl, la, dn, vi, de, ct, en, ou, ed) (q, Ted, Tdn, Tct, fd, sk, (rs_or sf sk)))]) n (0, k, b) (r, pl, la, dn, vi, de, ct, en, ou, ed) (q, Ted, Tdn, Tct, fd, sk, (rs_or sf sk)) rfl 1) rfl rfl rfl rfl (Nat.le_of_ble_eq_true rfl) (Nat.le_of_ble_eq_true rfl) (Nat.le_of_ble_eq_true rfl) (Nat.le_of_ble_eq_true rfl) (Nat.le_of_ble_eq_true rfl) (fun v h' n' hq => ?_)
    obtain ⟨rfl, rfl, rfl⟩ := hq
    refine za_iret X rfl ⟨rfl, ?_, ?_, rfl⟩ (Nat.le_refl _) (Nat.le_refl _)
    · show ms_at (za_ov (za_set (za_ov h [(142, mo_c (0, k, b) (r, pl, la, dn, vi, de, ct, en, ou, ed) (q, Ted, Tdn, Tct, fd, sk, (rs_or sf sk)))]) 142 (mo_c (1, k, b) (r, pl, la, dn, vi, de, ct, en, ou, ed) (q, Ted, Tdn, Tct, fd, sk, (rs_or sf sk)))) []) 1 ((oo, aa, bb, cc0, k), (Tr, Tpl, Tla, Tdn, Tvi, Tde, Tct, Ten, Tou, Ted), (sk, sf), b, q)
      rw [za_ov11]
      exact ⟨hok, hb1, hb4, (r, pl, la, dn, vi, de, ct, en, ou, ed), fd, za_set_eq _ _ _, ms_set hin _⟩
    · show ms_fr h (za_ov (za_set (za_ov h [(142, mo_c (0, k, b) (r, pl, la, dn, vi, de, ct, en, ou, ed) (q, Ted, Tdn, Tct, fd, sk, (rs_or sf sk)))]) 142 (mo_c (1, k, b) (r, pl, la, dn, vi, de, ct, en, ou, ed) (q, Ted, Tdn, Tct, fd, sk, (rs_or sf sk)))) [])
      rw [za_ov11]
      exact ms_fr1 h _
set_option maxHeartbeats 4000000 in
set_option maxRecDepth 100000 in
theorem c_M_run (l : Launch) (D : za_D) (h : za_H) (n : Nat) (th : Int32) (σ : fs_T) (hσ : ms_at h th σ) (x y : Int32) : za_M l D Y_M_run 3 0 0 [vR 142, vI x, vI y] h n (ms_ps h n (sp_run σ x y)) := by
  obtain ⟨P, T, S, b, q⟩ := σ
  obtain ⟨hok, hb1, hb4, G, fd, hM, hin⟩ := hσ
  obtain ⟨oo, aa, bb, cc0, k⟩ := P
  obtain ⟨Tr, Tpl, Tla, Tdn, Tvi, Tde, Tct, Ten, Tou, Ted⟩ := T
  obtain ⟨r, pl, la, dn, vi, de, ct, en, ou, ed⟩ := G
  obtain ⟨sk, sf⟩ := S
  refine za_enter cd_M_run fl_M (by decide) cdok_M_run flok_M (Nat.le_of_ble_eq_true rfl) ?_
  intro p e s m args below meth c X hnm
  refine za_view [(142, mo_c (th, k, b) (r, pl, la, dn, vi, de, ct, en, ou, ed) (q, Ted, Tdn, Tct, fd, sk, (rs_or sf sk)))] (by simp [show h 142 = some (mo_c (th, k, b) (r, pl, la, dn, vi, de, ct, en, ou, ed) (q, Ted, Tdn, Tct, fd, sk, (rs_or sf sk))) from hM]) ?_
  iterate 5 refine za_step X rfl rfl rfl ?_
  refine za_callV (b := 142) (d := 1) (mc := 0) (ms := 0) (as := [vI x]) (rest := []) X rfl cl_M_M_isInput cy_M_isInput cv_M_isInput (c_M_isInput l D (za_ov h [(142, mo_c (0, k, b) (r, pl, la, dn, vi, de, ct, en, ou, ed) (q, Ted, Tdn, Tct, fd, sk, (rs_or sf sk)))]) n (0, k, b) (r, pl, la, dn, vi, de, ct, en, ou, ed) (q, Ted, Tdn, Tct, fd, sk, (rs_or sf sk)) rfl x) rfl rfl rfl rfl (Nat.le_of_ble_eq_true rfl) (Nat.le_of_ble_eq_true rfl) (Nat.le_of_ble_eq_true rfl) (Nat.le_of_ble_eq_true rfl) (Nat.le_of_ble_eq_true rfl) (fun v h' n' hq => ?_)
  obtain ⟨rfl, rfl, rfl⟩ := hq
  refine za_look (h1 := h) (v1 := [(142, mo_c (0, k, b) (r, pl, la, dn, vi, de, ct, en, ou, ed) (q, Ted, Tdn, Tct, fd, sk, (rs_or sf sk)))]) rfl ?_
  refine za_ifeq X 21 rfl (by decide) (fun q1 => ?_) (fun q1 => ?_)
  · have e1 : sp_run ((oo, aa, bb, cc0, k), (Tr, Tpl, Tla, Tdn, Tvi, Tde, Tct, Ten, Tou, Ted), (sk, sf), b, q) x y = (1, 0, ((oo, aa, bb, cc0, k), (Tr, Tpl, Tla, Tdn, Tvi, Tde, Tct, Ten, Tou, Ted), (sk, sf), b, q)) := if_neg (by unfold in_ok; rw [show pr_up (in_lg b) x = false from bI_0 q1]; simp)
    rw [e1]
    iterate 2 refine za_step X rfl rfl rfl ?_
    refine za_callV (b := 142) (d := 0) (mc := 0) (ms := 0) (as := [vI 1]) (rest := []) X rfl cl_M_M_raise cy_M_raise cv_M_raise (c_M_raise l D (za_ov h [(142, mo_c (0, k, b) (r, pl, la, dn, vi, de, ct, en, ou, ed) (q, Ted, Tdn, Tct, fd, sk, (rs_or sf sk)))]) n (0, k, b) (r, pl, la, dn, vi, de, ct, en, ou, ed) (q, Ted, Tdn, Tct, fd, sk, (rs_or sf sk)) rfl 1) rfl rfl rfl rfl (Nat.le_of_ble_eq_true rfl) (Nat.le_of_ble_eq_true rfl) (Nat.le_of_ble_eq_true rfl) (Nat.le_of_ble_eq_true rfl) (Nat.le_of_ble_eq_true rfl) (fun v h' n' hq => ?_)
    obtain ⟨rfl, rfl, rfl⟩ := hq
    refine za_iret X rfl ⟨rfl, ?_, ?_, rfl⟩ (Nat.le_refl _) (Nat.le_refl _)
    · show ms_at (za_ov (za_set (za_ov h [(142, mo_c (0, k, b) (r, pl, la, dn, vi, de, ct, en, ou, ed) (q, Ted, Tdn, Tct, fd, sk, (rs_or sf sk)))]) 142 (mo_c (1, k, b) (r, pl, la, dn, vi, de, ct, en, ou, ed) (q, Ted, Tdn, Tct, fd, sk, (rs_or sf sk)))) []) 1 ((oo, aa, bb, cc0, k), (Tr, Tpl, Tla, Tdn, Tvi, Tde, Tct, Ten, Tou, Ted), (sk, sf), b, q)
      rw [za_ov11]
      exact ⟨hok, hb1, hb4, (r, pl, la, dn, vi, de, ct, en, ou, ed), fd, za_set_eq _ _ _, ms_set hin _⟩
    · show ms_fr h (za_ov (za_set (za_ov h [(142, mo_c (0, k, b) (r, pl, la, dn, vi, de, ct, en, ou, ed) (q, Ted, Tdn, Tct, fd, sk, (rs_or sf sk)))]) 142 (mo_c (1, k, b) (r, pl, la, dn, vi, de, ct, en, ou, ed) (q, Ted, Tdn, Tct, fd, sk, (rs_or sf sk)))) [])
      rw [za_ov11]
      exact ms_fr1 h _
  · iterate 2 refine za_step X rfl rfl rfl ?_
    refine za_callV (b := 142) (d := 1) (mc := 0) (ms := 0) (as := [vI y]) (rest := []) X rfl cl_M_M_isInput cy_M_isInput cv_M_isInput (c_M_isInput l D (za_ov h [(142, mo_c (0, k, b) (r, pl, la, dn, vi, de, ct, en, ou, ed) (q, Ted, Tdn, Tct, fd, sk, (rs_or sf sk)))]) n (0, k, b) (r, pl, la, dn, vi, de, ct, en, ou, ed) (q, Ted, Tdn, Tct, fd, sk, (rs_or sf sk)) rfl y) rfl rfl rfl rfl (Nat.le_of_ble_eq_true rfl) (Nat.le_of_ble_eq_true rfl) (Nat.le_of_ble_eq_true rfl) (Nat.le_of_ble_eq_true rfl) (Nat.le_of_ble_eq_true rfl) (fun v h' n' hq => ?_)
    obtain ⟨rfl, rfl, rfl⟩ := hq
    refine za_look (h1 := h) (v1 := [(142, mo_c (0, k, b) (r, pl, la, dn, vi, de, ct, en, ou, ed) (q, Ted, Tdn, Tct, fd, sk, (rs_or sf sk)))]) rfl ?_
    refine za_ifne X 27 rfl (by decide) (fun q2 => ?_) (fun q2 => ?_)
    · have e1 : sp_run ((oo, aa, bb, cc0, k), (Tr, Tpl, Tla, Tdn, Tvi, Tde, Tct, Ten, Tou, Ted), (sk, sf), b, q) x y = (0, tr_ou (tr_run0 (oo, aa, bb, cc0, k) x y), ((oo, aa, bb, cc0, k), tr_run0 (oo, aa, bb, cc0, k) x y, (sk, sf), b, q + 1)) := if_pos (by unfold in_ok; rw [show pr_up (in_lg b) x = true from bI_n0 q1, show pr_up (in_lg b) y = true from bI_n0 q2]; rfl)
      rw [e1]
      iterate 3 refine za_step X rfl rfl rfl ?_
      refine za_callV (b := 142) (d := 2) (mc := 0) (ms := 0) (as := [vI x, vI y]) (rest := []) X rfl cl_M_M_go cy_M_go cv_M_go (c_M_go l D (za_ov h [(142, mo_c (0, k, b) (r, pl, la, dn, vi, de, ct, en, ou, ed) (q, Ted, Tdn, Tct, fd, sk, (rs_or sf sk)))]) n (0, k, b) (r, pl, la, dn, vi, de, ct, en, ou, ed) (q, Ted, Tdn, Tct, fd, sk, (rs_or sf sk)) ⟨rfl, hin.1⟩ (oo, aa, bb, cc0, k) rfl hin.2.1 hok x y) rfl rfl rfl rfl (Nat.le_of_ble_eq_true rfl) (Nat.le_of_ble_eq_true rfl) (Nat.le_of_ble_eq_true rfl) (Nat.le_of_ble_eq_true rfl) (Nat.le_of_ble_eq_true rfl) (fun v h' n' hq => ?_)
      obtain ⟨rfl, rfl, rfl⟩ := hq
      have hin2 : ms_in (mo_put (za_ov h [(142, mo_c (0, k, b) (r, pl, la, dn, vi, de, ct, en, ou, ed) (q, Ted, Tdn, Tct, fd, sk, (rs_or sf sk)))]) (0, k, b) (tr_run0 (oo, aa, bb, cc0, k) x y) (q, Ted, Tdn, Tct, fd, sk, (rs_or sf sk))) (oo, aa, bb, cc0, k) (sk, sf) (tr_run0 (oo, aa, bb, cc0, k) x y) := by
        obtain ⟨h147, hp, hw, hr, hx⟩ := hin
        exact ⟨(mo_put_at _ _ _ _).2, hp, hw, hr, hx⟩
      have hfr : ms_fr h (mo_put (za_ov h [(142, mo_c (0, k, b) (r, pl, la, dn, vi, de, ct, en, ou, ed) (q, Ted, Tdn, Tct, fd, sk, (rs_or sf sk)))]) (0, k, b) (tr_run0 (oo, aa, bb, cc0, k) x y) (q, Ted, Tdn, Tct, fd, sk, (rs_or sf sk))) := by
        intro j hj
        rw [mo_put_ne (by omega) (by omega), za_ov1, za_set_ne (by omega)]
      have hc := (mo_put_at (za_ov h [(142, mo_c (0, k, b) (r, pl, la, dn, vi, de, ct, en, ou, ed) (q, Ted, Tdn, Tct, fd, sk, (rs_or sf sk)))]) (0, k, b) (tr_run0 (oo, aa, bb, cc0, k) x y) (q, Ted, Tdn, Tct, fd, sk, (rs_or sf sk))).1
      generalize mo_put (za_ov h [(142, mo_c (0, k, b) (r, pl, la, dn, vi, de, ct, en, ou, ed) (q, Ted, Tdn, Tct, fd, sk, (rs_or sf sk)))]) (0, k, b) (tr_run0 (oo, aa, bb, cc0, k) x y) (q, Ted, Tdn, Tct, fd, sk, (rs_or sf sk)) = h2 at *
      generalize tr_run0 (oo, aa, bb, cc0, k) x y = T2 at *
      obtain ⟨r2, pl2, la2, dn2, vi2, de2, ct2, en2, ou2, ed2⟩ := T2
      refine za_view [(142, mo_c (0, k, b) (r2, pl2, la2, dn2, vi2, de2, ct2, en2, ou2, ed2) (q, Ted, Tdn, Tct, fd, sk, (rs_or sf sk)))] (by simp [hc]) ?_
      iterate 20 refine za_step X rfl rfl rfl ?_
      refine za_iret X rfl ⟨rfl, ?_, ?_, rfl⟩ (Nat.le_refl _) (Nat.le_refl _)
      · show ms_at (za_ov h2 [(142, mo_c (0, k, b) (r2, pl2, la2, dn2, vi2, de2, ct2, en2, ou2, ed2) ((q + 1), ed2, dn2, ct2, fd, sk, (rs_or sf sk)))]) 0 ((oo, aa, bb, cc0, k), (r2, pl2, la2, dn2, vi2, de2, ct2, en2, ou2, ed2), (sk, sf), b, q + 1)
        rw [za_ov1]
        exact ⟨hok, hb1, hb4, _, fd, za_set_eq _ _ _, ms_set hin2 _⟩
      · show ms_fr h (za_ov h2 [(142, mo_c (0, k, b) (r2, pl2, la2, dn2, vi2, de2, ct2, en2, ou2, ed2) ((q + 1), ed2, dn2, ct2, fd, sk, (rs_or sf sk)))])
        rw [za_ov1]
        exact fun j hj => (ms_fr1 h2 _ j hj).trans (hfr j hj)
    · have e1 : sp_run ((oo, aa, bb, cc0, k), (Tr, Tpl, Tla, Tdn, Tvi, Tde, Tct, Ten, Tou, Ted), (sk, sf), b, q) x y = (1, 0, ((oo, aa, bb, cc0, k), (Tr, Tpl, Tla, Tdn, Tvi, Tde, Tct, Ten, Tou, Ted), (sk, sf), b, q)) := if_neg (by unfold in_ok; rw [show pr_up (in_lg b) y = false from bI_0 q2]; simp)
      rw [e1]
      iterate 2 refine za_step X rfl rfl rfl ?_
      refine za_callV (b := 142) (d := 0) (mc := 0) (ms := 0) (as := [vI 1]) (rest := []) X rfl cl_M_M_raise cy_M_raise cv_M_raise (c_M_raise l D (za_ov h [(142, mo_c (0, k, b) (r, pl, la, dn, vi, de, ct, en, ou, ed) (q, Ted, Tdn, Tct, fd, sk, (rs_or sf sk)))]) n (0, k, b) (r, pl, la, dn, vi, de, ct, en, ou, ed) (q, Ted, Tdn, Tct, fd, sk, (rs_or sf sk)) rfl 1) rfl rfl rfl rfl (Nat.le_of_ble_eq_true rfl) (Nat.le_of_ble_eq_true rfl) (Nat.le_of_ble_eq_true rfl) (Nat.le_of_ble_eq_true rfl) (Nat.le_of_ble_eq_true rfl) (fun v h' n' hq => ?_)
      obtain ⟨rfl, rfl, rfl⟩ := hq
      refine za_iret X rfl ⟨rfl, ?_, ?_, rfl⟩ (Nat.le_refl _) (Nat.le_refl _)
      · show ms_at (za_ov (za_set (za_ov h [(142, mo_c (0, k, b) (r, pl, la, dn, vi, de, ct, en, ou, ed) (q, Ted, Tdn, Tct, fd, sk, (rs_or sf sk)))]) 142 (mo_c (1, k, b) (r, pl, la, dn, vi, de, ct, en, ou, ed) (q, Ted, Tdn, Tct, fd, sk, (rs_or sf sk)))) []) 1 ((oo, aa, bb, cc0, k), (Tr, Tpl, Tla, Tdn, Tvi, Tde, Tct, Ten, Tou, Ted), (sk, sf), b, q)
        rw [za_ov11]
        exact ⟨hok, hb1, hb4, (r, pl, la, dn, vi, de, ct, en, ou, ed), fd, za_set_eq _ _ _, ms_set hin _⟩
      · show ms_fr h (za_ov (za_set (za_ov h [(142, mo_c (0, k, b) (r, pl, la, dn, vi, de, ct, en, ou, ed) (q, Ted, Tdn, Tct, fd, sk, (rs_or sf sk)))]) 142 (mo_c (1, k, b) (r, pl, la, dn, vi, de, ct, en, ou, ed) (q, Ted, Tdn, Tct, fd, sk, (rs_or sf sk)))) [])
        rw [za_ov11]
        exact ms_fr1 h _
set_option maxHeartbeats 4000000 in
set_option maxRecDepth 100000 in
theorem c_M_last (l : Launch) (D : za_D) (h : za_H) (n : Nat) (th : Int32) (σ : fs_T) (hσ : ms_at h th σ) (x : Int32) : za_M l D Y_M_last 3 0 0 [vR 142, vI x] h n (ms_ps h n (sp_last σ x)) := by
  obtain ⟨P, T, S, b, q⟩ := σ
  obtain ⟨hok, hb1, hb4, G, fd, hM, hin⟩ := hσ
  obtain ⟨oo, aa, bb, cc0, k⟩ := P
  obtain ⟨Tr, Tpl, Tla, Tdn, Tvi, Tde, Tct, Ten, Tou, Ted⟩ := T
  obtain ⟨r, pl, la, dn, vi, de, ct, en, ou, ed⟩ := G
  obtain ⟨sk, sf⟩ := S
  refine za_enter cd_M_last fl_M (by decide) cdok_M_last flok_M (Nat.le_of_ble_eq_true rfl) ?_
  intro p e s m args below meth c X hnm
  refine za_view [(142, mo_c (th, k, b) (r, pl, la, dn, vi, de, ct, en, ou, ed) (q, Ted, Tdn, Tct, fd, sk, (rs_or sf sk)))] (by simp [show h 142 = some (mo_c (th, k, b) (r, pl, la, dn, vi, de, ct, en, ou, ed) (q, Ted, Tdn, Tct, fd, sk, (rs_or sf sk))) from hM]) ?_
  iterate 5 refine za_step X rfl rfl rfl ?_
  refine za_ifne X 18 rfl (by decide) (fun q1 => ?_) (fun q1 => ?_)
  · iterate 1 refine za_step X rfl rfl rfl ?_
    by_cases x0 : x = 0
    · subst x0
      have e1 : sp_last ((oo, aa, bb, cc0, k), (Tr, Tpl, Tla, Tdn, Tvi, Tde, Tct, Ten, Tou, Ted), (sk, sf), b, q) 0 = (0, Ted, ((oo, aa, bb, cc0, k), (Tr, Tpl, Tla, Tdn, Tvi, Tde, Tct, Ten, Tou, Ted), (sk, sf), b, q)) := by simp [sp_last, q1, tr_ed, tr_dn, tr_ct]
      rw [e1]
      refine za_tsw X 0 44 rfl (by decide) (by decide) (by decide) rfl (by decide) ?_
      iterate 2 refine za_step X rfl rfl rfl ?_
      refine za_iret X rfl ⟨rfl, ?_, ?_, rfl⟩ (Nat.le_refl _) (Nat.le_refl _)
      · show ms_at (za_ov h [(142, mo_c (0, k, b) (r, pl, la, dn, vi, de, ct, en, ou, ed) (q, Ted, Tdn, Tct, fd, sk, (rs_or sf sk)))]) 0 ((oo, aa, bb, cc0, k), (Tr, Tpl, Tla, Tdn, Tvi, Tde, Tct, Ten, Tou, Ted), (sk, sf), b, q)
        rw [za_ov1]
        exact ⟨hok, hb1, hb4, (r, pl, la, dn, vi, de, ct, en, ou, ed), fd, za_set_eq _ _ _, ms_set hin _⟩
      · show ms_fr h (za_ov h [(142, mo_c (0, k, b) (r, pl, la, dn, vi, de, ct, en, ou, ed) (q, Ted, Tdn, Tct, fd, sk, (rs_or sf sk)))])
        rw [za_ov1]
        exact ms_fr1 h _
    by_cases x1 : x = 1
    · subst x1
      have e1 : sp_last ((oo, aa, bb, cc0, k), (Tr, Tpl, Tla, Tdn, Tvi, Tde, Tct, Ten, Tou, Ted), (sk, sf), b, q) 1 = (0, Tdn, ((oo, aa, bb, cc0, k), (Tr, Tpl, Tla, Tdn, Tvi, Tde, Tct, Ten, Tou, Ted), (sk, sf), b, q)) := by simp [sp_last, q1, tr_ed, tr_dn, tr_ct]
      rw [e1]
      refine za_tsw X 1 49 rfl (by decide) (by decide) (by decide) rfl (by decide) ?_
      iterate 2 refine za_step X rfl rfl rfl ?_
      refine za_iret X rfl ⟨rfl, ?_, ?_, rfl⟩ (Nat.le_refl _) (Nat.le_refl _)
      · show ms_at (za_ov h [(142, mo_c (0, k, b) (r, pl, la, dn, vi, de, ct, en, ou, ed) (q, Ted, Tdn, Tct, fd, sk, (rs_or sf sk)))]) 0 ((oo, aa, bb, cc0, k), (Tr, Tpl, Tla, Tdn, Tvi, Tde, Tct, Ten, Tou, Ted), (sk, sf), b, q)
        rw [za_ov1]
        exact ⟨hok, hb1, hb4, (r, pl, la, dn, vi, de, ct, en, ou, ed), fd, za_set_eq _ _ _, ms_set hin _⟩
      · show ms_fr h (za_ov h [(142, mo_c (0, k, b) (r, pl, la, dn, vi, de, ct, en, ou, ed) (q, Ted, Tdn, Tct, fd, sk, (rs_or sf sk)))])
        rw [za_ov1]
        exact ms_fr1 h _
    by_cases x2 : x = 2
    · subst x2
      have e1 : sp_last ((oo, aa, bb, cc0, k), (Tr, Tpl, Tla, Tdn, Tvi, Tde, Tct, Ten, Tou, Ted), (sk, sf), b, q) 2 = (0, Tct, ((oo, aa, bb, cc0, k), (Tr, Tpl, Tla, Tdn, Tvi, Tde, Tct, Ten, Tou, Ted), (sk, sf), b, q)) := by simp [sp_last, q1, tr_ed, tr_dn, tr_ct]
      rw [e1]
      refine za_tsw X 2 54 rfl (by decide) (by decide) (by decide) rfl (by decide) ?_
      iterate 2 refine za_step X rfl rfl rfl ?_
      refine za_iret X rfl ⟨rfl, ?_, ?_, rfl⟩ (Nat.le_refl _) (Nat.le_refl _)
      · show ms_at (za_ov h [(142, mo_c (0, k, b) (r, pl, la, dn, vi, de, ct, en, ou, ed) (q, Ted, Tdn, Tct, fd, sk, (rs_or sf sk)))]) 0 ((oo, aa, bb, cc0, k), (Tr, Tpl, Tla, Tdn, Tvi, Tde, Tct, Ten, Tou, Ted), (sk, sf), b, q)
        rw [za_ov1]
        exact ⟨hok, hb1, hb4, (r, pl, la, dn, vi, de, ct, en, ou, ed), fd, za_set_eq _ _ _, ms_set hin _⟩
      · show ms_fr h (za_ov h [(142, mo_c (0, k, b) (r, pl, la, dn, vi, de, ct, en, ou, ed) (q, Ted, Tdn, Tct, fd, sk, (rs_or sf sk)))])
        rw [za_ov1]
        exact ms_fr1 h _
    
    have e1 : sp_last ((oo, aa, bb, cc0, k), (Tr, Tpl, Tla, Tdn, Tvi, Tde, Tct, Ten, Tou, Ted), (sk, sf), b, q) x = (2, 0, ((oo, aa, bb, cc0, k), (Tr, Tpl, Tla, Tdn, Tvi, Tde, Tct, Ten, Tou, Ted), (sk, sf), b, q)) := by simp [sp_last, q1, x0, x1, x2]
    refine za_tsd X 59 rfl (ts_o (hi := 2) (fun i h1 h2 => by rcases (show i = 0 ∨ i = 1 ∨ i = 2 by omega) with rfl | rfl | rfl <;> first | exact x0 | exact x1 | exact x2)) (by decide) ?_
    rw [e1]
    iterate 2 refine za_step X rfl rfl rfl ?_
    refine za_callV (b := 142) (d := 0) (mc := 0) (ms := 0) (as := [vI 2]) (rest := []) X rfl cl_M_M_raise cy_M_raise cv_M_raise (c_M_raise l D (za_ov h [(142, mo_c (0, k, b) (r, pl, la, dn, vi, de, ct, en, ou, ed) (q, Ted, Tdn, Tct, fd, sk, (rs_or sf sk)))]) n (0, k, b) (r, pl, la, dn, vi, de, ct, en, ou, ed) (q, Ted, Tdn, Tct, fd, sk, (rs_or sf sk)) rfl 2) rfl rfl rfl rfl (Nat.le_of_ble_eq_true rfl) (Nat.le_of_ble_eq_true rfl) (Nat.le_of_ble_eq_true rfl) (Nat.le_of_ble_eq_true rfl) (Nat.le_of_ble_eq_true rfl) (fun v h' n' hq => ?_)
    obtain ⟨rfl, rfl, rfl⟩ := hq
    refine za_iret X rfl ⟨rfl, ?_, ?_, rfl⟩ (Nat.le_refl _) (Nat.le_refl _)
    · show ms_at (za_ov (za_set (za_ov h [(142, mo_c (0, k, b) (r, pl, la, dn, vi, de, ct, en, ou, ed) (q, Ted, Tdn, Tct, fd, sk, (rs_or sf sk)))]) 142 (mo_c (2, k, b) (r, pl, la, dn, vi, de, ct, en, ou, ed) (q, Ted, Tdn, Tct, fd, sk, (rs_or sf sk)))) []) 2 ((oo, aa, bb, cc0, k), (Tr, Tpl, Tla, Tdn, Tvi, Tde, Tct, Ten, Tou, Ted), (sk, sf), b, q)
      rw [za_ov11]
      exact ⟨hok, hb1, hb4, (r, pl, la, dn, vi, de, ct, en, ou, ed), fd, za_set_eq _ _ _, ms_set hin _⟩
    · show ms_fr h (za_ov (za_set (za_ov h [(142, mo_c (0, k, b) (r, pl, la, dn, vi, de, ct, en, ou, ed) (q, Ted, Tdn, Tct, fd, sk, (rs_or sf sk)))]) 142 (mo_c (2, k, b) (r, pl, la, dn, vi, de, ct, en, ou, ed) (q, Ted, Tdn, Tct, fd, sk, (rs_or sf sk)))) [])
      rw [za_ov11]
      exact ms_fr1 h _
  · have e1 : sp_last ((oo, aa, bb, cc0, k), (Tr, Tpl, Tla, Tdn, Tvi, Tde, Tct, Ten, Tou, Ted), (sk, sf), b, q) x = (1, 0, ((oo, aa, bb, cc0, k), (Tr, Tpl, Tla, Tdn, Tvi, Tde, Tct, Ten, Tou, Ted), (sk, sf), b, q)) := if_pos q1
    rw [e1]
    iterate 2 refine za_step X rfl rfl rfl ?_
    refine za_callV (b := 142) (d := 0) (mc := 0) (ms := 0) (as := [vI 1]) (rest := []) X rfl cl_M_M_raise cy_M_raise cv_M_raise (c_M_raise l D (za_ov h [(142, mo_c (0, k, b) (r, pl, la, dn, vi, de, ct, en, ou, ed) (q, Ted, Tdn, Tct, fd, sk, (rs_or sf sk)))]) n (0, k, b) (r, pl, la, dn, vi, de, ct, en, ou, ed) (q, Ted, Tdn, Tct, fd, sk, (rs_or sf sk)) rfl 1) rfl rfl rfl rfl (Nat.le_of_ble_eq_true rfl) (Nat.le_of_ble_eq_true rfl) (Nat.le_of_ble_eq_true rfl) (Nat.le_of_ble_eq_true rfl) (Nat.le_of_ble_eq_true rfl) (fun v h' n' hq => ?_)
    obtain ⟨rfl, rfl, rfl⟩ := hq
    refine za_iret X rfl ⟨rfl, ?_, ?_, rfl⟩ (Nat.le_refl _) (Nat.le_refl _)
    · show ms_at (za_ov (za_set (za_ov h [(142, mo_c (0, k, b) (r, pl, la, dn, vi, de, ct, en, ou, ed) (q, Ted, Tdn, Tct, fd, sk, (rs_or sf sk)))]) 142 (mo_c (1, k, b) (r, pl, la, dn, vi, de, ct, en, ou, ed) (q, Ted, Tdn, Tct, fd, sk, (rs_or sf sk)))) []) 1 ((oo, aa, bb, cc0, k), (Tr, Tpl, Tla, Tdn, Tvi, Tde, Tct, Ten, Tou, Ted), (sk, sf), b, q)
      rw [za_ov11]
      exact ⟨hok, hb1, hb4, (r, pl, la, dn, vi, de, ct, en, ou, ed), fd, za_set_eq _ _ _, ms_set hin _⟩
    · show ms_fr h (za_ov (za_set (za_ov h [(142, mo_c (0, k, b) (r, pl, la, dn, vi, de, ct, en, ou, ed) (q, Ted, Tdn, Tct, fd, sk, (rs_or sf sk)))]) 142 (mo_c (1, k, b) (r, pl, la, dn, vi, de, ct, en, ou, ed) (q, Ted, Tdn, Tct, fd, sk, (rs_or sf sk)))) [])
      rw [za_ov11]
      exact ms_fr1 h _
set_option maxHeartbeats 4000000 in
set_option maxRecDepth 100000 in
theorem c_M_count (l : Launch) (D : za_D) (h : za_H) (n : Nat) (th : Int32) (σ : fs_T) (hσ : ms_at h th σ) (x : Int32) : za_M l D Y_M_count 3 0 0 [vR 142, vI x] h n (ms_ps h n (sp_count σ x)) := by
  obtain ⟨P, T, S, b, q⟩ := σ
  obtain ⟨hok, hb1, hb4, G, fd, hM, hin⟩ := hσ
  obtain ⟨oo, aa, bb, cc0, k⟩ := P
  obtain ⟨Tr, Tpl, Tla, Tdn, Tvi, Tde, Tct, Ten, Tou, Ted⟩ := T
  obtain ⟨r, pl, la, dn, vi, de, ct, en, ou, ed⟩ := G
  obtain ⟨sk, sf⟩ := S
  refine za_enter cd_M_count fl_M (by decide) cdok_M_count flok_M (Nat.le_of_ble_eq_true rfl) ?_
  intro p e s m args below meth c X hnm
  refine za_view [(142, mo_c (th, k, b) (r, pl, la, dn, vi, de, ct, en, ou, ed) (q, Ted, Tdn, Tct, fd, sk, (rs_or sf sk)))] (by simp [show h 142 = some (mo_c (th, k, b) (r, pl, la, dn, vi, de, ct, en, ou, ed) (q, Ted, Tdn, Tct, fd, sk, (rs_or sf sk))) from hM]) ?_
  iterate 4 refine za_step X rfl rfl rfl ?_
  by_cases x0 : x = 0
  · subst x0
    have e1 : sp_count ((oo, aa, bb, cc0, k), (Tr, Tpl, Tla, Tdn, Tvi, Tde, Tct, Ten, Tou, Ted), (sk, sf), b, q) 0 = (0, nI k, ((oo, aa, bb, cc0, k), (Tr, Tpl, Tla, Tdn, Tvi, Tde, Tct, Ten, Tou, Ted), (sk, sf), b, q)) := by simp [sp_count]
    rw [e1]
    refine za_tsw X 0 36 rfl (by decide) (by decide) (by decide) rfl (by decide) ?_
    iterate 2 refine za_step X rfl rfl rfl ?_
    refine za_iret X rfl ⟨rfl, ?_, ?_, rfl⟩ (Nat.le_refl _) (Nat.le_refl _)
    · show ms_at (za_ov h [(142, mo_c (0, k, b) (r, pl, la, dn, vi, de, ct, en, ou, ed) (q, Ted, Tdn, Tct, fd, sk, (rs_or sf sk)))]) 0 ((oo, aa, bb, cc0, k), (Tr, Tpl, Tla, Tdn, Tvi, Tde, Tct, Ten, Tou, Ted), (sk, sf), b, q)
      rw [za_ov1]
      exact ⟨hok, hb1, hb4, (r, pl, la, dn, vi, de, ct, en, ou, ed), fd, za_set_eq _ _ _, ms_set hin _⟩
    · show ms_fr h (za_ov h [(142, mo_c (0, k, b) (r, pl, la, dn, vi, de, ct, en, ou, ed) (q, Ted, Tdn, Tct, fd, sk, (rs_or sf sk)))])
      rw [za_ov1]
      exact ms_fr1 h _
  by_cases x1 : x = 1
  · subst x1
    have e1 : sp_count ((oo, aa, bb, cc0, k), (Tr, Tpl, Tla, Tdn, Tvi, Tde, Tct, Ten, Tou, Ted), (sk, sf), b, q) 1 = (0, nI b, ((oo, aa, bb, cc0, k), (Tr, Tpl, Tla, Tdn, Tvi, Tde, Tct, Ten, Tou, Ted), (sk, sf), b, q)) := by simp [sp_count]
    rw [e1]
    refine za_tsw X 1 41 rfl (by decide) (by decide) (by decide) rfl (by decide) ?_
    iterate 2 refine za_step X rfl rfl rfl ?_
    refine za_iret X rfl ⟨rfl, ?_, ?_, rfl⟩ (Nat.le_refl _) (Nat.le_refl _)
    · show ms_at (za_ov h [(142, mo_c (0, k, b) (r, pl, la, dn, vi, de, ct, en, ou, ed) (q, Ted, Tdn, Tct, fd, sk, (rs_or sf sk)))]) 0 ((oo, aa, bb, cc0, k), (Tr, Tpl, Tla, Tdn, Tvi, Tde, Tct, Ten, Tou, Ted), (sk, sf), b, q)
      rw [za_ov1]
      exact ⟨hok, hb1, hb4, (r, pl, la, dn, vi, de, ct, en, ou, ed), fd, za_set_eq _ _ _, ms_set hin _⟩
    · show ms_fr h (za_ov h [(142, mo_c (0, k, b) (r, pl, la, dn, vi, de, ct, en, ou, ed) (q, Ted, Tdn, Tct, fd, sk, (rs_or sf sk)))])
      rw [za_ov1]
      exact ms_fr1 h _
  by_cases x2 : x = 2
  · subst x2
    have e1 : sp_count ((oo, aa, bb, cc0, k), (Tr, Tpl, Tla, Tdn, Tvi, Tde, Tct, Ten, Tou, Ted), (sk, sf), b, q) 2 = (0, nI sk, ((oo, aa, bb, cc0, k), (Tr, Tpl, Tla, Tdn, Tvi, Tde, Tct, Ten, Tou, Ted), (sk, sf), b, q)) := by simp [sp_count]
    rw [e1]
    refine za_tsw X 2 46 rfl (by decide) (by decide) (by decide) rfl (by decide) ?_
    iterate 2 refine za_step X rfl rfl rfl ?_
    refine za_iret X rfl ⟨rfl, ?_, ?_, rfl⟩ (Nat.le_refl _) (Nat.le_refl _)
    · show ms_at (za_ov h [(142, mo_c (0, k, b) (r, pl, la, dn, vi, de, ct, en, ou, ed) (q, Ted, Tdn, Tct, fd, sk, (rs_or sf sk)))]) 0 ((oo, aa, bb, cc0, k), (Tr, Tpl, Tla, Tdn, Tvi, Tde, Tct, Ten, Tou, Ted), (sk, sf), b, q)
      rw [za_ov1]
      exact ⟨hok, hb1, hb4, (r, pl, la, dn, vi, de, ct, en, ou, ed), fd, za_set_eq _ _ _, ms_set hin _⟩
    · show ms_fr h (za_ov h [(142, mo_c (0, k, b) (r, pl, la, dn, vi, de, ct, en, ou, ed) (q, Ted, Tdn, Tct, fd, sk, (rs_or sf sk)))])
      rw [za_ov1]
      exact ms_fr1 h _
  by_cases x3 : x = 3
  · subst x3
    have e1 : sp_count ((oo, aa, bb, cc0, k), (Tr, Tpl, Tla, Tdn, Tvi, Tde, Tct, Ten, Tou, Ted), (sk, sf), b, q) 3 = (0, q, ((oo, aa, bb, cc0, k), (Tr, Tpl, Tla, Tdn, Tvi, Tde, Tct, Ten, Tou, Ted), (sk, sf), b, q)) := by simp [sp_count]
    rw [e1]
    refine za_tsw X 3 51 rfl (by decide) (by decide) (by decide) rfl (by decide) ?_
    iterate 2 refine za_step X rfl rfl rfl ?_
    refine za_iret X rfl ⟨rfl, ?_, ?_, rfl⟩ (Nat.le_refl _) (Nat.le_refl _)
    · show ms_at (za_ov h [(142, mo_c (0, k, b) (r, pl, la, dn, vi, de, ct, en, ou, ed) (q, Ted, Tdn, Tct, fd, sk, (rs_or sf sk)))]) 0 ((oo, aa, bb, cc0, k), (Tr, Tpl, Tla, Tdn, Tvi, Tde, Tct, Ten, Tou, Ted), (sk, sf), b, q)
      rw [za_ov1]
      exact ⟨hok, hb1, hb4, (r, pl, la, dn, vi, de, ct, en, ou, ed), fd, za_set_eq _ _ _, ms_set hin _⟩
    · show ms_fr h (za_ov h [(142, mo_c (0, k, b) (r, pl, la, dn, vi, de, ct, en, ou, ed) (q, Ted, Tdn, Tct, fd, sk, (rs_or sf sk)))])
      rw [za_ov1]
      exact ms_fr1 h _
  
  have e1 : sp_count ((oo, aa, bb, cc0, k), (Tr, Tpl, Tla, Tdn, Tvi, Tde, Tct, Ten, Tou, Ted), (sk, sf), b, q) x = (1, 0, ((oo, aa, bb, cc0, k), (Tr, Tpl, Tla, Tdn, Tvi, Tde, Tct, Ten, Tou, Ted), (sk, sf), b, q)) := by simp [sp_count, x0, x1, x2, x3]
  refine za_tsd X 56 rfl (ts_o (hi := 3) (fun i h1 h2 => by rcases (show i = 0 ∨ i = 1 ∨ i = 2 ∨ i = 3 by omega) with rfl | rfl | rfl | rfl <;> first | exact x0 | exact x1 | exact x2 | exact x3)) (by decide) ?_
  rw [e1]
  iterate 2 refine za_step X rfl rfl rfl ?_
  refine za_callV (b := 142) (d := 0) (mc := 0) (ms := 0) (as := [vI 1]) (rest := []) X rfl cl_M_M_raise cy_M_raise cv_M_raise (c_M_raise l D (za_ov h [(142, mo_c (0, k, b) (r, pl, la, dn, vi, de, ct, en, ou, ed) (q, Ted, Tdn, Tct, fd, sk, (rs_or sf sk)))]) n (0, k, b) (r, pl, la, dn, vi, de, ct, en, ou, ed) (q, Ted, Tdn, Tct, fd, sk, (rs_or sf sk)) rfl 1) rfl rfl rfl rfl (Nat.le_of_ble_eq_true rfl) (Nat.le_of_ble_eq_true rfl) (Nat.le_of_ble_eq_true rfl) (Nat.le_of_ble_eq_true rfl) (Nat.le_of_ble_eq_true rfl) (fun v h' n' hq => ?_)
  obtain ⟨rfl, rfl, rfl⟩ := hq
  refine za_iret X rfl ⟨rfl, ?_, ?_, rfl⟩ (Nat.le_refl _) (Nat.le_refl _)
  · show ms_at (za_ov (za_set (za_ov h [(142, mo_c (0, k, b) (r, pl, la, dn, vi, de, ct, en, ou, ed) (q, Ted, Tdn, Tct, fd, sk, (rs_or sf sk)))]) 142 (mo_c (1, k, b) (r, pl, la, dn, vi, de, ct, en, ou, ed) (q, Ted, Tdn, Tct, fd, sk, (rs_or sf sk)))) []) 1 ((oo, aa, bb, cc0, k), (Tr, Tpl, Tla, Tdn, Tvi, Tde, Tct, Ten, Tou, Ted), (sk, sf), b, q)
    rw [za_ov11]
    exact ⟨hok, hb1, hb4, (r, pl, la, dn, vi, de, ct, en, ou, ed), fd, za_set_eq _ _ _, ms_set hin _⟩
  · show ms_fr h (za_ov (za_set (za_ov h [(142, mo_c (0, k, b) (r, pl, la, dn, vi, de, ct, en, ou, ed) (q, Ted, Tdn, Tct, fd, sk, (rs_or sf sk)))]) 142 (mo_c (1, k, b) (r, pl, la, dn, vi, de, ct, en, ou, ed) (q, Ted, Tdn, Tct, fd, sk, (rs_or sf sk)))) [])
    rw [za_ov11]
    exact ms_fr1 h _
def sp_covered (σ : fs_T) : Nat × Int32 × fs_T := (0, rs_or σ.2.2.1.2 σ.2.2.1.1, σ)
set_option maxHeartbeats 4000000 in
set_option maxRecDepth 100000 in
theorem c_M_covered (l : Launch) (D : za_D) (h : za_H) (n : Nat) (th : Int32) (σ : fs_T) (hσ : ms_at h th σ)  : za_M l D Y_M_covered 3 0 0 [vR 142] h n (ms_ps h n (sp_covered σ)) := by
  obtain ⟨P, T, S, b, q⟩ := σ
  obtain ⟨hok, hb1, hb4, G, fd, hM, hin⟩ := hσ
  obtain ⟨oo, aa, bb, cc0, k⟩ := P
  obtain ⟨Tr, Tpl, Tla, Tdn, Tvi, Tde, Tct, Ten, Tou, Ted⟩ := T
  obtain ⟨r, pl, la, dn, vi, de, ct, en, ou, ed⟩ := G
  obtain ⟨sk, sf⟩ := S
  refine za_enter cd_M_covered fl_M (by decide) cdok_M_covered flok_M (Nat.le_of_ble_eq_true rfl) ?_
  intro p e s m args below meth c X hnm
  refine za_view [(142, mo_c (th, k, b) (r, pl, la, dn, vi, de, ct, en, ou, ed) (q, Ted, Tdn, Tct, fd, sk, (rs_or sf sk)))] (by simp [show h 142 = some (mo_c (th, k, b) (r, pl, la, dn, vi, de, ct, en, ou, ed) (q, Ted, Tdn, Tct, fd, sk, (rs_or sf sk))) from hM]) ?_
  iterate 5 refine za_step X rfl rfl rfl ?_
  refine za_iret X rfl ⟨rfl, ?_, ?_, rfl⟩ (Nat.le_refl _) (Nat.le_refl _)
  · show ms_at (za_ov h [(142, mo_c (0, k, b) (r, pl, la, dn, vi, de, ct, en, ou, ed) (q, Ted, Tdn, Tct, fd, sk, (rs_or sf sk)))]) 0 ((oo, aa, bb, cc0, k), (Tr, Tpl, Tla, Tdn, Tvi, Tde, Tct, Ten, Tou, Ted), (sk, sf), b, q)
    rw [za_ov1]
    exact ⟨hok, hb1, hb4, (r, pl, la, dn, vi, de, ct, en, ou, ed), fd, za_set_eq _ _ _, ms_set hin _⟩
  · show ms_fr h (za_ov h [(142, mo_c (0, k, b) (r, pl, la, dn, vi, de, ct, en, ou, ed) (q, Ted, Tdn, Tct, fd, sk, (rs_or sf sk)))])
    rw [za_ov1]
    exact ms_fr1 h _
