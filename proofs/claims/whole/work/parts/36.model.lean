/-! THE MODEL'S CELLS: the model 142, op 143, ia 144, ib 145, ic 146, reg 147, its lists behind. thrown, size, width; a run; runs, last three, found, results, covered -/
abbrev ma_T : Type := Int32 × Nat × Nat
abbrev mz_T : Type := Int32 × Int32 × Int32 × Int32 × Nat × Nat × Int32
def mo_c : ma_T → tr_T → mz_T → za_C | (th, n0, b), (_, _, _, dn, vi, de, ct, _, ou, ed), (q0, ln, ld, lc, fd, rs, cv) => .inr (zn_M, [vI th, vR 143, vR 144, vR 145, vR 146, vI (nI n0), vI (nI b), vR 147, vI ou, vI ed, vI dn, vI vi, vL de, vI ct, vI q0, vI ln, vI ld, vI lc, vR 148, vR 149, vR 150, vR 151, vR 152, vR 153, vI (nI fd), vR 154, vR 155, vR 156, vR 157, vR 158, vI (nI rs), vI cv])
def mo_at (h : za_H) (A : ma_T) (G : tr_T) (Z : mz_T) : Prop := h 142 = some (mo_c A G Z) ∧ h 147 = some (tr_g G)
def mo_put (h : za_H) (A : ma_T) (G : tr_T) (Z : mz_T) : za_H := za_set (za_set h 147 (tr_g G)) 142 (mo_c A G Z)
theorem mo_ov (h : za_H) (A : ma_T) (G : tr_T) (Z : mz_T) : za_ov h [(142, mo_c A G Z), (147, tr_g G)] = mo_put h A G Z := za_ov2 h 142 147 _ _
theorem mo_put_at (h : za_H) (A : ma_T) (G : tr_T) (Z : mz_T) : mo_at (mo_put h A G Z) A G Z := ⟨za_set_eq _ _ _, by unfold mo_put; rw [za_set_ne (by omega), za_set_eq]⟩
theorem mo_put_ne {h : za_H} {A : ma_T} {G : tr_T} {Z : mz_T} {j : Nat} (h1 : j ≠ 142) (h2 : j ≠ 147) : mo_put h A G Z j = h j := by unfold mo_put; rw [za_set_ne h1, za_set_ne h2]
theorem mo_put_put (h : za_H) (A : ma_T) (G : tr_T) (Z : mz_T) (A' : ma_T) (G' : tr_T) (Z' : mz_T) : mo_put (mo_put h A G Z) A' G' Z' = mo_put h A' G' Z' := by
  funext j
  by_cases e1 : j = 142
  · subst e1; rw [(mo_put_at _ _ _ _).1, (mo_put_at _ _ _ _).1]
  · by_cases e2 : j = 147
    · subst e2; rw [(mo_put_at _ _ _ _).2, (mo_put_at _ _ _ _).2]
    · rw [mo_put_ne e1 e2, mo_put_ne e1 e2, mo_put_ne e1 e2]
theorem mo_put_same {h : za_H} {A : ma_T} {G : tr_T} {Z : mz_T} (e : mo_at h A G Z) : mo_put h A G Z = h := by
  unfold mo_put; rw [za_set_same e.2, za_set_same e.1]
theorem mo_bk (h : za_H) (c c' g : za_C) : za_ov h [(142, c'), (147, g)] = za_ov (za_set (za_ov h [(142, c), (147, g)]) 142 c') [] := by
  rw [za_ov2, za_ov2, za_ov_nil, za_set_set]
theorem mo_bp (h : za_H) (c g : za_C) (A : ma_T) (G : tr_T) (Z : mz_T) : za_ov h [(142, mo_c A G Z), (147, tr_g G)] = za_ov (mo_put (za_ov h [(142, c), (147, g)]) A G Z) [] := by
  rw [za_ov_nil, za_ov2, za_ov2]
  unfold mo_put
  rw [za_set_comm (i := 142) (j := 147) (by omega), za_set_set, za_set_set]
def mp_at (h : za_H) : pr_T → Prop | (o, a, b, c, _) => h 143 = some (pr_g o) ∧ h 144 = some (pr_g a) ∧ h 145 = some (pr_g b) ∧ h 146 = some (pr_g c)
def mi_in (v lo hi : Int32) : Bool := decide (lo ≤ v) && decide (v ≤ hi)
theorem mi_up (v hi : Int32) : mi_in v 0 hi = pr_up hi v := rfl
set_option maxHeartbeats 4000000 in
set_option maxRecDepth 100000 in
theorem c_M_in (l : Launch) (D : za_D) (h : za_H) (n : Nat) (v0 lo hi : Int32) : za_M l D Y_M_in 0 0 0 [vI v0, vI lo, vI hi] h n (fun v h' n' => v = some (vI (bI (mi_in v0 lo hi))) ∧ h' = h ∧ n = n') := by
  refine za_enter cd_M_in fl_M (by decide) cdok_M_in flok_M (Nat.le_of_ble_eq_true rfl) ?_
  intro p e s m args below meth c X hnm
  iterate 2 refine za_step X rfl rfl rfl ?_
  refine za_iclt X 14 rfl (by decide) (fun h1 => ?_) (fun h1 => ?_)
  · iterate 1 refine za_step X rfl rfl rfl ?_
    exact za_zret X rfl (Or.inl rfl) ⟨by rw [show mi_in v0 lo hi = false from by simp [mi_in, Int32.not_le.mpr h1]]; rfl, rfl, rfl⟩ (Nat.le_refl _) (Nat.le_refl _)
  · iterate 2 refine za_step X rfl rfl rfl ?_
    refine za_icgt X 14 rfl (by decide) (fun h2 => ?_) (fun h2 => ?_)
    · iterate 1 refine za_step X rfl rfl rfl ?_
      exact za_zret X rfl (Or.inl rfl) ⟨by rw [show mi_in v0 lo hi = false from by simp [mi_in, Int32.not_le.mpr h2]]; rfl, rfl, rfl⟩ (Nat.le_refl _) (Nat.le_refl _)
    · iterate 2 refine za_step X rfl rfl rfl ?_
      exact za_zret X rfl (Or.inr rfl) ⟨by rw [show mi_in v0 lo hi = true from by simp [mi_in, Int32.not_lt.mp h1, Int32.not_lt.mp h2]]; rfl, rfl, rfl⟩ (Nat.le_refl _) (Nat.le_refl _)
def mf_2 (o1 b1 : Int32) : Bool := (!(mi_in o1 1 9 || decide (o1 = 11)) || mi_in b1 0 3) && (!(decide (o1 = 0)) || mi_in b1 0 255)
def mf_3 (o1 c1 : Int32) : Bool := (!(mi_in o1 1 6 || decide (o1 = 11)) || mi_in c1 0 3) && (!(decide (o1 = 7)) || mi_in c1 0 7)
def mf_4 (o1 c1 : Int32) : Bool := !(mi_in o1 8 10) || mi_in c1 0 24
def mi_fits (o1 a1 b1 c1 : Int32) : Bool := (mi_in o1 0 13 && (decide (o1 = 10) || mi_in a1 0 3)) && (mf_2 o1 b1 && (mf_3 o1 c1 && mf_4 o1 c1))
set_option maxHeartbeats 4000000 in
set_option maxRecDepth 100000 in
theorem c_M_fits (l : Launch) (D : za_D) (h : za_H) (n : Nat) (o1 a1 b1 c1 : Int32) : za_M l D Y_M_fits 1 0 0 [vI o1, vI a1, vI b1, vI c1] h n (fun v h' n' => v = some (vI (bI (mi_fits o1 a1 b1 c1))) ∧ h' = h ∧ n = n') := by
  refine za_enter cd_M_fits fl_M (by decide) cdok_M_fits flok_M (Nat.le_of_ble_eq_true rfl) ?_
  intro p e s m args below meth c X hnm
  have at112 : mi_fits o1 a1 b1 c1 = mf_4 o1 c1 → za_W p l e (za_rm 1 0 0) s m args below meth c D 4 (MQ below (za_Q D (fun v h' n' => v = some (vI (bI (mi_fits o1 a1 b1 c1))) ∧ h' = h ∧ n = n')) args s 0 0 (fun q : Nat => D.2.2 ≤ q)) h n 0 0 112 [(0, vI o1), (1, vI a1), (2, vI b1), (3, vI c1)] [] [] := by
    intro hE
    iterate 3 refine za_step X rfl rfl rfl ?_
    refine za_callS X rfl cl_M_M_in cy_M_in cs_M_in (c_M_in l D _ n o1 8 10) rfl rfl (Nat.le_of_ble_eq_true rfl) (Nat.le_of_ble_eq_true rfl) (Nat.le_of_ble_eq_true rfl) (Nat.le_of_ble_eq_true rfl) (Nat.le_of_ble_eq_true rfl) (fun v h' n' hq => ?_)
    obtain ⟨rfl, rfl, rfl⟩ := hq
    refine za_look (h1 := h) (v1 := []) rfl ?_
    refine za_ifeq X 133 rfl (by decide) (fun q1 => ?_) (fun q1 => ?_)
    · have f1 := bI_0 q1
      iterate 2 refine za_step X rfl rfl rfl ?_
      exact za_zret X rfl (Or.inr rfl) ⟨by rw [show mi_fits o1 a1 b1 c1 = true from by rw [hE]; simp [mf_4, f1]]; rfl, rfl, rfl⟩ (Nat.le_refl _) (Nat.le_refl _)
    · have f1 := bI_n0 q1
      iterate 3 refine za_step X rfl rfl rfl ?_
      refine za_callS X rfl cl_M_M_in cy_M_in cs_M_in (c_M_in l D _ n c1 0 24) rfl rfl (Nat.le_of_ble_eq_true rfl) (Nat.le_of_ble_eq_true rfl) (Nat.le_of_ble_eq_true rfl) (Nat.le_of_ble_eq_true rfl) (Nat.le_of_ble_eq_true rfl) (fun v h' n' hq => ?_)
      obtain ⟨rfl, rfl, rfl⟩ := hq
      refine za_look (h1 := h) (v1 := []) rfl ?_
      refine za_ifeq X 137 rfl (by decide) (fun q2 => ?_) (fun q2 => ?_)
      · have f2 := bI_0 q2
        iterate 1 refine za_step X rfl rfl rfl ?_
        exact za_zret X rfl (Or.inl rfl) ⟨by rw [show mi_fits o1 a1 b1 c1 = false from by rw [hE]; simp [mf_4, f1, f2]]; rfl, rfl, rfl⟩ (Nat.le_refl _) (Nat.le_refl _)
      · have f2 := bI_n0 q2
        iterate 2 refine za_step X rfl rfl rfl ?_
        exact za_zret X rfl (Or.inr rfl) ⟨by rw [show mi_fits o1 a1 b1 c1 = true from by rw [hE]; simp [mf_4, f2]]; rfl, rfl, rfl⟩ (Nat.le_refl _) (Nat.le_refl _)
  have at94 : mi_fits o1 a1 b1 c1 = (mf_3 o1 c1 && mf_4 o1 c1) → (!(mi_in o1 1 6 || decide (o1 = 11)) || mi_in c1 0 3) = true → za_W p l e (za_rm 1 0 0) s m args below meth c D 4 (MQ below (za_Q D (fun v h' n' => v = some (vI (bI (mi_fits o1 a1 b1 c1))) ∧ h' = h ∧ n = n')) args s 0 0 (fun q : Nat => D.2.2 ≤ q)) h n 0 0 94 [(0, vI o1), (1, vI a1), (2, vI b1), (3, vI c1)] [] [] := by
    intro hE hA
    iterate 2 refine za_step X rfl rfl rfl ?_
    refine za_icne X 112 rfl (by decide) (fun q1 => ?_) (fun q1 => ?_)
    · have f1 : ¬ o1 = 7 := q1
      exact at112 (by rw [hE]; unfold mf_3; rw [hA]; simp [f1])
    · have f1 : o1 = 7 := q1
      iterate 3 refine za_step X rfl rfl rfl ?_
      refine za_callS X rfl cl_M_M_in cy_M_in cs_M_in (c_M_in l D _ n c1 0 7) rfl rfl (Nat.le_of_ble_eq_true rfl) (Nat.le_of_ble_eq_true rfl) (Nat.le_of_ble_eq_true rfl) (Nat.le_of_ble_eq_true rfl) (Nat.le_of_ble_eq_true rfl) (fun v h' n' hq => ?_)
      obtain ⟨rfl, rfl, rfl⟩ := hq
      refine za_look (h1 := h) (v1 := []) rfl ?_
      refine za_ifne X 112 rfl (by decide) (fun q2 => ?_) (fun q2 => ?_)
      · have f2 := bI_n0 q2
        exact at112 (by rw [hE]; unfold mf_3; rw [hA]; simp [f2])
      · have f2 := bI_0 q2
        iterate 1 refine za_step X rfl rfl rfl ?_
        exact za_zret X rfl (Or.inl rfl) ⟨by rw [show mi_fits o1 a1 b1 c1 = false from by rw [hE]; unfold mf_3; rw [hA]; simp [f1, f2]]; rfl, rfl, rfl⟩ (Nat.le_refl _) (Nat.le_refl _)
  have at85 : mi_fits o1 a1 b1 c1 = (mf_3 o1 c1 && mf_4 o1 c1) → (mi_in o1 1 6 || decide (o1 = 11)) = true → za_W p l e (za_rm 1 0 0) s m args below meth c D 4 (MQ below (za_Q D (fun v h' n' => v = some (vI (bI (mi_fits o1 a1 b1 c1))) ∧ h' = h ∧ n = n')) args s 0 0 (fun q : Nat => D.2.2 ≤ q)) h n 0 0 85 [(0, vI o1), (1, vI a1), (2, vI b1), (3, vI c1)] [] [] := by
    intro hE hA
    iterate 3 refine za_step X rfl rfl rfl ?_
    refine za_callS X rfl cl_M_M_in cy_M_in cs_M_in (c_M_in l D _ n c1 0 3) rfl rfl (Nat.le_of_ble_eq_true rfl) (Nat.le_of_ble_eq_true rfl) (Nat.le_of_ble_eq_true rfl) (Nat.le_of_ble_eq_true rfl) (Nat.le_of_ble_eq_true rfl) (fun v h' n' hq => ?_)
    obtain ⟨rfl, rfl, rfl⟩ := hq
    refine za_look (h1 := h) (v1 := []) rfl ?_
    refine za_ifeq X 110 rfl (by decide) (fun q1 => ?_) (fun q1 => ?_)
    · have f1 := bI_0 q1
      iterate 1 refine za_step X rfl rfl rfl ?_
      exact za_zret X rfl (Or.inl rfl) ⟨by rw [show mi_fits o1 a1 b1 c1 = false from by rw [hE]; unfold mf_3; rw [hA]; simp [f1]]; rfl, rfl, rfl⟩ (Nat.le_refl _) (Nat.le_refl _)
    · have f1 := bI_n0 q1
      exact at94 hE (by simp [f1])
  have at69 : mi_fits o1 a1 b1 c1 = (mf_3 o1 c1 && mf_4 o1 c1) → za_W p l e (za_rm 1 0 0) s m args below meth c D 4 (MQ below (za_Q D (fun v h' n' => v = some (vI (bI (mi_fits o1 a1 b1 c1))) ∧ h' = h ∧ n = n')) args s 0 0 (fun q : Nat => D.2.2 ≤ q)) h n 0 0 69 [(0, vI o1), (1, vI a1), (2, vI b1), (3, vI c1)] [] [] := by
    intro hE
    iterate 3 refine za_step X rfl rfl rfl ?_
    refine za_callS X rfl cl_M_M_in cy_M_in cs_M_in (c_M_in l D _ n o1 1 6) rfl rfl (Nat.le_of_ble_eq_true rfl) (Nat.le_of_ble_eq_true rfl) (Nat.le_of_ble_eq_true rfl) (Nat.le_of_ble_eq_true rfl) (Nat.le_of_ble_eq_true rfl) (fun v h' n' hq => ?_)
    obtain ⟨rfl, rfl, rfl⟩ := hq
    refine za_look (h1 := h) (v1 := []) rfl ?_
    refine za_ifne X 85 rfl (by decide) (fun q1 => ?_) (fun q1 => ?_)
    · exact at85 hE (by simp [bI_n0 q1])
    · iterate 2 refine za_step X rfl rfl rfl ?_
      refine za_icne X 94 rfl (by decide) (fun q2 => ?_) (fun q2 => ?_)
      · have f2 : ¬ o1 = 11 := q2
        exact at94 hE (by simp [bI_0 q1, f2])
      · have f2 : o1 = 11 := q2
        exact at85 hE (by simp [f2])
  have at52 : mi_fits o1 a1 b1 c1 = (mf_2 o1 b1 && (mf_3 o1 c1 && mf_4 o1 c1)) → (!(mi_in o1 1 9 || decide (o1 = 11)) || mi_in b1 0 3) = true → za_W p l e (za_rm 1 0 0) s m args below meth c D 4 (MQ below (za_Q D (fun v h' n' => v = some (vI (bI (mi_fits o1 a1 b1 c1))) ∧ h' = h ∧ n = n')) args s 0 0 (fun q : Nat => D.2.2 ≤ q)) h n 0 0 52 [(0, vI o1), (1, vI a1), (2, vI b1), (3, vI c1)] [] [] := by
    intro hE hA
    iterate 1 refine za_step X rfl rfl rfl ?_
    refine za_ifne X 69 rfl (by decide) (fun q1 => ?_) (fun q1 => ?_)
    · exact at69 (by rw [hE]; unfold mf_2; rw [hA]; simp [q1])
    · iterate 3 refine za_step X rfl rfl rfl ?_
      refine za_callS X rfl cl_M_M_in cy_M_in cs_M_in (c_M_in l D _ n b1 0 255) rfl rfl (Nat.le_of_ble_eq_true rfl) (Nat.le_of_ble_eq_true rfl) (Nat.le_of_ble_eq_true rfl) (Nat.le_of_ble_eq_true rfl) (Nat.le_of_ble_eq_true rfl) (fun v h' n' hq => ?_)
      obtain ⟨rfl, rfl, rfl⟩ := hq
      refine za_look (h1 := h) (v1 := []) rfl ?_
      refine za_ifne X 69 rfl (by decide) (fun q2 => ?_) (fun q2 => ?_)
      · exact at69 (by rw [hE]; unfold mf_2; rw [hA]; simp [bI_n0 q2])
      · iterate 1 refine za_step X rfl rfl rfl ?_
        exact za_zret X rfl (Or.inl rfl) ⟨by rw [show mi_fits o1 a1 b1 c1 = false from by rw [hE]; unfold mf_2; rw [hA]; simp [q1, bI_0 q2]]; rfl, rfl, rfl⟩ (Nat.le_refl _) (Nat.le_refl _)
  have at43 : mi_fits o1 a1 b1 c1 = (mf_2 o1 b1 && (mf_3 o1 c1 && mf_4 o1 c1)) → (mi_in o1 1 9 || decide (o1 = 11)) = true → za_W p l e (za_rm 1 0 0) s m args below meth c D 4 (MQ below (za_Q D (fun v h' n' => v = some (vI (bI (mi_fits o1 a1 b1 c1))) ∧ h' = h ∧ n = n')) args s 0 0 (fun q : Nat => D.2.2 ≤ q)) h n 0 0 43 [(0, vI o1), (1, vI a1), (2, vI b1), (3, vI c1)] [] [] := by
    intro hE hA
    iterate 3 refine za_step X rfl rfl rfl ?_
    refine za_callS X rfl cl_M_M_in cy_M_in cs_M_in (c_M_in l D _ n b1 0 3) rfl rfl (Nat.le_of_ble_eq_true rfl) (Nat.le_of_ble_eq_true rfl) (Nat.le_of_ble_eq_true rfl) (Nat.le_of_ble_eq_true rfl) (Nat.le_of_ble_eq_true rfl) (fun v h' n' hq => ?_)
    obtain ⟨rfl, rfl, rfl⟩ := hq
    refine za_look (h1 := h) (v1 := []) rfl ?_
    refine za_ifeq X 67 rfl (by decide) (fun q1 => ?_) (fun q1 => ?_)
    · iterate 1 refine za_step X rfl rfl rfl ?_
      exact za_zret X rfl (Or.inl rfl) ⟨by rw [show mi_fits o1 a1 b1 c1 = false from by rw [hE]; unfold mf_2; rw [hA]; simp [bI_0 q1]]; rfl, rfl, rfl⟩ (Nat.le_refl _) (Nat.le_refl _)
    · exact at52 hE (by simp [bI_n0 q1])
  have at27 : mi_fits o1 a1 b1 c1 = (mf_2 o1 b1 && (mf_3 o1 c1 && mf_4 o1 c1)) → za_W p l e (za_rm 1 0 0) s m args below meth c D 4 (MQ below (za_Q D (fun v h' n' => v = some (vI (bI (mi_fits o1 a1 b1 c1))) ∧ h' = h ∧ n = n')) args s 0 0 (fun q : Nat => D.2.2 ≤ q)) h n 0 0 27 [(0, vI o1), (1, vI a1), (2, vI b1), (3, vI c1)] [] [] := by
    intro hE
    iterate 3 refine za_step X rfl rfl rfl ?_
    refine za_callS X rfl cl_M_M_in cy_M_in cs_M_in (c_M_in l D _ n o1 1 9) rfl rfl (Nat.le_of_ble_eq_true rfl) (Nat.le_of_ble_eq_true rfl) (Nat.le_of_ble_eq_true rfl) (Nat.le_of_ble_eq_true rfl) (Nat.le_of_ble_eq_true rfl) (fun v h' n' hq => ?_)
    obtain ⟨rfl, rfl, rfl⟩ := hq
    refine za_look (h1 := h) (v1 := []) rfl ?_
    refine za_ifne X 43 rfl (by decide) (fun q1 => ?_) (fun q1 => ?_)
    · exact at43 hE (by simp [bI_n0 q1])
    · iterate 2 refine za_step X rfl rfl rfl ?_
      refine za_icne X 52 rfl (by decide) (fun q2 => ?_) (fun q2 => ?_)
      · have f2 : ¬ o1 = 11 := q2
        exact at52 hE (by simp [bI_0 q1, f2])
      · have f2 : o1 = 11 := q2
        exact at43 hE (by simp [f2])
  iterate 3 refine za_step X rfl rfl rfl ?_
  refine za_callS X rfl cl_M_M_in cy_M_in cs_M_in (c_M_in l D _ n o1 0 13) rfl rfl (Nat.le_of_ble_eq_true rfl) (Nat.le_of_ble_eq_true rfl) (Nat.le_of_ble_eq_true rfl) (Nat.le_of_ble_eq_true rfl) (Nat.le_of_ble_eq_true rfl) (fun v h' n' hq => ?_)
  obtain ⟨rfl, rfl, rfl⟩ := hq
  refine za_look (h1 := h) (v1 := []) rfl ?_
  refine za_ifeq X 25 rfl (by decide) (fun q1 => ?_) (fun q1 => ?_)
  · iterate 1 refine za_step X rfl rfl rfl ?_
    exact za_zret X rfl (Or.inl rfl) ⟨by rw [show mi_fits o1 a1 b1 c1 = false from by simp [mi_fits, bI_0 q1]]; rfl, rfl, rfl⟩ (Nat.le_refl _) (Nat.le_refl _)
  · iterate 2 refine za_step X rfl rfl rfl ?_
    refine za_iceq X 27 rfl (by decide) (fun q2 => ?_) (fun q2 => ?_)
    · have f2 : o1 = 10 := q2
      exact at27 (by unfold mi_fits; rw [bI_n0 q1]; simp [f2])
    · have f2 : ¬ o1 = 10 := q2
      iterate 3 refine za_step X rfl rfl rfl ?_
      refine za_callS X rfl cl_M_M_in cy_M_in cs_M_in (c_M_in l D _ n a1 0 3) rfl rfl (Nat.le_of_ble_eq_true rfl) (Nat.le_of_ble_eq_true rfl) (Nat.le_of_ble_eq_true rfl) (Nat.le_of_ble_eq_true rfl) (Nat.le_of_ble_eq_true rfl) (fun v h' n' hq => ?_)
      obtain ⟨rfl, rfl, rfl⟩ := hq
      refine za_look (h1 := h) (v1 := []) rfl ?_
      refine za_ifne X 27 rfl (by decide) (fun q3 => ?_) (fun q3 => ?_)
      · exact at27 (by unfold mi_fits; rw [bI_n0 q1, bI_n0 q3]; simp)
      · iterate 1 refine za_step X rfl rfl rfl ?_
        exact za_zret X rfl (Or.inl rfl) ⟨by rw [show mi_fits o1 a1 b1 c1 = false from by simp [mi_fits, f2, bI_0 q3]]; rfl, rfl, rfl⟩ (Nat.le_refl _) (Nat.le_refl _)
theorem mi_fits_al (o1 a1 b1 c1 : Int32) : mi_fits o1 a1 b1 c1 = pr_al o1 a1 b1 c1 := by
  have i3 : ∀ x : Int32, mi_in x 0 3 = pr_up 3 x := fun _ => rfl
  have i7 : ∀ x : Int32, mi_in x 0 7 = pr_up 7 x := fun _ => rfl
  have i24 : ∀ x : Int32, mi_in x 0 24 = pr_up 24 x := fun _ => rfl
  have i255 : ∀ x : Int32, mi_in x 0 255 = pr_up 255 x := fun _ => rfl
  rcases op_cases o1 with hop | rfl | rfl | rfl | rfl | rfl | rfl | rfl | rfl | rfl | rfl | rfl | rfl | rfl | rfl
  · rw [al_out hop]
    have : mi_in o1 0 13 = false := by
      unfold mi_in
      rcases hop with z | z
      · rw [decide_eq_false (fun q => absurd (Int32.le_iff_toInt_le.mp q) (by show ¬ (0 : Int) ≤ _; omega))]; rfl
      · rw [decide_eq_false (p := o1 ≤ 13) (fun q => absurd (Int32.le_iff_toInt_le.mp q) (by show ¬ _ ≤ (13 : Int); omega))]; simp
    simp [mi_fits, this]
  all_goals simp [mi_fits, mf_2, mf_3, mf_4, pr_al, i3, i7, i24, i255, show mi_in 0 0 13 = true from by decide, show mi_in 1 0 13 = true from by decide, show mi_in 2 0 13 = true from by decide, show mi_in 3 0 13 = true from by decide, show mi_in 4 0 13 = true from by decide, show mi_in 5 0 13 = true from by decide, show mi_in 6 0 13 = true from by decide, show mi_in 7 0 13 = true from by decide, show mi_in 8 0 13 = true from by decide, show mi_in 9 0 13 = true from by decide, show mi_in 10 0 13 = true from by decide, show mi_in 11 0 13 = true from by decide, show mi_in 12 0 13 = true from by decide, show mi_in 13 0 13 = true from by decide, show mi_in 0 1 9 = false from by decide, show mi_in 1 1 9 = true from by decide, show mi_in 2 1 9 = true from by decide, show mi_in 3 1 9 = true from by decide, show mi_in 4 1 9 = true from by decide, show mi_in 5 1 9 = true from by decide, show mi_in 6 1 9 = true from by decide, show mi_in 7 1 9 = true from by decide, show mi_in 8 1 9 = true from by decide, show mi_in 9 1 9 = true from by decide, show mi_in 10 1 9 = false from by decide, show mi_in 11 1 9 = false from by decide, show mi_in 12 1 9 = false from by decide, show mi_in 13 1 9 = false from by decide, show mi_in 0 1 6 = false from by decide, show mi_in 1 1 6 = true from by decide, show mi_in 2 1 6 = true from by decide, show mi_in 3 1 6 = true from by decide, show mi_in 4 1 6 = true from by decide, show mi_in 5 1 6 = true from by decide, show mi_in 6 1 6 = true from by decide, show mi_in 7 1 6 = false from by decide, show mi_in 8 1 6 = false from by decide, show mi_in 9 1 6 = false from by decide, show mi_in 10 1 6 = false from by decide, show mi_in 11 1 6 = false from by decide, show mi_in 12 1 6 = false from by decide, show mi_in 13 1 6 = false from by decide, show mi_in 0 8 10 = false from by decide, show mi_in 1 8 10 = false from by decide, show mi_in 2 8 10 = false from by decide, show mi_in 3 8 10 = false from by decide, show mi_in 4 8 10 = false from by decide, show mi_in 5 8 10 = false from by decide, show mi_in 6 8 10 = false from by decide, show mi_in 7 8 10 = false from by decide, show mi_in 8 8 10 = true from by decide, show mi_in 9 8 10 = true from by decide, show mi_in 10 8 10 = true from by decide, show mi_in 11 8 10 = false from by decide, show mi_in 12 8 10 = false from by decide, show mi_in 13 8 10 = false from by decide]
  all_goals (cases pr_up 3 a1 <;> simp)
set_option maxHeartbeats 4000000 in
set_option maxRecDepth 100000 in
theorem c_M_raise (l : Launch) (D : za_D) (h : za_H) (n : Nat) (A : ma_T) (G : tr_T) (Z : mz_T) (hM : h 142 = some (mo_c A G Z)) (x : Int32) : za_M l D Y_M_raise 0 0 0 [vR 142, vI x] h n (fun v h' n' => v = some (vI 0) ∧ h' = za_set h 142 (mo_c (x, A.2.1, A.2.2) G Z) ∧ n = n') := by
  obtain ⟨th, n0, b⟩ := A
  obtain ⟨r, pl, la, dn, vi, de, ct, en, ou, ed⟩ := G
  obtain ⟨q0, ln, ld, lc, fd, rs, cv⟩ := Z
  refine za_enter cd_M_raise fl_M (by decide) cdok_M_raise flok_M (Nat.le_of_ble_eq_true rfl) ?_
  intro p e s m args below meth c X hnm
  refine za_view [(142, mo_c (th, n0, b) (r, pl, la, dn, vi, de, ct, en, ou, ed) (q0, ln, ld, lc, fd, rs, cv))] (by simp [hM]) ?_
  iterate 4 refine za_step X rfl rfl rfl ?_
  exact za_iret X rfl ⟨rfl, za_ov1 h 142 (mo_c (x, n0, b) (r, pl, la, dn, vi, de, ct, en, ou, ed) (q0, ln, ld, lc, fd, rs, cv)), rfl⟩ (Nat.le_refl _) (Nat.le_refl _)
set_option maxHeartbeats 4000000 in
set_option maxRecDepth 100000 in
theorem c_M_thrown (l : Launch) (D : za_D) (h : za_H) (n : Nat) (A : ma_T) (G : tr_T) (Z : mz_T) (hM : h 142 = some (mo_c A G Z)) : za_M l D Y_M_thrown 0 0 0 [vR 142] h n (fun v h' n' => v = some (vI A.1) ∧ h' = h ∧ n = n') := by
  obtain ⟨th, n0, b⟩ := A
  obtain ⟨r, pl, la, dn, vi, de, ct, en, ou, ed⟩ := G
  obtain ⟨q0, ln, ld, lc, fd, rs, cv⟩ := Z
  refine za_enter cd_M_thrown fl_M (by decide) cdok_M_thrown flok_M (Nat.le_of_ble_eq_true rfl) ?_
  intro p e s m args below meth c X hnm
  refine za_view [(142, mo_c (th, n0, b) (r, pl, la, dn, vi, de, ct, en, ou, ed) (q0, ln, ld, lc, fd, rs, cv))] (by simp [hM]) ?_
  iterate 2 refine za_step X rfl rfl rfl ?_
  exact za_iret X rfl ⟨rfl, by rw [za_ov1, za_set_same hM], rfl⟩ (Nat.le_refl _) (Nat.le_refl _)
set_option maxHeartbeats 4000000 in
set_option maxRecDepth 100000 in
theorem c_M_decide (l : Launch) (D : za_D) (h : za_H) (n : Nat) (A : ma_T) (G : tr_T) (Z : mz_T) (hM : h 142 = some (mo_c A G Z)) (y : Bool) : za_M l D Y_M_decide 0 0 0 [vR 142, vI (bI y)] h n (fun v h' n' => v = some (vI (bI y)) ∧ h' = za_set h 142 (mo_c A (tr_dec G y) Z) ∧ n = n') := by
  obtain ⟨th, n0, b⟩ := A
  obtain ⟨r, pl, la, dn, vi, de, ct, en, ou, ed⟩ := G
  obtain ⟨q0, ln, ld, lc, fd, rs, cv⟩ := Z
  refine za_enter cd_M_decide fl_M (by decide) cdok_M_decide flok_M (Nat.le_of_ble_eq_true rfl) ?_
  intro p e s m args below meth c X hnm
  refine za_view [(142, mo_c (th, n0, b) (r, pl, la, dn, vi, de, ct, en, ou, ed) (q0, ln, ld, lc, fd, rs, cv))] (by simp [hM]) ?_
  iterate 1 refine za_step X rfl rfl rfl ?_
  refine za_ifeq X 22 rfl (by decide) (fun h1 => ?_) (fun h1 => ?_)
  · have hy := bI_0 h1
    subst hy
    iterate 7 refine za_step X rfl rfl rfl ?_
    exact za_zret X rfl (Or.inl rfl) ⟨rfl, za_ov1 h 142 (mo_c (th, n0, b) (tr_dec (r, pl, la, dn, vi, de, ct, en, ou, ed) false) (q0, ln, ld, lc, fd, rs, cv)), rfl⟩ (Nat.le_refl _) (Nat.le_refl _)
  · have hy := bI_n0 h1
    subst hy
    iterate 18 refine za_step X rfl rfl rfl ?_
    exact za_zret X rfl (Or.inr rfl) ⟨rfl, za_ov1 h 142 (mo_c (th, n0, b) (tr_dec (r, pl, la, dn, vi, de, ct, en, ou, ed) true) (q0, ln, ld, lc, fd, rs, cv)), rfl⟩ (Nat.le_refl _) (Nat.le_refl _)
set_option maxHeartbeats 4000000 in
set_option maxRecDepth 100000 in
theorem c_M_finish (l : Launch) (D : za_D) (h : za_H) (n : Nat) (A : ma_T) (G : tr_T) (Z : mz_T) (hM : h 142 = some (mo_c A G Z)) (x y : Int32) : za_M l D Y_M_finish 0 0 0 [vR 142, vI x, vI y] h n (fun v h' n' => v = none ∧ h' = za_set h 142 (mo_c A (tr_fin G x y) Z) ∧ n = n') := by
  obtain ⟨th, n0, b⟩ := A
  obtain ⟨r, pl, la, dn, vi, de, ct, en, ou, ed⟩ := G
  obtain ⟨q0, ln, ld, lc, fd, rs, cv⟩ := Z
  refine za_enter cd_M_finish fl_M (by decide) cdok_M_finish flok_M (Nat.le_of_ble_eq_true rfl) ?_
  intro p e s m args below meth c X hnm
  refine za_view [(142, mo_c (th, n0, b) (r, pl, la, dn, vi, de, ct, en, ou, ed) (q0, ln, ld, lc, fd, rs, cv))] (by simp [hM]) ?_
  iterate 6 refine za_step X rfl rfl rfl ?_
  exact za_vret X rfl ⟨rfl, za_ov1 h 142 (mo_c (th, n0, b) (tr_fin (r, pl, la, dn, vi, de, ct, en, ou, ed) x y) (q0, ln, ld, lc, fd, rs, cv)), rfl⟩ (Nat.le_refl _) (Nat.le_refl _)
set_option maxHeartbeats 4000000 in
set_option maxRecDepth 100000 in
theorem c_M_isInput (l : Launch) (D : za_D) (h : za_H) (n : Nat) (A : ma_T) (G : tr_T) (Z : mz_T) (hM : h 142 = some (mo_c A G Z)) (x : Int32) : za_M l D Y_M_isInput 1 0 0 [vR 142, vI x] h n (fun v h' n' => v = some (vI (bI (pr_up (in_lg A.2.2) x))) ∧ h' = h ∧ n = n') := by
  obtain ⟨th, n0, b⟩ := A
  obtain ⟨r, pl, la, dn, vi, de, ct, en, ou, ed⟩ := G
  obtain ⟨q0, ln, ld, lc, fd, rs, cv⟩ := Z
  refine za_enter cd_M_isInput fl_M (by decide) cdok_M_isInput flok_M (Nat.le_of_ble_eq_true rfl) ?_
  intro p e s m args below meth c X hnm
  refine za_view [(142, mo_c (th, n0, b) (r, pl, la, dn, vi, de, ct, en, ou, ed) (q0, ln, ld, lc, fd, rs, cv))] (by simp [hM]) ?_
  iterate 8 refine za_step X rfl rfl rfl ?_
  refine za_callS X rfl cl_M_M_in cy_M_in cs_M_in (c_M_in l D _ n x 0 (in_lg b)) rfl rfl (Nat.le_of_ble_eq_true rfl) (Nat.le_of_ble_eq_true rfl) (Nat.le_of_ble_eq_true rfl) (Nat.le_of_ble_eq_true rfl) (Nat.le_of_ble_eq_true rfl) (fun v h' n' hq => ?_)
  obtain ⟨rfl, rfl, rfl⟩ := hq
  refine za_look (h1 := h) (v1 := [(142, mo_c (th, n0, b) (r, pl, la, dn, vi, de, ct, en, ou, ed) (q0, ln, ld, lc, fd, rs, cv))]) rfl ?_
  exact za_zret X rfl (bI_01 _) ⟨rfl, by rw [za_ov1, za_set_same hM], rfl⟩ (Nat.le_refl _) (Nat.le_refl _)
def mw_ed (cc0 : Nat → Int32) (op x y k : Int32) : Int32 := if op = 7 then x >>> (cc0 k.toNatClampNeg &&& 31) else tr_com op x y
set_option maxHeartbeats 4000000 in
set_option maxRecDepth 100000 in
theorem c_M_worked (l : Launch) (D : za_D) (h : za_H) (n : Nat) (A : ma_T) (G : tr_T) (Z : mz_T) (hM : h 142 = some (mo_c A G Z)) (cc0 : Nat → Int32) (hC : h 146 = some (pr_g cc0)) (op x y k : Int32) (hk : vp_in k 24) (hop : op = 1 ∨ op = 2 ∨ op = 3 ∨ op = 4 ∨ op = 5 ∨ op = 6 ∨ op = 7) : za_M l D Y_M_worked 0 0 0 [vR 142, vI op, vI x, vI y, vI k] h n (fun v h' n' => v = some (vI (mw_ed cc0 op x y k)) ∧ h' = h ∧ n = n') := by
  obtain ⟨th, n0, b⟩ := A
  obtain ⟨r, pl, la, dn, vi, de, ct, en, ou, ed⟩ := G
  obtain ⟨q0, ln, ld, lc, fd, rs, cv⟩ := Z
  refine za_enter cd_M_worked fl_M (by decide) cdok_M_worked flok_M (Nat.le_of_ble_eq_true rfl) ?_
  intro p e s m args below meth c X hnm
  have hfin : za_ov h [(142, mo_c (th, n0, b) (r, pl, la, dn, vi, de, ct, en, ou, ed) (q0, ln, ld, lc, fd, rs, cv))] = h := by rw [za_ov1, za_set_same hM]
  refine za_view [(142, mo_c (th, n0, b) (r, pl, la, dn, vi, de, ct, en, ou, ed) (q0, ln, ld, lc, fd, rs, cv))] (by simp [hM]) ?_
  iterate 1 refine za_step X rfl rfl rfl ?_
  rcases hop with rfl | rfl | rfl | rfl | rfl | rfl | rfl
  · refine za_tsw X 1 40 rfl (by decide) (by decide) (by decide) rfl (by decide) ?_
    iterate 5 refine za_step X rfl rfl rfl ?_
    exact za_iret X rfl ⟨rfl, hfin, rfl⟩ (Nat.le_refl _) (Nat.le_refl _)
  · refine za_tsw X 2 48 rfl (by decide) (by decide) (by decide) rfl (by decide) ?_
    iterate 5 refine za_step X rfl rfl rfl ?_
    exact za_iret X rfl ⟨rfl, hfin, rfl⟩ (Nat.le_refl _) (Nat.le_refl _)
  · refine za_tsw X 3 56 rfl (by decide) (by decide) (by decide) rfl (by decide) ?_
    iterate 3 refine za_step X rfl rfl rfl ?_
    exact za_iret X rfl ⟨rfl, hfin, rfl⟩ (Nat.le_refl _) (Nat.le_refl _)
  · refine za_tsw X 4 60 rfl (by decide) (by decide) (by decide) rfl (by decide) ?_
    iterate 3 refine za_step X rfl rfl rfl ?_
    exact za_iret X rfl ⟨rfl, hfin, rfl⟩ (Nat.le_refl _) (Nat.le_refl _)
  · refine za_tsw X 5 64 rfl (by decide) (by decide) (by decide) rfl (by decide) ?_
    iterate 3 refine za_step X rfl rfl rfl ?_
    exact za_iret X rfl ⟨rfl, hfin, rfl⟩ (Nat.le_refl _) (Nat.le_refl _)
  · refine za_tsw X 6 68 rfl (by decide) (by decide) (by decide) rfl (by decide) ?_
    iterate 5 refine za_step X rfl rfl rfl ?_
    exact za_iret X rfl ⟨rfl, hfin, rfl⟩ (Nat.le_refl _) (Nat.le_refl _)
  · refine za_tsd X 76 rfl (by decide) (by decide) ?_
    iterate 4 refine za_step X rfl rfl rfl ?_
    refine za_iald X rfl hC rfl hk ?_
    iterate 1 refine za_step X rfl rfl rfl ?_
    exact za_iret X rfl ⟨rfl, hfin, rfl⟩ (Nat.le_refl _) (Nat.le_refl _)
