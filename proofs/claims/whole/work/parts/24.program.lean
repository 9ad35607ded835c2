set_option maxHeartbeats 4000000 in
set_option maxRecDepth 100000 in
theorem c_T_combine (l : Launch) (D : za_D) (h : za_H) (n : Nat) (op b x : Int32) (hop : op = 1 ∨ op = 2 ∨ op = 3 ∨ op = 4 ∨ op = 5 ∨ op = 6) : za_M l D Y_T_combine 0 0 0 [vI op, vI b, vI x] h n (fun v h' n' => v = some (vI (tr_com op b x)) ∧ h' = h ∧ n = n') := by
  refine za_enter cd_T_combine fl_T (by decide) cdok_T_combine flok_T (Nat.le_of_ble_eq_true rfl) ?_
  intro p e s m args below meth c X hnm
  have k255 : (Int16.ofInt 255).toInt32 = 255 := by decide
  iterate 1 refine za_step X rfl rfl rfl ?_
  rcases hop with rfl | rfl | rfl | rfl | rfl | rfl
  · refine za_tsw X 1 36 rfl (by decide) (by decide) (by decide) rfl (by decide) ?_
    iterate 5 refine za_step X rfl rfl rfl ?_
    exact za_iret X rfl ⟨by rw [k255]; rfl, rfl, rfl⟩ (Nat.le_refl _) (Nat.le_refl _)
  · refine za_tsw X 2 44 rfl (by decide) (by decide) (by decide) rfl (by decide) ?_
    iterate 5 refine za_step X rfl rfl rfl ?_
    exact za_iret X rfl ⟨by rw [k255]; rfl, rfl, rfl⟩ (Nat.le_refl _) (Nat.le_refl _)
  · refine za_tsw X 3 52 rfl (by decide) (by decide) (by decide) rfl (by decide) ?_
    iterate 3 refine za_step X rfl rfl rfl ?_
    exact za_iret X rfl ⟨by rfl, rfl, rfl⟩ (Nat.le_refl _) (Nat.le_refl _)
  · refine za_tsw X 4 56 rfl (by decide) (by decide) (by decide) rfl (by decide) ?_
    iterate 3 refine za_step X rfl rfl rfl ?_
    exact za_iret X rfl ⟨by rfl, rfl, rfl⟩ (Nat.le_refl _) (Nat.le_refl _)
  · refine za_tsw X 5 60 rfl (by decide) (by decide) (by decide) rfl (by decide) ?_
    iterate 3 refine za_step X rfl rfl rfl ?_
    exact za_iret X rfl ⟨by rfl, rfl, rfl⟩ (Nat.le_refl _) (Nat.le_refl _)
  · refine za_tsd X 64 rfl (by decide) (by decide) ?_
    iterate 5 refine za_step X rfl rfl rfl ?_
    exact za_iret X rfl ⟨by rw [k255]; rfl, rfl, rfl⟩ (Nat.le_refl _) (Nat.le_refl _)
theorem i32_of {x : Int32} {k : Nat} (h : x.toInt = (k : Int)) (hk : k < 2 ^ 31) : x = nI k := Int32.toInt_inj.mp (by rw [nI_toInt hk]; exact h)
theorem op_cases (x : Int32) : (x.toInt < 0 ∨ 13 < x.toInt) ∨ x = 0 ∨ x = 1 ∨ x = 2 ∨ x = 3 ∨ x = 4 ∨ x = 5 ∨ x = 6 ∨ x = 7 ∨ x = 8 ∨ x = 9 ∨ x = 10 ∨ x = 11 ∨ x = 12 ∨ x = 13 := by
  by_cases h : x.toInt < 0 ∨ 13 < x.toInt
  · exact Or.inl h
  · right
    obtain ⟨k, hk⟩ : ∃ k : Nat, x.toInt = (k : Int) := ⟨x.toInt.toNat, by omega⟩
    have hk2 : k ≤ 13 := by omega
    have e := i32_of hk (by omega)
    subst e
    rcases (show k = 0 ∨ k = 1 ∨ k = 2 ∨ k = 3 ∨ k = 4 ∨ k = 5 ∨ k = 6 ∨ k = 7 ∨ k = 8 ∨ k = 9 ∨ k = 10 ∨ k = 11 ∨ k = 12 ∨ k = 13 by omega) with rfl | rfl | rfl | rfl | rfl | rfl | rfl | rfl | rfl | rfl | rfl | rfl | rfl | rfl <;> decide
theorem al_out {op a b c : Int32} (h : op.toInt < 0 ∨ 13 < op.toInt) : pr_al op a b c = false := by
  have ne : ∀ k : Int32, 0 ≤ k.toInt → k.toInt ≤ 13 → op ≠ k := by
    intro k h1 h2 e
    subst e
    omega
  have n0 := ne 0 (by decide) (by decide)
  have n1 := ne 1 (by decide) (by decide)
  have n2 := ne 2 (by decide) (by decide)
  have n3 := ne 3 (by decide) (by decide)
  have n4 := ne 4 (by decide) (by decide)
  have n5 := ne 5 (by decide) (by decide)
  have n6 := ne 6 (by decide) (by decide)
  have n7 := ne 7 (by decide) (by decide)
  have n8 := ne 8 (by decide) (by decide)
  have n9 := ne 9 (by decide) (by decide)
  have n10 := ne 10 (by decide) (by decide)
  have n11 := ne 11 (by decide) (by decide)
  have n12 := ne 12 (by decide) (by decide)
  have n13 := ne 13 (by decide) (by decide)
  simp [pr_al, n0, n1, n2, n3, n4, n5, n6, n7, n8, n9, n10, n11, n12, n13]
set_option maxHeartbeats 4000000 in
set_option maxRecDepth 100000 in
theorem c_P_allows (l : Launch) (D : za_D) (h : za_H) (n : Nat) (op a b x : Int32) : za_M l D Y_P_allows 2 0 0 [vI op, vI a, vI b, vI x] h n (fun v h' n' => v = some (vI (bI (pr_al op a b x))) ∧ h' = h ∧ n = n') := by
  refine za_enter cd_P_allows fl_P (by decide) cdok_P_allows flok_P (Nat.le_of_ble_eq_true rfl) ?_
  intro p e s m args below meth c X hnm
  iterate 1 refine za_step X rfl rfl rfl ?_
  rcases op_cases op with hop | rfl | rfl | rfl | rfl | rfl | rfl | rfl | rfl | rfl | rfl | rfl | rfl | rfl | rfl
  · refine za_tsd X 192 rfl hop (by decide) ?_
    iterate 1 refine za_step X rfl rfl rfl ?_
    exact za_zret X rfl (Or.inl rfl) ⟨by rw [al_out hop]; rfl, rfl, rfl⟩ (Nat.le_refl _) (Nat.le_refl _)
  · refine za_tsw X 0 72 rfl (by decide) (by decide) (by decide) rfl (by decide) ?_
    iterate 1 refine za_step X rfl rfl rfl ?_
    refine za_callS X rfl cl_P_P_isRegister cy_P_isRegister cs_P_isRegister (c_P_isRegister l D _ n a) rfl rfl (Nat.le_of_ble_eq_true rfl) (Nat.le_of_ble_eq_true rfl) (Nat.le_of_ble_eq_true rfl) (Nat.le_of_ble_eq_true rfl) (Nat.le_of_ble_eq_true rfl) (fun v h' n' hq => ?_)
    obtain ⟨rfl, rfl, rfl⟩ := hq
    refine za_ifeq X 93 rfl (by decide) (fun q0 => ?_) (fun q0 => ?_)
    · iterate 1 refine za_step X rfl rfl rfl ?_
      exact za_zret X rfl (Or.inl rfl) ⟨by simp [pr_al, bI, bI_0 q0], rfl, rfl⟩ (Nat.le_refl _) (Nat.le_refl _)
    · iterate 2 refine za_step X rfl rfl rfl ?_
      refine za_callS X rfl cl_P_F_isUpTo cy_F_isUpTo cs_F_isUpTo (c_F_isUpTo l D _ n 255 b) rfl rfl (Nat.le_of_ble_eq_true rfl) (Nat.le_of_ble_eq_true rfl) (Nat.le_of_ble_eq_true rfl) (Nat.le_of_ble_eq_true rfl) (Nat.le_of_ble_eq_true rfl) (fun v h' n' hq => ?_)
      obtain ⟨rfl, rfl, rfl⟩ := hq
      refine za_ifeq X 93 rfl (by decide) (fun q1 => ?_) (fun q1 => ?_)
      · iterate 1 refine za_step X rfl rfl rfl ?_
        exact za_zret X rfl (Or.inl rfl) ⟨by simp [pr_al, bI, bI_0 q1], rfl, rfl⟩ (Nat.le_refl _) (Nat.le_refl _)
      · iterate 2 refine za_step X rfl rfl rfl ?_
        exact za_zret X rfl (Or.inr rfl) ⟨by simp [pr_al, bI, bI_n0 q0, bI_n0 q1], rfl, rfl⟩ (Nat.le_refl _) (Nat.le_refl _)
  · refine za_tsw X 1 95 rfl (by decide) (by decide) (by decide) rfl (by decide) ?_
    iterate 1 refine za_step X rfl rfl rfl ?_
    refine za_callS X rfl cl_P_P_isRegister cy_P_isRegister cs_P_isRegister (c_P_isRegister l D _ n a) rfl rfl (Nat.le_of_ble_eq_true rfl) (Nat.le_of_ble_eq_true rfl) (Nat.le_of_ble_eq_true rfl) (Nat.le_of_ble_eq_true rfl) (Nat.le_of_ble_eq_true rfl) (fun v h' n' hq => ?_)
    obtain ⟨rfl, rfl, rfl⟩ := hq
    refine za_ifeq X 120 rfl (by decide) (fun q0 => ?_) (fun q0 => ?_)
    · iterate 1 refine za_step X rfl rfl rfl ?_
      exact za_zret X rfl (Or.inl rfl) ⟨by simp [pr_al, bI, bI_0 q0], rfl, rfl⟩ (Nat.le_refl _) (Nat.le_refl _)
    · iterate 1 refine za_step X rfl rfl rfl ?_
      refine za_callS X rfl cl_P_P_isRegister cy_P_isRegister cs_P_isRegister (c_P_isRegister l D _ n b) rfl rfl (Nat.le_of_ble_eq_true rfl) (Nat.le_of_ble_eq_true rfl) (Nat.le_of_ble_eq_true rfl) (Nat.le_of_ble_eq_true rfl) (Nat.le_of_ble_eq_true rfl) (fun v h' n' hq => ?_)
      obtain ⟨rfl, rfl, rfl⟩ := hq
      refine za_ifeq X 120 rfl (by decide) (fun q1 => ?_) (fun q1 => ?_)
      · iterate 1 refine za_step X rfl rfl rfl ?_
        exact za_zret X rfl (Or.inl rfl) ⟨by simp [pr_al, bI, bI_0 q1], rfl, rfl⟩ (Nat.le_refl _) (Nat.le_refl _)
      · iterate 1 refine za_step X rfl rfl rfl ?_
        refine za_callS X rfl cl_P_P_isRegister cy_P_isRegister cs_P_isRegister (c_P_isRegister l D _ n x) rfl rfl (Nat.le_of_ble_eq_true rfl) (Nat.le_of_ble_eq_true rfl) (Nat.le_of_ble_eq_true rfl) (Nat.le_of_ble_eq_true rfl) (Nat.le_of_ble_eq_true rfl) (fun v h' n' hq => ?_)
        obtain ⟨rfl, rfl, rfl⟩ := hq
        refine za_ifeq X 120 rfl (by decide) (fun q2 => ?_) (fun q2 => ?_)
        · iterate 1 refine za_step X rfl rfl rfl ?_
          exact za_zret X rfl (Or.inl rfl) ⟨by simp [pr_al, bI, bI_0 q2], rfl, rfl⟩ (Nat.le_refl _) (Nat.le_refl _)
        · iterate 2 refine za_step X rfl rfl rfl ?_
          exact za_zret X rfl (Or.inr rfl) ⟨by simp [pr_al, bI, bI_n0 q0, bI_n0 q1, bI_n0 q2], rfl, rfl⟩ (Nat.le_refl _) (Nat.le_refl _)
  · refine za_tsw X 2 95 rfl (by decide) (by decide) (by decide) rfl (by decide) ?_
    iterate 1 refine za_step X rfl rfl rfl ?_
    refine za_callS X rfl cl_P_P_isRegister cy_P_isRegister cs_P_isRegister (c_P_isRegister l D _ n a) rfl rfl (Nat.le_of_ble_eq_true rfl) (Nat.le_of_ble_eq_true rfl) (Nat.le_of_ble_eq_true rfl) (Nat.le_of_ble_eq_true rfl) (Nat.le_of_ble_eq_true rfl) (fun v h' n' hq => ?_)
    obtain ⟨rfl, rfl, rfl⟩ := hq
    refine za_ifeq X 120 rfl (by decide) (fun q0 => ?_) (fun q0 => ?_)
    · iterate 1 refine za_step X rfl rfl rfl ?_
      exact za_zret X rfl (Or.inl rfl) ⟨by simp [pr_al, bI, bI_0 q0], rfl, rfl⟩ (Nat.le_refl _) (Nat.le_refl _)
    · iterate 1 refine za_step X rfl rfl rfl ?_
      refine za_callS X rfl cl_P_P_isRegister cy_P_isRegister cs_P_isRegister (c_P_isRegister l D _ n b) rfl rfl (Nat.le_of_ble_eq_true rfl) (Nat.le_of_ble_eq_true rfl) (Nat.le_of_ble_eq_true rfl) (Nat.le_of_ble_eq_true rfl) (Nat.le_of_ble_eq_true rfl) (fun v h' n' hq => ?_)
      obtain ⟨rfl, rfl, rfl⟩ := hq
      refine za_ifeq X 120 rfl (by decide) (fun q1 => ?_) (fun q1 => ?_)
      · iterate 1 refine za_step X rfl rfl rfl ?_
        exact za_zret X rfl (Or.inl rfl) ⟨by simp [pr_al, bI, bI_0 q1], rfl, rfl⟩ (Nat.le_refl _) (Nat.le_refl _)
      · iterate 1 refine za_step X rfl rfl rfl ?_
        refine za_callS X rfl cl_P_P_isRegister cy_P_isRegister cs_P_isRegister (c_P_isRegister l D _ n x) rfl rfl (Nat.le_of_ble_eq_true rfl) (Nat.le_of_ble_eq_true rfl) (Nat.le_of_ble_eq_true rfl) (Nat.le_of_ble_eq_true rfl) (Nat.le_of_ble_eq_true rfl) (fun v h' n' hq => ?_)
        obtain ⟨rfl, rfl, rfl⟩ := hq
        refine za_ifeq X 120 rfl (by decide) (fun q2 => ?_) (fun q2 => ?_)
        · iterate 1 refine za_step X rfl rfl rfl ?_
          exact za_zret X rfl (Or.inl rfl) ⟨by simp [pr_al, bI, bI_0 q2], rfl, rfl⟩ (Nat.le_refl _) (Nat.le_refl _)
        · iterate 2 refine za_step X rfl rfl rfl ?_
          exact za_zret X rfl (Or.inr rfl) ⟨by simp [pr_al, bI, bI_n0 q0, bI_n0 q1, bI_n0 q2], rfl, rfl⟩ (Nat.le_refl _) (Nat.le_refl _)
  · refine za_tsw X 3 95 rfl (by decide) (by decide) (by decide) rfl (by decide) ?_
    iterate 1 refine za_step X rfl rfl rfl ?_
    refine za_callS X rfl cl_P_P_isRegister cy_P_isRegister cs_P_isRegister (c_P_isRegister l D _ n a) rfl rfl (Nat.le_of_ble_eq_true rfl) (Nat.le_of_ble_eq_true rfl) (Nat.le_of_ble_eq_true rfl) (Nat.le_of_ble_eq_true rfl) (Nat.le_of_ble_eq_true rfl) (fun v h' n' hq => ?_)
    obtain ⟨rfl, rfl, rfl⟩ := hq
    refine za_ifeq X 120 rfl (by decide) (fun q0 => ?_) (fun q0 => ?_)
    · iterate 1 refine za_step X rfl rfl rfl ?_
      exact za_zret X rfl (Or.inl rfl) ⟨by simp [pr_al, bI, bI_0 q0], rfl, rfl⟩ (Nat.le_refl _) (Nat.le_refl _)
    · iterate 1 refine za_step X rfl rfl rfl ?_
      refine za_callS X rfl cl_P_P_isRegister cy_P_isRegister cs_P_isRegister (c_P_isRegister l D _ n b) rfl rfl (Nat.le_of_ble_eq_true rfl) (Nat.le_of_ble_eq_true rfl) (Nat.le_of_ble_eq_true rfl) (Nat.le_of_ble_eq_true rfl) (Nat.le_of_ble_eq_true rfl) (fun v h' n' hq => ?_)
      obtain ⟨rfl, rfl, rfl⟩ := hq
      refine za_ifeq X 120 rfl (by decide) (fun q1 => ?_) (fun q1 => ?_)
      · iterate 1 refine za_step X rfl rfl rfl ?_
        exact za_zret X rfl (Or.inl rfl) ⟨by simp [pr_al, bI, bI_0 q1], rfl, rfl⟩ (Nat.le_refl _) (Nat.le_refl _)
      · iterate 1 refine za_step X rfl rfl rfl ?_
        refine za_callS X rfl cl_P_P_isRegister cy_P_isRegister cs_P_isRegister (c_P_isRegister l D _ n x) rfl rfl (Nat.le_of_ble_eq_true rfl) (Nat.le_of_ble_eq_true rfl) (Nat.le_of_ble_eq_true rfl) (Nat.le_of_ble_eq_true rfl) (Nat.le_of_ble_eq_true rfl) (fun v h' n' hq => ?_)
        obtain ⟨rfl, rfl, rfl⟩ := hq
        refine za_ifeq X 120 rfl (by decide) (fun q2 => ?_) (fun q2 => ?_)
        · iterate 1 refine za_step X rfl rfl rfl ?_
          exact za_zret X rfl (Or.inl rfl) ⟨by simp [pr_al, bI, bI_0 q2], rfl, rfl⟩ (Nat.le_refl _) (Nat.le_refl _)
        · iterate 2 refine za_step X rfl rfl rfl ?_
          exact za_zret X rfl (Or.inr rfl) ⟨by simp [pr_al, bI, bI_n0 q0, bI_n0 q1, bI_n0 q2], rfl, rfl⟩ (Nat.le_refl _) (Nat.le_refl _)
  · refine za_tsw X 4 95 rfl (by decide) (by decide) (by decide) rfl (by decide) ?_
    iterate 1 refine za_step X rfl rfl rfl ?_
    refine za_callS X rfl cl_P_P_isRegister cy_P_isRegister cs_P_isRegister (c_P_isRegister l D _ n a) rfl rfl (Nat.le_of_ble_eq_true rfl) (Nat.le_of_ble_eq_true rfl) (Nat.le_of_ble_eq_true rfl) (Nat.le_of_ble_eq_true rfl) (Nat.le_of_ble_eq_true rfl) (fun v h' n' hq => ?_)
    obtain ⟨rfl, rfl, rfl⟩ := hq
    refine za_ifeq X 120 rfl (by decide) (fun q0 => ?_) (fun q0 => ?_)
    · iterate 1 refine za_step X rfl rfl rfl ?_
      exact za_zret X rfl (Or.inl rfl) ⟨by simp [pr_al, bI, bI_0 q0], rfl, rfl⟩ (Nat.le_refl _) (Nat.le_refl _)
    · iterate 1 refine za_step X rfl rfl rfl ?_
      refine za_callS X rfl cl_P_P_isRegister cy_P_isRegister cs_P_isRegister (c_P_isRegister l D _ n b) rfl rfl (Nat.le_of_ble_eq_true rfl) (Nat.le_of_ble_eq_true rfl) (Nat.le_of_ble_eq_true rfl) (Nat.le_of_ble_eq_true rfl) (Nat.le_of_ble_eq_true rfl) (fun v h' n' hq => ?_)
      obtain ⟨rfl, rfl, rfl⟩ := hq
      refine za_ifeq X 120 rfl (by decide) (fun q1 => ?_) (fun q1 => ?_)
      · iterate 1 refine za_step X rfl rfl rfl ?_
        exact za_zret X rfl (Or.inl rfl) ⟨by simp [pr_al, bI, bI_0 q1], rfl, rfl⟩ (Nat.le_refl _) (Nat.le_refl _)
      · iterate 1 refine za_step X rfl rfl rfl ?_
        refine za_callS X rfl cl_P_P_isRegister cy_P_isRegister cs_P_isRegister (c_P_isRegister l D _ n x) rfl rfl (Nat.le_of_ble_eq_true rfl) (Nat.le_of_ble_eq_true rfl) (Nat.le_of_ble_eq_true rfl) (Nat.le_of_ble_eq_true rfl) (Nat.le_of_ble_eq_true rfl) (fun v h' n' hq => ?_)
        obtain ⟨rfl, rfl, rfl⟩ := hq
        refine za_ifeq X 120 rfl (by decide) (fun q2 => ?_) (fun q2 => ?_)
        · iterate 1 refine za_step X rfl rfl rfl ?_
          exact za_zret X rfl (Or.inl rfl) ⟨by simp [pr_al, bI, bI_0 q2], rfl, rfl⟩ (Nat.le_refl _) (Nat.le_refl _)
        · iterate 2 refine za_step X rfl rfl rfl ?_
          exact za_zret X rfl (Or.inr rfl) ⟨by simp [pr_al, bI, bI_n0 q0, bI_n0 q1, bI_n0 q2], rfl, rfl⟩ (Nat.le_refl _) (Nat.le_refl _)
  · refine za_tsw X 5 95 rfl (by decide) (by decide) (by decide) rfl (by decide) ?_
    iterate 1 refine za_step X rfl rfl rfl ?_
    refine za_callS X rfl cl_P_P_isRegister cy_P_isRegister cs_P_isRegister (c_P_isRegister l D _ n a) rfl rfl (Nat.le_of_ble_eq_true rfl) (Nat.le_of_ble_eq_true rfl) (Nat.le_of_ble_eq_true rfl) (Nat.le_of_ble_eq_true rfl) (Nat.le_of_ble_eq_true rfl) (fun v h' n' hq => ?_)
    obtain ⟨rfl, rfl, rfl⟩ := hq
    refine za_ifeq X 120 rfl (by decide) (fun q0 => ?_) (fun q0 => ?_)
    · iterate 1 refine za_step X rfl rfl rfl ?_
      exact za_zret X rfl (Or.inl rfl) ⟨by simp [pr_al, bI, bI_0 q0], rfl, rfl⟩ (Nat.le_refl _) (Nat.le_refl _)
    · iterate 1 refine za_step X rfl rfl rfl ?_
      refine za_callS X rfl cl_P_P_isRegister cy_P_isRegister cs_P_isRegister (c_P_isRegister l D _ n b) rfl rfl (Nat.le_of_ble_eq_true rfl) (Nat.le_of_ble_eq_true rfl) (Nat.le_of_ble_eq_true rfl) (Nat.le_of_ble_eq_true rfl) (Nat.le_of_ble_eq_true rfl) (fun v h' n' hq => ?_)
      obtain ⟨rfl, rfl, rfl⟩ := hq
      refine za_ifeq X 120 rfl (by decide) (fun q1 => ?_) (fun q1 => ?_)
      · iterate 1 refine za_step X rfl rfl rfl ?_
        exact za_zret X rfl (Or.inl rfl) ⟨by simp [pr_al, bI, bI_0 q1], rfl, rfl⟩ (Nat.le_refl _) (Nat.le_refl _)
      · iterate 1 refine za_step X rfl rfl rfl ?_
        refine za_callS X rfl cl_P_P_isRegister cy_P_isRegister cs_P_isRegister (c_P_isRegister l D _ n x) rfl rfl (Nat.le_of_ble_eq_true rfl) (Nat.le_of_ble_eq_true rfl) (Nat.le_of_ble_eq_true rfl) (Nat.le_of_ble_eq_true rfl) (Nat.le_of_ble_eq_true rfl) (fun v h' n' hq => ?_)
        obtain ⟨rfl, rfl, rfl⟩ := hq
        refine za_ifeq X 120 rfl (by decide) (fun q2 => ?_) (fun q2 => ?_)
        · iterate 1 refine za_step X rfl rfl rfl ?_
          exact za_zret X rfl (Or.inl rfl) ⟨by simp [pr_al, bI, bI_0 q2], rfl, rfl⟩ (Nat.le_refl _) (Nat.le_refl _)
        · iterate 2 refine za_step X rfl rfl rfl ?_
          exact za_zret X rfl (Or.inr rfl) ⟨by simp [pr_al, bI, bI_n0 q0, bI_n0 q1, bI_n0 q2], rfl, rfl⟩ (Nat.le_refl _) (Nat.le_refl _)
  · refine za_tsw X 6 95 rfl (by decide) (by decide) (by decide) rfl (by decide) ?_
    iterate 1 refine za_step X rfl rfl rfl ?_
    refine za_callS X rfl cl_P_P_isRegister cy_P_isRegister cs_P_isRegister (c_P_isRegister l D _ n a) rfl rfl (Nat.le_of_ble_eq_true rfl) (Nat.le_of_ble_eq_true rfl) (Nat.le_of_ble_eq_true rfl) (Nat.le_of_ble_eq_true rfl) (Nat.le_of_ble_eq_true rfl) (fun v h' n' hq => ?_)
    obtain ⟨rfl, rfl, rfl⟩ := hq
    refine za_ifeq X 120 rfl (by decide) (fun q0 => ?_) (fun q0 => ?_)
    · iterate 1 refine za_step X rfl rfl rfl ?_
      exact za_zret X rfl (Or.inl rfl) ⟨by simp [pr_al, bI, bI_0 q0], rfl, rfl⟩ (Nat.le_refl _) (Nat.le_refl _)
    · iterate 1 refine za_step X rfl rfl rfl ?_
      refine za_callS X rfl cl_P_P_isRegister cy_P_isRegister cs_P_isRegister (c_P_isRegister l D _ n b) rfl rfl (Nat.le_of_ble_eq_true rfl) (Nat.le_of_ble_eq_true rfl) (Nat.le_of_ble_eq_true rfl) (Nat.le_of_ble_eq_true rfl) (Nat.le_of_ble_eq_true rfl) (fun v h' n' hq => ?_)
      obtain ⟨rfl, rfl, rfl⟩ := hq
      refine za_ifeq X 120 rfl (by decide) (fun q1 => ?_) (fun q1 => ?_)
      · iterate 1 refine za_step X rfl rfl rfl ?_
        exact za_zret X rfl (Or.inl rfl) ⟨by simp [pr_al, bI, bI_0 q1], rfl, rfl⟩ (Nat.le_refl _) (Nat.le_refl _)
      · iterate 1 refine za_step X rfl rfl rfl ?_
        refine za_callS X rfl cl_P_P_isRegister cy_P_isRegister cs_P_isRegister (c_P_isRegister l D _ n x) rfl rfl (Nat.le_of_ble_eq_true rfl) (Nat.le_of_ble_eq_true rfl) (Nat.le_of_ble_eq_true rfl) (Nat.le_of_ble_eq_true rfl) (Nat.le_of_ble_eq_true rfl) (fun v h' n' hq => ?_)
        obtain ⟨rfl, rfl, rfl⟩ := hq
        refine za_ifeq X 120 rfl (by decide) (fun q2 => ?_) (fun q2 => ?_)
        · iterate 1 refine za_step X rfl rfl rfl ?_
          exact za_zret X rfl (Or.inl rfl) ⟨by simp [pr_al, bI, bI_0 q2], rfl, rfl⟩ (Nat.le_refl _) (Nat.le_refl _)
        · iterate 2 refine za_step X rfl rfl rfl ?_
          exact za_zret X rfl (Or.inr rfl) ⟨by simp [pr_al, bI, bI_n0 q0, bI_n0 q1, bI_n0 q2], rfl, rfl⟩ (Nat.le_refl _) (Nat.le_refl _)
  · refine za_tsw X 7 122 rfl (by decide) (by decide) (by decide) rfl (by decide) ?_
    iterate 1 refine za_step X rfl rfl rfl ?_
    refine za_callS X rfl cl_P_P_isRegister cy_P_isRegister cs_P_isRegister (c_P_isRegister l D _ n a) rfl rfl (Nat.le_of_ble_eq_true rfl) (Nat.le_of_ble_eq_true rfl) (Nat.le_of_ble_eq_true rfl) (Nat.le_of_ble_eq_true rfl) (Nat.le_of_ble_eq_true rfl) (fun v h' n' hq => ?_)
    obtain ⟨rfl, rfl, rfl⟩ := hq
    refine za_ifeq X 149 rfl (by decide) (fun q0 => ?_) (fun q0 => ?_)
    · iterate 1 refine za_step X rfl rfl rfl ?_
      exact za_zret X rfl (Or.inl rfl) ⟨by simp [pr_al, bI, bI_0 q0], rfl, rfl⟩ (Nat.le_refl _) (Nat.le_refl _)
    · iterate 1 refine za_step X rfl rfl rfl ?_
      refine za_callS X rfl cl_P_P_isRegister cy_P_isRegister cs_P_isRegister (c_P_isRegister l D _ n b) rfl rfl (Nat.le_of_ble_eq_true rfl) (Nat.le_of_ble_eq_true rfl) (Nat.le_of_ble_eq_true rfl) (Nat.le_of_ble_eq_true rfl) (Nat.le_of_ble_eq_true rfl) (fun v h' n' hq => ?_)
      obtain ⟨rfl, rfl, rfl⟩ := hq
      refine za_ifeq X 149 rfl (by decide) (fun q1 => ?_) (fun q1 => ?_)
      · iterate 1 refine za_step X rfl rfl rfl ?_
        exact za_zret X rfl (Or.inl rfl) ⟨by simp [pr_al, bI, bI_0 q1], rfl, rfl⟩ (Nat.le_refl _) (Nat.le_refl _)
      · iterate 2 refine za_step X rfl rfl rfl ?_
        refine za_callS X rfl cl_P_F_isUpTo cy_F_isUpTo cs_F_isUpTo (c_F_isUpTo l D _ n 7 x) rfl rfl (Nat.le_of_ble_eq_true rfl) (Nat.le_of_ble_eq_true rfl) (Nat.le_of_ble_eq_true rfl) (Nat.le_of_ble_eq_true rfl) (Nat.le_of_ble_eq_true rfl) (fun v h' n' hq => ?_)
        obtain ⟨rfl, rfl, rfl⟩ := hq
        refine za_ifeq X 149 rfl (by decide) (fun q2 => ?_) (fun q2 => ?_)
        · iterate 1 refine za_step X rfl rfl rfl ?_
          exact za_zret X rfl (Or.inl rfl) ⟨by simp [pr_al, bI, bI_0 q2], rfl, rfl⟩ (Nat.le_refl _) (Nat.le_refl _)
        · iterate 2 refine za_step X rfl rfl rfl ?_
          exact za_zret X rfl (Or.inr rfl) ⟨by simp [pr_al, bI, bI_n0 q0, bI_n0 q1, bI_n0 q2], rfl, rfl⟩ (Nat.le_refl _) (Nat.le_refl _)
  · refine za_tsw X 8 151 rfl (by decide) (by decide) (by decide) rfl (by decide) ?_
    iterate 1 refine za_step X rfl rfl rfl ?_
    refine za_callS X rfl cl_P_P_isRegister cy_P_isRegister cs_P_isRegister (c_P_isRegister l D _ n a) rfl rfl (Nat.le_of_ble_eq_true rfl) (Nat.le_of_ble_eq_true rfl) (Nat.le_of_ble_eq_true rfl) (Nat.le_of_ble_eq_true rfl) (Nat.le_of_ble_eq_true rfl) (fun v h' n' hq => ?_)
    obtain ⟨rfl, rfl, rfl⟩ := hq
    refine za_ifeq X 178 rfl (by decide) (fun q0 => ?_) (fun q0 => ?_)
    · iterate 1 refine za_step X rfl rfl rfl ?_
      exact za_zret X rfl (Or.inl rfl) ⟨by simp [pr_al, bI, bI_0 q0], rfl, rfl⟩ (Nat.le_refl _) (Nat.le_refl _)
    · iterate 1 refine za_step X rfl rfl rfl ?_
      refine za_callS X rfl cl_P_P_isRegister cy_P_isRegister cs_P_isRegister (c_P_isRegister l D _ n b) rfl rfl (Nat.le_of_ble_eq_true rfl) (Nat.le_of_ble_eq_true rfl) (Nat.le_of_ble_eq_true rfl) (Nat.le_of_ble_eq_true rfl) (Nat.le_of_ble_eq_true rfl) (fun v h' n' hq => ?_)
      obtain ⟨rfl, rfl, rfl⟩ := hq
      refine za_ifeq X 178 rfl (by decide) (fun q1 => ?_) (fun q1 => ?_)
      · iterate 1 refine za_step X rfl rfl rfl ?_
        exact za_zret X rfl (Or.inl rfl) ⟨by simp [pr_al, bI, bI_0 q1], rfl, rfl⟩ (Nat.le_refl _) (Nat.le_refl _)
      · iterate 2 refine za_step X rfl rfl rfl ?_
        refine za_callS X rfl cl_P_F_isUpTo cy_F_isUpTo cs_F_isUpTo (c_F_isUpTo l D _ n 24 x) rfl rfl (Nat.le_of_ble_eq_true rfl) (Nat.le_of_ble_eq_true rfl) (Nat.le_of_ble_eq_true rfl) (Nat.le_of_ble_eq_true rfl) (Nat.le_of_ble_eq_true rfl) (fun v h' n' hq => ?_)
        obtain ⟨rfl, rfl, rfl⟩ := hq
        refine za_ifeq X 178 rfl (by decide) (fun q2 => ?_) (fun q2 => ?_)
        · iterate 1 refine za_step X rfl rfl rfl ?_
          exact za_zret X rfl (Or.inl rfl) ⟨by simp [pr_al, bI, bI_0 q2], rfl, rfl⟩ (Nat.le_refl _) (Nat.le_refl _)
        · iterate 2 refine za_step X rfl rfl rfl ?_
          exact za_zret X rfl (Or.inr rfl) ⟨by simp [pr_al, bI, bI_n0 q0, bI_n0 q1, bI_n0 q2], rfl, rfl⟩ (Nat.le_refl _) (Nat.le_refl _)
  · refine za_tsw X 9 151 rfl (by decide) (by decide) (by decide) rfl (by decide) ?_
    iterate 1 refine za_step X rfl rfl rfl ?_
    refine za_callS X rfl cl_P_P_isRegister cy_P_isRegister cs_P_isRegister (c_P_isRegister l D _ n a) rfl rfl (Nat.le_of_ble_eq_true rfl) (Nat.le_of_ble_eq_true rfl) (Nat.le_of_ble_eq_true rfl) (Nat.le_of_ble_eq_true rfl) (Nat.le_of_ble_eq_true rfl) (fun v h' n' hq => ?_)
    obtain ⟨rfl, rfl, rfl⟩ := hq
    refine za_ifeq X 178 rfl (by decide) (fun q0 => ?_) (fun q0 => ?_)
    · iterate 1 refine za_step X rfl rfl rfl ?_
      exact za_zret X rfl (Or.inl rfl) ⟨by simp [pr_al, bI, bI_0 q0], rfl, rfl⟩ (Nat.le_refl _) (Nat.le_refl _)
    · iterate 1 refine za_step X rfl rfl rfl ?_
      refine za_callS X rfl cl_P_P_isRegister cy_P_isRegister cs_P_isRegister (c_P_isRegister l D _ n b) rfl rfl (Nat.le_of_ble_eq_true rfl) (Nat.le_of_ble_eq_true rfl) (Nat.le_of_ble_eq_true rfl) (Nat.le_of_ble_eq_true rfl) (Nat.le_of_ble_eq_true rfl) (fun v h' n' hq => ?_)
      obtain ⟨rfl, rfl, rfl⟩ := hq
      refine za_ifeq X 178 rfl (by decide) (fun q1 => ?_) (fun q1 => ?_)
      · iterate 1 refine za_step X rfl rfl rfl ?_
        exact za_zret X rfl (Or.inl rfl) ⟨by simp [pr_al, bI, bI_0 q1], rfl, rfl⟩ (Nat.le_refl _) (Nat.le_refl _)
      · iterate 2 refine za_step X rfl rfl rfl ?_
        refine za_callS X rfl cl_P_F_isUpTo cy_F_isUpTo cs_F_isUpTo (c_F_isUpTo l D _ n 24 x) rfl rfl (Nat.le_of_ble_eq_true rfl) (Nat.le_of_ble_eq_true rfl) (Nat.le_of_ble_eq_true rfl) (Nat.le_of_ble_eq_true rfl) (Nat.le_of_ble_eq_true rfl) (fun v h' n' hq => ?_)
        obtain ⟨rfl, rfl, rfl⟩ := hq
        refine za_ifeq X 178 rfl (by decide) (fun q2 => ?_) (fun q2 => ?_)
        · iterate 1 refine za_step X rfl rfl rfl ?_
          exact za_zret X rfl (Or.inl rfl) ⟨by simp [pr_al, bI, bI_0 q2], rfl, rfl⟩ (Nat.le_refl _) (Nat.le_refl _)
        · iterate 2 refine za_step X rfl rfl rfl ?_
          exact za_zret X rfl (Or.inr rfl) ⟨by simp [pr_al, bI, bI_n0 q0, bI_n0 q1, bI_n0 q2], rfl, rfl⟩ (Nat.le_refl _) (Nat.le_refl _)
  · refine za_tsw X 10 180 rfl (by decide) (by decide) (by decide) rfl (by decide) ?_
    iterate 2 refine za_step X rfl rfl rfl ?_
    refine za_callS X rfl cl_P_F_isUpTo cy_F_isUpTo cs_F_isUpTo (c_F_isUpTo l D _ n 24 x) rfl rfl (Nat.le_of_ble_eq_true rfl) (Nat.le_of_ble_eq_true rfl) (Nat.le_of_ble_eq_true rfl) (Nat.le_of_ble_eq_true rfl) (Nat.le_of_ble_eq_true rfl) (fun v h' n' hq => ?_)
    obtain ⟨rfl, rfl, rfl⟩ := hq
    exact za_zret X rfl (bI_01 _) ⟨by simp [pr_al], rfl, rfl⟩ (Nat.le_refl _) (Nat.le_refl _)
  · refine za_tsw X 11 95 rfl (by decide) (by decide) (by decide) rfl (by decide) ?_
    iterate 1 refine za_step X rfl rfl rfl ?_
    refine za_callS X rfl cl_P_P_isRegister cy_P_isRegister cs_P_isRegister (c_P_isRegister l D _ n a) rfl rfl (Nat.le_of_ble_eq_true rfl) (Nat.le_of_ble_eq_true rfl) (Nat.le_of_ble_eq_true rfl) (Nat.le_of_ble_eq_true rfl) (Nat.le_of_ble_eq_true rfl) (fun v h' n' hq => ?_)
    obtain ⟨rfl, rfl, rfl⟩ := hq
    refine za_ifeq X 120 rfl (by decide) (fun q0 => ?_) (fun q0 => ?_)
    · iterate 1 refine za_step X rfl rfl rfl ?_
      exact za_zret X rfl (Or.inl rfl) ⟨by simp [pr_al, bI, bI_0 q0], rfl, rfl⟩ (Nat.le_refl _) (Nat.le_refl _)
    · iterate 1 refine za_step X rfl rfl rfl ?_
      refine za_callS X rfl cl_P_P_isRegister cy_P_isRegister cs_P_isRegister (c_P_isRegister l D _ n b) rfl rfl (Nat.le_of_ble_eq_true rfl) (Nat.le_of_ble_eq_true rfl) (Nat.le_of_ble_eq_true rfl) (Nat.le_of_ble_eq_true rfl) (Nat.le_of_ble_eq_true rfl) (fun v h' n' hq => ?_)
      obtain ⟨rfl, rfl, rfl⟩ := hq
      refine za_ifeq X 120 rfl (by decide) (fun q1 => ?_) (fun q1 => ?_)
      · iterate 1 refine za_step X rfl rfl rfl ?_
        exact za_zret X rfl (Or.inl rfl) ⟨by simp [pr_al, bI, bI_0 q1], rfl, rfl⟩ (Nat.le_refl _) (Nat.le_refl _)
      · iterate 1 refine za_step X rfl rfl rfl ?_
        refine za_callS X rfl cl_P_P_isRegister cy_P_isRegister cs_P_isRegister (c_P_isRegister l D _ n x) rfl rfl (Nat.le_of_ble_eq_true rfl) (Nat.le_of_ble_eq_true rfl) (Nat.le_of_ble_eq_true rfl) (Nat.le_of_ble_eq_true rfl) (Nat.le_of_ble_eq_true rfl) (fun v h' n' hq => ?_)
        obtain ⟨rfl, rfl, rfl⟩ := hq
        refine za_ifeq X 120 rfl (by decide) (fun q2 => ?_) (fun q2 => ?_)
        · iterate 1 refine za_step X rfl rfl rfl ?_
          exact za_zret X rfl (Or.inl rfl) ⟨by simp [pr_al, bI, bI_0 q2], rfl, rfl⟩ (Nat.le_refl _) (Nat.le_refl _)
        · iterate 2 refine za_step X rfl rfl rfl ?_
          exact za_zret X rfl (Or.inr rfl) ⟨by simp [pr_al, bI, bI_n0 q0, bI_n0 q1, bI_n0 q2], rfl, rfl⟩ (Nat.le_refl _) (Nat.le_refl _)
  · refine za_tsw X 12 187 rfl (by decide) (by decide) (by decide) rfl (by decide) ?_
    iterate 1 refine za_step X rfl rfl rfl ?_
    refine za_callS X rfl cl_P_P_isRegister cy_P_isRegister cs_P_isRegister (c_P_isRegister l D _ n a) rfl rfl (Nat.le_of_ble_eq_true rfl) (Nat.le_of_ble_eq_true rfl) (Nat.le_of_ble_eq_true rfl) (Nat.le_of_ble_eq_true rfl) (Nat.le_of_ble_eq_true rfl) (fun v h' n' hq => ?_)
    obtain ⟨rfl, rfl, rfl⟩ := hq
    exact za_zret X rfl (bI_01 _) ⟨by simp [pr_al], rfl, rfl⟩ (Nat.le_refl _) (Nat.le_refl _)
  · refine za_tsw X 13 187 rfl (by decide) (by decide) (by decide) rfl (by decide) ?_
    iterate 1 refine za_step X rfl rfl rfl ?_
    refine za_callS X rfl cl_P_P_isRegister cy_P_isRegister cs_P_isRegister (c_P_isRegister l D _ n a) rfl rfl (Nat.le_of_ble_eq_true rfl) (Nat.le_of_ble_eq_true rfl) (Nat.le_of_ble_eq_true rfl) (Nat.le_of_ble_eq_true rfl) (Nat.le_of_ble_eq_true rfl) (fun v h' n' hq => ?_)
    obtain ⟨rfl, rfl, rfl⟩ := hq
    exact za_zret X rfl (bI_01 _) ⟨by simp [pr_al], rfl, rfl⟩ (Nat.le_refl _) (Nat.le_refl _)
