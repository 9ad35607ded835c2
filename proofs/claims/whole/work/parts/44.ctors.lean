/-! THE CONSTRUCTORS -/
section ZAEXQ
variable {p : Program} {l : Launch} {e : Env} {R : Room} {s : State} {m : MethodId} {args : Array Value} {below : List Frame} {meth : Method} {c : Code} {D : za_D} {nL : Nat} {Q : State → Prop} {h0 : za_H} {n cells slots pc : Nat} {lv : List (Nat × za_V)} {st : List za_V} {vw : List (Nat × za_C)} {own : String} {cc : ByteArray} {cd : List (Nat × Instr × Nat)} {fl : List (Nat × Nat × Nat)} {ret : Option FieldType}
theorem za_extq {i t0 N : Nat} {f : Nat → Option Nat} (g : Nat → Option Nat) (hi : za_ov h0 vw i = some (.inl (t0, N, .inr (.inr f)))) (hfg : ∀ j, j < N → f j = g j) (kk : za_W p l e R s m args below meth c D nL Q h0 n cells slots pc lv st (za_vs vw i (.inl (t0, N, .inr (.inr g))))) : za_W p l e R s m args below meth c D nL Q h0 n cells slots pc lv st vw := by
  intro H locs ls hR hS hl
  refine kk H locs ls ?_ hS hl
  rw [za_ov_vs]
  refine hR.set rfl ?_ (fun _ _ => rfl)
  have hat : H[D.2.2 + i]? = some (vp_cell (D.2.1 t0) (N, .inr (.inr (.inr (.inr (fun q => (f q).map (fun i => D.2.2 + i))))))) := hR.2.1 i _ hi
  show H[D.2.2 + i]? = some (vp_cell (D.2.1 t0) (N, .inr (.inr (.inr (.inr (fun q => (g q).map (fun i => D.2.2 + i)))))))
  rw [hat, vp_cell_q, vp_cell_q]
  congr 1
  unfold arrV
  congr 2
  funext j
  show va_rf ((f j.val).map (fun i => D.2.2 + i)) = va_rf ((g j.val).map (fun i => D.2.2 + i))
  rw [hfg j.val j.isLt]
end ZAEXQ
def pr_0 : pr_T := (fun _ => 0, fun _ => 0, fun _ => 0, fun _ => 0, 0)
set_option maxHeartbeats 4000000 in
set_option maxRecDepth 100000 in
theorem c_W_init (l : Launch) (D : za_D) (h : za_H) (n : Nat) (w : Nat) (hw : h w = some (wr_c wr_0)) : za_M l D Y_W_init 1 0 0 [vR w] h n (fun v h' n' => v = none ∧ h' = h ∧ n = n') := by
  refine za_enter cd_W_init fl_W (by decide) cdok_W_init flok_W (Nat.le_of_ble_eq_true rfl) ?_
  intro p e s m args below meth c X hnm
  iterate 1 refine za_step X rfl rfl rfl ?_
  refine za_obj X rfl zo_W zo_1 zo_2 (Nat.le_of_ble_eq_true rfl) (Nat.le_of_ble_eq_true rfl) (Nat.le_of_ble_eq_true rfl) ?_
  iterate 2 refine za_step X rfl rfl rfl ?_
  refine za_putV (i := w) (k := 0) (fs := [vI 0, vI 0, vI 0, vI 0, vL 0, vI 0]) X [] rfl hw rfl rfl rfl (Nat.le_of_ble_eq_true rfl) (za_set_same hw).symm ?_
  iterate 2 refine za_step X rfl rfl rfl ?_
  refine za_putV (i := w) (k := 1) (fs := [vI 0, vI 0, vI 0, vI 0, vL 0, vI 0]) X [] rfl hw rfl rfl rfl (Nat.le_of_ble_eq_true rfl) (za_set_same hw).symm ?_
  iterate 2 refine za_step X rfl rfl rfl ?_
  refine za_putV (i := w) (k := 2) (fs := [vI 0, vI 0, vI 0, vI 0, vL 0, vI 0]) X [] rfl hw rfl rfl rfl (Nat.le_of_ble_eq_true rfl) (za_set_same hw).symm ?_
  iterate 2 refine za_step X rfl rfl rfl ?_
  refine za_putV (i := w) (k := 3) (fs := [vI 0, vI 0, vI 0, vI 0, vL 0, vI 0]) X [] rfl hw rfl rfl rfl (Nat.le_of_ble_eq_true rfl) (za_set_same hw).symm ?_
  iterate 2 refine za_step X rfl rfl rfl ?_
  refine za_putV (i := w) (k := 4) (fs := [vI 0, vI 0, vI 0, vI 0, vL 0, vI 0]) X [] rfl hw rfl rfl rfl (Nat.le_of_ble_eq_true rfl) (za_set_same hw).symm ?_
  iterate 2 refine za_step X rfl rfl rfl ?_
  refine za_putV (i := w) (k := 5) (fs := [vI 0, vI 0, vI 0, vI 0, vL 0, vI 0]) X [] rfl hw rfl rfl rfl (Nat.le_of_ble_eq_true rfl) (za_set_same hw).symm ?_
  exact za_vret X rfl ⟨rfl, rfl, rfl⟩ (Nat.le_of_ble_eq_true rfl) (Nat.le_of_ble_eq_true rfl)
set_option maxHeartbeats 4000000 in
set_option maxRecDepth 100000 in
theorem c_P_init (l : Launch) (D : za_D) (h : za_H) (hp : h 1 = some (.inr (zn_P, [vN, vN, vN, vN, vI 0]))) : za_M l D Y_P_init 1 4 96 [vR 1] h 2 (fun v h' n' => v = none ∧ pr_at h' pr_0 ∧ (∀ j, j < 1 ∨ 5 < j → h' j = h j) ∧ n' = 6) := by
  refine za_enter cd_P_init fl_P (by decide) cdok_P_init flok_P (Nat.le_of_ble_eq_true rfl) ?_
  intro p e s m args below meth c X hnm
  refine za_view [(1, .inr (zn_P, [vN, vN, vN, vN, vI 0]))] (by simp [hp]) ?_
  iterate 1 refine za_step X rfl rfl rfl ?_
  refine za_obj X rfl zo_P zo_1 zo_2 (Nat.le_of_ble_eq_true rfl) (Nat.le_of_ble_eq_true rfl) (Nat.le_of_ble_eq_true rfl) ?_
  iterate 2 refine za_step X rfl rfl rfl ?_
  refine za_newi (N := 24) (t0 := 0) X rfl rfl za_intA (by decide) (by decide) (by decide) (Nat.le_of_ble_eq_true rfl) (Nat.le_of_ble_eq_true rfl) ?_
  refine za_putF (k := 0) (ci := 0) X hnm rfl rfl rfl (by decide) rfl rfl (za_in 49 (by decide +kernel) rfl) rfl rfl (Nat.le_of_ble_eq_true rfl) ?_
  iterate 2 refine za_step X rfl rfl rfl ?_
  refine za_newi (N := 24) (t0 := 0) X rfl rfl za_intA (by decide) (by decide) (by decide) (Nat.le_of_ble_eq_true rfl) (Nat.le_of_ble_eq_true rfl) ?_
  refine za_putF (k := 1) (ci := 0) X hnm rfl rfl rfl (by decide) rfl rfl (za_in 51 (by decide +kernel) rfl) rfl rfl (Nat.le_of_ble_eq_true rfl) ?_
  iterate 2 refine za_step X rfl rfl rfl ?_
  refine za_newi (N := 24) (t0 := 0) X rfl rfl za_intA (by decide) (by decide) (by decide) (Nat.le_of_ble_eq_true rfl) (Nat.le_of_ble_eq_true rfl) ?_
  refine za_putF (k := 2) (ci := 0) X hnm rfl rfl rfl (by decide) rfl rfl (za_in 53 (by decide +kernel) rfl) rfl rfl (Nat.le_of_ble_eq_true rfl) ?_
  iterate 2 refine za_step X rfl rfl rfl ?_
  refine za_newi (N := 24) (t0 := 0) X rfl rfl za_intA (by decide) (by decide) (by decide) (Nat.le_of_ble_eq_true rfl) (Nat.le_of_ble_eq_true rfl) ?_
  refine za_putF (k := 3) (ci := 0) X hnm rfl rfl rfl (by decide) rfl rfl (za_in 55 (by decide +kernel) rfl) rfl rfl (Nat.le_of_ble_eq_true rfl) ?_
  iterate 3 refine za_step X rfl rfl rfl ?_
  refine za_vret X rfl ⟨rfl, ⟨rfl, rfl, rfl, rfl, rfl⟩, ?_, rfl⟩ (Nat.le_of_ble_eq_true rfl) (Nat.le_of_ble_eq_true rfl)
  intro j hj
  refine za_ov_off (v := [(1, _), (2, _), (3, _), (4, _), (5, _)]) ?_
  intro q hq
  simp only [List.mem_cons, List.not_mem_nil, or_false] at hq
  rcases hq with rfl | rfl | rfl | rfl | rfl <;> (show _ ≠ j; omega)
set_option maxHeartbeats 4000000 in
set_option maxRecDepth 100000 in
theorem c_T_init6 (l : Launch) (D : za_D) (h : za_H) (hp : h 6 = some (.inr (zn_T, [vN, vI 0, vI 0, vI 0, vI 0, vL 0, vI 0, vI 0, vI 0, vI 0]))) : za_M l D Y_T_init 1 1 4 [vR 6] h 7 (fun v h' n' => v = none ∧ tr_at h' 6 tr_0 ∧ (∀ j, j < 6 ∨ 7 < j → h' j = h j) ∧ n' = 8) := by
  refine za_enter cd_T_init fl_T (by decide) cdok_T_init flok_T (Nat.le_of_ble_eq_true rfl) ?_
  intro p e s m args below meth c X hnm
  refine za_view [(6, .inr (zn_T, [vN, vI 0, vI 0, vI 0, vI 0, vL 0, vI 0, vI 0, vI 0, vI 0]))] (by simp [hp]) ?_
  iterate 1 refine za_step X rfl rfl rfl ?_
  refine za_obj X rfl zo_T zo_1 zo_2 (Nat.le_of_ble_eq_true rfl) (Nat.le_of_ble_eq_true rfl) (Nat.le_of_ble_eq_true rfl) ?_
  iterate 2 refine za_step X rfl rfl rfl ?_
  refine za_newi (N := 4) (t0 := 0) X rfl rfl za_intA (by decide) (by decide) (by decide) (Nat.le_of_ble_eq_true rfl) (Nat.le_of_ble_eq_true rfl) ?_
  refine za_putF (k := 0) (ci := 1) X hnm rfl rfl rfl (by decide) rfl rfl (za_in 77 (by decide +kernel) rfl) rfl rfl (Nat.le_of_ble_eq_true rfl) ?_
  iterate 27 refine za_step X rfl rfl rfl ?_
  refine za_vret X rfl ⟨rfl, ⟨rfl, rfl⟩, ?_, rfl⟩ (Nat.le_of_ble_eq_true rfl) (Nat.le_of_ble_eq_true rfl)
  intro j hj
  refine za_ov_off (v := [(6, _), (7, _)]) ?_
  intro q hq
  simp only [List.mem_cons, List.not_mem_nil, or_false] at hq
  rcases hq with rfl | rfl <;> (show _ ≠ j; omega)
set_option maxHeartbeats 4000000 in
set_option maxRecDepth 100000 in
theorem c_T_init8 (l : Launch) (D : za_D) (h : za_H) (hp : h 8 = some (.inr (zn_T, [vN, vI 0, vI 0, vI 0, vI 0, vL 0, vI 0, vI 0, vI 0, vI 0]))) : za_M l D Y_T_init 1 1 4 [vR 8] h 9 (fun v h' n' => v = none ∧ tr_at h' 8 tr_0 ∧ (∀ j, j < 8 ∨ 9 < j → h' j = h j) ∧ n' = 10) := by
  refine za_enter cd_T_init fl_T (by decide) cdok_T_init flok_T (Nat.le_of_ble_eq_true rfl) ?_
  intro p e s m args below meth c X hnm
  refine za_view [(8, .inr (zn_T, [vN, vI 0, vI 0, vI 0, vI 0, vL 0, vI 0, vI 0, vI 0, vI 0]))] (by simp [hp]) ?_
  iterate 1 refine za_step X rfl rfl rfl ?_
  refine za_obj X rfl zo_T zo_1 zo_2 (Nat.le_of_ble_eq_true rfl) (Nat.le_of_ble_eq_true rfl) (Nat.le_of_ble_eq_true rfl) ?_
  iterate 2 refine za_step X rfl rfl rfl ?_
  refine za_newi (N := 4) (t0 := 0) X rfl rfl za_intA (by decide) (by decide) (by decide) (Nat.le_of_ble_eq_true rfl) (Nat.le_of_ble_eq_true rfl) ?_
  refine za_putF (k := 0) (ci := 1) X hnm rfl rfl rfl (by decide) rfl rfl (za_in 77 (by decide +kernel) rfl) rfl rfl (Nat.le_of_ble_eq_true rfl) ?_
  iterate 27 refine za_step X rfl rfl rfl ?_
  refine za_vret X rfl ⟨rfl, ⟨rfl, rfl⟩, ?_, rfl⟩ (Nat.le_of_ble_eq_true rfl) (Nat.le_of_ble_eq_true rfl)
  intro j hj
  refine za_ov_off (v := [(8, _), (9, _)]) ?_
  intro q hq
  simp only [List.mem_cons, List.not_mem_nil, or_false] at hq
  rcases hq with rfl | rfl <;> (show _ ≠ j; omega)
set_option maxHeartbeats 4000000 in
set_option maxRecDepth 100000 in
theorem c_R_init10 (l : Launch) (D : za_D) (h : za_H) (hp : h 10 = some (.inr (zn_R, [vN, vI 0, vI 0]))) : za_M l D Y_R_init 2 65 448 [vR 10] h 11 (fun v h' n' => v = none ∧ (∃ w, rs_at h' 10 w (0, fun _ => wr_0)) ∧ (∀ j, j < 10 ∨ 75 < j → h' j = h j) ∧ n' = 76) := by
  refine za_enter cd_R_init fl_R (by decide) cdok_R_init flok_R (Nat.le_of_ble_eq_true rfl) ?_
  intro p e s m args below meth c X hnm
  have loop : ∀ (g i : Nat) (h1 : za_H), i + g = 64 → (∀ p, p < i → h1 (12 + p) = some (wr_c wr_0)) → (∀ j, j < 10 ∨ 75 < j → h1 j = h j) → za_W p l e (za_rm 2 65 448) s m args below meth c D 2 (MQ below (za_Q D (fun v h' n' => v = none ∧ (∃ w, rs_at h' 10 w (0, fun _ => wr_0)) ∧ (∀ j, j < 10 ∨ 75 < j → h' j = h j) ∧ n' = 76)) args s 65 448 (fun q : Nat => D.2.2 ≤ q)) h1 (12 + i) (1 + i) (64 + 6 * i) 25 [(0, vR 10), (1, vI (nI i))] [] [(10, rs_c 10 0 0), (11, .inl (2, 64, .inr (.inr (fun p => if p < i then some (12 + p) else none))))] := by
    intro g
    induction g with
    | zero =>
      intro i h1 hi hW hoff
      have hi64 : i = 64 := by omega
      subst hi64
      iterate 2 refine za_step X rfl rfl rfl ?_
      refine za_icge X 50 rfl (by decide) (fun q1 => ?_) (fun q1 => absurd (by decide) q1)
      refine za_extq (i := 11) (t0 := 2) (N := 64) (fun p => some (12 + p)) rfl (fun p hp => if_pos hp) ?_
      refine za_vret X rfl ⟨rfl, ⟨fun p => 12 + p, rfl, rfl, fun p hp => ⟨wr_0, ?_⟩, fun p hp => absurd hp (Nat.not_lt_zero p), fun p hp => ⟨by show 10 + 2 ≤ 12 + p; omega, by show 12 + p < 10 + 66; omega⟩, fun a b _ _ hab => by have hab' : 12 + a = 12 + b := hab; omega, Nat.zero_le _⟩, ?_, rfl⟩ (Nat.le_of_ble_eq_true rfl) (Nat.le_of_ble_eq_true rfl)
      · refine Eq.trans (za_ov_off (v := [(10, _), (11, _)]) ?_) (hW p hp)
        intro q hq
        simp only [List.mem_cons, List.not_mem_nil, or_false] at hq
        rcases hq with rfl | rfl <;> (show _ ≠ _ + p; omega)
      · intro j hj
        refine Eq.trans (za_ov_off (v := [(10, _), (11, _)]) ?_) (hoff j hj)
        intro q hq
        simp only [List.mem_cons, List.not_mem_nil, or_false] at hq
        rcases hq with rfl | rfl <;> (show _ ≠ j; omega)
    | succ g ih =>
      intro i h1 hi hW hoff
      have hci : (nI i).toNatClampNeg = i := nI_clamp (by omega)
      iterate 2 refine za_step X rfl rfl rfl ?_
      refine za_icge X 50 rfl (by decide) (fun q1 => absurd ((nI_leI (a := 64) (by omega) (by omega)).mp q1) (by omega)) (fun q1 => ?_)
      iterate 3 refine za_step X rfl rfl rfl ?_
      refine za_new (N := 6) (ci := zn_W) (fs := [vI 0, vI 0, vI 0, vI 0, vL 0, vI 0]) X rfl rfl zc_R_9 zi_W zj_W (fun z j hj => by rcases (show j = 0 ∨ j = 1 ∨ j = 2 ∨ j = 3 ∨ j = 4 ∨ j = 5 by omega) with rfl | rfl | rfl | rfl | rfl | rfl <;> rfl) (by show 1 + i + 1 ≤ 65; omega) (by show 64 + 6 * i + 6 ≤ 448; omega) ?_
      have hne1 : 12 + i ≠ 10 := by omega
      have hne2 : 12 + i ≠ 11 := by omega
      refine za_look (h1 := za_set h1 (12 + i) (wr_c wr_0)) (v1 := [(10, rs_c 10 0 0), (11, .inl (2, 64, .inr (.inr (fun p => if p < i then some (12 + p) else none))))]) (by
        rw [za_ov_vs, za_ov2, za_ov2]
        show za_set (za_set (za_set h1 (12 + i) (wr_c wr_0)) 11 _) 10 _ = za_set (za_set (za_set h1 11 _) 10 _) (12 + i) (wr_c wr_0)
        rw [za_set_comm (i := 12 + i) (j := 11) hne2, za_set_comm (i := 12 + i) (j := 10) hne1]) ?_
      iterate 1 refine za_step X rfl rfl rfl ?_
      have hwn : za_ov (za_set h1 (12 + i) (wr_c wr_0)) [(10, rs_c 10 0 0), (11, .inl (2, 64, .inr (.inr (fun p => if p < i then some (12 + p) else none))))] (12 + i) = some (wr_c wr_0) := by
        rw [za_ov2, za_set_ne hne1, za_set_ne hne2, za_set_eq]
      refine za_callI (y := Y_W_init.1) (bytes := Y_W_init.2.1) (maxL := Y_W_init.2.2.1) (b := 12 + i) (d := 1) (mc := 0) (ms := 0) (as := []) X rfl cl_R_W_init cy_W_init ci_W_init (c_W_init l D _ _ (12 + i) hwn) rfl rfl (Nat.le_of_ble_eq_true rfl) (Nat.le_of_ble_eq_true rfl) (Nat.le_of_ble_eq_true rfl) (by show 1 + i + 1 + 0 ≤ 65; omega) (by show 64 + 6 * i + 6 + 0 ≤ 448; omega) (fun v h' n' hq => ?_)
      obtain ⟨rfl, rfl, rfl⟩ := hq
      refine za_look (h1 := za_set h1 (12 + i) (wr_c wr_0)) (v1 := [(10, rs_c 10 0 0), (11, .inl (2, 64, .inr (.inr (fun p => if p < i then some (12 + p) else none))))]) rfl ?_
      refine za_aast X rfl rfl rfl hwn rfl (vp_in_nI (by omega) (by decide)) ?_
      rw [hci]
      refine za_look (h1 := za_set h1 (12 + i) (wr_c wr_0)) (v1 := [(10, rs_c 10 0 0), (11, .inl (2, 64, .inr (.inr (fun p => if p < (i + 1) then some (12 + p) else none))))]) (congrArg (fun z => za_ov (za_set h1 (12 + i) (wr_c wr_0)) [(10, rs_c 10 0 0), (11, .inl (2, 64, .inr (.inr z)))]) (funext fun p => by
        unfold va_up
        by_cases e : p = i
        · subst e; rw [if_pos (by omega), if_pos rfl]
        · rw [if_neg e]
          show (if p < i + 1 then some (12 + p) else none) = (if p < i then some (12 + p) else none)
          by_cases e2 : p < i
          · rw [if_pos e2, if_pos (by omega)]
          · rw [if_neg e2, if_neg (by omega)])) ?_
      iterate 2 refine za_step X rfl rfl rfl ?_
      rw [show nI i + Int32.ofInt 1 = nI (i + 1) from nI_1 i]
      have z := ih (i + 1) (za_set h1 (12 + i) (wr_c wr_0)) (by omega) (fun p hp => by
        by_cases e : p = i
        · subst e; exact za_set_eq _ _ _
        · rw [za_set_ne (by omega)]; exact hW p (by omega)) (fun j hj => by rw [za_set_ne (by omega)]; exact hoff j hj)
      rw [show 1 + (i + 1) = 1 + i + 1 by omega, show 64 + 6 * (i + 1) = 64 + 6 * i + 6 by omega, show 12 + (i + 1) = 12 + i + 1 by omega] at z
      exact za_loc [(0, vR 10), (1, vI (nI (i + 1)))] rfl z
  refine za_view [(10, .inr (zn_R, [vN, vI 0, vI 0]))] (by simp [hp]) ?_
  iterate 1 refine za_step X rfl rfl rfl ?_
  refine za_obj X rfl zo_R zo_1 zo_2 (Nat.le_of_ble_eq_true rfl) (Nat.le_of_ble_eq_true rfl) (Nat.le_of_ble_eq_true rfl) ?_
  iterate 2 refine za_step X rfl rfl rfl ?_
  refine za_newq (N := 64) (t0 := 2) X rfl rfl zc_R_9 za_wayA (by decide) (by decide) (by decide) (Nat.le_of_ble_eq_true rfl) (Nat.le_of_ble_eq_true rfl) ?_
  refine za_putF (k := 0) (ci := 3) X hnm rfl rfl rfl (by decide) rfl rfl (za_in 160 (by decide +kernel) rfl) rfl rfl (Nat.le_of_ble_eq_true rfl) ?_
  iterate 8 refine za_step X rfl rfl rfl ?_
  refine za_look (h1 := h) (v1 := [(10, rs_c 10 0 0), (11, .inl (2, 64, .inr (.inr (fun p => if p < 0 then some (12 + p) else none))))]) (congrArg (fun z => za_ov h [(10, rs_c 10 0 0), (11, .inl (2, 64, .inr (.inr z)))]) (funext fun p => if_neg (Nat.not_lt_zero p))) ?_
  exact za_loc [(0, vR 10), (1, vI (nI 0))] rfl (loop 64 0 h (by omega) (fun p hp => absurd hp (Nat.not_lt_zero p)) (fun _ _ => rfl))
set_option maxHeartbeats 4000000 in
set_option maxRecDepth 100000 in
theorem c_R_init76 (l : Launch) (D : za_D) (h : za_H) (hp : h 76 = some (.inr (zn_R, [vN, vI 0, vI 0]))) : za_M l D Y_R_init 2 65 448 [vR 76] h 77 (fun v h' n' => v = none ∧ (∃ w, rs_at h' 76 w (0, fun _ => wr_0)) ∧ (∀ j, j < 76 ∨ 141 < j → h' j = h j) ∧ n' = 142) := by
  refine za_enter cd_R_init fl_R (by decide) cdok_R_init flok_R (Nat.le_of_ble_eq_true rfl) ?_
  intro p e s m args below meth c X hnm
  have loop : ∀ (g i : Nat) (h1 : za_H), i + g = 64 → (∀ p, p < i → h1 (78 + p) = some (wr_c wr_0)) → (∀ j, j < 76 ∨ 141 < j → h1 j = h j) → za_W p l e (za_rm 2 65 448) s m args below meth c D 2 (MQ below (za_Q D (fun v h' n' => v = none ∧ (∃ w, rs_at h' 76 w (0, fun _ => wr_0)) ∧ (∀ j, j < 76 ∨ 141 < j → h' j = h j) ∧ n' = 142)) args s 65 448 (fun q : Nat => D.2.2 ≤ q)) h1 (78 + i) (1 + i) (64 + 6 * i) 25 [(0, vR 76), (1, vI (nI i))] [] [(76, rs_c 76 0 0), (77, .inl (2, 64, .inr (.inr (fun p => if p < i then some (78 + p) else none))))] := by
    intro g
    induction g with
    | zero =>
      intro i h1 hi hW hoff
      have hi64 : i = 64 := by omega
      subst hi64
      iterate 2 refine za_step X rfl rfl rfl ?_
      refine za_icge X 50 rfl (by decide) (fun q1 => ?_) (fun q1 => absurd (by decide) q1)
      refine za_extq (i := 77) (t0 := 2) (N := 64) (fun p => some (78 + p)) rfl (fun p hp => if_pos hp) ?_
      refine za_vret X rfl ⟨rfl, ⟨fun p => 78 + p, rfl, rfl, fun p hp => ⟨wr_0, ?_⟩, fun p hp => absurd hp (Nat.not_lt_zero p), fun p hp => ⟨by show 76 + 2 ≤ 78 + p; omega, by show 78 + p < 76 + 66; omega⟩, fun a b _ _ hab => by have hab' : 78 + a = 78 + b := hab; omega, Nat.zero_le _⟩, ?_, rfl⟩ (Nat.le_of_ble_eq_true rfl) (Nat.le_of_ble_eq_true rfl)
      · refine Eq.trans (za_ov_off (v := [(76, _), (77, _)]) ?_) (hW p hp)
        intro q hq
        simp only [List.mem_cons, List.not_mem_nil, or_false] at hq
        rcases hq with rfl | rfl <;> (show _ ≠ _ + p; omega)
      · intro j hj
        refine Eq.trans (za_ov_off (v := [(76, _), (77, _)]) ?_) (hoff j hj)
        intro q hq
        simp only [List.mem_cons, List.not_mem_nil, or_false] at hq
        rcases hq with rfl | rfl <;> (show _ ≠ j; omega)
    | succ g ih =>
      intro i h1 hi hW hoff
      have hci : (nI i).toNatClampNeg = i := nI_clamp (by omega)
      iterate 2 refine za_step X rfl rfl rfl ?_
      refine za_icge X 50 rfl (by decide) (fun q1 => absurd ((nI_leI (a := 64) (by omega) (by omega)).mp q1) (by omega)) (fun q1 => ?_)
      iterate 3 refine za_step X rfl rfl rfl ?_
      refine za_new (N := 6) (ci := zn_W) (fs := [vI 0, vI 0, vI 0, vI 0, vL 0, vI 0]) X rfl rfl zc_R_9 zi_W zj_W (fun z j hj => by rcases (show j = 0 ∨ j = 1 ∨ j = 2 ∨ j = 3 ∨ j = 4 ∨ j = 5 by omega) with rfl | rfl | rfl | rfl | rfl | rfl <;> rfl) (by show 1 + i + 1 ≤ 65; omega) (by show 64 + 6 * i + 6 ≤ 448; omega) ?_
      have hne1 : 78 + i ≠ 76 := by omega
      have hne2 : 78 + i ≠ 77 := by omega
      refine za_look (h1 := za_set h1 (78 + i) (wr_c wr_0)) (v1 := [(76, rs_c 76 0 0), (77, .inl (2, 64, .inr (.inr (fun p => if p < i then some (78 + p) else none))))]) (by
        rw [za_ov_vs, za_ov2, za_ov2]
        show za_set (za_set (za_set h1 (78 + i) (wr_c wr_0)) 77 _) 76 _ = za_set (za_set (za_set h1 77 _) 76 _) (78 + i) (wr_c wr_0)
        rw [za_set_comm (i := 78 + i) (j := 77) hne2, za_set_comm (i := 78 + i) (j := 76) hne1]) ?_
      iterate 1 refine za_step X rfl rfl rfl ?_
      have hwn : za_ov (za_set h1 (78 + i) (wr_c wr_0)) [(76, rs_c 76 0 0), (77, .inl (2, 64, .inr (.inr (fun p => if p < i then some (78 + p) else none))))] (78 + i) = some (wr_c wr_0) := by
        rw [za_ov2, za_set_ne hne1, za_set_ne hne2, za_set_eq]
      refine za_callI (y := Y_W_init.1) (bytes := Y_W_init.2.1) (maxL := Y_W_init.2.2.1) (b := 78 + i) (d := 1) (mc := 0) (ms := 0) (as := []) X rfl cl_R_W_init cy_W_init ci_W_init (c_W_init l D _ _ (78 + i) hwn) rfl rfl (Nat.le_of_ble_eq_true rfl) (Nat.le_of_ble_eq_true rfl) (Nat.le_of_ble_eq_true rfl) (by show 1 + i + 1 + 0 ≤ 65; omega) (by show 64 + 6 * i + 6 + 0 ≤ 448; omega) (fun v h' n' hq => ?_)
      obtain ⟨rfl, rfl, rfl⟩ := hq
      refine za_look (h1 := za_set h1 (78 + i) (wr_c wr_0)) (v1 := [(76, rs_c 76 0 0), (77, .inl (2, 64, .inr (.inr (fun p => if p < i then some (78 + p) else none))))]) rfl ?_
      refine za_aast X rfl rfl rfl hwn rfl (vp_in_nI (by omega) (by decide)) ?_
      rw [hci]
      refine za_look (h1 := za_set h1 (78 + i) (wr_c wr_0)) (v1 := [(76, rs_c 76 0 0), (77, .inl (2, 64, .inr (.inr (fun p => if p < (i + 1) then some (78 + p) else none))))]) (congrArg (fun z => za_ov (za_set h1 (78 + i) (wr_c wr_0)) [(76, rs_c 76 0 0), (77, .inl (2, 64, .inr (.inr z)))]) (funext fun p => by
        unfold va_up
        by_cases e : p = i
        · subst e; rw [if_pos (by omega), if_pos rfl]
        · rw [if_neg e]
          show (if p < i + 1 then some (78 + p) else none) = (if p < i then some (78 + p) else none)
          by_cases e2 : p < i
          · rw [if_pos e2, if_pos (by omega)]
          · rw [if_neg e2, if_neg (by omega)])) ?_
      iterate 2 refine za_step X rfl rfl rfl ?_
      rw [show nI i + Int32.ofInt 1 = nI (i + 1) from nI_1 i]
      have z := ih (i + 1) (za_set h1 (78 + i) (wr_c wr_0)) (by omega) (fun p hp => by
        by_cases e : p = i
        · subst e; exact za_set_eq _ _ _
        · rw [za_set_ne (by omega)]; exact hW p (by omega)) (fun j hj => by rw [za_set_ne (by omega)]; exact hoff j hj)
      rw [show 1 + (i + 1) = 1 + i + 1 by omega, show 64 + 6 * (i + 1) = 64 + 6 * i + 6 by omega, show 78 + (i + 1) = 78 + i + 1 by omega] at z
      exact za_loc [(0, vR 76), (1, vI (nI (i + 1)))] rfl z
  refine za_view [(76, .inr (zn_R, [vN, vI 0, vI 0]))] (by simp [hp]) ?_
  iterate 1 refine za_step X rfl rfl rfl ?_
  refine za_obj X rfl zo_R zo_1 zo_2 (Nat.le_of_ble_eq_true rfl) (Nat.le_of_ble_eq_true rfl) (Nat.le_of_ble_eq_true rfl) ?_
  iterate 2 refine za_step X rfl rfl rfl ?_
  refine za_newq (N := 64) (t0 := 2) X rfl rfl zc_R_9 za_wayA (by decide) (by decide) (by decide) (Nat.le_of_ble_eq_true rfl) (Nat.le_of_ble_eq_true rfl) ?_
  refine za_putF (k := 0) (ci := 3) X hnm rfl rfl rfl (by decide) rfl rfl (za_in 160 (by decide +kernel) rfl) rfl rfl (Nat.le_of_ble_eq_true rfl) ?_
  iterate 8 refine za_step X rfl rfl rfl ?_
  refine za_look (h1 := h) (v1 := [(76, rs_c 76 0 0), (77, .inl (2, 64, .inr (.inr (fun p => if p < 0 then some (78 + p) else none))))]) (congrArg (fun z => za_ov h [(76, rs_c 76 0 0), (77, .inl (2, 64, .inr (.inr z)))]) (funext fun p => if_neg (Nat.not_lt_zero p))) ?_
  exact za_loc [(0, vR 76), (1, vI (nI 0))] rfl (loop 64 0 h (by omega) (fun p hp => absurd hp (Nat.not_lt_zero p)) (fun _ _ => rfl))
