def R_law : String := "WayFinderLaw"
def lw_P (b : Addr) (xs : List Int32) (args : Array Value) (s : State) : Prop := args = #[.ref b] ∧ s.IntsAt b xs ∧ xs.length ≤ 2560 ∧ (Jvm.Cond.and given_1 narrow_1).before args s = true
def lw_Q (_ : Array Value) (s : State) (o : Outcome) (t : State) : Prop := o = .returned (some (.int 1)) ∧ Framed s o t [] 612195 7259518
def lw_Z (below : List Frame) (a : Array Value) (s : State) : State → Prop := fun t => ∃ o, t.status = .running ∧ Ended t below o ∧ lw_Q a s o t
/-- the law's own end, with 1 on the stack, nothing written that was there before, its room as the claim has it -/
theorem lw_ret {p : Program} {l : Launch} {e : Env} {s : State} {m : MethodId} {below : List Frame} {meth : Method} {c : Code} {b : Nat} (hx : p.tables.exec = Jvm.exec) (hb : c.code = code) (hr : meth.sig.returnType = ret) (hlocks : meth.locks = false) {pc : Nat} {H : Heap} {ls : Array Slot} (hdg : decode code pc = .ok (.ireturn, 1)) : W p l e room_1 s m #[Value.ref b] below meth c H [] 612195 7259518 (lw_Z below #[Value.ref b] s) (F0 m pc ls [.int 1]) := by
  intro T hT X
  obtain ⟨fs, hret, hrun, hended, hW, hframe⟩ := X.leave (v := some (.int 1)) (hlocks := hlocks) (fun h => by rw [hr] at h; cases h)
  have hmeth' : T.vm.method? m = some meth := X.method'
  refine ⟨T.setFrames fs, ?_, .returned (some (.int 1)), hrun, hended, rfl, ⟨_, rfl⟩, hW, hframe⟩
  jvm_step X.here [X.here.top, hx, hb, hdg, hmeth', hr, ret, narrow_b1]
  (try refine ⟨rfl, ?_⟩); (try refine ⟨rfl, ?_⟩)
  first | (intro acts; rw [hret _ acts rfl rfl rfl]) | rw [hret _ _ rfl rfl rfl]
  exact Steps.refl _
/-- what holds at the law's entry: the machine, the code, the tables' words (any of lw_tbl by 'hts w (by decide +kernel)'), the script of L ints xs at the cell b, what the Statement gives of the start (any of its parts by flat_of_before) -/
def lw_At (p : Program) (s : State) (m : MethodId) (meth : Method) (c : Code) (b L : Nat) (xs : Nat → Int32) : Prop :=
  p.tables.exec = Jvm.exec ∧ c.code = code ∧ meth.sig.returnType = ret ∧ c.maxLocals = 7 ∧ s.vm.findClass R_law = some m.cls ∧ (∀ w ∈ lw_tbl, w.before #[Value.ref b] s = true) ∧ va_X b L xs s s.heap ∧ b < s.heap.size ∧ meth.locks = false ∧ (Jvm.Cond.and given_1 narrow_1).before #[Value.ref b] s = true
theorem zl_K {s : State} {args : Array Value} (hts : ∀ w ∈ za_tt, w.before args s = true) : ∃ (G : va_G) (arr : Nat → ClassId), va_K G za_cl (za_tys (G, arr, s.heap.size)) s := by
  obtain ⟨c0, i0, k0⟩ := u_known hts (za_cok 0 _ _ _ rfl).1 (hts _ zi_P)
  obtain ⟨c1, i1, k1⟩ := u_known hts (za_cok 1 _ _ _ rfl).1 (hts _ zi_T)
  obtain ⟨c2, i2, k2⟩ := u_known hts (za_cok 2 _ _ _ rfl).1 (hts _ zi_W)
  obtain ⟨c3, i3, k3⟩ := u_known hts (za_cok 3 _ _ _ rfl).1 (hts _ zi_R)
  obtain ⟨c4, i4, k4⟩ := u_known hts (za_cok 4 _ _ _ rfl).1 (hts _ zi_F)
  obtain ⟨c5, i5, k5⟩ := u_known hts (za_cok 5 _ _ _ rfl).1 (hts _ zi_M)
  obtain ⟨ca, ka, pa, fa, ga, qa⟩ := Cond.arrayClass_spec (hts _ za_intA)
  obtain ⟨cb, kb, pb, fb, gb, qb⟩ := Cond.arrayClass_spec (hts _ za_longA)
  obtain ⟨pw, cw, kw, f1, f2, f3, f4, f5⟩ := Cond.arrayOver_spec (hts _ za_wayA)
  refine ⟨(fun c => match c with | 0 => c0 | 1 => c1 | 2 => c2 | 3 => c3 | 4 => c4 | _ => c5, fun c => match c with | 0 => i0 | 1 => i1 | 2 => i2 | 3 => i3 | 4 => i4 | _ => i5), (fun k => match k with | 0 => ca | 1 => cb | _ => cw), ?_, ?_⟩
  · intro c q hq
    match c, hq with
    | 0, hq => cases hq; exact k0
    | 1, hq => cases hq; exact k1
    | 2, hq => cases hq; exact k2
    | 3, hq => cases hq; exact k3
    | 4, hq => cases hq; exact k4
    | 5, hq => cases hq; exact k5
    | k + 6, hq => simp [za_cl] at hq
  · intro k q hq
    match k, hq with
    | 0, hq => cases hq; exact ⟨fun n z => ⟨fun k h => (by cases h), ka, ga, pa, qa⟩, fa⟩
    | 1, hq => cases hq; exact ⟨fun n z => ⟨fun k h => (by cases h), kb, gb, pb, qb⟩, fb⟩
    | 2, hq => cases hq; exact ⟨fun n z => ⟨fun k h => (by cases h), kw, f3, pw, f4⟩, ⟨kw, pw, f3, f4, f1, f5⟩⟩
    | k + 3, hq => cases hq
theorem zl_H {s : State} {args : Array Value} (hts : ∀ w ∈ lw_tbl, w.before args s = true) (hg : (Jvm.Cond.and given_1 narrow_1).before args s = true) : zt_H s.heap.size s := by
  have hs := flat_of_before _ hg
  refine ⟨zt_S.of (hts _ (by decide +kernel)) (hs _ (by decide +kernel)), zt_S.of (hts _ (by decide +kernel)) (hs _ (by decide +kernel)), fun q hq => ?_⟩
  simp only [zt_nc, List.mem_cons, List.not_mem_nil, or_false] at hq
  rcases hq with rfl | rfl | rfl
  · exact va_Nc.of (hs _ (by decide +kernel))
  · exact va_Nc.of (hs _ (by decide +kernel))
  · exact va_Nc.of (hs _ (by decide +kernel))
theorem zl_end {L i : Nat} (hL : L ≤ 2560) (hi : i ≤ 2560) : (Int32.ofNat L - Int32.ofInt 5 < nI i) ↔ L < i + 5 := by
  rw [Int32.lt_iff_toInt_lt]
  have e1 : (Int32.ofNat L - Int32.ofInt 5).toInt = (L : Int) - 5 := by
    rw [Int32.toInt_sub, show (Int32.ofNat L).toInt = (L : Int) from nI_toInt (n := L) (by omega)]
    show Int.bmod ((L : Int) - 5) (2 ^ 32) = _
    rw [Int.bmod_eq_of_le (by omega) (by omega)]
  rw [e1, nI_toInt (by omega)]
  omega
set_option maxHeartbeats 8000000 in
set_option maxRecDepth 100000 in
theorem zl_loop {p : Program} {e : Env} {s : State} {m : MethodId} {below : List Frame} {meth : Method} {c : Code} (l : Launch) (hst : l.stackTraces = false) {b L : Nat} {xs : Nat → Int32} (hL : L ≤ 2560) (hx : va_X b L xs s s.heap) (hbs : b < s.heap.size) (D : za_D) (hz : D.2.2 = s.heap.size) (X : za_X p s m #[Value.ref b] meth c D "WayFinderLaw" code cd_L_law fl_L 7 ret) (hH : zt_H D.2.2 s) : ∀ (f t i : Nat) (σ : fs_T) (h1 : za_H) (n1 : Nat), i = 5 * t → t + f = 512 → L < i + 5 + 5 * f → zl_I h1 σ → za_W p l e room_1 s m #[Value.ref b] below meth c D 7 (lw_Z below #[Value.ref b] s) h1 n1 (160 + t) (1881 + 6 * t) 23 [(1, vR 0), (2, vR 142), (3, vR 159), (4, vI (nI i))] [] [] := by
  have hbz : b < D.2.2 := by rw [hz]; exact hbs
  intro f
  induction f with
  | zero =>
    intro t i σ h1 n1 hi ht hf hI
    iterate 1 refine za_step X rfl rfl rfl ?_
    refine zl_ln X hbz hbs hx rfl rfl ?_
    iterate 2 refine za_step X rfl rfl rfl ?_
    refine za_icgt X 795 rfl (by decide) (fun q1 => ?_) (fun q1 => absurd ((zl_end hL (by omega)).mpr (by omega)) q1)
    iterate 1 refine za_step X rfl rfl rfl ?_
    intro H locs ls hR hS hl
    refine va_forget (fun q hq => by have := hS.2.2 q hq; rw [← hz]; exact this) ?_
    refine W.widen (show 160 + t ≤ 612195 by omega) (show 1881 + 6 * t ≤ 7259518 by omega) ?_
    exact lw_ret X.1 X.2.1 X.2.2.2.2.2.2.2.2.1 X.2.2.2.2.2.2.2.2.2.1 (za_fe_ok (pc := 796) cdok_L_law rfl)
  | succ f ih =>
    intro t i σ h1 n1 hi ht hf hI
    iterate 1 refine za_step X rfl rfl rfl ?_
    refine zl_ln X hbz hbs hx rfl rfl ?_
    iterate 2 refine za_step X rfl rfl rfl ?_
    refine za_icgt X 795 rfl (by decide) (fun q1 => ?_) (fun q1 => ?_)
    · iterate 1 refine za_step X rfl rfl rfl ?_
      intro H locs ls hR hS hl
      refine va_forget (fun q hq => by have := hS.2.2 q hq; rw [← hz]; exact this) ?_
      refine W.widen (show 160 + t ≤ 612195 by omega) (show 1881 + 6 * t ≤ 7259518 by omega) ?_
      exact lw_ret X.1 X.2.1 X.2.2.2.2.2.2.2.2.1 X.2.2.2.2.2.2.2.2.2.1 (za_fe_ok (pc := 796) cdok_L_law rfl)
    · have hiL : i + 5 ≤ L := Nat.not_lt.mp (fun z => q1 ((zl_end hL (by omega)).mpr z))
      have at789 : ∀ (σ' : fs_T) (h2 : za_H) (n2 : Nat), zl_I h2 σ' → za_W p l e room_1 s m #[Value.ref b] below meth c D 7 (lw_Z below #[Value.ref b] s) h2 n2 (160 + t + 1) (1881 + 6 * t + 6) 789 [(1, vR 0), (2, vR 142), (3, vR 159), (4, vI (nI i))] [] [] := by
        intro σ' h2 n2 hI2
        iterate 2 refine za_step X rfl rfl rfl ?_
        rw [show nI i + Int32.ofInt 5 = nI (i + 5) from nI_k i 5]
        have z := ih (t + 1) (i + 5) σ' h2 n2 (by omega) (by omega) (by omega) hI2
        rw [show 160 + (t + 1) = 160 + t + 1 by omega, show 1881 + 6 * (t + 1) = 1881 + 6 * t + 6 by omega] at z
        exact za_loc [(1, vR 0), (2, vR 142), (3, vR 159), (4, vI (nI (i + 5)))] rfl z
      obtain ⟨th, hm1⟩ := hI.2.1
      obtain ⟨w1, hw1⟩ := hI.2.2
      refine zl_e0 X hbz hbs hx rfl (by omega) hL rfl rfl rfl ?_
      iterate 2 refine za_step X rfl rfl rfl ?_
      generalize xs i &&& (Int8.ofInt 15).toInt32 = val
      by_cases v0 : val = 0
      · refine za_tsw X 0 100 rfl (by rw [v0]; decide) (by decide) (by decide) rfl (by decide) ?_
        iterate 1 refine za_step X rfl rfl rfl ?_
        refine zl_el X hbz hbs hx 1 rfl rfl (by omega) hL rfl rfl rfl rfl rfl ?_
        refine zl_el X hbz hbs hx 2 rfl rfl (by omega) hL rfl rfl rfl rfl rfl ?_
        refine zl_el X hbz hbs hx 3 rfl rfl (by omega) hL rfl rfl rfl rfl rfl ?_
        refine zl_el X hbz hbs hx 4 rfl rfl (by omega) hL rfl rfl rfl rfl rfl ?_
        iterate 1 refine za_step X rfl rfl rfl ?_
        refine zg_callS (K := .codeWith Y_L_instr.1 Y_L_instr.2.1 Y_L_instr.2.2.1 Y_L_instr.2.2.2 hs_L_instr) (Y := Y_L_instr) (hs := hs_L_instr) (d := 7) (mc := 1) (ms := 6) (as := [vR 0, vI (xs (i + 1)), vI (xs (i + 2)), vI (xs (i + 3)), vI (xs (i + 4)), vR 159]) (rest := []) X hH rfl (za_in 199 (by decide +kernel) rfl) (zg_Kwith Y_L_instr hs_L_instr) kw_L_instr (za_in 21 (by decide +kernel) rfl) cs_L_instr (by decide) (show _ = some 6 from by decide +kernel) (kw_nd Y_L_instr hs_L_instr) (c_L_instr l D h1 n1 hst σ hI.1 w1 hw1 (xs (i + 1)) (xs (i + 2)) (xs (i + 3)) (xs (i + 4))) rfl (Nat.le_of_ble_eq_true rfl) (Nat.le_of_ble_eq_true rfl) (Nat.le_of_ble_eq_true rfl) (by show _ ≤ 612195; omega) (by show _ ≤ 7259518; omega) (fun r2 h2 n2 hq => ?_)
        obtain ⟨rfl, hf2, hfr2, ⟨w2, ho2, hw2⟩, _, _⟩ := hq
        have hle := spl_instr σ (xs (i + 1)) (xs (i + 2)) (xs (i + 3)) (xs (i + 4))
        have hm2 : ms_at h2 th σ := ms_mv hm1 (fun j a1 a2 => hfr2 j a1 (by omega))
        obtain ⟨cl2, hcl2⟩ := ms_cell hm2
        iterate 2 refine za_step X rfl rfl rfl ?_
        refine zl_el X hbz hbs hx 1 rfl rfl (by omega) hL rfl rfl rfl rfl rfl ?_
        refine zl_el X hbz hbs hx 2 rfl rfl (by omega) hL rfl rfl rfl rfl rfl ?_
        refine zl_el X hbz hbs hx 3 rfl rfl (by omega) hL rfl rfl rfl rfl rfl ?_
        refine zl_el X hbz hbs hx 4 rfl rfl (by omega) hL rfl rfl rfl rfl rfl ?_
        refine za_callV (b := 142) (d := 3) (mc := 0) (ms := 0) (as := [vI (xs (i + 1)), vI (xs (i + 2)), vI (xs (i + 3)), vI (xs (i + 4))]) (rest := []) X rfl cl_L_M_instr cy_M_instr cv_M_instr (c_M_instr l D h2 n2 th σ hm2 (xs (i + 1)) (xs (i + 2)) (xs (i + 3)) (xs (i + 4))) rfl rfl hcl2 rfl (Nat.le_of_ble_eq_true rfl) (Nat.le_of_ble_eq_true rfl) (Nat.le_of_ble_eq_true rfl) (by show _ ≤ 612195; omega) (by show _ ≤ 7259518; omega) (fun v h3 n3 hq => ?_)
        obtain ⟨rfl, hm3, hfr3, rfl⟩ := hq
        obtain ⟨cl3, hcl3⟩ := ms_cell hm3
        have hf3 : fs_at h3 (sp_instr σ (xs (i + 1)) (xs (i + 2)) (xs (i + 3)) (xs (i + 4))).2.2 := fs_off hf2 (fun j hj => hfr3 j (Or.inl hj))
        have ho3 : ou_at h3 w2 := (hfr3 159 (Or.inr (Nat.le_refl _))).trans ho2
        iterate 2 refine za_step X rfl rfl rfl ?_
        refine za_callV (b := 142) (d := 0) (mc := 0) (ms := 0) (as := []) (rest := []) X rfl cl_L_M_thrown cy_M_thrown cv_M_thrown (c_M_thr l D h3 n2 (nI (sp_instr σ (xs (i + 1)) (xs (i + 2)) (xs (i + 3)) (xs (i + 4))).1) (sp_instr σ (xs (i + 1)) (xs (i + 2)) (xs (i + 3)) (xs (i + 4))).2.2 hm3) rfl rfl hcl3 rfl (Nat.le_of_ble_eq_true rfl) (Nat.le_of_ble_eq_true rfl) (Nat.le_of_ble_eq_true rfl) (by show _ ≤ 612195; omega) (by show _ ≤ 7259518; omega) (fun v h4 n4 hq => ?_)
        obtain ⟨rfl, rfl, rfl⟩ := hq
        iterate 1 refine za_step X rfl rfl rfl ?_
        refine za_iceq X 172 rfl (by decide) (fun q2 => ?_) (fun q2 => absurd rfl q2)
        iterate 1 refine za_step X rfl rfl rfl ?_
        refine za_ifne X 189 rfl (by decide) (fun q3 => ?_) (fun q3 => ?_)
        · iterate 1 refine za_step X rfl rfl rfl ?_
          exact za_loc [(1, vR 0), (2, vR 142), (3, vR 159), (4, vI (nI i))] rfl (at789 (sp_instr σ (xs (i + 1)) (xs (i + 2)) (xs (i + 3)) (xs (i + 4))).2.2 h4 n2 ⟨hf3, ⟨_, hm3⟩, w2, ho3⟩)
        · have hR0 : (sp_instr σ (xs (i + 1)) (xs (i + 2)) (xs (i + 3)) (xs (i + 4))).1 = 0 := (nI_eq (b := 0) (by omega) (by omega)).mp (q3.trans rfl)
          refine za_view [(159, .inl (1, 1, .inr (.inl w2)))] (by intro p hp; rw [List.mem_singleton.mp hp]; exact ho3) ?_
          iterate 2 refine za_step X rfl rfl rfl ?_
          refine za_lald X rfl rfl rfl (by unfold vp_in; decide) ?_
          iterate 3 refine za_step X rfl rfl rfl ?_
          refine za_ifeq X 189 rfl (by decide) (fun q4 => ?_) (fun q4 => absurd (lg_0.mpr (hw2 hR0)) q4)
          iterate 1 refine za_step X rfl rfl rfl ?_
          refine za_look (h1 := h4) (v1 := []) (by rw [za_ov1, za_set_same ho3]; rfl) ?_
          exact za_loc [(1, vR 0), (2, vR 142), (3, vR 159), (4, vI (nI i))] rfl (at789 (sp_instr σ (xs (i + 1)) (xs (i + 2)) (xs (i + 3)) (xs (i + 4))).2.2 h4 n2 ⟨hf3, ⟨_, hm3⟩, w2, ho3⟩)
      by_cases v1 : val = 1
      · refine za_tsw X 1 192 rfl (by rw [v1]; decide) (by decide) (by decide) rfl (by decide) ?_
        iterate 1 refine za_step X rfl rfl rfl ?_
        iterate 1 refine za_step X rfl rfl rfl ?_
        refine zg_callS (K := .codeWith Y_L_undo.1 Y_L_undo.2.1 Y_L_undo.2.2.1 Y_L_undo.2.2.2 hs_L_undo) (Y := Y_L_undo) (hs := hs_L_undo) (d := 7) (mc := 1) (ms := 6) (as := [vR 0, vR 159]) (rest := []) X hH rfl (za_in 299 (by decide +kernel) rfl) (zg_Kwith Y_L_undo hs_L_undo) kw_L_undo (za_in 21 (by decide +kernel) rfl) cs_L_undo (by decide) (show _ = some 2 from by decide +kernel) (kw_nd Y_L_undo hs_L_undo) (c_L_undo l D h1 n1 hst σ hI.1 w1 hw1) rfl (Nat.le_of_ble_eq_true rfl) (Nat.le_of_ble_eq_true rfl) (Nat.le_of_ble_eq_true rfl) (by show _ ≤ 612195; omega) (by show _ ≤ 7259518; omega) (fun r2 h2 n2 hq => ?_)
        obtain ⟨rfl, hf2, hfr2, ⟨w2, ho2, hw2⟩, _, _⟩ := hq
        have hle := spl_undo σ
        have hm2 : ms_at h2 th σ := ms_mv hm1 (fun j a1 a2 => hfr2 j a1 (by omega))
        obtain ⟨cl2, hcl2⟩ := ms_cell hm2
        iterate 2 refine za_step X rfl rfl rfl ?_
        refine za_callV (b := 142) (d := 3) (mc := 0) (ms := 0) (as := []) (rest := []) X rfl cl_L_M_undo cy_M_undo cv_M_undo (c_M_undo l D h2 n2 th σ hm2) rfl rfl hcl2 rfl (Nat.le_of_ble_eq_true rfl) (Nat.le_of_ble_eq_true rfl) (Nat.le_of_ble_eq_true rfl) (by show _ ≤ 612195; omega) (by show _ ≤ 7259518; omega) (fun v h3 n3 hq => ?_)
        obtain ⟨rfl, hm3, hfr3, rfl⟩ := hq
        obtain ⟨cl3, hcl3⟩ := ms_cell hm3
        have hf3 : fs_at h3 (sp_undo σ).2.2 := fs_off hf2 (fun j hj => hfr3 j (Or.inl hj))
        have ho3 : ou_at h3 w2 := (hfr3 159 (Or.inr (Nat.le_refl _))).trans ho2
        iterate 2 refine za_step X rfl rfl rfl ?_
        refine za_callV (b := 142) (d := 0) (mc := 0) (ms := 0) (as := []) (rest := []) X rfl cl_L_M_thrown cy_M_thrown cv_M_thrown (c_M_thr l D h3 n2 (nI (sp_undo σ).1) (sp_undo σ).2.2 hm3) rfl rfl hcl3 rfl (Nat.le_of_ble_eq_true rfl) (Nat.le_of_ble_eq_true rfl) (Nat.le_of_ble_eq_true rfl) (by show _ ≤ 612195; omega) (by show _ ≤ 7259518; omega) (fun v h4 n4 hq => ?_)
        obtain ⟨rfl, rfl, rfl⟩ := hq
        iterate 1 refine za_step X rfl rfl rfl ?_
        refine za_iceq X 216 rfl (by decide) (fun q2 => ?_) (fun q2 => absurd rfl q2)
        iterate 1 refine za_step X rfl rfl rfl ?_
        refine za_ifne X 233 rfl (by decide) (fun q3 => ?_) (fun q3 => ?_)
        · iterate 1 refine za_step X rfl rfl rfl ?_
          exact za_loc [(1, vR 0), (2, vR 142), (3, vR 159), (4, vI (nI i))] rfl (at789 (sp_undo σ).2.2 h4 n2 ⟨hf3, ⟨_, hm3⟩, w2, ho3⟩)
        · have hR0 : (sp_undo σ).1 = 0 := (nI_eq (b := 0) (by omega) (by omega)).mp (q3.trans rfl)
          refine za_view [(159, .inl (1, 1, .inr (.inl w2)))] (by intro p hp; rw [List.mem_singleton.mp hp]; exact ho3) ?_
          iterate 2 refine za_step X rfl rfl rfl ?_
          refine za_lald X rfl rfl rfl (by unfold vp_in; decide) ?_
          iterate 3 refine za_step X rfl rfl rfl ?_
          refine za_ifeq X 233 rfl (by decide) (fun q4 => ?_) (fun q4 => absurd (lg_0.mpr (hw2 hR0)) q4)
          iterate 1 refine za_step X rfl rfl rfl ?_
          refine za_look (h1 := h4) (v1 := []) (by rw [za_ov1, za_set_same ho3]; rfl) ?_
          exact za_loc [(1, vR 0), (2, vR 142), (3, vR 159), (4, vI (nI i))] rfl (at789 (sp_undo σ).2.2 h4 n2 ⟨hf3, ⟨_, hm3⟩, w2, ho3⟩)
      by_cases v2 : val = 2
      · refine za_tsw X 2 236 rfl (by rw [v2]; decide) (by decide) (by decide) rfl (by decide) ?_
        iterate 1 refine za_step X rfl rfl rfl ?_
        refine zl_el X hbz hbs hx 1 rfl rfl (by omega) hL rfl rfl rfl rfl rfl ?_
        iterate 1 refine za_step X rfl rfl rfl ?_
        refine zg_callS (K := .codeWith Y_L_width.1 Y_L_width.2.1 Y_L_width.2.2.1 Y_L_width.2.2.2 hs_L_width) (Y := Y_L_width) (hs := hs_L_width) (d := 7) (mc := 1) (ms := 6) (as := [vR 0, vI (xs (i + 1)), vR 159]) (rest := []) X hH rfl (za_in 322 (by decide +kernel) rfl) (zg_Kwith Y_L_width hs_L_width) kw_L_width (za_in 21 (by decide +kernel) rfl) cs_L_width (by decide) (show _ = some 3 from by decide +kernel) (kw_nd Y_L_width hs_L_width) (c_L_width l D h1 n1 hst σ hI.1 w1 hw1 (xs (i + 1))) rfl (Nat.le_of_ble_eq_true rfl) (Nat.le_of_ble_eq_true rfl) (Nat.le_of_ble_eq_true rfl) (by show _ ≤ 612195; omega) (by show _ ≤ 7259518; omega) (fun r2 h2 n2 hq => ?_)
        obtain ⟨rfl, hf2, hfr2, ⟨w2, ho2, hw2⟩, _, _⟩ := hq
        have hle := spl_width σ (xs (i + 1))
        have hm2 : ms_at h2 th σ := ms_mv hm1 (fun j a1 a2 => hfr2 j a1 (by omega))
        obtain ⟨cl2, hcl2⟩ := ms_cell hm2
        iterate 2 refine za_step X rfl rfl rfl ?_
        refine zl_el X hbz hbs hx 1 rfl rfl (by omega) hL rfl rfl rfl rfl rfl ?_
        refine za_callV (b := 142) (d := 3) (mc := 0) (ms := 0) (as := [vI (xs (i + 1))]) (rest := []) X rfl cl_L_M_width cy_M_width cv_M_width (c_M_width l D h2 n2 th σ hm2 (xs (i + 1))) rfl rfl hcl2 rfl (Nat.le_of_ble_eq_true rfl) (Nat.le_of_ble_eq_true rfl) (Nat.le_of_ble_eq_true rfl) (by show _ ≤ 612195; omega) (by show _ ≤ 7259518; omega) (fun v h3 n3 hq => ?_)
        obtain ⟨rfl, hm3, hfr3, rfl⟩ := hq
        obtain ⟨cl3, hcl3⟩ := ms_cell hm3
        have hf3 : fs_at h3 (sp_width σ (xs (i + 1))).2.2 := fs_off hf2 (fun j hj => hfr3 j (Or.inl hj))
        have ho3 : ou_at h3 w2 := (hfr3 159 (Or.inr (Nat.le_refl _))).trans ho2
        iterate 2 refine za_step X rfl rfl rfl ?_
        refine za_callV (b := 142) (d := 0) (mc := 0) (ms := 0) (as := []) (rest := []) X rfl cl_L_M_thrown cy_M_thrown cv_M_thrown (c_M_thr l D h3 n2 (nI (sp_width σ (xs (i + 1))).1) (sp_width σ (xs (i + 1))).2.2 hm3) rfl rfl hcl3 rfl (Nat.le_of_ble_eq_true rfl) (Nat.le_of_ble_eq_true rfl) (Nat.le_of_ble_eq_true rfl) (by show _ ≤ 612195; omega) (by show _ ≤ 7259518; omega) (fun v h4 n4 hq => ?_)
        obtain ⟨rfl, rfl, rfl⟩ := hq
        iterate 1 refine za_step X rfl rfl rfl ?_
        refine za_iceq X 272 rfl (by decide) (fun q2 => ?_) (fun q2 => absurd rfl q2)
        iterate 1 refine za_step X rfl rfl rfl ?_
        refine za_ifne X 289 rfl (by decide) (fun q3 => ?_) (fun q3 => ?_)
        · iterate 1 refine za_step X rfl rfl rfl ?_
          exact za_loc [(1, vR 0), (2, vR 142), (3, vR 159), (4, vI (nI i))] rfl (at789 (sp_width σ (xs (i + 1))).2.2 h4 n2 ⟨hf3, ⟨_, hm3⟩, w2, ho3⟩)
        · have hR0 : (sp_width σ (xs (i + 1))).1 = 0 := (nI_eq (b := 0) (by omega) (by omega)).mp (q3.trans rfl)
          refine za_view [(159, .inl (1, 1, .inr (.inl w2)))] (by intro p hp; rw [List.mem_singleton.mp hp]; exact ho3) ?_
          iterate 2 refine za_step X rfl rfl rfl ?_
          refine za_lald X rfl rfl rfl (by unfold vp_in; decide) ?_
          iterate 3 refine za_step X rfl rfl rfl ?_
          refine za_ifeq X 289 rfl (by decide) (fun q4 => ?_) (fun q4 => absurd (lg_0.mpr (hw2 hR0)) q4)
          iterate 1 refine za_step X rfl rfl rfl ?_
          refine za_look (h1 := h4) (v1 := []) (by rw [za_ov1, za_set_same ho3]; rfl) ?_
          exact za_loc [(1, vR 0), (2, vR 142), (3, vR 159), (4, vI (nI i))] rfl (at789 (sp_width σ (xs (i + 1))).2.2 h4 n2 ⟨hf3, ⟨_, hm3⟩, w2, ho3⟩)
      by_cases v3 : val = 3
      · refine za_tsw X 3 292 rfl (by rw [v3]; decide) (by decide) (by decide) rfl (by decide) ?_
        iterate 1 refine za_step X rfl rfl rfl ?_
        refine zl_el X hbz hbs hx 1 rfl rfl (by omega) hL rfl rfl rfl rfl rfl ?_
        refine zl_el X hbz hbs hx 2 rfl rfl (by omega) hL rfl rfl rfl rfl rfl ?_
        iterate 1 refine za_step X rfl rfl rfl ?_
        refine zg_callS (K := .codeWith Y_L_run.1 Y_L_run.2.1 Y_L_run.2.2.1 Y_L_run.2.2.2 hs_L_run) (Y := Y_L_run) (hs := hs_L_run) (d := 7) (mc := 1) (ms := 6) (as := [vR 0, vI (xs (i + 1)), vI (xs (i + 2)), vR 159]) (rest := []) X hH rfl (za_in 329 (by decide +kernel) rfl) (zg_Kwith Y_L_run hs_L_run) kw_L_run (za_in 21 (by decide +kernel) rfl) cs_L_run (by decide) (show _ = some 4 from by decide +kernel) (kw_nd Y_L_run hs_L_run) (c_L_run l D h1 n1 hst σ hI.1 w1 hw1 (xs (i + 1)) (xs (i + 2))) rfl (Nat.le_of_ble_eq_true rfl) (Nat.le_of_ble_eq_true rfl) (Nat.le_of_ble_eq_true rfl) (by show _ ≤ 612195; omega) (by show _ ≤ 7259518; omega) (fun r2 h2 n2 hq => ?_)
        obtain ⟨rfl, hf2, hfr2, ⟨w2, ho2, hw2⟩, _, _⟩ := hq
        have hle := spl_run σ (xs (i + 1)) (xs (i + 2))
        have hm2 : ms_at h2 th σ := ms_mv hm1 (fun j a1 a2 => hfr2 j a1 (by omega))
        obtain ⟨cl2, hcl2⟩ := ms_cell hm2
        iterate 2 refine za_step X rfl rfl rfl ?_
        refine zl_el X hbz hbs hx 1 rfl rfl (by omega) hL rfl rfl rfl rfl rfl ?_
        refine zl_el X hbz hbs hx 2 rfl rfl (by omega) hL rfl rfl rfl rfl rfl ?_
        refine za_callV (b := 142) (d := 3) (mc := 0) (ms := 0) (as := [vI (xs (i + 1)), vI (xs (i + 2))]) (rest := []) X rfl cl_L_M_run cy_M_run cv_M_run (c_M_run l D h2 n2 th σ hm2 (xs (i + 1)) (xs (i + 2))) rfl rfl hcl2 rfl (Nat.le_of_ble_eq_true rfl) (Nat.le_of_ble_eq_true rfl) (Nat.le_of_ble_eq_true rfl) (by show _ ≤ 612195; omega) (by show _ ≤ 7259518; omega) (fun v h3 n3 hq => ?_)
        obtain ⟨rfl, hm3, hfr3, rfl⟩ := hq
        obtain ⟨cl3, hcl3⟩ := ms_cell hm3
        have hf3 : fs_at h3 (sp_run σ (xs (i + 1)) (xs (i + 2))).2.2 := fs_off hf2 (fun j hj => hfr3 j (Or.inl hj))
        have ho3 : ou_at h3 w2 := (hfr3 159 (Or.inr (Nat.le_refl _))).trans ho2
        iterate 2 refine za_step X rfl rfl rfl ?_
        refine za_callV (b := 142) (d := 0) (mc := 0) (ms := 0) (as := []) (rest := []) X rfl cl_L_M_thrown cy_M_thrown cv_M_thrown (c_M_thr l D h3 n2 (nI (sp_run σ (xs (i + 1)) (xs (i + 2))).1) (sp_run σ (xs (i + 1)) (xs (i + 2))).2.2 hm3) rfl rfl hcl3 rfl (Nat.le_of_ble_eq_true rfl) (Nat.le_of_ble_eq_true rfl) (Nat.le_of_ble_eq_true rfl) (by show _ ≤ 612195; omega) (by show _ ≤ 7259518; omega) (fun v h4 n4 hq => ?_)
        obtain ⟨rfl, rfl, rfl⟩ := hq
        iterate 1 refine za_step X rfl rfl rfl ?_
        refine za_iceq X 340 rfl (by decide) (fun q2 => ?_) (fun q2 => absurd rfl q2)
        iterate 1 refine za_step X rfl rfl rfl ?_
        refine za_ifne X 357 rfl (by decide) (fun q3 => ?_) (fun q3 => ?_)
        · iterate 1 refine za_step X rfl rfl rfl ?_
          exact za_loc [(1, vR 0), (2, vR 142), (3, vR 159), (4, vI (nI i))] rfl (at789 (sp_run σ (xs (i + 1)) (xs (i + 2))).2.2 h4 n2 ⟨hf3, ⟨_, hm3⟩, w2, ho3⟩)
        · have hR0 : (sp_run σ (xs (i + 1)) (xs (i + 2))).1 = 0 := (nI_eq (b := 0) (by omega) (by omega)).mp (q3.trans rfl)
          refine za_view [(159, .inl (1, 1, .inr (.inl w2)))] (by intro p hp; rw [List.mem_singleton.mp hp]; exact ho3) ?_
          iterate 2 refine za_step X rfl rfl rfl ?_
          refine za_lald X rfl rfl rfl (by unfold vp_in; decide) ?_
          iterate 3 refine za_step X rfl rfl rfl ?_
          refine za_ifeq X 357 rfl (by decide) (fun q4 => ?_) (fun q4 => absurd (lg_0.mpr (hw2 hR0)) q4)
          iterate 1 refine za_step X rfl rfl rfl ?_
          refine za_look (h1 := h4) (v1 := []) (by rw [za_ov1, za_set_same ho3]; rfl) ?_
          exact za_loc [(1, vR 0), (2, vR 142), (3, vR 159), (4, vI (nI i))] rfl (at789 (sp_run σ (xs (i + 1)) (xs (i + 2))).2.2 h4 n2 ⟨hf3, ⟨_, hm3⟩, w2, ho3⟩)
      by_cases v4 : val = 4
      · refine za_tsw X 4 360 rfl (by rw [v4]; decide) (by decide) (by decide) rfl (by decide) ?_
        iterate 1 refine za_step X rfl rfl rfl ?_
        refine zl_el X hbz hbs hx 1 rfl rfl (by omega) hL rfl rfl rfl rfl rfl ?_
        iterate 1 refine za_step X rfl rfl rfl ?_
        refine zg_callS (K := .codeWith Y_L_last.1 Y_L_last.2.1 Y_L_last.2.2.1 Y_L_last.2.2.2 hs_L_last) (Y := Y_L_last) (hs := hs_L_last) (d := 7) (mc := 1) (ms := 6) (as := [vR 0, vI (xs (i + 1)), vR 159]) (rest := []) X hH rfl (za_in 387 (by decide +kernel) rfl) (zg_Kwith Y_L_last hs_L_last) kw_L_last (za_in 21 (by decide +kernel) rfl) cs_L_last (by decide) (show _ = some 3 from by decide +kernel) (kw_nd Y_L_last hs_L_last) (c_L_last l D h1 n1 hst σ hI.1 w1 hw1 (xs (i + 1))) rfl (Nat.le_of_ble_eq_true rfl) (Nat.le_of_ble_eq_true rfl) (Nat.le_of_ble_eq_true rfl) (by show _ ≤ 612195; omega) (by show _ ≤ 7259518; omega) (fun r2 h2 n2 hq => ?_)
        obtain ⟨rfl, hf2, hfr2, ⟨w2, ho2, hw2⟩, _, _⟩ := hq
        have hle := spl_last σ (xs (i + 1))
        have hm2 : ms_at h2 th σ := ms_mv hm1 (fun j a1 a2 => hfr2 j a1 (by omega))
        obtain ⟨cl2, hcl2⟩ := ms_cell hm2
        iterate 2 refine za_step X rfl rfl rfl ?_
        refine zl_el X hbz hbs hx 1 rfl rfl (by omega) hL rfl rfl rfl rfl rfl ?_
        refine za_callV (b := 142) (d := 3) (mc := 0) (ms := 0) (as := [vI (xs (i + 1))]) (rest := []) X rfl cl_L_M_last cy_M_last cv_M_last (c_M_last l D h2 n2 th σ hm2 (xs (i + 1))) rfl rfl hcl2 rfl (Nat.le_of_ble_eq_true rfl) (Nat.le_of_ble_eq_true rfl) (Nat.le_of_ble_eq_true rfl) (by show _ ≤ 612195; omega) (by show _ ≤ 7259518; omega) (fun v h3 n3 hq => ?_)
        obtain ⟨rfl, hm3, hfr3, rfl⟩ := hq
        obtain ⟨cl3, hcl3⟩ := ms_cell hm3
        have hf3 : fs_at h3 (sp_last σ (xs (i + 1))).2.2 := fs_off hf2 (fun j hj => hfr3 j (Or.inl hj))
        have ho3 : ou_at h3 w2 := (hfr3 159 (Or.inr (Nat.le_refl _))).trans ho2
        iterate 2 refine za_step X rfl rfl rfl ?_
        refine za_callV (b := 142) (d := 0) (mc := 0) (ms := 0) (as := []) (rest := []) X rfl cl_L_M_thrown cy_M_thrown cv_M_thrown (c_M_thr l D h3 n2 (nI (sp_last σ (xs (i + 1))).1) (sp_last σ (xs (i + 1))).2.2 hm3) rfl rfl hcl3 rfl (Nat.le_of_ble_eq_true rfl) (Nat.le_of_ble_eq_true rfl) (Nat.le_of_ble_eq_true rfl) (by show _ ≤ 612195; omega) (by show _ ≤ 7259518; omega) (fun v h4 n4 hq => ?_)
        obtain ⟨rfl, rfl, rfl⟩ := hq
        iterate 1 refine za_step X rfl rfl rfl ?_
        refine za_iceq X 396 rfl (by decide) (fun q2 => ?_) (fun q2 => absurd rfl q2)
        iterate 1 refine za_step X rfl rfl rfl ?_
        refine za_ifne X 413 rfl (by decide) (fun q3 => ?_) (fun q3 => ?_)
        · iterate 1 refine za_step X rfl rfl rfl ?_
          exact za_loc [(1, vR 0), (2, vR 142), (3, vR 159), (4, vI (nI i))] rfl (at789 (sp_last σ (xs (i + 1))).2.2 h4 n2 ⟨hf3, ⟨_, hm3⟩, w2, ho3⟩)
        · have hR0 : (sp_last σ (xs (i + 1))).1 = 0 := (nI_eq (b := 0) (by omega) (by omega)).mp (q3.trans rfl)
          refine za_view [(159, .inl (1, 1, .inr (.inl w2)))] (by intro p hp; rw [List.mem_singleton.mp hp]; exact ho3) ?_
          iterate 2 refine za_step X rfl rfl rfl ?_
          refine za_lald X rfl rfl rfl (by unfold vp_in; decide) ?_
          iterate 3 refine za_step X rfl rfl rfl ?_
          refine za_ifeq X 413 rfl (by decide) (fun q4 => ?_) (fun q4 => absurd (lg_0.mpr (hw2 hR0)) q4)
          iterate 1 refine za_step X rfl rfl rfl ?_
          refine za_look (h1 := h4) (v1 := []) (by rw [za_ov1, za_set_same ho3]; rfl) ?_
          exact za_loc [(1, vR 0), (2, vR 142), (3, vR 159), (4, vI (nI i))] rfl (at789 (sp_last σ (xs (i + 1))).2.2 h4 n2 ⟨hf3, ⟨_, hm3⟩, w2, ho3⟩)
      by_cases v5 : val = 5
      · refine za_tsw X 5 416 rfl (by rw [v5]; decide) (by decide) (by decide) rfl (by decide) ?_
        iterate 1 refine za_step X rfl rfl rfl ?_
        iterate 1 refine za_step X rfl rfl rfl ?_
        refine zg_callS (K := .codeWith Y_L_explore.1 Y_L_explore.2.1 Y_L_explore.2.2.1 Y_L_explore.2.2.2 hs_L_explore) (Y := Y_L_explore) (hs := hs_L_explore) (d := 7) (mc := 1) (ms := 6) (as := [vR 0, vR 159]) (rest := []) X hH rfl (za_in 394 (by decide +kernel) rfl) (zg_Kwith Y_L_explore hs_L_explore) kw_L_explore (za_in 21 (by decide +kernel) rfl) cs_L_explore (by decide) (show _ = some 2 from by decide +kernel) (kw_nd Y_L_explore hs_L_explore) (c_L_explore l D h1 n1 hst σ hI.1 w1 hw1) rfl (Nat.le_of_ble_eq_true rfl) (Nat.le_of_ble_eq_true rfl) (Nat.le_of_ble_eq_true rfl) (by show _ ≤ 612195; omega) (by show _ ≤ 7259518; omega) (fun r2 h2 n2 hq => ?_)
        obtain ⟨rfl, hf2, hfr2, ⟨w2, ho2, hw2⟩, _, _⟩ := hq
        have hle := spl_explore σ
        have hm2 : ms_at h2 th σ := ms_mv hm1 (fun j a1 a2 => hfr2 j a1 (by omega))
        obtain ⟨cl2, hcl2⟩ := ms_cell hm2
        iterate 2 refine za_step X rfl rfl rfl ?_
        refine za_callV (b := 142) (d := 3) (mc := 0) (ms := 0) (as := []) (rest := []) X rfl cl_L_M_explore cy_M_explore cv_M_explore (c_M_explore l D h2 n2 th σ hm2) rfl rfl hcl2 rfl (Nat.le_of_ble_eq_true rfl) (Nat.le_of_ble_eq_true rfl) (Nat.le_of_ble_eq_true rfl) (by show _ ≤ 612195; omega) (by show _ ≤ 7259518; omega) (fun v h3 n3 hq => ?_)
        obtain ⟨rfl, hm3, hfr3, rfl⟩ := hq
        obtain ⟨cl3, hcl3⟩ := ms_cell hm3
        have hf3 : fs_at h3 (sp_explore σ).2.2 := fs_off hf2 (fun j hj => hfr3 j (Or.inl hj))
        have ho3 : ou_at h3 w2 := (hfr3 159 (Or.inr (Nat.le_refl _))).trans ho2
        iterate 2 refine za_step X rfl rfl rfl ?_
        refine za_callV (b := 142) (d := 0) (mc := 0) (ms := 0) (as := []) (rest := []) X rfl cl_L_M_thrown cy_M_thrown cv_M_thrown (c_M_thr l D h3 n2 (nI (sp_explore σ).1) (sp_explore σ).2.2 hm3) rfl rfl hcl3 rfl (Nat.le_of_ble_eq_true rfl) (Nat.le_of_ble_eq_true rfl) (Nat.le_of_ble_eq_true rfl) (by show _ ≤ 612195; omega) (by show _ ≤ 7259518; omega) (fun v h4 n4 hq => ?_)
        obtain ⟨rfl, rfl, rfl⟩ := hq
        iterate 1 refine za_step X rfl rfl rfl ?_
        refine za_iceq X 440 rfl (by decide) (fun q2 => ?_) (fun q2 => absurd rfl q2)
        iterate 1 refine za_step X rfl rfl rfl ?_
        refine za_ifne X 457 rfl (by decide) (fun q3 => ?_) (fun q3 => ?_)
        · iterate 1 refine za_step X rfl rfl rfl ?_
          exact za_loc [(1, vR 0), (2, vR 142), (3, vR 159), (4, vI (nI i))] rfl (at789 (sp_explore σ).2.2 h4 n2 ⟨hf3, ⟨_, hm3⟩, w2, ho3⟩)
        · have hR0 : (sp_explore σ).1 = 0 := (nI_eq (b := 0) (by omega) (by omega)).mp (q3.trans rfl)
          refine za_view [(159, .inl (1, 1, .inr (.inl w2)))] (by intro p hp; rw [List.mem_singleton.mp hp]; exact ho3) ?_
          iterate 2 refine za_step X rfl rfl rfl ?_
          refine za_lald X rfl rfl rfl (by unfold vp_in; decide) ?_
          iterate 3 refine za_step X rfl rfl rfl ?_
          refine za_ifeq X 457 rfl (by decide) (fun q4 => ?_) (fun q4 => absurd (lg_0.mpr (hw2 hR0)) q4)
          iterate 1 refine za_step X rfl rfl rfl ?_
          refine za_look (h1 := h4) (v1 := []) (by rw [za_ov1, za_set_same ho3]; rfl) ?_
          exact za_loc [(1, vR 0), (2, vR 142), (3, vR 159), (4, vI (nI i))] rfl (at789 (sp_explore σ).2.2 h4 n2 ⟨hf3, ⟨_, hm3⟩, w2, ho3⟩)
      by_cases v6 : val = 6
      · refine za_tsw X 6 460 rfl (by rw [v6]; decide) (by decide) (by decide) rfl (by decide) ?_
        iterate 1 refine za_step X rfl rfl rfl ?_
        refine zl_el X hbz hbs hx 1 rfl rfl (by omega) hL rfl rfl rfl rfl rfl ?_
        refine zl_el X hbz hbs hx 2 rfl rfl (by omega) hL rfl rfl rfl rfl rfl ?_
        iterate 1 refine za_step X rfl rfl rfl ?_
        refine zg_callS (K := .codeWith Y_L_way.1 Y_L_way.2.1 Y_L_way.2.2.1 Y_L_way.2.2.2 hs_L_way) (Y := Y_L_way) (hs := hs_L_way) (d := 7) (mc := 1) (ms := 6) (as := [vR 0, vI (xs (i + 1)), vI (xs (i + 2)), vR 159]) (rest := []) X hH rfl (za_in 429 (by decide +kernel) rfl) (zg_Kwith Y_L_way hs_L_way) kw_L_way (za_in 21 (by decide +kernel) rfl) cs_L_way (by decide) (show _ = some 4 from by decide +kernel) (kw_nd Y_L_way hs_L_way) (c_L_way l D h1 n1 hst σ hI.1 w1 hw1 (xs (i + 1)) (xs (i + 2))) rfl (Nat.le_of_ble_eq_true rfl) (Nat.le_of_ble_eq_true rfl) (Nat.le_of_ble_eq_true rfl) (by show _ ≤ 612195; omega) (by show _ ≤ 7259518; omega) (fun r2 h2 n2 hq => ?_)
        obtain ⟨rfl, hf2, hfr2, ⟨w2, ho2, hw2⟩, _, _⟩ := hq
        have hle := spl_way σ (xs (i + 1)) (xs (i + 2))
        have hm2 : ms_at h2 th σ := ms_mv hm1 (fun j a1 a2 => hfr2 j a1 (by omega))
        obtain ⟨cl2, hcl2⟩ := ms_cell hm2
        iterate 2 refine za_step X rfl rfl rfl ?_
        refine zl_el X hbz hbs hx 1 rfl rfl (by omega) hL rfl rfl rfl rfl rfl ?_
        refine zl_el X hbz hbs hx 2 rfl rfl (by omega) hL rfl rfl rfl rfl rfl ?_
        refine za_callV (b := 142) (d := 3) (mc := 0) (ms := 0) (as := [vI (xs (i + 1)), vI (xs (i + 2))]) (rest := []) X rfl cl_L_M_way cy_M_way cv_M_way (c_M_way l D h2 n2 th σ hm2 (xs (i + 1)) (xs (i + 2))) rfl rfl hcl2 rfl (Nat.le_of_ble_eq_true rfl) (Nat.le_of_ble_eq_true rfl) (Nat.le_of_ble_eq_true rfl) (by show _ ≤ 612195; omega) (by show _ ≤ 7259518; omega) (fun v h3 n3 hq => ?_)
        obtain ⟨rfl, hm3, hfr3, rfl⟩ := hq
        obtain ⟨cl3, hcl3⟩ := ms_cell hm3
        have hf3 : fs_at h3 (sp_way σ (xs (i + 1)) (xs (i + 2))).2.2 := fs_off hf2 (fun j hj => hfr3 j (Or.inl hj))
        have ho3 : ou_at h3 w2 := (hfr3 159 (Or.inr (Nat.le_refl _))).trans ho2
        iterate 2 refine za_step X rfl rfl rfl ?_
        refine za_callV (b := 142) (d := 0) (mc := 0) (ms := 0) (as := []) (rest := []) X rfl cl_L_M_thrown cy_M_thrown cv_M_thrown (c_M_thr l D h3 n2 (nI (sp_way σ (xs (i + 1)) (xs (i + 2))).1) (sp_way σ (xs (i + 1)) (xs (i + 2))).2.2 hm3) rfl rfl hcl3 rfl (Nat.le_of_ble_eq_true rfl) (Nat.le_of_ble_eq_true rfl) (Nat.le_of_ble_eq_true rfl) (by show _ ≤ 612195; omega) (by show _ ≤ 7259518; omega) (fun v h4 n4 hq => ?_)
        obtain ⟨rfl, rfl, rfl⟩ := hq
        iterate 1 refine za_step X rfl rfl rfl ?_
        refine za_iceq X 508 rfl (by decide) (fun q2 => ?_) (fun q2 => absurd rfl q2)
        iterate 1 refine za_step X rfl rfl rfl ?_
        refine za_ifne X 525 rfl (by decide) (fun q3 => ?_) (fun q3 => ?_)
        · iterate 1 refine za_step X rfl rfl rfl ?_
          exact za_loc [(1, vR 0), (2, vR 142), (3, vR 159), (4, vI (nI i))] rfl (at789 (sp_way σ (xs (i + 1)) (xs (i + 2))).2.2 h4 n2 ⟨hf3, ⟨_, hm3⟩, w2, ho3⟩)
        · have hR0 : (sp_way σ (xs (i + 1)) (xs (i + 2))).1 = 0 := (nI_eq (b := 0) (by omega) (by omega)).mp (q3.trans rfl)
          refine za_view [(159, .inl (1, 1, .inr (.inl w2)))] (by intro p hp; rw [List.mem_singleton.mp hp]; exact ho3) ?_
          iterate 2 refine za_step X rfl rfl rfl ?_
          refine za_lald X rfl rfl rfl (by unfold vp_in; decide) ?_
          iterate 3 refine za_step X rfl rfl rfl ?_
          refine za_ifeq X 525 rfl (by decide) (fun q4 => ?_) (fun q4 => absurd (lg_0.mpr (hw2 hR0)) q4)
          iterate 1 refine za_step X rfl rfl rfl ?_
          refine za_look (h1 := h4) (v1 := []) (by rw [za_ov1, za_set_same ho3]; rfl) ?_
          exact za_loc [(1, vR 0), (2, vR 142), (3, vR 159), (4, vI (nI i))] rfl (at789 (sp_way σ (xs (i + 1)) (xs (i + 2))).2.2 h4 n2 ⟨hf3, ⟨_, hm3⟩, w2, ho3⟩)
      by_cases v7 : val = 7
      · refine za_tsw X 7 528 rfl (by rw [v7]; decide) (by decide) (by decide) rfl (by decide) ?_
        iterate 1 refine za_step X rfl rfl rfl ?_
        refine zl_el X hbz hbs hx 1 rfl rfl (by omega) hL rfl rfl rfl rfl rfl ?_
        refine zl_el X hbz hbs hx 2 rfl rfl (by omega) hL rfl rfl rfl rfl rfl ?_
        iterate 1 refine za_step X rfl rfl rfl ?_
        refine zg_callS (K := .codeWith Y_L_decision.1 Y_L_decision.2.1 Y_L_decision.2.2.1 Y_L_decision.2.2.2 hs_L_decision) (Y := Y_L_decision) (hs := hs_L_decision) (d := 7) (mc := 1) (ms := 6) (as := [vR 0, vI (xs (i + 1)), vI (xs (i + 2)), vR 159]) (rest := []) X hH rfl (za_in 437 (by decide +kernel) rfl) (zg_Kwith Y_L_decision hs_L_decision) kw_L_decision (za_in 21 (by decide +kernel) rfl) cs_L_decision (by decide) (show _ = some 4 from by decide +kernel) (kw_nd Y_L_decision hs_L_decision) (c_L_decision l D h1 n1 hst σ hI.1 w1 hw1 (xs (i + 1)) (xs (i + 2))) rfl (Nat.le_of_ble_eq_true rfl) (Nat.le_of_ble_eq_true rfl) (Nat.le_of_ble_eq_true rfl) (by show _ ≤ 612195; omega) (by show _ ≤ 7259518; omega) (fun r2 h2 n2 hq => ?_)
        obtain ⟨rfl, hf2, hfr2, ⟨w2, ho2, hw2⟩, _, _⟩ := hq
        have hle := spl_decision σ (xs (i + 1)) (xs (i + 2))
        have hm2 : ms_at h2 th σ := ms_mv hm1 (fun j a1 a2 => hfr2 j a1 (by omega))
        obtain ⟨cl2, hcl2⟩ := ms_cell hm2
        iterate 2 refine za_step X rfl rfl rfl ?_
        refine zl_el X hbz hbs hx 1 rfl rfl (by omega) hL rfl rfl rfl rfl rfl ?_
        refine zl_el X hbz hbs hx 2 rfl rfl (by omega) hL rfl rfl rfl rfl rfl ?_
        refine za_callV (b := 142) (d := 3) (mc := 0) (ms := 0) (as := [vI (xs (i + 1)), vI (xs (i + 2))]) (rest := []) X rfl cl_L_M_decision cy_M_decision cv_M_decision (c_M_decision l D h2 n2 th σ hm2 (xs (i + 1)) (xs (i + 2))) rfl rfl hcl2 rfl (Nat.le_of_ble_eq_true rfl) (Nat.le_of_ble_eq_true rfl) (Nat.le_of_ble_eq_true rfl) (by show _ ≤ 612195; omega) (by show _ ≤ 7259518; omega) (fun v h3 n3 hq => ?_)
        obtain ⟨rfl, hm3, hfr3, rfl⟩ := hq
        obtain ⟨cl3, hcl3⟩ := ms_cell hm3
        have hf3 : fs_at h3 (sp_decision σ (xs (i + 1)) (xs (i + 2))).2.2 := fs_off hf2 (fun j hj => hfr3 j (Or.inl hj))
        have ho3 : ou_at h3 w2 := (hfr3 159 (Or.inr (Nat.le_refl _))).trans ho2
        iterate 2 refine za_step X rfl rfl rfl ?_
        refine za_callV (b := 142) (d := 0) (mc := 0) (ms := 0) (as := []) (rest := []) X rfl cl_L_M_thrown cy_M_thrown cv_M_thrown (c_M_thr l D h3 n2 (nI (sp_decision σ (xs (i + 1)) (xs (i + 2))).1) (sp_decision σ (xs (i + 1)) (xs (i + 2))).2.2 hm3) rfl rfl hcl3 rfl (Nat.le_of_ble_eq_true rfl) (Nat.le_of_ble_eq_true rfl) (Nat.le_of_ble_eq_true rfl) (by show _ ≤ 612195; omega) (by show _ ≤ 7259518; omega) (fun v h4 n4 hq => ?_)
        obtain ⟨rfl, rfl, rfl⟩ := hq
        iterate 1 refine za_step X rfl rfl rfl ?_
        refine za_iceq X 576 rfl (by decide) (fun q2 => ?_) (fun q2 => absurd rfl q2)
        iterate 1 refine za_step X rfl rfl rfl ?_
        refine za_ifne X 593 rfl (by decide) (fun q3 => ?_) (fun q3 => ?_)
        · iterate 1 refine za_step X rfl rfl rfl ?_
          exact za_loc [(1, vR 0), (2, vR 142), (3, vR 159), (4, vI (nI i))] rfl (at789 (sp_decision σ (xs (i + 1)) (xs (i + 2))).2.2 h4 n2 ⟨hf3, ⟨_, hm3⟩, w2, ho3⟩)
        · have hR0 : (sp_decision σ (xs (i + 1)) (xs (i + 2))).1 = 0 := (nI_eq (b := 0) (by omega) (by omega)).mp (q3.trans rfl)
          refine za_view [(159, .inl (1, 1, .inr (.inl w2)))] (by intro p hp; rw [List.mem_singleton.mp hp]; exact ho3) ?_
          iterate 2 refine za_step X rfl rfl rfl ?_
          refine za_lald X rfl rfl rfl (by unfold vp_in; decide) ?_
          iterate 3 refine za_step X rfl rfl rfl ?_
          refine za_ifeq X 593 rfl (by decide) (fun q4 => ?_) (fun q4 => absurd (lg_0.mpr (hw2 hR0)) q4)
          iterate 1 refine za_step X rfl rfl rfl ?_
          refine za_look (h1 := h4) (v1 := []) (by rw [za_ov1, za_set_same ho3]; rfl) ?_
          exact za_loc [(1, vR 0), (2, vR 142), (3, vR 159), (4, vI (nI i))] rfl (at789 (sp_decision σ (xs (i + 1)) (xs (i + 2))).2.2 h4 n2 ⟨hf3, ⟨_, hm3⟩, w2, ho3⟩)
      by_cases v8 : val = 8
      · refine za_tsw X 8 596 rfl (by rw [v8]; decide) (by decide) (by decide) rfl (by decide) ?_
        iterate 1 refine za_step X rfl rfl rfl ?_
        refine zl_el X hbz hbs hx 1 rfl rfl (by omega) hL rfl rfl rfl rfl rfl ?_
        refine zl_el X hbz hbs hx 2 rfl rfl (by omega) hL rfl rfl rfl rfl rfl ?_
        iterate 1 refine za_step X rfl rfl rfl ?_
        refine zg_callS (K := .codeWith Y_L_match.1 Y_L_match.2.1 Y_L_match.2.2.1 Y_L_match.2.2.2 hs_L_match) (Y := Y_L_match) (hs := hs_L_match) (d := 7) (mc := 1) (ms := 6) (as := [vR 0, vI (xs (i + 1)), vI (xs (i + 2)), vR 159]) (rest := []) X hH rfl (za_in 445 (by decide +kernel) rfl) (zg_Kwith Y_L_match hs_L_match) kw_L_match (za_in 21 (by decide +kernel) rfl) cs_L_match (by decide) (show _ = some 4 from by decide +kernel) (kw_nd Y_L_match hs_L_match) (c_L_match l D h1 n1 hst σ hI.1 w1 hw1 (xs (i + 1)) (xs (i + 2))) rfl (Nat.le_of_ble_eq_true rfl) (Nat.le_of_ble_eq_true rfl) (Nat.le_of_ble_eq_true rfl) (by show _ ≤ 612195; omega) (by show _ ≤ 7259518; omega) (fun r2 h2 n2 hq => ?_)
        obtain ⟨rfl, hf2, hfr2, ⟨w2, ho2, hw2⟩, _, _⟩ := hq
        have hle := spl_match σ (xs (i + 1)) (xs (i + 2))
        have hm2 : ms_at h2 th σ := ms_mv hm1 (fun j a1 a2 => hfr2 j a1 (by omega))
        obtain ⟨cl2, hcl2⟩ := ms_cell hm2
        iterate 2 refine za_step X rfl rfl rfl ?_
        refine zl_el X hbz hbs hx 1 rfl rfl (by omega) hL rfl rfl rfl rfl rfl ?_
        refine zl_el X hbz hbs hx 2 rfl rfl (by omega) hL rfl rfl rfl rfl rfl ?_
        refine za_callV (b := 142) (d := 3) (mc := 0) (ms := 0) (as := [vI (xs (i + 1)), vI (xs (i + 2))]) (rest := []) X rfl cl_L_M_match cy_M_match cv_M_match (c_M_match l D h2 n2 th σ hm2 (xs (i + 1)) (xs (i + 2))) rfl rfl hcl2 rfl (Nat.le_of_ble_eq_true rfl) (Nat.le_of_ble_eq_true rfl) (Nat.le_of_ble_eq_true rfl) (by show _ ≤ 612195; omega) (by show _ ≤ 7259518; omega) (fun v h3 n3 hq => ?_)
        obtain ⟨rfl, hm3, hfr3, rfl⟩ := hq
        obtain ⟨cl3, hcl3⟩ := ms_cell hm3
        have hf3 : fs_at h3 (sp_match σ (xs (i + 1)) (xs (i + 2))).2.2 := fs_off hf2 (fun j hj => hfr3 j (Or.inl hj))
        have ho3 : ou_at h3 w2 := (hfr3 159 (Or.inr (Nat.le_refl _))).trans ho2
        iterate 2 refine za_step X rfl rfl rfl ?_
        refine za_callV (b := 142) (d := 0) (mc := 0) (ms := 0) (as := []) (rest := []) X rfl cl_L_M_thrown cy_M_thrown cv_M_thrown (c_M_thr l D h3 n2 (nI (sp_match σ (xs (i + 1)) (xs (i + 2))).1) (sp_match σ (xs (i + 1)) (xs (i + 2))).2.2 hm3) rfl rfl hcl3 rfl (Nat.le_of_ble_eq_true rfl) (Nat.le_of_ble_eq_true rfl) (Nat.le_of_ble_eq_true rfl) (by show _ ≤ 612195; omega) (by show _ ≤ 7259518; omega) (fun v h4 n4 hq => ?_)
        obtain ⟨rfl, rfl, rfl⟩ := hq
        iterate 1 refine za_step X rfl rfl rfl ?_
        refine za_iceq X 644 rfl (by decide) (fun q2 => ?_) (fun q2 => absurd rfl q2)
        iterate 1 refine za_step X rfl rfl rfl ?_
        refine za_ifne X 661 rfl (by decide) (fun q3 => ?_) (fun q3 => ?_)
        · iterate 1 refine za_step X rfl rfl rfl ?_
          exact za_loc [(1, vR 0), (2, vR 142), (3, vR 159), (4, vI (nI i))] rfl (at789 (sp_match σ (xs (i + 1)) (xs (i + 2))).2.2 h4 n2 ⟨hf3, ⟨_, hm3⟩, w2, ho3⟩)
        · have hR0 : (sp_match σ (xs (i + 1)) (xs (i + 2))).1 = 0 := (nI_eq (b := 0) (by omega) (by omega)).mp (q3.trans rfl)
          refine za_view [(159, .inl (1, 1, .inr (.inl w2)))] (by intro p hp; rw [List.mem_singleton.mp hp]; exact ho3) ?_
          iterate 2 refine za_step X rfl rfl rfl ?_
          refine za_lald X rfl rfl rfl (by unfold vp_in; decide) ?_
          iterate 3 refine za_step X rfl rfl rfl ?_
          refine za_ifeq X 661 rfl (by decide) (fun q4 => ?_) (fun q4 => absurd (lg_0.mpr (hw2 hR0)) q4)
          iterate 1 refine za_step X rfl rfl rfl ?_
          refine za_look (h1 := h4) (v1 := []) (by rw [za_ov1, za_set_same ho3]; rfl) ?_
          exact za_loc [(1, vR 0), (2, vR 142), (3, vR 159), (4, vI (nI i))] rfl (at789 (sp_match σ (xs (i + 1)) (xs (i + 2))).2.2 h4 n2 ⟨hf3, ⟨_, hm3⟩, w2, ho3⟩)
      by_cases v9 : val = 9
      · refine za_tsw X 9 664 rfl (by rw [v9]; decide) (by decide) (by decide) rfl (by decide) ?_
        iterate 1 refine za_step X rfl rfl rfl ?_
        refine zl_el X hbz hbs hx 1 rfl rfl (by omega) hL rfl rfl rfl rfl rfl ?_
        iterate 1 refine za_step X rfl rfl rfl ?_
        refine zg_callS (K := .codeWith Y_L_example.1 Y_L_example.2.1 Y_L_example.2.2.1 Y_L_example.2.2.2 hs_L_example) (Y := Y_L_example) (hs := hs_L_example) (d := 7) (mc := 1) (ms := 6) (as := [vR 0, vI (xs (i + 1)), vR 159]) (rest := []) X hH rfl (za_in 460 (by decide +kernel) rfl) (zg_Kwith Y_L_example hs_L_example) kw_L_example (za_in 21 (by decide +kernel) rfl) cs_L_example (by decide) (show _ = some 3 from by decide +kernel) (kw_nd Y_L_example hs_L_example) (c_L_example l D h1 n1 hst σ hI.1 w1 hw1 (xs (i + 1))) rfl (Nat.le_of_ble_eq_true rfl) (Nat.le_of_ble_eq_true rfl) (Nat.le_of_ble_eq_true rfl) (by show _ ≤ 612195; omega) (by show _ ≤ 7259518; omega) (fun r2 h2 n2 hq => ?_)
        obtain ⟨rfl, hf2, hfr2, ⟨w2, ho2, hw2⟩, _, _⟩ := hq
        have hle := spl_example σ (xs (i + 1))
        have hm2 : ms_at h2 th σ := ms_mv hm1 (fun j a1 a2 => hfr2 j a1 (by omega))
        obtain ⟨cl2, hcl2⟩ := ms_cell hm2
        iterate 2 refine za_step X rfl rfl rfl ?_
        refine zl_el X hbz hbs hx 1 rfl rfl (by omega) hL rfl rfl rfl rfl rfl ?_
        refine za_callV (b := 142) (d := 3) (mc := 0) (ms := 0) (as := [vI (xs (i + 1))]) (rest := []) X rfl cl_L_M_example cy_M_example cv_M_example (c_M_example l D h2 n2 th σ hm2 (xs (i + 1))) rfl rfl hcl2 rfl (Nat.le_of_ble_eq_true rfl) (Nat.le_of_ble_eq_true rfl) (Nat.le_of_ble_eq_true rfl) (by show _ ≤ 612195; omega) (by show _ ≤ 7259518; omega) (fun v h3 n3 hq => ?_)
        obtain ⟨rfl, hm3, hfr3, rfl⟩ := hq
        obtain ⟨cl3, hcl3⟩ := ms_cell hm3
        have hf3 : fs_at h3 (sp_example σ (xs (i + 1))).2.2 := fs_off hf2 (fun j hj => hfr3 j (Or.inl hj))
        have ho3 : ou_at h3 w2 := (hfr3 159 (Or.inr (Nat.le_refl _))).trans ho2
        iterate 2 refine za_step X rfl rfl rfl ?_
        refine za_callV (b := 142) (d := 0) (mc := 0) (ms := 0) (as := []) (rest := []) X rfl cl_L_M_thrown cy_M_thrown cv_M_thrown (c_M_thr l D h3 n2 (nI (sp_example σ (xs (i + 1))).1) (sp_example σ (xs (i + 1))).2.2 hm3) rfl rfl hcl3 rfl (Nat.le_of_ble_eq_true rfl) (Nat.le_of_ble_eq_true rfl) (Nat.le_of_ble_eq_true rfl) (by show _ ≤ 612195; omega) (by show _ ≤ 7259518; omega) (fun v h4 n4 hq => ?_)
        obtain ⟨rfl, rfl, rfl⟩ := hq
        iterate 1 refine za_step X rfl rfl rfl ?_
        refine za_iceq X 700 rfl (by decide) (fun q2 => ?_) (fun q2 => absurd rfl q2)
        iterate 1 refine za_step X rfl rfl rfl ?_
        refine za_ifne X 717 rfl (by decide) (fun q3 => ?_) (fun q3 => ?_)
        · iterate 1 refine za_step X rfl rfl rfl ?_
          exact za_loc [(1, vR 0), (2, vR 142), (3, vR 159), (4, vI (nI i))] rfl (at789 (sp_example σ (xs (i + 1))).2.2 h4 n2 ⟨hf3, ⟨_, hm3⟩, w2, ho3⟩)
        · have hR0 : (sp_example σ (xs (i + 1))).1 = 0 := (nI_eq (b := 0) (by omega) (by omega)).mp (q3.trans rfl)
          refine za_view [(159, .inl (1, 1, .inr (.inl w2)))] (by intro p hp; rw [List.mem_singleton.mp hp]; exact ho3) ?_
          iterate 2 refine za_step X rfl rfl rfl ?_
          refine za_lald X rfl rfl rfl (by unfold vp_in; decide) ?_
          iterate 3 refine za_step X rfl rfl rfl ?_
          refine za_ifeq X 717 rfl (by decide) (fun q4 => ?_) (fun q4 => absurd (lg_0.mpr (hw2 hR0)) q4)
          iterate 1 refine za_step X rfl rfl rfl ?_
          refine za_look (h1 := h4) (v1 := []) (by rw [za_ov1, za_set_same ho3]; rfl) ?_
          exact za_loc [(1, vR 0), (2, vR 142), (3, vR 159), (4, vI (nI i))] rfl (at789 (sp_example σ (xs (i + 1))).2.2 h4 n2 ⟨hf3, ⟨_, hm3⟩, w2, ho3⟩)
      by_cases v10 : val = 10
      · refine za_tsw X 10 720 rfl (by rw [v10]; decide) (by decide) (by decide) rfl (by decide) ?_
        obtain ⟨cl0, hcl0⟩ := fs_cell hI.1
        obtain ⟨cl2, hcl2⟩ := ms_cell hm1
        iterate 1 refine za_step X rfl rfl rfl ?_
        refine za_callV (b := 0) (d := 6) (mc := 0) (ms := 0) (as := []) (rest := []) X rfl cl_L_F_covered cy_F_covered cv_F_covered (c_F_covered l D h1 n1 σ hI.1) rfl rfl hcl0 rfl (Nat.le_of_ble_eq_true rfl) (Nat.le_of_ble_eq_true rfl) (Nat.le_of_ble_eq_true rfl) (by show _ ≤ 612195; omega) (by show _ ≤ 7259518; omega) (fun v h2 n2 hq => ?_)
        obtain ⟨rfl, rfl, rfl⟩ := hq
        iterate 1 refine za_step X rfl rfl rfl ?_
        refine za_callV (b := 142) (d := 3) (mc := 0) (ms := 0) (as := []) (rest := [vI (rs_or σ.2.2.1.2 σ.2.2.1.1)]) X rfl cl_L_M_covered cy_M_covered cv_M_covered (c_M_covered l D h2 n1 th σ hm1) rfl rfl hcl2 rfl (Nat.le_of_ble_eq_true rfl) (Nat.le_of_ble_eq_true rfl) (Nat.le_of_ble_eq_true rfl) (by show _ ≤ 612195; omega) (by show _ ≤ 7259518; omega) (fun v h3 n3 hq => ?_)
        obtain ⟨rfl, hm3, hfr3, rfl⟩ := hq
        refine za_iceq X 789 rfl (by decide) (fun q2 => ?_) (fun q2 => absurd rfl q2)
        exact za_wid (by omega) (by omega) (za_loc [(1, vR 0), (2, vR 142), (3, vR 159), (4, vI (nI i))] rfl (at789 σ h3 n1 ⟨fs_off hI.1 (fun j hj => hfr3 j (Or.inl hj)), ⟨_, hm3⟩, w1, (hfr3 159 (Or.inr (Nat.le_refl _))).trans hw1⟩))
      by_cases v11 : val = 11
      · refine za_tsw X 11 733 rfl (by rw [v11]; decide) (by decide) (by decide) rfl (by decide) ?_
        iterate 1 refine za_step X rfl rfl rfl ?_
        refine zl_el X hbz hbs hx 1 rfl rfl (by omega) hL rfl rfl rfl rfl rfl ?_
        iterate 1 refine za_step X rfl rfl rfl ?_
        refine zg_callS (K := .codeWith Y_L_count.1 Y_L_count.2.1 Y_L_count.2.2.1 Y_L_count.2.2.2 hs_L_count) (Y := Y_L_count) (hs := hs_L_count) (d := 7) (mc := 1) (ms := 6) (as := [vR 0, vI (xs (i + 1)), vR 159]) (rest := []) X hH rfl (za_in 474 (by decide +kernel) rfl) (zg_Kwith Y_L_count hs_L_count) kw_L_count (za_in 21 (by decide +kernel) rfl) cs_L_count (by decide) (show _ = some 3 from by decide +kernel) (kw_nd Y_L_count hs_L_count) (c_L_count l D h1 n1 hst σ hI.1 w1 hw1 (xs (i + 1))) rfl (Nat.le_of_ble_eq_true rfl) (Nat.le_of_ble_eq_true rfl) (Nat.le_of_ble_eq_true rfl) (by show _ ≤ 612195; omega) (by show _ ≤ 7259518; omega) (fun r2 h2 n2 hq => ?_)
        obtain ⟨rfl, hf2, hfr2, ⟨w2, ho2, hw2⟩, _, _⟩ := hq
        have hle := spl_count σ (xs (i + 1))
        have hm2 : ms_at h2 th σ := ms_mv hm1 (fun j a1 a2 => hfr2 j a1 (by omega))
        obtain ⟨cl2, hcl2⟩ := ms_cell hm2
        iterate 2 refine za_step X rfl rfl rfl ?_
        refine zl_el X hbz hbs hx 1 rfl rfl (by omega) hL rfl rfl rfl rfl rfl ?_
        refine za_callV (b := 142) (d := 3) (mc := 0) (ms := 0) (as := [vI (xs (i + 1))]) (rest := []) X rfl cl_L_M_count cy_M_count cv_M_count (c_M_count l D h2 n2 th σ hm2 (xs (i + 1))) rfl rfl hcl2 rfl (Nat.le_of_ble_eq_true rfl) (Nat.le_of_ble_eq_true rfl) (Nat.le_of_ble_eq_true rfl) (by show _ ≤ 612195; omega) (by show _ ≤ 7259518; omega) (fun v h3 n3 hq => ?_)
        obtain ⟨rfl, hm3, hfr3, rfl⟩ := hq
        obtain ⟨cl3, hcl3⟩ := ms_cell hm3
        have hf3 : fs_at h3 (sp_count σ (xs (i + 1))).2.2 := fs_off hf2 (fun j hj => hfr3 j (Or.inl hj))
        have ho3 : ou_at h3 w2 := (hfr3 159 (Or.inr (Nat.le_refl _))).trans ho2
        iterate 2 refine za_step X rfl rfl rfl ?_
        refine za_callV (b := 142) (d := 0) (mc := 0) (ms := 0) (as := []) (rest := []) X rfl cl_L_M_thrown cy_M_thrown cv_M_thrown (c_M_thr l D h3 n2 (nI (sp_count σ (xs (i + 1))).1) (sp_count σ (xs (i + 1))).2.2 hm3) rfl rfl hcl3 rfl (Nat.le_of_ble_eq_true rfl) (Nat.le_of_ble_eq_true rfl) (Nat.le_of_ble_eq_true rfl) (by show _ ≤ 612195; omega) (by show _ ≤ 7259518; omega) (fun v h4 n4 hq => ?_)
        obtain ⟨rfl, rfl, rfl⟩ := hq
        iterate 1 refine za_step X rfl rfl rfl ?_
        refine za_iceq X 769 rfl (by decide) (fun q2 => ?_) (fun q2 => absurd rfl q2)
        iterate 1 refine za_step X rfl rfl rfl ?_
        refine za_ifne X 786 rfl (by decide) (fun q3 => ?_) (fun q3 => ?_)
        · iterate 1 refine za_step X rfl rfl rfl ?_
          exact za_loc [(1, vR 0), (2, vR 142), (3, vR 159), (4, vI (nI i))] rfl (at789 (sp_count σ (xs (i + 1))).2.2 h4 n2 ⟨hf3, ⟨_, hm3⟩, w2, ho3⟩)
        · have hR0 : (sp_count σ (xs (i + 1))).1 = 0 := (nI_eq (b := 0) (by omega) (by omega)).mp (q3.trans rfl)
          refine za_view [(159, .inl (1, 1, .inr (.inl w2)))] (by intro p hp; rw [List.mem_singleton.mp hp]; exact ho3) ?_
          iterate 2 refine za_step X rfl rfl rfl ?_
          refine za_lald X rfl rfl rfl (by unfold vp_in; decide) ?_
          iterate 3 refine za_step X rfl rfl rfl ?_
          refine za_ifeq X 786 rfl (by decide) (fun q4 => ?_) (fun q4 => absurd (lg_0.mpr (hw2 hR0)) q4)
          iterate 1 refine za_step X rfl rfl rfl ?_
          refine za_look (h1 := h4) (v1 := []) (by rw [za_ov1, za_set_same ho3]; rfl) ?_
          exact za_loc [(1, vR 0), (2, vR 142), (3, vR 159), (4, vI (nI i))] rfl (at789 (sp_count σ (xs (i + 1))).2.2 h4 n2 ⟨hf3, ⟨_, hm3⟩, w2, ho3⟩)
      
      refine za_tsd X 789 rfl (ts_o (hi := 11) (fun z h1 h2 => by rcases (show z = 0 ∨ z = 1 ∨ z = 2 ∨ z = 3 ∨ z = 4 ∨ z = 5 ∨ z = 6 ∨ z = 7 ∨ z = 8 ∨ z = 9 ∨ z = 10 ∨ z = 11 by omega) with rfl | rfl | rfl | rfl | rfl | rfl | rfl | rfl | rfl | rfl | rfl | rfl <;> first | exact v0 | exact v1 | exact v2 | exact v3 | exact v4 | exact v5 | exact v6 | exact v7 | exact v8 | exact v9 | exact v10 | exact v11)) (by decide) ?_
      exact za_wid (by omega) (by omega) (at789 σ h1 n1 hI)
