section ZAREM
variable {p : Program} {l : Launch} {e : Env} {R : Room} {s : State} {m : MethodId} {args : Array Value} {below : List Frame} {meth : Method} {c : Code} {D : za_D} {nL : Nat} {Q : State → Prop} {h0 : za_H} {n cells slots pc : Nat} {lv : List (Nat × za_V)} {st : List za_V} {vw : List (Nat × za_C)} {own : String} {cc : ByteArray} {cd : List (Nat × Instr × Nat)} {fl : List (Nat × Nat × Nat)} {ret : Option FieldType}
theorem za_irem (X : za_X p s m args meth c D own cc cd fl nL ret) {x y : Int32} (hf : za_fe cd pc = some (.irem, 1)) (hne : ¬ y = 0) (kk : za_W p l e R s m args below meth c D nL Q h0 n cells slots (pc + 1) lv (vI (x - x / y * y) :: st) vw) : za_W p l e R s m args below meth c D nL Q h0 n cells slots pc lv (.inl y :: .inl x :: st) vw := by
  intro H locs ls hR hS hl
  exact lv_irem X.1 X.2.1 (za_fe_ok X.2.2.2.2.2.2.1 hf) hne (kk H locs ls hR hS hl)
end ZAREM
theorem le_all : ∀ a b : Fin 16, (16 * nI a.val + nI b.val) / 16 = nI a.val ∧ (16 * nI a.val + nI b.val) - (16 * nI a.val + nI b.val) / 16 * 16 = nI b.val ∧ (nI a.val <<< ((4 : Int32) &&& 31)) + nI b.val = 16 * nI a.val + nI b.val := by decide +kernel
theorem le_w {q : wr_T} (h : wr_ok q) : wr_le q / 16 = wr_x q ∧ wr_le q - wr_le q / 16 * 16 = wr_y q ∧ wr_in q = wr_le q := by
  obtain ⟨⟨a, b, ha, hb, hx, hy⟩, _⟩ := h
  have := le_all ⟨a, ha⟩ ⟨b, hb⟩
  obtain ⟨x, y, ou, ed, de, ct, vi⟩ := q
  have hx' : x = nI a := hx
  have hy' : y = nI b := hy
  subst hx'; subst hy'
  exact this
set_option maxHeartbeats 4000000 in
set_option maxRecDepth 100000 in
theorem c_M_way (l : Launch) (D : za_D) (h : za_H) (n : Nat) (th : Int32) (σ : fs_T) (hσ : ms_at h th σ) (n1 x : Int32) : za_M l D Y_M_way 3 0 0 [vR 142, vI n1, vI x] h n (ms_ps h n (sp_way σ n1 x)) := by
  obtain ⟨P, T, S, b, q⟩ := σ
  obtain ⟨hok, hb1, hb4, G, fd, hM, hin⟩ := hσ
  obtain ⟨oo, aa, bb, cc0, k⟩ := P
  obtain ⟨Tr, Tpl, Tla, Tdn, Tvi, Tde, Tct, Ten, Tou, Ted⟩ := T
  obtain ⟨r, pl, la, dn, vi, de, ct, en, ou, ed⟩ := G
  obtain ⟨sk, sf⟩ := S
  have hk64 : sk ≤ 64 := hin.2.2.2.2.2
  have hin0 := hin
  refine za_enter cd_M_way fl_M (by decide) cdok_M_way flok_M (Nat.le_of_ble_eq_true rfl) ?_
  intro p e s m args below meth c X hnm
  refine za_view [(142, mo_c (th, k, b) (r, pl, la, dn, vi, de, ct, en, ou, ed) (q, Ted, Tdn, Tct, fd, sk, (rs_or sf sk)))] (by simp [show h 142 = some (mo_c (th, k, b) (r, pl, la, dn, vi, de, ct, en, ou, ed) (q, Ted, Tdn, Tct, fd, sk, (rs_or sf sk))) from hM]) ?_
  iterate 9 refine za_step X rfl rfl rfl ?_
  refine za_callS X rfl cl_M_M_in cy_M_in cs_M_in (c_M_in l D _ n n1 0 (nI sk - 1)) rfl rfl (Nat.le_of_ble_eq_true rfl) (Nat.le_of_ble_eq_true rfl) (Nat.le_of_ble_eq_true rfl) (Nat.le_of_ble_eq_true rfl) (Nat.le_of_ble_eq_true rfl) (fun v h' n' hq => ?_)
  obtain ⟨rfl, rfl, rfl⟩ := hq
  rw [hm_has hk64]
  refine za_look (h1 := h) (v1 := [(142, mo_c (0, k, b) (r, pl, la, dn, vi, de, ct, en, ou, ed) (q, Ted, Tdn, Tct, fd, sk, (rs_or sf sk)))]) rfl ?_
  refine za_ifne X 25 rfl (by decide) (fun q1 => ?_) (fun q1 => ?_)
  · have hal := bI_n0 q1
    obtain ⟨h147, hp, hw, ⟨rr, ⟨r1, r2, r3, r4, r5⟩, hr⟩, hwo, hk64'⟩ := hin0
    obtain ⟨i, hi, rfl⟩ := rs_has_n hk64 hal
    have hci : (nI i).toNatClampNeg = i := nI_clamp (by omega)
    have hvi : vp_in (nI i) 64 := vp_in_nI (by omega) (by decide)
    obtain ⟨d1, d2, d3, d4, d5⟩ := hr i hi
    have hwi := hwo i hi
    iterate 1 refine za_step X rfl rfl rfl ?_
    by_cases x0 : x = 0
    · subst x0
      have e1 : sp_way ((oo, aa, bb, cc0, k), (Tr, Tpl, Tla, Tdn, Tvi, Tde, Tct, Ten, Tou, Ted), (sk, sf), b, q) (nI i) 0 = (0, wr_x (sf i), ((oo, aa, bb, cc0, k), (Tr, Tpl, Tla, Tdn, Tvi, Tde, Tct, Ten, Tou, Ted), (sk, sf), b, q)) := by
        show (if rs_has sk (nI i) = true then _ else _) = _
        rw [if_pos hal]
        show (0, wr_x (sf (nI i).toNatClampNeg), _) = _
        rw [hci]
      rw [e1]
      refine za_tsw X 0 60 rfl (by decide) (by decide) (by decide) rfl (by decide) ?_
      iterate 3 refine za_step X rfl rfl rfl ?_
      refine za_iald X rfl r3 rfl hvi ?_
      rw [hci]
      iterate 1 refine za_step X rfl rfl rfl ?_
      refine za_idiv X rfl (by decide) ?_
      rw [show (rr i).2.2.1 / (Int8.ofInt 16).toInt32 = wr_x (sf i) from by rw [d3]; exact (le_w hwi).1]
      refine za_iret X rfl ⟨rfl, ?_, ?_, rfl⟩ (Nat.le_refl _) (Nat.le_refl _)
      · show ms_at (za_ov h [(142, mo_c (0, k, b) (r, pl, la, dn, vi, de, ct, en, ou, ed) (q, Ted, Tdn, Tct, fd, sk, (rs_or sf sk)))]) 0 ((oo, aa, bb, cc0, k), (Tr, Tpl, Tla, Tdn, Tvi, Tde, Tct, Ten, Tou, Ted), (sk, sf), b, q)
        rw [za_ov1]
        exact ⟨hok, hb1, hb4, (r, pl, la, dn, vi, de, ct, en, ou, ed), fd, za_set_eq _ _ _, ms_set hin _⟩
      · show ms_fr h (za_ov h [(142, mo_c (0, k, b) (r, pl, la, dn, vi, de, ct, en, ou, ed) (q, Ted, Tdn, Tct, fd, sk, (rs_or sf sk)))])
        rw [za_ov1]
        exact ms_fr1 h _
    by_cases x1 : x = 1
    · subst x1
      have e1 : sp_way ((oo, aa, bb, cc0, k), (Tr, Tpl, Tla, Tdn, Tvi, Tde, Tct, Ten, Tou, Ted), (sk, sf), b, q) (nI i) 1 = (0, wr_y (sf i), ((oo, aa, bb, cc0, k), (Tr, Tpl, Tla, Tdn, Tvi, Tde, Tct, Ten, Tou, Ted), (sk, sf), b, q)) := by
        show (if rs_has sk (nI i) = true then _ else _) = _
        rw [if_pos hal]
        show (0, wr_y (sf (nI i).toNatClampNeg), _) = _
        rw [hci]
      rw [e1]
      refine za_tsw X 1 70 rfl (by decide) (by decide) (by decide) rfl (by decide) ?_
      iterate 3 refine za_step X rfl rfl rfl ?_
      refine za_iald X rfl r3 rfl hvi ?_
      rw [hci]
      iterate 1 refine za_step X rfl rfl rfl ?_
      refine za_irem X rfl (by decide) ?_
      rw [show (rr i).2.2.1 - (rr i).2.2.1 / (Int8.ofInt 16).toInt32 * (Int8.ofInt 16).toInt32 = wr_y (sf i) from by rw [d3]; exact (le_w hwi).2.1]
      refine za_iret X rfl ⟨rfl, ?_, ?_, rfl⟩ (Nat.le_refl _) (Nat.le_refl _)
      · show ms_at (za_ov h [(142, mo_c (0, k, b) (r, pl, la, dn, vi, de, ct, en, ou, ed) (q, Ted, Tdn, Tct, fd, sk, (rs_or sf sk)))]) 0 ((oo, aa, bb, cc0, k), (Tr, Tpl, Tla, Tdn, Tvi, Tde, Tct, Ten, Tou, Ted), (sk, sf), b, q)
        rw [za_ov1]
        exact ⟨hok, hb1, hb4, (r, pl, la, dn, vi, de, ct, en, ou, ed), fd, za_set_eq _ _ _, ms_set hin _⟩
      · show ms_fr h (za_ov h [(142, mo_c (0, k, b) (r, pl, la, dn, vi, de, ct, en, ou, ed) (q, Ted, Tdn, Tct, fd, sk, (rs_or sf sk)))])
        rw [za_ov1]
        exact ms_fr1 h _
    by_cases x2 : x = 2
    · subst x2
      have e1 : sp_way ((oo, aa, bb, cc0, k), (Tr, Tpl, Tla, Tdn, Tvi, Tde, Tct, Ten, Tou, Ted), (sk, sf), b, q) (nI i) 2 = (0, wr_ou (sf i), ((oo, aa, bb, cc0, k), (Tr, Tpl, Tla, Tdn, Tvi, Tde, Tct, Ten, Tou, Ted), (sk, sf), b, q)) := by
        show (if rs_has sk (nI i) = true then _ else _) = _
        rw [if_pos hal]
        show (0, wr_ou (sf (nI i).toNatClampNeg), _) = _
        rw [hci]
      rw [e1]
      refine za_tsw X 2 80 rfl (by decide) (by decide) (by decide) rfl (by decide) ?_
      iterate 3 refine za_step X rfl rfl rfl ?_
      refine za_iald X rfl r4 rfl hvi ?_
      rw [hci]
      rw [show (rr i).2.2.2.1 = wr_ou (sf i) from d4]
      refine za_iret X rfl ⟨rfl, ?_, ?_, rfl⟩ (Nat.le_refl _) (Nat.le_refl _)
      · show ms_at (za_ov h [(142, mo_c (0, k, b) (r, pl, la, dn, vi, de, ct, en, ou, ed) (q, Ted, Tdn, Tct, fd, sk, (rs_or sf sk)))]) 0 ((oo, aa, bb, cc0, k), (Tr, Tpl, Tla, Tdn, Tvi, Tde, Tct, Ten, Tou, Ted), (sk, sf), b, q)
        rw [za_ov1]
        exact ⟨hok, hb1, hb4, (r, pl, la, dn, vi, de, ct, en, ou, ed), fd, za_set_eq _ _ _, ms_set hin _⟩
      · show ms_fr h (za_ov h [(142, mo_c (0, k, b) (r, pl, la, dn, vi, de, ct, en, ou, ed) (q, Ted, Tdn, Tct, fd, sk, (rs_or sf sk)))])
        rw [za_ov1]
        exact ms_fr1 h _
    by_cases x3 : x = 3
    · subst x3
      have e1 : sp_way ((oo, aa, bb, cc0, k), (Tr, Tpl, Tla, Tdn, Tvi, Tde, Tct, Ten, Tou, Ted), (sk, sf), b, q) (nI i) 3 = (0, wr_ed (sf i), ((oo, aa, bb, cc0, k), (Tr, Tpl, Tla, Tdn, Tvi, Tde, Tct, Ten, Tou, Ted), (sk, sf), b, q)) := by
        show (if rs_has sk (nI i) = true then _ else _) = _
        rw [if_pos hal]
        show (0, wr_ed (sf (nI i).toNatClampNeg), _) = _
        rw [hci]
      rw [e1]
      refine za_tsw X 3 87 rfl (by decide) (by decide) (by decide) rfl (by decide) ?_
      iterate 3 refine za_step X rfl rfl rfl ?_
      refine za_iald X rfl r5 rfl hvi ?_
      rw [hci]
      rw [show (rr i).2.2.2.2.1 = wr_ed (sf i) from d5]
      refine za_iret X rfl ⟨rfl, ?_, ?_, rfl⟩ (Nat.le_refl _) (Nat.le_refl _)
      · show ms_at (za_ov h [(142, mo_c (0, k, b) (r, pl, la, dn, vi, de, ct, en, ou, ed) (q, Ted, Tdn, Tct, fd, sk, (rs_or sf sk)))]) 0 ((oo, aa, bb, cc0, k), (Tr, Tpl, Tla, Tdn, Tvi, Tde, Tct, Ten, Tou, Ted), (sk, sf), b, q)
        rw [za_ov1]
        exact ⟨hok, hb1, hb4, (r, pl, la, dn, vi, de, ct, en, ou, ed), fd, za_set_eq _ _ _, ms_set hin _⟩
      · show ms_fr h (za_ov h [(142, mo_c (0, k, b) (r, pl, la, dn, vi, de, ct, en, ou, ed) (q, Ted, Tdn, Tct, fd, sk, (rs_or sf sk)))])
        rw [za_ov1]
        exact ms_fr1 h _
    by_cases x4 : x = 4
    · subst x4
      have e1 : sp_way ((oo, aa, bb, cc0, k), (Tr, Tpl, Tla, Tdn, Tvi, Tde, Tct, Ten, Tou, Ted), (sk, sf), b, q) (nI i) 4 = (0, wr_ct (sf i), ((oo, aa, bb, cc0, k), (Tr, Tpl, Tla, Tdn, Tvi, Tde, Tct, Ten, Tou, Ted), (sk, sf), b, q)) := by
        show (if rs_has sk (nI i) = true then _ else _) = _
        rw [if_pos hal]
        show (0, wr_ct (sf (nI i).toNatClampNeg), _) = _
        rw [hci]
      rw [e1]
      refine za_tsw X 4 94 rfl (by decide) (by decide) (by decide) rfl (by decide) ?_
      iterate 3 refine za_step X rfl rfl rfl ?_
      refine za_iald X rfl r2 rfl hvi ?_
      rw [hci]
      rw [show (rr i).2.1 = wr_ct (sf i) from d2]
      refine za_iret X rfl ⟨rfl, ?_, ?_, rfl⟩ (Nat.le_refl _) (Nat.le_refl _)
      · show ms_at (za_ov h [(142, mo_c (0, k, b) (r, pl, la, dn, vi, de, ct, en, ou, ed) (q, Ted, Tdn, Tct, fd, sk, (rs_or sf sk)))]) 0 ((oo, aa, bb, cc0, k), (Tr, Tpl, Tla, Tdn, Tvi, Tde, Tct, Ten, Tou, Ted), (sk, sf), b, q)
        rw [za_ov1]
        exact ⟨hok, hb1, hb4, (r, pl, la, dn, vi, de, ct, en, ou, ed), fd, za_set_eq _ _ _, ms_set hin _⟩
      · show ms_fr h (za_ov h [(142, mo_c (0, k, b) (r, pl, la, dn, vi, de, ct, en, ou, ed) (q, Ted, Tdn, Tct, fd, sk, (rs_or sf sk)))])
        rw [za_ov1]
        exact ms_fr1 h _
    
    have e1 : sp_way ((oo, aa, bb, cc0, k), (Tr, Tpl, Tla, Tdn, Tvi, Tde, Tct, Ten, Tou, Ted), (sk, sf), b, q) (nI i) x = (2, 0, ((oo, aa, bb, cc0, k), (Tr, Tpl, Tla, Tdn, Tvi, Tde, Tct, Ten, Tou, Ted), (sk, sf), b, q)) := by simp [sp_way, hal, x0, x1, x2, x3, x4]
    refine za_tsd X 101 rfl (ts_o (hi := 4) (fun i h1 h2 => by rcases (show i = 0 ∨ i = 1 ∨ i = 2 ∨ i = 3 ∨ i = 4 by omega) with rfl | rfl | rfl | rfl | rfl <;> first | exact x0 | exact x1 | exact x2 | exact x3 | exact x4)) (by decide) ?_
    rw [e1]
    iterate 2 refine za_step X rfl rfl rfl ?_
    refine za_callV (b := 142) (d := 0) (mc := 0) (ms := 0) (as := [vI 2]) (rest := []) X rfl cl_M_M_raise cy_M_raise cv_M_raise (c_M_raise l D (za_ov h [(142, mo_c (0, k, b) (r, pl, la, dn, vi, de, ct, en, ou, ed) (q, Ted, Tdn, Tct, fd, sk, (rs_or sf sk)))]) n (0, k, b) (r, pl, la, dn, vi, de, ct, en, ou, ed) (q, Ted, Tdn, Tct, fd, sk, (rs_or sf sk)) rfl 2) rfl rfl rfl rfl (Nat.le_of_ble_eq_true rfl) (Nat.le_of_ble_eq_true rfl) (Nat.le_of_ble_eq_true rfl) (Nat.le_of_ble_eq_true rfl) (Nat.le_of_ble_eq_true rfl) (fun v h' n' hq => ?_)
    obtain ⟨rfl, rfl, rfl⟩ := hq
    refine za_iret X rfl ⟨rfl, ?_, ?_, rfl⟩ (Nat.le_refl _) (Nat.le_refl _)
    · show ms_at (za_ov (za_set (za_ov h [(142, mo_c (0, k, b) (r, pl, la, dn, vi, de, ct, en, ou, ed) (q, Ted, Tdn, Tct, fd, sk, (rs_or sf sk)))]) 142 (mo_c (2, k, b) (r, pl, la, dn, vi, de, ct, en, ou, ed) (q, Ted, Tdn, Tct, fd, sk, (rs_or sf sk)))) []) 2 ((oo, aa, bb, cc0, k), (Tr, Tpl, Tla, Tdn, Tvi, Tde, Tct, Ten, Tou, Ted), (sk, sf), b, q)
      rw [za_ov11]
      exact ⟨hok, hb1, hb4, (r, pl, la, dn, vi, de, ct, en, ou, ed), fd, za_set_eq _ _ _, ms_set hin _⟩
    · show ms_fr h (za_ov (za_set (za_ov h [(142, mo_c (0, k, b) (r, pl, la, dn, vi, de, ct, en, ou, ed) (q, Ted, Tdn, Tct, fd, sk, (rs_or sf sk)))]) 142 (mo_c (2, k, b) (r, pl, la, dn, vi, de, ct, en, ou, ed) (q, Ted, Tdn, Tct, fd, sk, (rs_or sf sk)))) [])
      rw [za_ov11]
      exact ms_fr1 h _
  · have e1 : sp_way ((oo, aa, bb, cc0, k), (Tr, Tpl, Tla, Tdn, Tvi, Tde, Tct, Ten, Tou, Ted), (sk, sf), b, q) n1 x = (1, 0, ((oo, aa, bb, cc0, k), (Tr, Tpl, Tla, Tdn, Tvi, Tde, Tct, Ten, Tou, Ted), (sk, sf), b, q)) := if_neg (by show ¬ rs_has sk n1 = true; rw [bI_0 q1]; decide)
    rw [e1]
    iterate 2 refine za_step X rfl rfl rfl ?_
    refine za_callV (b := 142) (d := 0) (mc := 0) (ms := 0) (as := [vI 1]) (rest := []) X rfl cl_M_M_raise cy_M_raise cv_M_raise (c_M_raise l D (za_ov h [(142, mo_c (0, k, b) (r, pl, la, dn, vi, de, ct, en, ou, ed) (q, Ted, Tdn, Tct, fd, sk, (rs_or sf sk)))]) n (0, k, b) (r, pl, la, dn, vi, de, ct, en, ou, ed) (q, Ted, Tdn, Tct, fd, sk, (rs_or sf sk)) rfl 1) rfl rfl rfl rfl (Nat.le_of_ble_eq_true rfl) (Nat.le_of_ble_eq_true rfl) (Nat.le_of_ble_eq_true rfl) (Nat.le_of_ble_eq_true rfl) (Nat.le_of_ble_eq_true rfl) (fun v h' n' hq => ?_)
    obtain ⟨rfl, rfl, rfl⟩ := hq
    refine za_iret X rfl ⟨rfl, ?_, ?_, rfl⟩ (Nat.le_refl _) (Nat.le_refl _)
    · show ms_at (za_ov (za_set (za_ov h [(142, mo_c (0, k, b) (r, pl, la, dn, vi, de, ct, en, ou, ed) (q, Ted, Tdn, Tct, fd, sk, (rs_or sf sk)))]) 142 (mo_c (1, k, b) (r, pl, la, dn, vi, de, ct, en, ou, ed) (q, Ted, Tdn, Tct, fd, sk, (rs_or sf sk)))) []) 1 ((oo, aa, bb, cc0, k), (Tr, Tpl, Tla, Tdn, Tvi, Tde, Tct, Ten, Tou, Ted), (sk, sf), b, q)
      rw [za_ov11]
      exact ⟨hok, hb1, hb4, (r, pl, la, dn, vi, de, ct, en, ou, ed), fd, za_set_eq _ _ _, ms_set hin _⟩
    · show ms_fr h (za_ov (za_set (za_ov h [(142, mo_c (0, k, b) (r, pl, la, dn, vi, de, ct, en, ou, ed) (q, Ted, Tdn, Tct, fd, sk, (rs_or sf sk)))]) 142 (mo_c (1, k, b) (r, pl, la, dn, vi, de, ct, en, ou, ed) (q, Ted, Tdn, Tct, fd, sk, (rs_or sf sk)))) [])
      rw [za_ov11]
      exact ms_fr1 h _
set_option maxHeartbeats 4000000 in
set_option maxRecDepth 100000 in
theorem c_M_decision (l : Launch) (D : za_D) (h : za_H) (n : Nat) (th : Int32) (σ : fs_T) (hσ : ms_at h th σ) (n1 j : Int32) : za_M l D Y_M_decision 3 0 0 [vR 142, vI n1, vI j] h n (ms_ps h n (sp_decision σ n1 j)) := by
  obtain ⟨P, T, S, b, q⟩ := σ
  obtain ⟨hok, hb1, hb4, G, fd, hM, hin⟩ := hσ
  obtain ⟨oo, aa, bb, cc0, k⟩ := P
  obtain ⟨Tr, Tpl, Tla, Tdn, Tvi, Tde, Tct, Ten, Tou, Ted⟩ := T
  obtain ⟨r, pl, la, dn, vi, de, ct, en, ou, ed⟩ := G
  obtain ⟨sk, sf⟩ := S
  have hk64 : sk ≤ 64 := hin.2.2.2.2.2
  have hin0 := hin
  refine za_enter cd_M_decision fl_M (by decide) cdok_M_decision flok_M (Nat.le_of_ble_eq_true rfl) ?_
  intro p e s m args below meth c X hnm
  refine za_view [(142, mo_c (th, k, b) (r, pl, la, dn, vi, de, ct, en, ou, ed) (q, Ted, Tdn, Tct, fd, sk, (rs_or sf sk)))] (by simp [show h 142 = some (mo_c (th, k, b) (r, pl, la, dn, vi, de, ct, en, ou, ed) (q, Ted, Tdn, Tct, fd, sk, (rs_or sf sk))) from hM]) ?_
  iterate 9 refine za_step X rfl rfl rfl ?_
  refine za_callS X rfl cl_M_M_in cy_M_in cs_M_in (c_M_in l D _ n n1 0 (nI sk - 1)) rfl rfl (Nat.le_of_ble_eq_true rfl) (Nat.le_of_ble_eq_true rfl) (Nat.le_of_ble_eq_true rfl) (Nat.le_of_ble_eq_true rfl) (Nat.le_of_ble_eq_true rfl) (fun v h' n' hq => ?_)
  obtain ⟨rfl, rfl, rfl⟩ := hq
  rw [hm_has hk64]
  refine za_look (h1 := h) (v1 := [(142, mo_c (0, k, b) (r, pl, la, dn, vi, de, ct, en, ou, ed) (q, Ted, Tdn, Tct, fd, sk, (rs_or sf sk)))]) rfl ?_
  refine za_ifeq X 35 rfl (by decide) (fun q1 => ?_) (fun q1 => ?_)
  · have e1 : sp_decision ((oo, aa, bb, cc0, k), (Tr, Tpl, Tla, Tdn, Tvi, Tde, Tct, Ten, Tou, Ted), (sk, sf), b, q) n1 j = (1, 0, ((oo, aa, bb, cc0, k), (Tr, Tpl, Tla, Tdn, Tvi, Tde, Tct, Ten, Tou, Ted), (sk, sf), b, q)) := if_neg (by intro z; have z1 : rs_has sk n1 = true := z.1; rw [bI_0 q1] at z1; cases z1)
    rw [e1]
    iterate 2 refine za_step X rfl rfl rfl ?_
    refine za_callV (b := 142) (d := 0) (mc := 0) (ms := 0) (as := [vI 1]) (rest := []) X rfl cl_M_M_raise cy_M_raise cv_M_raise (c_M_raise l D (za_ov h [(142, mo_c (0, k, b) (r, pl, la, dn, vi, de, ct, en, ou, ed) (q, Ted, Tdn, Tct, fd, sk, (rs_or sf sk)))]) n (0, k, b) (r, pl, la, dn, vi, de, ct, en, ou, ed) (q, Ted, Tdn, Tct, fd, sk, (rs_or sf sk)) rfl 1) rfl rfl rfl rfl (Nat.le_of_ble_eq_true rfl) (Nat.le_of_ble_eq_true rfl) (Nat.le_of_ble_eq_true rfl) (Nat.le_of_ble_eq_true rfl) (Nat.le_of_ble_eq_true rfl) (fun v h' n' hq => ?_)
    obtain ⟨rfl, rfl, rfl⟩ := hq
    refine za_iret X rfl ⟨rfl, ?_, ?_, rfl⟩ (Nat.le_refl _) (Nat.le_refl _)
    · show ms_at (za_ov (za_set (za_ov h [(142, mo_c (0, k, b) (r, pl, la, dn, vi, de, ct, en, ou, ed) (q, Ted, Tdn, Tct, fd, sk, (rs_or sf sk)))]) 142 (mo_c (1, k, b) (r, pl, la, dn, vi, de, ct, en, ou, ed) (q, Ted, Tdn, Tct, fd, sk, (rs_or sf sk)))) []) 1 ((oo, aa, bb, cc0, k), (Tr, Tpl, Tla, Tdn, Tvi, Tde, Tct, Ten, Tou, Ted), (sk, sf), b, q)
      rw [za_ov11]
      exact ⟨hok, hb1, hb4, (r, pl, la, dn, vi, de, ct, en, ou, ed), fd, za_set_eq _ _ _, ms_set hin _⟩
    · show ms_fr h (za_ov (za_set (za_ov h [(142, mo_c (0, k, b) (r, pl, la, dn, vi, de, ct, en, ou, ed) (q, Ted, Tdn, Tct, fd, sk, (rs_or sf sk)))]) 142 (mo_c (1, k, b) (r, pl, la, dn, vi, de, ct, en, ou, ed) (q, Ted, Tdn, Tct, fd, sk, (rs_or sf sk)))) [])
      rw [za_ov11]
      exact ms_fr1 h _
  · have hal := bI_n0 q1
    obtain ⟨h147, hp, hw, ⟨rr, ⟨r1, r2, r3, r4, r5⟩, hr⟩, hwo, hk64'⟩ := hin0
    obtain ⟨i, hi, rfl⟩ := rs_has_n hk64 hal
    have hci : (nI i).toNatClampNeg = i := nI_clamp (by omega)
    have hvi : vp_in (nI i) 64 := vp_in_nI (by omega) (by decide)
    obtain ⟨d1, d2, d3, d4, d5⟩ := hr i hi
    have hwi := hwo i hi
    obtain ⟨cn, hcn, hct⟩ := hwi.2
    iterate 5 refine za_step X rfl rfl rfl ?_
    refine za_iald X rfl r2 rfl hvi ?_
    rw [hci]
    rw [show (rr i).2.1 = nI cn from d2.trans hct]
    iterate 2 refine za_step X rfl rfl rfl ?_
    refine za_callS X rfl cl_M_M_in cy_M_in cs_M_in (c_M_in l D _ n j 0 (nI cn - 1)) rfl rfl (Nat.le_of_ble_eq_true rfl) (Nat.le_of_ble_eq_true rfl) (Nat.le_of_ble_eq_true rfl) (Nat.le_of_ble_eq_true rfl) (Nat.le_of_ble_eq_true rfl) (fun v h' n' hq => ?_)
    obtain ⟨rfl, rfl, rfl⟩ := hq
    rw [hm_has (rs := cn) (by omega)]
    refine za_look (h1 := h) (v1 := [(142, mo_c (0, k, b) (r, pl, la, dn, vi, de, ct, en, ou, ed) (q, Ted, Tdn, Tct, fd, sk, (rs_or sf sk)))]) rfl ?_
    refine za_ifne X 41 rfl (by decide) (fun q2 => ?_) (fun q2 => ?_)
    · have hj : 0 ≤ j ∧ j < nI cn := by have z := bI_n0 q2; simpa [rs_has] using z
      have e1 : sp_decision ((oo, aa, bb, cc0, k), (Tr, Tpl, Tla, Tdn, Tvi, Tde, Tct, Ten, Tou, Ted), (sk, sf), b, q) (nI i) j = (0, (wr_de (sf i) >>> ((39 - j).toInt64 &&& 63)).toInt32 &&& 1, ((oo, aa, bb, cc0, k), (Tr, Tpl, Tla, Tdn, Tvi, Tde, Tct, Ten, Tou, Ted), (sk, sf), b, q)) := by
        show (if rs_has sk (nI i) = true ∧ 0 ≤ j ∧ j < wr_ct (sf (nI i).toNatClampNeg) then (0, (wr_de (sf (nI i).toNatClampNeg) >>> ((39 - j).toInt64 &&& 63)).toInt32 &&& 1, _) else _) = _
        rw [hci, if_pos ⟨hal, hj.1, by rw [hct]; exact hj.2⟩]
      rw [e1]
      iterate 3 refine za_step X rfl rfl rfl ?_
      refine za_lald X rfl r1 rfl hvi ?_
      rw [hci]
      rw [show (rr i).1 = wr_de (sf i) from d1]
      iterate 7 refine za_step X rfl rfl rfl ?_
      refine za_iret X rfl ⟨congrArg (fun z => some (vI z)) (Int64.toInt32_and _ _), ?_, ?_, rfl⟩ (Nat.le_refl _) (Nat.le_refl _)
      · show ms_at (za_ov h [(142, mo_c (0, k, b) (r, pl, la, dn, vi, de, ct, en, ou, ed) (q, Ted, Tdn, Tct, fd, sk, (rs_or sf sk)))]) 0 ((oo, aa, bb, cc0, k), (Tr, Tpl, Tla, Tdn, Tvi, Tde, Tct, Ten, Tou, Ted), (sk, sf), b, q)
        rw [za_ov1]
        exact ⟨hok, hb1, hb4, (r, pl, la, dn, vi, de, ct, en, ou, ed), fd, za_set_eq _ _ _, ms_set hin _⟩
      · show ms_fr h (za_ov h [(142, mo_c (0, k, b) (r, pl, la, dn, vi, de, ct, en, ou, ed) (q, Ted, Tdn, Tct, fd, sk, (rs_or sf sk)))])
        rw [za_ov1]
        exact ms_fr1 h _
    · have e1 : sp_decision ((oo, aa, bb, cc0, k), (Tr, Tpl, Tla, Tdn, Tvi, Tde, Tct, Ten, Tou, Ted), (sk, sf), b, q) (nI i) j = (1, 0, ((oo, aa, bb, cc0, k), (Tr, Tpl, Tla, Tdn, Tvi, Tde, Tct, Ten, Tou, Ted), (sk, sf), b, q)) := if_neg (by
        intro z
        have z2 : j < wr_ct (sf (nI i).toNatClampNeg) := z.2.2
        rw [hci, hct] at z2
        have z3 : rs_has cn j = true := by simp [rs_has, z.2.1, z2]
        rw [bI_0 q2] at z3
        cases z3)
      rw [e1]
      iterate 2 refine za_step X rfl rfl rfl ?_
      refine za_callV (b := 142) (d := 0) (mc := 0) (ms := 0) (as := [vI 1]) (rest := []) X rfl cl_M_M_raise cy_M_raise cv_M_raise (c_M_raise l D (za_ov h [(142, mo_c (0, k, b) (r, pl, la, dn, vi, de, ct, en, ou, ed) (q, Ted, Tdn, Tct, fd, sk, (rs_or sf sk)))]) n (0, k, b) (r, pl, la, dn, vi, de, ct, en, ou, ed) (q, Ted, Tdn, Tct, fd, sk, (rs_or sf sk)) rfl 1) rfl rfl rfl rfl (Nat.le_of_ble_eq_true rfl) (Nat.le_of_ble_eq_true rfl) (Nat.le_of_ble_eq_true rfl) (Nat.le_of_ble_eq_true rfl) (Nat.le_of_ble_eq_true rfl) (fun v h' n' hq => ?_)
      obtain ⟨rfl, rfl, rfl⟩ := hq
      refine za_iret X rfl ⟨rfl, ?_, ?_, rfl⟩ (Nat.le_refl _) (Nat.le_refl _)
      · show ms_at (za_ov (za_set (za_ov h [(142, mo_c (0, k, b) (r, pl, la, dn, vi, de, ct, en, ou, ed) (q, Ted, Tdn, Tct, fd, sk, (rs_or sf sk)))]) 142 (mo_c (1, k, b) (r, pl, la, dn, vi, de, ct, en, ou, ed) (q, Ted, Tdn, Tct, fd, sk, (rs_or sf sk)))) []) 1 ((oo, aa, bb, cc0, k), (Tr, Tpl, Tla, Tdn, Tvi, Tde, Tct, Ten, Tou, Ted), (sk, sf), b, q)
        rw [za_ov11]
        exact ⟨hok, hb1, hb4, (r, pl, la, dn, vi, de, ct, en, ou, ed), fd, za_set_eq _ _ _, ms_set hin _⟩
      · show ms_fr h (za_ov (za_set (za_ov h [(142, mo_c (0, k, b) (r, pl, la, dn, vi, de, ct, en, ou, ed) (q, Ted, Tdn, Tct, fd, sk, (rs_or sf sk)))]) 142 (mo_c (1, k, b) (r, pl, la, dn, vi, de, ct, en, ou, ed) (q, Ted, Tdn, Tct, fd, sk, (rs_or sf sk)))) [])
        rw [za_ov11]
        exact ms_fr1 h _
set_option maxHeartbeats 4000000 in
set_option maxRecDepth 100000 in
theorem c_M_example (l : Launch) (D : za_D) (h : za_H) (n : Nat) (th : Int32) (σ : fs_T) (hσ : ms_at h th σ) (x : Int32) : za_M l D Y_M_example 3 0 0 [vR 142, vI x] h n (ms_ps h n (sp_example σ x)) := by
  obtain ⟨P, T, S, b, q⟩ := σ
  obtain ⟨hok, hb1, hb4, G, fd, hM, hin⟩ := hσ
  obtain ⟨oo, aa, bb, cc0, k⟩ := P
  obtain ⟨Tr, Tpl, Tla, Tdn, Tvi, Tde, Tct, Ten, Tou, Ted⟩ := T
  obtain ⟨r, pl, la, dn, vi, de, ct, en, ou, ed⟩ := G
  obtain ⟨sk, sf⟩ := S
  have hk64 : sk ≤ 64 := hin.2.2.2.2.2
  have hin0 := hin
  refine za_enter cd_M_example fl_M (by decide) cdok_M_example flok_M (Nat.le_of_ble_eq_true rfl) ?_
  intro p e s m args below meth c X hnm
  refine za_view [(142, mo_c (th, k, b) (r, pl, la, dn, vi, de, ct, en, ou, ed) (q, Ted, Tdn, Tct, fd, sk, (rs_or sf sk)))] (by simp [show h 142 = some (mo_c (th, k, b) (r, pl, la, dn, vi, de, ct, en, ou, ed) (q, Ted, Tdn, Tct, fd, sk, (rs_or sf sk))) from hM]) ?_
  iterate 6 refine za_step X rfl rfl rfl ?_
  refine za_callS X rfl cl_M_M_in cy_M_in cs_M_in (c_M_in l D _ n x 0 (3)) rfl rfl (Nat.le_of_ble_eq_true rfl) (Nat.le_of_ble_eq_true rfl) (Nat.le_of_ble_eq_true rfl) (Nat.le_of_ble_eq_true rfl) (Nat.le_of_ble_eq_true rfl) (fun v h' n' hq => ?_)
  obtain ⟨rfl, rfl, rfl⟩ := hq
  refine za_look (h1 := h) (v1 := [(142, mo_c (0, k, b) (r, pl, la, dn, vi, de, ct, en, ou, ed) (q, Ted, Tdn, Tct, fd, sk, (rs_or sf sk)))]) rfl ?_
  refine za_ifne X 20 rfl (by decide) (fun q1 => ?_) (fun q1 => ?_)
  · have hx : 0 ≤ x ∧ x ≤ 3 := by have z : mi_in x 0 3 = true := bI_n0 q1; simpa [mi_in] using z
    obtain ⟨h147, hp, hw, ⟨rr, ⟨r1, r2, r3, r4, r5⟩, hr⟩, hwo, hk64'⟩ := hin0
    have loop : ∀ (g i : Nat) (acc : Int32), i + g = sk → rs_li sf x g i acc = rs_li sf x sk 0 256 → za_W p l e (za_rm 3 0 0) s m args below meth c D 4 (MQ below (za_Q D (fun v h' n' => ms_ps h n (sp_example ((oo, aa, bb, cc0, k), (Tr, Tpl, Tla, Tdn, Tvi, Tde, Tct, Ten, Tou, Ted), (sk, sf), b, q) x) v h' n')) args s 0 0 (fun q : Nat => D.2.2 ≤ q)) h n 0 0 26 [(0, vR 142), (1, vI x), (2, vI acc), (3, vI (nI i))] [] [(142, mo_c (0, k, b) (r, pl, la, dn, vi, de, ct, en, ou, ed) (q, Ted, Tdn, Tct, fd, sk, (rs_or sf sk)))] := by
      intro g
      induction g with
      | zero =>
        intro i acc hi hR
        iterate 3 refine za_step X rfl rfl rfl ?_
        refine za_icge X 67 rfl (by decide) (fun q2 => ?_) (fun q2 => absurd ((nI_leI (by omega) (by omega)).mpr (by omega)) q2)
        iterate 2 refine za_step X rfl rfl rfl ?_
        have hacc : acc = rs_li sf x sk 0 256 := hR
        rw [show (Int16.ofInt 256).toInt32 = 256 from by decide]
        refine za_icne X 82 rfl (by decide) (fun q3 => ?_) (fun q3 => ?_)
        · have e1 : sp_example ((oo, aa, bb, cc0, k), (Tr, Tpl, Tla, Tdn, Tvi, Tde, Tct, Ten, Tou, Ted), (sk, sf), b, q) x = (0, acc, ((oo, aa, bb, cc0, k), (Tr, Tpl, Tla, Tdn, Tvi, Tde, Tct, Ten, Tou, Ted), (sk, sf), b, q)) := by
            show (if 0 ≤ x ∧ x ≤ 3 then (if rs_li sf x sk 0 256 = 256 then _ else (0, rs_li sf x sk 0 256, _)) else _) = _
            rw [if_pos hx, ← hacc, if_neg q3]
          rw [e1]
          iterate 1 refine za_step X rfl rfl rfl ?_
          refine za_iret X rfl ⟨rfl, ?_, ?_, rfl⟩ (Nat.le_refl _) (Nat.le_refl _)
          · show ms_at (za_ov h [(142, mo_c (0, k, b) (r, pl, la, dn, vi, de, ct, en, ou, ed) (q, Ted, Tdn, Tct, fd, sk, (rs_or sf sk)))]) 0 ((oo, aa, bb, cc0, k), (Tr, Tpl, Tla, Tdn, Tvi, Tde, Tct, Ten, Tou, Ted), (sk, sf), b, q)
            rw [za_ov1]
            exact ⟨hok, hb1, hb4, (r, pl, la, dn, vi, de, ct, en, ou, ed), fd, za_set_eq _ _ _, ms_set hin _⟩
          · show ms_fr h (za_ov h [(142, mo_c (0, k, b) (r, pl, la, dn, vi, de, ct, en, ou, ed) (q, Ted, Tdn, Tct, fd, sk, (rs_or sf sk)))])
            rw [za_ov1]
            exact ms_fr1 h _
        · have e1 : sp_example ((oo, aa, bb, cc0, k), (Tr, Tpl, Tla, Tdn, Tvi, Tde, Tct, Ten, Tou, Ted), (sk, sf), b, q) x = (2, 0, ((oo, aa, bb, cc0, k), (Tr, Tpl, Tla, Tdn, Tvi, Tde, Tct, Ten, Tou, Ted), (sk, sf), b, q)) := by
            show (if 0 ≤ x ∧ x ≤ 3 then (if rs_li sf x sk 0 256 = 256 then (2, 0, _) else _) else _) = _
            rw [if_pos hx, ← hacc, if_pos q3]
          rw [e1]
          iterate 2 refine za_step X rfl rfl rfl ?_
          refine za_callV (b := 142) (d := 0) (mc := 0) (ms := 0) (as := [vI 2]) (rest := []) X rfl cl_M_M_raise cy_M_raise cv_M_raise (c_M_raise l D (za_ov h [(142, mo_c (0, k, b) (r, pl, la, dn, vi, de, ct, en, ou, ed) (q, Ted, Tdn, Tct, fd, sk, (rs_or sf sk)))]) n (0, k, b) (r, pl, la, dn, vi, de, ct, en, ou, ed) (q, Ted, Tdn, Tct, fd, sk, (rs_or sf sk)) rfl 2) rfl rfl rfl rfl (Nat.le_of_ble_eq_true rfl) (Nat.le_of_ble_eq_true rfl) (Nat.le_of_ble_eq_true rfl) (Nat.le_of_ble_eq_true rfl) (Nat.le_of_ble_eq_true rfl) (fun v h' n' hq => ?_)
          obtain ⟨rfl, rfl, rfl⟩ := hq
          iterate 1 refine za_step X rfl rfl rfl ?_
          refine za_iret X rfl ⟨rfl, ?_, ?_, rfl⟩ (Nat.le_refl _) (Nat.le_refl _)
          · show ms_at (za_ov (za_set (za_ov h [(142, mo_c (0, k, b) (r, pl, la, dn, vi, de, ct, en, ou, ed) (q, Ted, Tdn, Tct, fd, sk, (rs_or sf sk)))]) 142 (mo_c (2, k, b) (r, pl, la, dn, vi, de, ct, en, ou, ed) (q, Ted, Tdn, Tct, fd, sk, (rs_or sf sk)))) []) 2 ((oo, aa, bb, cc0, k), (Tr, Tpl, Tla, Tdn, Tvi, Tde, Tct, Ten, Tou, Ted), (sk, sf), b, q)
            rw [za_ov11]
            exact ⟨hok, hb1, hb4, (r, pl, la, dn, vi, de, ct, en, ou, ed), fd, za_set_eq _ _ _, ms_set hin _⟩
          · show ms_fr h (za_ov (za_set (za_ov h [(142, mo_c (0, k, b) (r, pl, la, dn, vi, de, ct, en, ou, ed) (q, Ted, Tdn, Tct, fd, sk, (rs_or sf sk)))]) 142 (mo_c (2, k, b) (r, pl, la, dn, vi, de, ct, en, ou, ed) (q, Ted, Tdn, Tct, fd, sk, (rs_or sf sk)))) [])
            rw [za_ov11]
            exact ms_fr1 h _
      | succ g ih =>
        intro i acc hi hR
        have hci : (nI i).toNatClampNeg = i := nI_clamp (by omega)
        have hvi : vp_in (nI i) 64 := vp_in_nI (by omega) (by decide)
        obtain ⟨d1, d2, d3, d4, d5⟩ := hr i (by show i < sk; omega)
        have hwi := hwo i (by show i < sk; omega)
        have d3' : (rr i).2.2.1 = wr_in (sf i) := d3.trans (le_w hwi).2.2.symm
        have hR' : rs_li sf x g (i + 1) (if wr_ou (sf i) = x then (if wr_in (sf i) < acc then wr_in (sf i) else acc) else acc) = rs_li sf x sk 0 256 := hR
        have at61 : ∀ acc', (if wr_ou (sf i) = x then (if wr_in (sf i) < acc then wr_in (sf i) else acc) else acc) = acc' → za_W p l e (za_rm 3 0 0) s m args below meth c D 4 (MQ below (za_Q D (fun v h' n' => ms_ps h n (sp_example ((oo, aa, bb, cc0, k), (Tr, Tpl, Tla, Tdn, Tvi, Tde, Tct, Ten, Tou, Ted), (sk, sf), b, q) x) v h' n')) args s 0 0 (fun q : Nat => D.2.2 ≤ q)) h n 0 0 61 [(0, vR 142), (1, vI x), (2, vI acc'), (3, vI (nI i))] [] [(142, mo_c (0, k, b) (r, pl, la, dn, vi, de, ct, en, ou, ed) (q, Ted, Tdn, Tct, fd, sk, (rs_or sf sk)))] := by
          intro acc' ha
          iterate 2 refine za_step X rfl rfl rfl ?_
          rw [show nI i + Int32.ofInt 1 = nI (i + 1) from nI_1 i]
          exact za_loc [(0, vR 142), (1, vI x), (2, vI acc'), (3, vI (nI (i + 1)))] rfl (ih (i + 1) acc' (by omega) (by rw [← ha]; exact hR'))
        iterate 3 refine za_step X rfl rfl rfl ?_
        refine za_icge X 67 rfl (by decide) (fun q2 => absurd ((nI_leI (by omega) (by omega)).mp q2) (by omega)) (fun q2 => ?_)
        iterate 3 refine za_step X rfl rfl rfl ?_
        refine za_iald X rfl r4 rfl hvi ?_
        rw [hci, show (rr i).2.2.2.1 = wr_ou (sf i) from d4]
        iterate 1 refine za_step X rfl rfl rfl ?_
        refine za_icne X 61 rfl (by decide) (fun q3 => at61 acc (if_neg q3)) (fun q3 => ?_)
        iterate 3 refine za_step X rfl rfl rfl ?_
        refine za_iald X rfl r3 rfl hvi ?_
        rw [hci, d3']
        iterate 1 refine za_step X rfl rfl rfl ?_
        refine za_icge X 61 rfl (by decide) (fun q4 => at61 acc (by rw [if_pos q3, if_neg (Int32.not_lt.mpr q4)])) (fun q4 => ?_)
        iterate 3 refine za_step X rfl rfl rfl ?_
        refine za_iald X rfl r3 rfl hvi ?_
        rw [hci, d3']
        iterate 1 refine za_step X rfl rfl rfl ?_
        exact za_loc [(0, vR 142), (1, vI x), (2, vI (wr_in (sf i))), (3, vI (nI i))] rfl (at61 (wr_in (sf i)) (by rw [if_pos q3, if_pos (Int32.not_le.mp q4)]))
    iterate 4 refine za_step X rfl rfl rfl ?_
    exact za_loc [(0, vR 142), (1, vI x), (2, vI (256 : Int32)), (3, vI (nI 0))] rfl (loop sk 0 256 (by omega) rfl)
  · have e1 : sp_example ((oo, aa, bb, cc0, k), (Tr, Tpl, Tla, Tdn, Tvi, Tde, Tct, Ten, Tou, Ted), (sk, sf), b, q) x = (1, 0, ((oo, aa, bb, cc0, k), (Tr, Tpl, Tla, Tdn, Tvi, Tde, Tct, Ten, Tou, Ted), (sk, sf), b, q)) := if_neg (by intro z; have w : mi_in x 0 3 = false := bI_0 q1; simp [mi_in, z.1, z.2] at w)
    rw [e1]
    iterate 2 refine za_step X rfl rfl rfl ?_
    refine za_callV (b := 142) (d := 0) (mc := 0) (ms := 0) (as := [vI 1]) (rest := []) X rfl cl_M_M_raise cy_M_raise cv_M_raise (c_M_raise l D (za_ov h [(142, mo_c (0, k, b) (r, pl, la, dn, vi, de, ct, en, ou, ed) (q, Ted, Tdn, Tct, fd, sk, (rs_or sf sk)))]) n (0, k, b) (r, pl, la, dn, vi, de, ct, en, ou, ed) (q, Ted, Tdn, Tct, fd, sk, (rs_or sf sk)) rfl 1) rfl rfl rfl rfl (Nat.le_of_ble_eq_true rfl) (Nat.le_of_ble_eq_true rfl) (Nat.le_of_ble_eq_true rfl) (Nat.le_of_ble_eq_true rfl) (Nat.le_of_ble_eq_true rfl) (fun v h' n' hq => ?_)
    obtain ⟨rfl, rfl, rfl⟩ := hq
    refine za_iret X rfl ⟨rfl, ?_, ?_, rfl⟩ (Nat.le_refl _) (Nat.le_refl _)
    · show ms_at (za_ov (za_set (za_ov h [(142, mo_c (0, k, b) (r, pl, la, dn, vi, de, ct, en, ou, ed) (q, Ted, Tdn, Tct, fd, sk, (rs_or sf sk)))]) 142 (mo_c (1, k, b) (r, pl, la, dn, vi, de, ct, en, ou, ed) (q, Ted, Tdn, Tct, fd, sk, (rs_or sf sk)))) []) 1 ((oo, aa, bb, cc0, k), (Tr, Tpl, Tla, Tdn, Tvi, Tde, Tct, Ten, Tou, Ted), (sk, sf), b, q)
      rw [za_ov11]
      exact ⟨hok, hb1, hb4, (r, pl, la, dn, vi, de, ct, en, ou, ed), fd, za_set_eq _ _ _, ms_set hin _⟩
    · show ms_fr h (za_ov (za_set (za_ov h [(142, mo_c (0, k, b) (r, pl, la, dn, vi, de, ct, en, ou, ed) (q, Ted, Tdn, Tct, fd, sk, (rs_or sf sk)))]) 142 (mo_c (1, k, b) (r, pl, la, dn, vi, de, ct, en, ou, ed) (q, Ted, Tdn, Tct, fd, sk, (rs_or sf sk)))) [])
      rw [za_ov11]
      exact ms_fr1 h _
set_option maxHeartbeats 4000000 in
set_option maxRecDepth 100000 in
theorem c_M_match (l : Launch) (D : za_D) (h : za_H) (n : Nat) (th : Int32) (σ : fs_T) (hσ : ms_at h th σ) (x y : Int32) : za_M l D Y_M_match 3 0 0 [vR 142, vI x, vI y] h n (ms_ps h n (sp_match σ x y)) := by
  obtain ⟨P, T, S, b, q⟩ := σ
  obtain ⟨hok, hb1, hb4, G, fd, hM, hin⟩ := hσ
  obtain ⟨oo, aa, bb, cc0, k⟩ := P
  obtain ⟨Tr, Tpl, Tla, Tdn, Tvi, Tde, Tct, Ten, Tou, Ted⟩ := T
  obtain ⟨r, pl, la, dn, vi, de, ct, en, ou, ed⟩ := G
  obtain ⟨sk, sf⟩ := S
  have hk64 : sk ≤ 64 := hin.2.2.2.2.2
  have hin0 := hin
  refine za_enter cd_M_match fl_M (by decide) cdok_M_match flok_M (Nat.le_of_ble_eq_true rfl) ?_
  intro p e s m args below meth c X hnm
  refine za_view [(142, mo_c (th, k, b) (r, pl, la, dn, vi, de, ct, en, ou, ed) (q, Ted, Tdn, Tct, fd, sk, (rs_or sf sk)))] (by simp [show h 142 = some (mo_c (th, k, b) (r, pl, la, dn, vi, de, ct, en, ou, ed) (q, Ted, Tdn, Tct, fd, sk, (rs_or sf sk))) from hM]) ?_
  iterate 5 refine za_step X rfl rfl rfl ?_
  refine za_callV (b := 142) (d := 1) (mc := 0) (ms := 0) (as := [vI x]) (rest := []) X rfl cl_M_M_isInput cy_M_isInput cv_M_isInput (c_M_isInput l D (za_ov h [(142, mo_c (0, k, b) (r, pl, la, dn, vi, de, ct, en, ou, ed) (q, Ted, Tdn, Tct, fd, sk, (rs_or sf sk)))]) n (0, k, b) (r, pl, la, dn, vi, de, ct, en, ou, ed) (q, Ted, Tdn, Tct, fd, sk, (rs_or sf sk)) rfl x) rfl rfl rfl rfl (Nat.le_of_ble_eq_true rfl) (Nat.le_of_ble_eq_true rfl) (Nat.le_of_ble_eq_true rfl) (Nat.le_of_ble_eq_true rfl) (Nat.le_of_ble_eq_true rfl) (fun v h' n' hq => ?_)
  obtain ⟨rfl, rfl, rfl⟩ := hq
  refine za_look (h1 := h) (v1 := [(142, mo_c (0, k, b) (r, pl, la, dn, vi, de, ct, en, ou, ed) (q, Ted, Tdn, Tct, fd, sk, (rs_or sf sk)))]) rfl ?_
  refine za_ifeq X 21 rfl (by decide) (fun q1 => ?_) (fun q1 => ?_)
  · have e1 : sp_match ((oo, aa, bb, cc0, k), (Tr, Tpl, Tla, Tdn, Tvi, Tde, Tct, Ten, Tou, Ted), (sk, sf), b, q) x y = (1, 0, ((oo, aa, bb, cc0, k), (Tr, Tpl, Tla, Tdn, Tvi, Tde, Tct, Ten, Tou, Ted), (sk, sf), b, q)) := if_neg (by unfold in_ok; rw [show pr_up (in_lg b) x = false from bI_0 q1]; simp)
    rw [e1]
    iterate 2 refine za_step X rfl rfl rfl ?_
    refine za_callV (b := 142) (d := 0) (mc := 0) (ms := 0) (as := [vI 1]) (rest := []) X rfl cl_M_M_raise cy_M_raise cv_M_raise (c_M_raise l D (za_ov h [(142, mo_c (0, k, b) (r, pl, la, dn, vi, de, ct, en, ou, ed) (q, Ted, Tdn, Tct, fd, sk, (rs_or sf sk)))]) n (0, k, b) (r, pl, la, dn, vi, de, ct, en, ou, ed) (q, Ted, Tdn, Tct, fd, sk, (rs_or sf sk)) rfl 1) rfl rfl rfl rfl (Nat.le_of_ble_eq_true rfl) (Nat.le_of_ble_eq_true rfl) (Nat.le_of_ble_eq_true rfl) (Nat.le_of_ble_eq_true rfl) (Nat.le_of_ble_eq_true rfl) (fun v h' n' hq => ?_)
    obtain ⟨rfl, rfl, rfl⟩ := hq
    refine za_iret X rfl ⟨rfl, ?_, ?_, rfl⟩ (Nat.le_refl _) (Nat.le_refl _)
    · show ms_at (za_ov (za_set (za_ov h [(142, mo_c (0, k, b) (r, pl, la, dn, vi, de, ct, en, ou, ed) (q, Ted, Tdn, Tct, fd, sk, (rs_or sf sk)))]) 142 (mo_c (1, k, b) (r, pl, la, dn, vi, de, ct, en, ou, ed) (q, Ted, Tdn, Tct, fd, sk, (rs_or sf sk)))) []) 1 ((oo, aa, bb, cc0, k), (Tr, Tpl, Tla, Tdn, Tvi, Tde, Tct, Ten, Tou, Ted), (sk, sf), b, q)
      rw [za_ov11]
      exact ⟨hok, hb1, hb4, (r, pl, la, dn, vi, de, ct, en, ou, ed), fd, za_set_eq _ _ _, ms_set hin _⟩
    · show ms_fr h (za_ov (za_set (za_ov h [(142, mo_c (0, k, b) (r, pl, la, dn, vi, de, ct, en, ou, ed) (q, Ted, Tdn, Tct, fd, sk, (rs_or sf sk)))]) 142 (mo_c (1, k, b) (r, pl, la, dn, vi, de, ct, en, ou, ed) (q, Ted, Tdn, Tct, fd, sk, (rs_or sf sk)))) [])
      rw [za_ov11]
      exact ms_fr1 h _
  · iterate 2 refine za_step X rfl rfl rfl ?_
    refine za_callV (b := 142) (d := 1) (mc := 0) (ms := 0) (as := [vI y]) (rest := []) X rfl cl_M_M_isInput cy_M_isInput cv_M_isInput (c_M_isInput l D (za_ov h [(142, mo_c (0, k, b) (r, pl, la, dn, vi, de, ct, en, ou, ed) (q, Ted, Tdn, Tct, fd, sk, (rs_or sf sk)))]) n (0, k, b) (r, pl, la, dn, vi, de, ct, en, ou, ed) (q, Ted, Tdn, Tct, fd, sk, (rs_or sf sk)) rfl y) rfl rfl rfl rfl (Nat.le_of_ble_eq_true rfl) (Nat.le_of_ble_eq_true rfl) (Nat.le_of_ble_eq_true rfl) (Nat.le_of_ble_eq_true rfl) (Nat.le_of_ble_eq_true rfl) (fun v h' n' hq => ?_)
    obtain ⟨rfl, rfl, rfl⟩ := hq
    refine za_look (h1 := h) (v1 := [(142, mo_c (0, k, b) (r, pl, la, dn, vi, de, ct, en, ou, ed) (q, Ted, Tdn, Tct, fd, sk, (rs_or sf sk)))]) rfl ?_
    refine za_ifne X 27 rfl (by decide) (fun q2 => ?_) (fun q2 => ?_)
    · have hio : in_ok b x y = true := by unfold in_ok; rw [show pr_up (in_lg b) x = true from bI_n0 q1, show pr_up (in_lg b) y = true from bI_n0 q2]; rfl
      iterate 3 refine za_step X rfl rfl rfl ?_
      refine za_callV (b := 142) (d := 2) (mc := 0) (ms := 0) (as := [vI x, vI y]) (rest := []) X rfl cl_M_M_go cy_M_go cv_M_go (c_M_go l D (za_ov h [(142, mo_c (0, k, b) (r, pl, la, dn, vi, de, ct, en, ou, ed) (q, Ted, Tdn, Tct, fd, sk, (rs_or sf sk)))]) n (0, k, b) (r, pl, la, dn, vi, de, ct, en, ou, ed) (q, Ted, Tdn, Tct, fd, sk, (rs_or sf sk)) ⟨rfl, hin.1⟩ (oo, aa, bb, cc0, k) rfl hin.2.1 hok x y) rfl rfl rfl rfl (Nat.le_of_ble_eq_true rfl) (Nat.le_of_ble_eq_true rfl) (Nat.le_of_ble_eq_true rfl) (Nat.le_of_ble_eq_true rfl) (Nat.le_of_ble_eq_true rfl) (fun v h' n' hq => ?_)
      obtain ⟨rfl, rfl, rfl⟩ := hq
      have hin2 : ms_in (mo_put (za_ov h [(142, mo_c (0, k, b) (r, pl, la, dn, vi, de, ct, en, ou, ed) (q, Ted, Tdn, Tct, fd, sk, (rs_or sf sk)))]) (0, k, b) (tr_run0 (oo, aa, bb, cc0, k) x y) (q, Ted, Tdn, Tct, fd, sk, (rs_or sf sk))) (oo, aa, bb, cc0, k) (sk, sf) (tr_run0 (oo, aa, bb, cc0, k) x y) := by
        obtain ⟨h147, hp, hw, hr, hx⟩ := hin
        exact ⟨(mo_put_at _ _ _ _).2, hp, hw, hr, hx⟩
      have hfr : ms_fr h (mo_put (za_ov h [(142, mo_c (0, k, b) (r, pl, la, dn, vi, de, ct, en, ou, ed) (q, Ted, Tdn, Tct, fd, sk, (rs_or sf sk)))]) (0, k, b) (tr_run0 (oo, aa, bb, cc0, k) x y) (q, Ted, Tdn, Tct, fd, sk, (rs_or sf sk))) := by
        intro j hj
        rw [mo_put_ne (by omega) (by omega), za_ov1, za_set_ne (by omega)]
      have hc := (mo_put_at (za_ov h [(142, mo_c (0, k, b) (r, pl, la, dn, vi, de, ct, en, ou, ed) (q, Ted, Tdn, Tct, fd, sk, (rs_or sf sk)))]) (0, k, b) (tr_run0 (oo, aa, bb, cc0, k) x y) (q, Ted, Tdn, Tct, fd, sk, (rs_or sf sk))).1
      have hsp : sp_match ((oo, aa, bb, cc0, k), (Tr, Tpl, Tla, Tdn, Tvi, Tde, Tct, Ten, Tou, Ted), (sk, sf), b, q) x y = (if rs_fa sf (tr_run0 (oo, aa, bb, cc0, k) x y) sk 0 < sk then (0, nI (rs_fa sf (tr_run0 (oo, aa, bb, cc0, k) x y) sk 0), ((oo, aa, bb, cc0, k), (Tr, Tpl, Tla, Tdn, Tvi, Tde, Tct, Ten, Tou, Ted), (sk, sf), b, q)) else (2, 0, ((oo, aa, bb, cc0, k), (Tr, Tpl, Tla, Tdn, Tvi, Tde, Tct, Ten, Tou, Ted), (sk, sf), b, q))) := if_pos hio
      rw [hsp]
      clear hsp
      generalize mo_put (za_ov h [(142, mo_c (0, k, b) (r, pl, la, dn, vi, de, ct, en, ou, ed) (q, Ted, Tdn, Tct, fd, sk, (rs_or sf sk)))]) (0, k, b) (tr_run0 (oo, aa, bb, cc0, k) x y) (q, Ted, Tdn, Tct, fd, sk, (rs_or sf sk)) = h2 at *
      generalize tr_run0 (oo, aa, bb, cc0, k) x y = T2 at *
      obtain ⟨r2, pl2, la2, dn2, vi2, de2, ct2, en2, ou2, ed2⟩ := T2
      have hin3 := hin2
      obtain ⟨h147, hp, hw, ⟨rr, ⟨r1, rb2, r3, r4, r5⟩, hr⟩, hwo, hk64'⟩ := hin3
      have loop : ∀ (g i : Nat), i + g = sk → rs_fa sf (r2, pl2, la2, dn2, vi2, de2, ct2, en2, ou2, ed2) g i = rs_fa sf (r2, pl2, la2, dn2, vi2, de2, ct2, en2, ou2, ed2) sk 0 → za_W p l e (za_rm 3 0 0) s m args below meth c D 4 (MQ below (za_Q D (fun v h' n' => ms_ps h n (if rs_fa sf (r2, pl2, la2, dn2, vi2, de2, ct2, en2, ou2, ed2) sk 0 < sk then (0, nI (rs_fa sf (r2, pl2, la2, dn2, vi2, de2, ct2, en2, ou2, ed2) sk 0), ((oo, aa, bb, cc0, k), (Tr, Tpl, Tla, Tdn, Tvi, Tde, Tct, Ten, Tou, Ted), (sk, sf), b, q)) else (2, 0, ((oo, aa, bb, cc0, k), (Tr, Tpl, Tla, Tdn, Tvi, Tde, Tct, Ten, Tou, Ted), (sk, sf), b, q))) v h' n')) args s 0 0 (fun q : Nat => D.2.2 ≤ q)) h2 n 0 0 35 [(0, vR 142), (1, vI x), (2, vI y), (3, vI (nI i))] [] [(142, mo_c (0, k, b) (r2, pl2, la2, dn2, vi2, de2, ct2, en2, ou2, ed2) (q, Ted, Tdn, Tct, fd, sk, (rs_or sf sk)))] := by
        intro g
        induction g with
        | zero =>
          intro i hi hR
          iterate 3 refine za_step X rfl rfl rfl ?_
          refine za_icge X 94 rfl (by decide) (fun q3 => ?_) (fun q3 => absurd ((nI_leI (by omega) (by omega)).mpr (by omega)) q3)
          have hF : rs_fa sf (r2, pl2, la2, dn2, vi2, de2, ct2, en2, ou2, ed2) sk 0 = i := hR.symm
          rw [if_neg (by omega)]
          iterate 2 refine za_step X rfl rfl rfl ?_
          refine za_callV (b := 142) (d := 0) (mc := 0) (ms := 0) (as := [vI 2]) (rest := []) X rfl cl_M_M_raise cy_M_raise cv_M_raise (c_M_raise l D (za_ov h2 [(142, mo_c (0, k, b) (r2, pl2, la2, dn2, vi2, de2, ct2, en2, ou2, ed2) (q, Ted, Tdn, Tct, fd, sk, (rs_or sf sk)))]) n (0, k, b) (r2, pl2, la2, dn2, vi2, de2, ct2, en2, ou2, ed2) (q, Ted, Tdn, Tct, fd, sk, (rs_or sf sk)) rfl 2) rfl rfl rfl rfl (Nat.le_of_ble_eq_true rfl) (Nat.le_of_ble_eq_true rfl) (Nat.le_of_ble_eq_true rfl) (Nat.le_of_ble_eq_true rfl) (Nat.le_of_ble_eq_true rfl) (fun v h' n' hq => ?_)
          obtain ⟨rfl, rfl, rfl⟩ := hq
          refine za_iret X rfl ⟨rfl, ?_, ?_, rfl⟩ (Nat.le_refl _) (Nat.le_refl _)
          · show ms_at (za_ov (za_set (za_ov h2 [(142, mo_c (0, k, b) (r2, pl2, la2, dn2, vi2, de2, ct2, en2, ou2, ed2) (q, Ted, Tdn, Tct, fd, sk, (rs_or sf sk)))]) 142 (mo_c (2, k, b) (r2, pl2, la2, dn2, vi2, de2, ct2, en2, ou2, ed2) (q, Ted, Tdn, Tct, fd, sk, (rs_or sf sk)))) []) 2 ((oo, aa, bb, cc0, k), (Tr, Tpl, Tla, Tdn, Tvi, Tde, Tct, Ten, Tou, Ted), (sk, sf), b, q)
            rw [za_ov11]
            exact ⟨hok, hb1, hb4, (r2, pl2, la2, dn2, vi2, de2, ct2, en2, ou2, ed2), fd, za_set_eq _ _ _, ms_set hin2 _⟩
          · show ms_fr h (za_ov (za_set (za_ov h2 [(142, mo_c (0, k, b) (r2, pl2, la2, dn2, vi2, de2, ct2, en2, ou2, ed2) (q, Ted, Tdn, Tct, fd, sk, (rs_or sf sk)))]) 142 (mo_c (2, k, b) (r2, pl2, la2, dn2, vi2, de2, ct2, en2, ou2, ed2) (q, Ted, Tdn, Tct, fd, sk, (rs_or sf sk)))) [])
            rw [za_ov11]
            exact fun j hj => (ms_fr1 h2 _ j hj).trans (hfr j hj)
        | succ g ih =>
          intro i hi hR
          have hci : (nI i).toNatClampNeg = i := nI_clamp (by omega)
          have hvi : vp_in (nI i) 64 := vp_in_nI (by omega) (by decide)
          obtain ⟨d1, d2, d3, d4, d5⟩ := hr i (by show i < sk; omega)
          have hR' : (if wr_ag (sf i) (r2, pl2, la2, dn2, vi2, de2, ct2, en2, ou2, ed2) = true then i else rs_fa sf (r2, pl2, la2, dn2, vi2, de2, ct2, en2, ou2, ed2) g (i + 1)) = rs_fa sf (r2, pl2, la2, dn2, vi2, de2, ct2, en2, ou2, ed2) sk 0 := hR
          have at88 : wr_ag (sf i) (r2, pl2, la2, dn2, vi2, de2, ct2, en2, ou2, ed2) = false → za_W p l e (za_rm 3 0 0) s m args below meth c D 4 (MQ below (za_Q D (fun v h' n' => ms_ps h n (if rs_fa sf (r2, pl2, la2, dn2, vi2, de2, ct2, en2, ou2, ed2) sk 0 < sk then (0, nI (rs_fa sf (r2, pl2, la2, dn2, vi2, de2, ct2, en2, ou2, ed2) sk 0), ((oo, aa, bb, cc0, k), (Tr, Tpl, Tla, Tdn, Tvi, Tde, Tct, Ten, Tou, Ted), (sk, sf), b, q)) else (2, 0, ((oo, aa, bb, cc0, k), (Tr, Tpl, Tla, Tdn, Tvi, Tde, Tct, Ten, Tou, Ted), (sk, sf), b, q))) v h' n')) args s 0 0 (fun q : Nat => D.2.2 ≤ q)) h2 n 0 0 88 [(0, vR 142), (1, vI x), (2, vI y), (3, vI (nI i))] [] [(142, mo_c (0, k, b) (r2, pl2, la2, dn2, vi2, de2, ct2, en2, ou2, ed2) (q, Ted, Tdn, Tct, fd, sk, (rs_or sf sk)))] := by
            intro ha
            iterate 2 refine za_step X rfl rfl rfl ?_
            rw [show nI i + Int32.ofInt 1 = nI (i + 1) from nI_1 i]
            exact za_loc [(0, vR 142), (1, vI x), (2, vI y), (3, vI (nI (i + 1)))] rfl (ih (i + 1) (by omega) (by rw [← hR', ha]; rfl))
          iterate 3 refine za_step X rfl rfl rfl ?_
          refine za_icge X 94 rfl (by decide) (fun q3 => absurd ((nI_leI (by omega) (by omega)).mp q3) (by omega)) (fun q3 => ?_)
          iterate 3 refine za_step X rfl rfl rfl ?_
          refine za_iald X rfl rb2 rfl hvi ?_
          rw [hci, show (rr i).2.1 = wr_ct (sf i) from d2]
          iterate 2 refine za_step X rfl rfl rfl ?_
          refine za_iclt X 88 rfl (by decide) (fun q4 => at88 (by
            have z : wr_ct (sf i) < tr_ct (r2, pl2, la2, dn2, vi2, de2, ct2, en2, ou2, ed2) := q4
            simp [wr_ag, z])) (fun q4 => ?_)
          iterate 10 refine za_step X rfl rfl rfl ?_
          refine za_lald X rfl r1 rfl hvi ?_
          rw [hci, show (rr i).1 = wr_de (sf i) from d1]
          iterate 6 refine za_step X rfl rfl rfl ?_
          refine za_ifne X 88 rfl (by decide) (fun q5 => at88 (by
            have z : ¬ wr_de (sf i) >>> ((40 - tr_ct (r2, pl2, la2, dn2, vi2, de2, ct2, en2, ou2, ed2)).toInt64 &&& 63) = tr_de (r2, pl2, la2, dn2, vi2, de2, ct2, en2, ou2, ed2) >>> ((40 - tr_ct (r2, pl2, la2, dn2, vi2, de2, ct2, en2, ou2, ed2)).toInt64 &&& 63) := fun w => q5 (lg_0.mpr w.symm)
            simp [wr_ag, z])) (fun q5 => ?_)
          have hag : wr_ag (sf i) (r2, pl2, la2, dn2, vi2, de2, ct2, en2, ou2, ed2) = true := by
            have z1 : ¬ wr_ct (sf i) < tr_ct (r2, pl2, la2, dn2, vi2, de2, ct2, en2, ou2, ed2) := q4
            have z2 : wr_de (sf i) >>> ((40 - tr_ct (r2, pl2, la2, dn2, vi2, de2, ct2, en2, ou2, ed2)).toInt64 &&& 63) = tr_de (r2, pl2, la2, dn2, vi2, de2, ct2, en2, ou2, ed2) >>> ((40 - tr_ct (r2, pl2, la2, dn2, vi2, de2, ct2, en2, ou2, ed2)).toInt64 &&& 63) := (lg_0.mp q5).symm
            unfold wr_ag
            rw [decide_eq_true z1, decide_eq_true z2]; rfl
          have hF : rs_fa sf (r2, pl2, la2, dn2, vi2, de2, ct2, en2, ou2, ed2) sk 0 = i := by rw [← hR', hag]; rfl
          rw [hF, if_pos (by omega)]
          iterate 1 refine za_step X rfl rfl rfl ?_
          refine za_iret X rfl ⟨rfl, ?_, ?_, rfl⟩ (Nat.le_refl _) (Nat.le_refl _)
          · show ms_at (za_ov h2 [(142, mo_c (0, k, b) (r2, pl2, la2, dn2, vi2, de2, ct2, en2, ou2, ed2) (q, Ted, Tdn, Tct, fd, sk, (rs_or sf sk)))]) 0 ((oo, aa, bb, cc0, k), (Tr, Tpl, Tla, Tdn, Tvi, Tde, Tct, Ten, Tou, Ted), (sk, sf), b, q)
            rw [za_ov1]
            exact ⟨hok, hb1, hb4, (r2, pl2, la2, dn2, vi2, de2, ct2, en2, ou2, ed2), fd, za_set_eq _ _ _, ms_set hin2 _⟩
          · show ms_fr h (za_ov h2 [(142, mo_c (0, k, b) (r2, pl2, la2, dn2, vi2, de2, ct2, en2, ou2, ed2) (q, Ted, Tdn, Tct, fd, sk, (rs_or sf sk)))])
            rw [za_ov1]
            exact fun j hj => (ms_fr1 h2 _ j hj).trans (hfr j hj)
      refine za_view [(142, mo_c (0, k, b) (r2, pl2, la2, dn2, vi2, de2, ct2, en2, ou2, ed2) (q, Ted, Tdn, Tct, fd, sk, (rs_or sf sk)))] (by simp [hc]) ?_
      iterate 2 refine za_step X rfl rfl rfl ?_
      exact za_loc [(0, vR 142), (1, vI x), (2, vI y), (3, vI (nI 0))] rfl (loop sk 0 (by omega) rfl)
    · have e1 : sp_match ((oo, aa, bb, cc0, k), (Tr, Tpl, Tla, Tdn, Tvi, Tde, Tct, Ten, Tou, Ted), (sk, sf), b, q) x y = (1, 0, ((oo, aa, bb, cc0, k), (Tr, Tpl, Tla, Tdn, Tvi, Tde, Tct, Ten, Tou, Ted), (sk, sf), b, q)) := if_neg (by unfold in_ok; rw [show pr_up (in_lg b) y = false from bI_0 q2]; simp)
      rw [e1]
      iterate 2 refine za_step X rfl rfl rfl ?_
      refine za_callV (b := 142) (d := 0) (mc := 0) (ms := 0) (as := [vI 1]) (rest := []) X rfl cl_M_M_raise cy_M_raise cv_M_raise (c_M_raise l D (za_ov h [(142, mo_c (0, k, b) (r, pl, la, dn, vi, de, ct, en, ou, ed) (q, Ted, Tdn, Tct, fd, sk, (rs_or sf sk)))]) n (0, k, b) (r, pl, la, dn, vi, de, ct, en, ou, ed) (q, Ted, Tdn, Tct, fd, sk, (rs_or sf sk)) rfl 1) rfl rfl rfl rfl (Nat.le_of_ble_eq_true rfl) (Nat.le_of_ble_eq_true rfl) (Nat.le_of_ble_eq_true rfl) (Nat.le_of_ble_eq_true rfl) (Nat.le_of_ble_eq_true rfl) (fun v h' n' hq => ?_)
      obtain ⟨rfl, rfl, rfl⟩ := hq
      refine za_iret X rfl ⟨rfl, ?_, ?_, rfl⟩ (Nat.le_refl _) (Nat.le_refl _)
      · show ms_at (za_ov (za_set (za_ov h [(142, mo_c (0, k, b) (r, pl, la, dn, vi, de, ct, en, ou, ed) (q, Ted, Tdn, Tct, fd, sk, (rs_or sf sk)))]) 142 (mo_c (1, k, b) (r, pl, la, dn, vi, de, ct, en, ou, ed) (q, Ted, Tdn, Tct, fd, sk, (rs_or sf sk)))) []) 1 ((oo, aa, bb, cc0, k), (Tr, Tpl, Tla, Tdn, Tvi, Tde, Tct, Ten, Tou, Ted), (sk, sf), b, q)
        rw [za_ov11]
        exact ⟨hok, hb1, hb4, (r, pl, la, dn, vi, de, ct, en, ou, ed), fd, za_set_eq _ _ _, ms_set hin _⟩
      · show ms_fr h (za_ov (za_set (za_ov h [(142, mo_c (0, k, b) (r, pl, la, dn, vi, de, ct, en, ou, ed) (q, Ted, Tdn, Tct, fd, sk, (rs_or sf sk)))]) 142 (mo_c (1, k, b) (r, pl, la, dn, vi, de, ct, en, ou, ed) (q, Ted, Tdn, Tct, fd, sk, (rs_or sf sk)))) [])
        rw [za_ov11]
        exact ms_fr1 h _
