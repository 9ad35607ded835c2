def nw1 (f : Nat → mw_T) : za_C := .inl (1, 64, .inr (.inl (fun i => (f i).1)))
def nw2 (f : Nat → mw_T) : za_C := .inl (0, 64, .inl (fun i => (f i).2.1))
def nw3 (f : Nat → mw_T) : za_C := .inl (0, 64, .inl (fun i => (f i).2.2.1))
def nw4 (f : Nat → mw_T) : za_C := .inl (0, 64, .inl (fun i => (f i).2.2.2.1))
def nw5 (f : Nat → mw_T) : za_C := .inl (0, 64, .inl (fun i => (f i).2.2.2.2.1))
theorem nu1 {f : Nat → mw_T} {i c : Nat} {q : mw_T} (hc : c = i) : nw1 (mu f i q) = .inl (1, 64, .inr (.inl (vp_updL (fun p => (f p).1) c q.1))) := by
  subst hc
  unfold nw1 mu
  congr 5
  funext p
  unfold vp_updL
  by_cases e : p = c
  · rw [if_pos e, if_pos e]
  · rw [if_neg e, if_neg e]
theorem nu2 {f : Nat → mw_T} {i c : Nat} {q : mw_T} (hc : c = i) : nw2 (mu f i q) = .inl (0, 64, .inl (upd (fun p => (f p).2.1) c q.2.1)) := by
  subst hc
  unfold nw2 mu
  congr 4
  funext p
  unfold upd
  by_cases e : p = c
  · rw [if_pos e, if_pos e]
  · rw [if_neg e, if_neg e]
theorem nu3 {f : Nat → mw_T} {i c : Nat} {q : mw_T} (hc : c = i) : nw3 (mu f i q) = .inl (0, 64, .inl (upd (fun p => (f p).2.2.1) c q.2.2.1)) := by
  subst hc
  unfold nw3 mu
  congr 4
  funext p
  unfold upd
  by_cases e : p = c
  · rw [if_pos e, if_pos e]
  · rw [if_neg e, if_neg e]
theorem nu4 {f : Nat → mw_T} {i c : Nat} {q : mw_T} (hc : c = i) : nw4 (mu f i q) = .inl (0, 64, .inl (upd (fun p => (f p).2.2.2.1) c q.2.2.2.1)) := by
  subst hc
  unfold nw4 mu
  congr 4
  funext p
  unfold upd
  by_cases e : p = c
  · rw [if_pos e, if_pos e]
  · rw [if_neg e, if_neg e]
theorem nu5 {f : Nat → mw_T} {i c : Nat} {q : mw_T} (hc : c = i) : nw5 (mu f i q) = .inl (0, 64, .inl (upd (fun p => (f p).2.2.2.2.1) c q.2.2.2.2.1)) := by
  subst hc
  unfold nw5 mu
  congr 4
  funext p
  unfold upd
  by_cases e : p = c
  · rw [if_pos e, if_pos e]
  · rw [if_neg e, if_neg e]
def me_cp (f r : Nat → mw_T) (i : Nat) : Nat → mw_T := fun p => if p < i then f p else r p
theorem me_cp_s (f r : Nat → mw_T) (i : Nat) : mu (me_cp f r i) i (f i) = me_cp f r (i + 1) := by
  funext p
  unfold mu me_cp
  by_cases e : p = i
  · subst e; rw [if_pos rfl, if_pos (by omega)]
  · rw [if_neg e]
    by_cases e2 : p < i
    · rw [if_pos e2, if_pos (by omega)]
    · rw [if_neg e2, if_neg (by omega)]
def es_at (h h1 : za_H) (A : ma_T) (G : tr_T) (Z : mz_T) (f : Nat → mw_T) : Prop := h1 142 = some (mo_c A G Z) ∧ h1 147 = some (tr_g G) ∧ mw_at h1 f ∧ ∀ j, j ≠ 142 → j ≠ 147 → (j < 148 ∨ 153 < j) → h1 j = h j
def es_ok (S : rs_T) (f : Nat → mw_T) : Prop := so_ok S ∧ (∀ i, i < S.1 → f i = mw_of (S.2 i)) ∧ (∀ i, i < S.1 → wr_ok (S.2 i)) ∧ S.1 ≤ 64
theorem es_in {h h1 : za_H} {A : ma_T} {G G0 : tr_T} {Z : mz_T} {f : Nat → mw_T} {P : pr_T} {S : rs_T} (hin : ms_in h P S G0) (he : es_at h h1 A G Z f) : ms_in h1 P S G := by
  obtain ⟨o, a, b, c, k⟩ := P
  obtain ⟨h1', ⟨p1, p2, p3, p4⟩, _, ⟨r, ⟨r1, r2, r3, r4, r5⟩, hr⟩, h5⟩ := hin
  obtain ⟨e1, e2, e3, e⟩ := he
  refine ⟨e2, ⟨?_, ?_, ?_, ?_⟩, ⟨f, e3⟩, ⟨r, ⟨?_, ?_, ?_, ?_, ?_⟩, hr⟩, h5⟩
  all_goals rw [e _ (by omega) (by omega) (by omega)]
  all_goals assumption
set_option maxHeartbeats 4000000 in
set_option maxRecDepth 100000 in
theorem c_M_explore (l : Launch) (D : za_D) (h : za_H) (n : Nat) (th : Int32) (σ : fs_T) (hσ : ms_at h th σ)  : za_M l D Y_M_explore 3 0 0 [vR 142] h n (ms_ps h n (sp_explore σ)) := by
  obtain ⟨P, T, S, b, q⟩ := σ
  obtain ⟨hok, hb1, hb4, G, fd, hM, hin⟩ := hσ
  obtain ⟨oo, aa, bb, cc0, k⟩ := P
  obtain ⟨Tr, Tpl, Tla, Tdn, Tvi, Tde, Tct, Ten, Tou, Ted⟩ := T
  obtain ⟨r, pl, la, dn, vi, de, ct, en, ou, ed⟩ := G
  obtain ⟨sk, sf⟩ := S
  have hk64 : sk ≤ 64 := hin.2.2.2.2.2
  have hN : 2 ^ b ≤ 16 := by rcases (show b = 1 ∨ b = 2 ∨ b = 3 ∨ b = 4 by omega) with rfl | rfl | rfl | rfl <;> decide
  have hN0 : 0 < 2 ^ b := Nat.pos_of_ne_zero (by rcases (show b = 1 ∨ b = 2 ∨ b = 3 ∨ b = 4 by omega) with rfl | rfl | rfl | rfl <;> decide)
  have hNN : 2 ^ b * 2 ^ b ≤ 256 := by rcases (show b = 1 ∨ b = 2 ∨ b = 3 ∨ b = 4 by omega) with rfl | rfl | rfl | rfl <;> decide
  refine za_enter cd_M_explore fl_M (by decide) cdok_M_explore flok_M (Nat.le_of_ble_eq_true rfl) ?_
  intro p e s m args below meth c X hnm
  have at83bad : ∀ (h1 : za_H) (G1 : tr_T) (f : Nat → mw_T) (mm : Int32), sp_explore ((oo, aa, bb, cc0, k), (Tr, Tpl, Tla, Tdn, Tvi, Tde, Tct, Ten, Tou, Ted), (sk, sf), b, q) = (1, 0, ((oo, aa, bb, cc0, k), (Tr, Tpl, Tla, Tdn, Tvi, Tde, Tct, Ten, Tou, Ted), (sk, sf), b, q)) → es_at h h1 (0, k, b) G1 (q, Ted, Tdn, Tct, 65, sk, (rs_or sf sk)) f → za_W p l e (za_rm 3 0 0) s m args below meth c D 2 (MQ below (za_Q D (fun v h' n' => ms_ps h n (sp_explore ((oo, aa, bb, cc0, k), (Tr, Tpl, Tla, Tdn, Tvi, Tde, Tct, Ten, Tou, Ted), (sk, sf), b, q)) v h' n')) args s 0 0 (fun q : Nat => D.2.2 ≤ q)) h1 n 0 0 83 [(0, vR 142), (1, vI mm)] [] [] := by
    intro h1 G1 f mm e1 he
    have hin1 := es_in hin he
    obtain ⟨r1, pl1, la1, dn1, vi1, de1, ct1, en1, ou1, ed1⟩ := G1
    rw [e1]
    refine za_view [(142, mo_c (0, k, b) (r1, pl1, la1, dn1, vi1, de1, ct1, en1, ou1, ed1) (q, Ted, Tdn, Tct, 65, sk, (rs_or sf sk)))] (by simp [he.1]) ?_
    iterate 3 refine za_step X rfl rfl rfl ?_
    refine za_icle X 98 rfl (by decide) (fun q1 => absurd q1 (by decide)) (fun q1 => ?_)
    iterate 2 refine za_step X rfl rfl rfl ?_
    refine za_callV (b := 142) (d := 0) (mc := 0) (ms := 0) (as := [vI 1]) (rest := []) X rfl cl_M_M_raise cy_M_raise cv_M_raise (c_M_raise l D (za_ov h1 [(142, mo_c (0, k, b) (r1, pl1, la1, dn1, vi1, de1, ct1, en1, ou1, ed1) (q, Ted, Tdn, Tct, 65, sk, (rs_or sf sk)))]) n (0, k, b) (r1, pl1, la1, dn1, vi1, de1, ct1, en1, ou1, ed1) (q, Ted, Tdn, Tct, 65, sk, (rs_or sf sk)) rfl 1) rfl rfl rfl rfl (Nat.le_of_ble_eq_true rfl) (Nat.le_of_ble_eq_true rfl) (Nat.le_of_ble_eq_true rfl) (Nat.le_of_ble_eq_true rfl) (Nat.le_of_ble_eq_true rfl) (fun v h' n' hq => ?_)
    obtain ⟨rfl, rfl, rfl⟩ := hq
    refine za_iret X rfl ⟨rfl, ?_, ?_, rfl⟩ (Nat.le_refl _) (Nat.le_refl _)
    · show ms_at (za_ov (za_set (za_ov h1 [(142, mo_c (0, k, b) (r1, pl1, la1, dn1, vi1, de1, ct1, en1, ou1, ed1) (q, Ted, Tdn, Tct, 65, sk, (rs_or sf sk)))]) 142 (mo_c (1, k, b) (r1, pl1, la1, dn1, vi1, de1, ct1, en1, ou1, ed1) (q, Ted, Tdn, Tct, 65, sk, (rs_or sf sk)))) []) 1 ((oo, aa, bb, cc0, k), (Tr, Tpl, Tla, Tdn, Tvi, Tde, Tct, Ten, Tou, Ted), (sk, sf), b, q)
      rw [za_ov11]
      exact ⟨hok, hb1, hb4, (r1, pl1, la1, dn1, vi1, de1, ct1, en1, ou1, ed1), 65, za_set_eq _ _ _, ms_set hin1 _⟩
    · show ms_fr h (za_ov (za_set (za_ov h1 [(142, mo_c (0, k, b) (r1, pl1, la1, dn1, vi1, de1, ct1, en1, ou1, ed1) (q, Ted, Tdn, Tct, 65, sk, (rs_or sf sk)))]) 142 (mo_c (1, k, b) (r1, pl1, la1, dn1, vi1, de1, ct1, en1, ou1, ed1) (q, Ted, Tdn, Tct, 65, sk, (rs_or sf sk)))) [])
      rw [za_ov11]
      exact fun j hj => (ms_fr1 h1 _ j hj).trans (he.2.2.2 j (by omega) (by omega) (by omega))
  have at12bad : ∀ (h1 : za_H) (G1 : tr_T) (f : Nat → mw_T) (mm : Int32), sp_explore ((oo, aa, bb, cc0, k), (Tr, Tpl, Tla, Tdn, Tvi, Tde, Tct, Ten, Tou, Ted), (sk, sf), b, q) = (1, 0, ((oo, aa, bb, cc0, k), (Tr, Tpl, Tla, Tdn, Tvi, Tde, Tct, Ten, Tou, Ted), (sk, sf), b, q)) → es_at h h1 (0, k, b) G1 (q, Ted, Tdn, Tct, 65, sk, (rs_or sf sk)) f → za_W p l e (za_rm 3 0 0) s m args below meth c D 2 (MQ below (za_Q D (fun v h' n' => ms_ps h n (sp_explore ((oo, aa, bb, cc0, k), (Tr, Tpl, Tla, Tdn, Tvi, Tde, Tct, Ten, Tou, Ted), (sk, sf), b, q)) v h' n')) args s 0 0 (fun q : Nat => D.2.2 ≤ q)) h1 n 0 0 12 [(0, vR 142), (1, vI mm)] [] [] := by
    intro h1 G1 f mm e1 he
    have hb := at83bad h1 G1 f mm e1 he
    obtain ⟨r1, pl1, la1, dn1, vi1, de1, ct1, en1, ou1, ed1⟩ := G1
    have hv : za_ov h1 [(142, mo_c (0, k, b) (r1, pl1, la1, dn1, vi1, de1, ct1, en1, ou1, ed1) (q, Ted, Tdn, Tct, 65, sk, (rs_or sf sk)))] = h1 := by rw [za_ov1, za_set_same he.1]
    refine za_view [(142, mo_c (0, k, b) (r1, pl1, la1, dn1, vi1, de1, ct1, en1, ou1, ed1) (q, Ted, Tdn, Tct, 65, sk, (rs_or sf sk)))] (by simp [he.1]) ?_
    iterate 7 refine za_step X rfl rfl rfl ?_
    refine za_icge X 83 rfl (by decide) (fun q1 => ?_) (fun q1 => ?_)
    · exact za_look (h1 := h1) (v1 := []) hv.symm hb
    · iterate 3 refine za_step X rfl rfl rfl ?_
      refine za_icge X 83 rfl (by decide) (fun q2 => ?_) (fun q2 => absurd (by decide) q2)
      exact za_look (h1 := h1) (v1 := []) hv.symm hb
  have at83 : ∀ (h1 : za_H) (G1 : tr_T) (f : Nat → mw_T) (mm : Int32) (K : Nat) (g : Nat → wr_T), ex_res (oo, aa, bb, cc0, k) b = some (K, g) → es_ok (K, g) f → es_at h h1 (0, k, b) G1 (q, Ted, Tdn, Tct, K, sk, (rs_or sf sk)) f → za_W p l e (za_rm 3 0 0) s m args below meth c D 2 (MQ below (za_Q D (fun v h' n' => ms_ps h n (sp_explore ((oo, aa, bb, cc0, k), (Tr, Tpl, Tla, Tdn, Tvi, Tde, Tct, Ten, Tou, Ted), (sk, sf), b, q)) v h' n')) args s 0 0 (fun q : Nat => D.2.2 ≤ q)) h1 n 0 0 83 [(0, vR 142), (1, vI mm)] [] [] := by
    intro h1 G1 f mm K g hR hes he
    have e1 : sp_explore ((oo, aa, bb, cc0, k), (Tr, Tpl, Tla, Tdn, Tvi, Tde, Tct, Ten, Tou, Ted), (sk, sf), b, q) = (0, nI K, ((oo, aa, bb, cc0, k), (Tr, Tpl, Tla, Tdn, Tvi, Tde, Tct, Ten, Tou, Ted), (K, g), b, q)) := by
      show (match ex_res (oo, aa, bb, cc0, k) b with | none => _ | some S' => _) = _
      rw [hR]
    rw [e1]
    have hin1 := es_in hin he
    obtain ⟨r1, pl1, la1, dn1, vi1, de1, ct1, en1, ou1, ed1⟩ := G1
    obtain ⟨h147, hp, _, ⟨rr, ⟨q1, q2, q3, q4, q5⟩, _⟩, _, _⟩ := hin1
    obtain ⟨c142, _, hmw, hoff⟩ := he
    obtain ⟨w1, w2, w3, w4, w5, w6⟩ := hmw
    obtain ⟨_, hag, hwo, hK⟩ := hes
    have hK' : K ≤ 64 := hK
    have loop2 : ∀ (gg i : Nat), i + gg = K → za_W p l e (za_rm 3 0 0) s m args below meth c D 2 (MQ below (za_Q D (fun v h' n' => ms_ps h n (0, nI K, ((oo, aa, bb, cc0, k), (Tr, Tpl, Tla, Tdn, Tvi, Tde, Tct, Ten, Tou, Ted), (K, g), b, q)) v h' n')) args s 0 0 (fun q : Nat => D.2.2 ≤ q)) h1 n 0 0 113 [(0, vR 142), (1, vI (nI i))] [] [(142, mo_c (0, k, b) (r1, pl1, la1, dn1, vi1, de1, ct1, en1, ou1, ed1) (q, Ted, Tdn, Tct, K, K, (rs_or g i))), (154, nw1 (me_cp f rr i)), (155, nw2 (me_cp f rr i)), (156, nw3 (me_cp f rr i)), (157, nw4 (me_cp f rr i)), (158, nw5 (me_cp f rr i))] := by
      intro gg
      induction gg with
      | zero =>
        intro i hi
        iterate 3 refine za_step X rfl rfl rfl ?_
        refine za_icge X 202 rfl (by decide) (fun q1 => ?_) (fun q1 => absurd ((nI_leI (by omega) (by omega)).mpr (by omega)) q1)
        iterate 2 refine za_step X rfl rfl rfl ?_
        have hiK : i = K := by omega
        refine za_iret X rfl ⟨rfl, ?_, ?_, rfl⟩ (Nat.le_refl _) (Nat.le_refl _)
        · rw [hiK]
          refine ⟨hok, hb1, hb4, (r1, pl1, la1, dn1, vi1, de1, ct1, en1, ou1, ed1), K, rfl, h147, hp, ⟨f, w1, w2, w3, w4, w5, w6⟩, ⟨me_cp f rr K, ⟨rfl, rfl, rfl, rfl, rfl⟩, ?_⟩, hwo, hK⟩
          intro p hpK
          have hpK' : p < K := hpK
          rw [show me_cp f rr K p = f p from if_pos hpK', hag p hpK]
          exact ⟨rfl, rfl, rfl, rfl, rfl⟩
        · intro p hp2
          refine Eq.trans (za_ov_off (v := [(142, _), (154, _), (155, _), (156, _), (157, _), (158, _)]) ?_) (hoff p (by omega) (by omega) (by omega))
          intro q hq
          simp only [List.mem_cons, List.not_mem_nil, or_false] at hq
          rcases hq with rfl | rfl | rfl | rfl | rfl | rfl <;> (show _ ≠ p; omega)
      | succ gg ih =>
        intro i hi
        have hci : (nI i).toNatClampNeg = i := nI_clamp (by omega)
        iterate 3 refine za_step X rfl rfl rfl ?_
        refine za_icge X 202 rfl (by decide) (fun q1 => absurd ((nI_leI (by omega) (by omega)).mp q1) (by omega)) (fun q1 => ?_)
        iterate 6 refine za_step X rfl rfl rfl ?_
        refine za_lald X rfl w1 rfl (vp_in_nI (by omega) (by decide)) ?_
        rw [hci]
        refine za_last X rfl rfl rfl (vp_in_nI (by omega) (by decide)) ?_
        refine za_look (h1 := h1) (v1 := [(142, mo_c (0, k, b) (r1, pl1, la1, dn1, vi1, de1, ct1, en1, ou1, ed1) (q, Ted, Tdn, Tct, K, K, (rs_or g i))), (154, (nw1 (mu (me_cp f rr i) i (f i)))), (155, nw2 (me_cp f rr i)), (156, nw3 (me_cp f rr i)), (157, nw4 (me_cp f rr i)), (158, nw5 (me_cp f rr i))]) (congrArg (fun z => za_ov h1 [(142, mo_c (0, k, b) (r1, pl1, la1, dn1, vi1, de1, ct1, en1, ou1, ed1) (q, Ted, Tdn, Tct, K, K, (rs_or g i))), (154, z), (155, nw2 (me_cp f rr i)), (156, nw3 (me_cp f rr i)), (157, nw4 (me_cp f rr i)), (158, nw5 (me_cp f rr i))]) (nu1 hci)) ?_
        iterate 6 refine za_step X rfl rfl rfl ?_
        refine za_iald X rfl w2 rfl (vp_in_nI (by omega) (by decide)) ?_
        rw [hci]
        refine za_iast X rfl rfl rfl (vp_in_nI (by omega) (by decide)) ?_
        refine za_look (h1 := h1) (v1 := [(142, mo_c (0, k, b) (r1, pl1, la1, dn1, vi1, de1, ct1, en1, ou1, ed1) (q, Ted, Tdn, Tct, K, K, (rs_or g i))), (154, nw1 (mu (me_cp f rr i) i (f i))), (155, (nw2 (mu (me_cp f rr i) i (f i)))), (156, nw3 (me_cp f rr i)), (157, nw4 (me_cp f rr i)), (158, nw5 (me_cp f rr i))]) (congrArg (fun z => za_ov h1 [(142, mo_c (0, k, b) (r1, pl1, la1, dn1, vi1, de1, ct1, en1, ou1, ed1) (q, Ted, Tdn, Tct, K, K, (rs_or g i))), (154, nw1 (mu (me_cp f rr i) i (f i))), (155, z), (156, nw3 (me_cp f rr i)), (157, nw4 (me_cp f rr i)), (158, nw5 (me_cp f rr i))]) (nu2 hci)) ?_
        iterate 6 refine za_step X rfl rfl rfl ?_
        refine za_iald X rfl w3 rfl (vp_in_nI (by omega) (by decide)) ?_
        rw [hci]
        refine za_iast X rfl rfl rfl (vp_in_nI (by omega) (by decide)) ?_
        refine za_look (h1 := h1) (v1 := [(142, mo_c (0, k, b) (r1, pl1, la1, dn1, vi1, de1, ct1, en1, ou1, ed1) (q, Ted, Tdn, Tct, K, K, (rs_or g i))), (154, nw1 (mu (me_cp f rr i) i (f i))), (155, nw2 (mu (me_cp f rr i) i (f i))), (156, (nw3 (mu (me_cp f rr i) i (f i)))), (157, nw4 (me_cp f rr i)), (158, nw5 (me_cp f rr i))]) (congrArg (fun z => za_ov h1 [(142, mo_c (0, k, b) (r1, pl1, la1, dn1, vi1, de1, ct1, en1, ou1, ed1) (q, Ted, Tdn, Tct, K, K, (rs_or g i))), (154, nw1 (mu (me_cp f rr i) i (f i))), (155, nw2 (mu (me_cp f rr i) i (f i))), (156, z), (157, nw4 (me_cp f rr i)), (158, nw5 (me_cp f rr i))]) (nu3 hci)) ?_
        iterate 6 refine za_step X rfl rfl rfl ?_
        refine za_iald X rfl w4 rfl (vp_in_nI (by omega) (by decide)) ?_
        rw [hci]
        refine za_iast X rfl rfl rfl (vp_in_nI (by omega) (by decide)) ?_
        refine za_look (h1 := h1) (v1 := [(142, mo_c (0, k, b) (r1, pl1, la1, dn1, vi1, de1, ct1, en1, ou1, ed1) (q, Ted, Tdn, Tct, K, K, (rs_or g i))), (154, nw1 (mu (me_cp f rr i) i (f i))), (155, nw2 (mu (me_cp f rr i) i (f i))), (156, nw3 (mu (me_cp f rr i) i (f i))), (157, (nw4 (mu (me_cp f rr i) i (f i)))), (158, nw5 (me_cp f rr i))]) (congrArg (fun z => za_ov h1 [(142, mo_c (0, k, b) (r1, pl1, la1, dn1, vi1, de1, ct1, en1, ou1, ed1) (q, Ted, Tdn, Tct, K, K, (rs_or g i))), (154, nw1 (mu (me_cp f rr i) i (f i))), (155, nw2 (mu (me_cp f rr i) i (f i))), (156, nw3 (mu (me_cp f rr i) i (f i))), (157, z), (158, nw5 (me_cp f rr i))]) (nu4 hci)) ?_
        iterate 6 refine za_step X rfl rfl rfl ?_
        refine za_iald X rfl w5 rfl (vp_in_nI (by omega) (by decide)) ?_
        rw [hci]
        refine za_iast X rfl rfl rfl (vp_in_nI (by omega) (by decide)) ?_
        refine za_look (h1 := h1) (v1 := [(142, mo_c (0, k, b) (r1, pl1, la1, dn1, vi1, de1, ct1, en1, ou1, ed1) (q, Ted, Tdn, Tct, K, K, (rs_or g i))), (154, nw1 (mu (me_cp f rr i) i (f i))), (155, nw2 (mu (me_cp f rr i) i (f i))), (156, nw3 (mu (me_cp f rr i) i (f i))), (157, nw4 (mu (me_cp f rr i) i (f i))), (158, (nw5 (mu (me_cp f rr i) i (f i))))]) (congrArg (fun z => za_ov h1 [(142, mo_c (0, k, b) (r1, pl1, la1, dn1, vi1, de1, ct1, en1, ou1, ed1) (q, Ted, Tdn, Tct, K, K, (rs_or g i))), (154, nw1 (mu (me_cp f rr i) i (f i))), (155, nw2 (mu (me_cp f rr i) i (f i))), (156, nw3 (mu (me_cp f rr i) i (f i))), (157, nw4 (mu (me_cp f rr i) i (f i))), (158, z)]) (nu5 hci)) ?_
        rw [me_cp_s]
        iterate 6 refine za_step X rfl rfl rfl ?_
        refine za_iald X rfl w6 rfl (vp_in_nI (by omega) (by decide)) ?_
        rw [hci, show (f i).2.2.2.2.2 = wr_vi (g i) from by rw [hag i (by show i < K; omega)]; rfl]
        iterate 4 refine za_step X rfl rfl rfl ?_
        rw [show nI i + Int32.ofInt 1 = nI (i + 1) from nI_1 i]
        exact za_loc [(0, vR 142), (1, vI (nI (i + 1)))] rfl (ih (i + 1) (by omega))
    refine za_view [(142, mo_c (0, k, b) (r1, pl1, la1, dn1, vi1, de1, ct1, en1, ou1, ed1) (q, Ted, Tdn, Tct, K, sk, (rs_or sf sk))), (154, nw1 (me_cp f rr 0)), (155, nw2 (me_cp f rr 0)), (156, nw3 (me_cp f rr 0)), (157, nw4 (me_cp f rr 0)), (158, nw5 (me_cp f rr 0))] (by
      intro p hp2
      simp only [List.mem_cons, List.not_mem_nil, or_false] at hp2
      rcases hp2 with rfl | rfl | rfl | rfl | rfl | rfl
      · exact c142
      · exact q1
      · exact q2
      · exact q3
      · exact q4
      · exact q5) ?_
    iterate 3 refine za_step X rfl rfl rfl ?_
    refine za_icle X 98 rfl (by decide) (fun q1 => ?_) (fun q1 => absurd (show nI K ≤ nI 64 from (nI_leI (by omega) (by omega)).mpr hK') q1)
    iterate 9 refine za_step X rfl rfl rfl ?_
    exact za_loc [(0, vR 142), (1, vI (nI 0))] rfl (loop2 K 0 (by omega))
  have loop : ∀ (g uu : Nat) (S : rs_T) (f : Nat → mw_T) (h1 : za_H) (G1 : tr_T), uu + g = 2 ^ b * 2 ^ b → es_ok S f → ex_fl (oo, aa, bb, cc0, k) (2 ^ b) g uu S = ex_res (oo, aa, bb, cc0, k) b → es_at h h1 (0, k, b) G1 (q, Ted, Tdn, Tct, S.1, sk, (rs_or sf sk)) f → za_W p l e (za_rm 3 0 0) s m args below meth c D 2 (MQ below (za_Q D (fun v h' n' => ms_ps h n (sp_explore ((oo, aa, bb, cc0, k), (Tr, Tpl, Tla, Tdn, Tvi, Tde, Tct, Ten, Tou, Ted), (sk, sf), b, q)) v h' n')) args s 0 0 (fun q : Nat => D.2.2 ≤ q)) h1 n 0 0 12 [(0, vR 142), (1, vI (nI uu))] [] [] := by
    intro g
    induction g with
    | zero =>
      intro uu S f h1 G1 hm hes hR he
      obtain ⟨K, gg⟩ := S
      have hb := at83 h1 G1 f (nI uu) K gg hR.symm hes he
      obtain ⟨r1, pl1, la1, dn1, vi1, de1, ct1, en1, ou1, ed1⟩ := G1
      have hv : za_ov h1 [(142, mo_c (0, k, b) (r1, pl1, la1, dn1, vi1, de1, ct1, en1, ou1, ed1) (q, Ted, Tdn, Tct, K, sk, (rs_or sf sk)))] = h1 := by rw [za_ov1, za_set_same he.1]
      refine za_view [(142, mo_c (0, k, b) (r1, pl1, la1, dn1, vi1, de1, ct1, en1, ou1, ed1) (q, Ted, Tdn, Tct, K, sk, (rs_or sf sk)))] (by intro p hp; simp only [List.mem_cons, List.not_mem_nil, or_false] at hp; subst hp; exact he.1) ?_
      iterate 7 refine za_step X rfl rfl rfl ?_
      rw [show Int32.ofInt 1 <<< ((Int32.ofInt 2 * nI b) &&& 31) = nI (2 ^ b * 2 ^ b) from nn_c hb1 hb4]
      refine za_icge X 83 rfl (by decide) (fun q1 => za_look (h1 := h1) (v1 := []) hv.symm hb) (fun q1 => absurd ((nI_leI (by omega) (by omega)).mpr (by omega)) q1)
    | succ g ih =>
      intro uu S f h1 G1 hm hes hR he
      obtain ⟨K, gg⟩ := S
      have hK : K ≤ 64 := hes.2.2.2
      have hm256 : uu < 256 := by omega
      have hin1 := es_in hin he
      obtain ⟨n1, n2⟩ := nn_w hb1 hb4 hm256
      obtain ⟨r1, pl1, la1, dn1, vi1, de1, ct1, en1, ou1, ed1⟩ := G1
      refine za_view [(142, mo_c (0, k, b) (r1, pl1, la1, dn1, vi1, de1, ct1, en1, ou1, ed1) (q, Ted, Tdn, Tct, K, sk, (rs_or sf sk)))] (by intro p hp; simp only [List.mem_cons, List.not_mem_nil, or_false] at hp; subst hp; exact he.1) ?_
      iterate 7 refine za_step X rfl rfl rfl ?_
      rw [show Int32.ofInt 1 <<< ((Int32.ofInt 2 * nI b) &&& 31) = nI (2 ^ b * 2 ^ b) from nn_c hb1 hb4]
      refine za_icge X 83 rfl (by decide) (fun q1 => absurd ((nI_leI (by omega) (by omega)).mp q1) (by omega)) (fun q1 => ?_)
      iterate 3 refine za_step X rfl rfl rfl ?_
      refine za_icge X 83 rfl (by decide) (fun q2 => absurd ((nI_leI (a := 65) (by omega) (by omega)).mp q2) (by omega)) (fun q2 => ?_)
      iterate 13 refine za_step X rfl rfl rfl ?_
      rw [show nI uu >>> (nI b &&& 31) = nI (uu / 2 ^ b) from n1, show nI uu &&& ((Int32.ofInt 1 <<< (nI b &&& 31)) - Int32.ofInt 1) = nI (uu % 2 ^ b) from n2]
      refine za_callV (b := 142) (d := 2) (mc := 0) (ms := 0) (as := [vI (nI (uu / 2 ^ b)), vI (nI (uu % 2 ^ b))]) (rest := []) X rfl cl_M_M_go cy_M_go cv_M_go (c_M_go l D (za_ov h1 [(142, mo_c (0, k, b) (r1, pl1, la1, dn1, vi1, de1, ct1, en1, ou1, ed1) (q, Ted, Tdn, Tct, K, sk, (rs_or sf sk)))]) n (0, k, b) (r1, pl1, la1, dn1, vi1, de1, ct1, en1, ou1, ed1) (q, Ted, Tdn, Tct, K, sk, (rs_or sf sk)) ⟨rfl, hin1.1⟩ (oo, aa, bb, cc0, k) rfl hin1.2.1 hok (nI (uu / 2 ^ b)) (nI (uu % 2 ^ b))) rfl rfl rfl rfl (Nat.le_of_ble_eq_true rfl) (Nat.le_of_ble_eq_true rfl) (Nat.le_of_ble_eq_true rfl) (Nat.le_of_ble_eq_true rfl) (Nat.le_of_ble_eq_true rfl) (fun v h' n' hq => ?_)
      obtain ⟨rfl, rfl, rfl⟩ := hq
      have hw : ex_way (oo, aa, bb, cc0, k) (uu / 2 ^ b) (uu % 2 ^ b) = wr_of (tr_run0 (oo, aa, bb, cc0, k) (nI (uu / 2 ^ b)) (nI (uu % 2 ^ b))) (nI (uu / 2 ^ b)) (nI (uu % 2 ^ b)) := rfl
      have hwok : wr_ok (ex_way (oo, aa, bb, cc0, k) (uu / 2 ^ b) (uu % 2 ^ b)) := way_ok (oo, aa, bb, cc0, k) (by have : uu / 2 ^ b < 2 ^ b := Nat.div_lt_of_lt_mul (by omega); omega) (by have := Nat.mod_lt uu hN0; omega)
      have he2 : es_at h (mo_put (za_ov h1 [(142, mo_c (0, k, b) (r1, pl1, la1, dn1, vi1, de1, ct1, en1, ou1, ed1) (q, Ted, Tdn, Tct, K, sk, (rs_or sf sk)))]) (0, k, b) (tr_run0 (oo, aa, bb, cc0, k) (nI (uu / 2 ^ b)) (nI (uu % 2 ^ b))) (q, Ted, Tdn, Tct, K, sk, (rs_or sf sk))) (0, k, b) (tr_run0 (oo, aa, bb, cc0, k) (nI (uu / 2 ^ b)) (nI (uu % 2 ^ b))) (q, Ted, Tdn, Tct, K, sk, (rs_or sf sk)) f := by
        refine ⟨(mo_put_at _ _ _ _).1, (mo_put_at _ _ _ _).2, he.2.2.1, fun j a1 a2 a3 => ?_⟩
        rw [mo_put_ne a1 a2, za_ov1, za_set_ne a1]
        exact he.2.2.2 j a1 a2 a3
      generalize mo_put (za_ov h1 [(142, mo_c (0, k, b) (r1, pl1, la1, dn1, vi1, de1, ct1, en1, ou1, ed1) (q, Ted, Tdn, Tct, K, sk, (rs_or sf sk)))]) (0, k, b) (tr_run0 (oo, aa, bb, cc0, k) (nI (uu / 2 ^ b)) (nI (uu % 2 ^ b))) (q, Ted, Tdn, Tct, K, sk, (rs_or sf sk)) = h2 at he2
      have hmw := way_mw (tr_run0 (oo, aa, bb, cc0, k) (nI (uu / 2 ^ b)) (nI (uu % 2 ^ b))) (nI (uu / 2 ^ b)) (nI (uu % 2 ^ b))
      rw [← hw] at hmw
      clear hw
      generalize tr_run0 (oo, aa, bb, cc0, k) (nI (uu / 2 ^ b)) (nI (uu % 2 ^ b)) = G2 at he2 hmw
      obtain ⟨r2, pl2, la2, dn2, vi2, de2, ct2, en2, ou2, ed2⟩ := G2
      refine za_view [(142, mo_c (0, k, b) (r2, pl2, la2, dn2, vi2, de2, ct2, en2, ou2, ed2) (q, Ted, Tdn, Tct, K, sk, (rs_or sf sk)))] (by intro p hp; simp only [List.mem_cons, List.not_mem_nil, or_false] at hp; subst hp; exact he2.1) ?_
      iterate 16 refine za_step X rfl rfl rfl ?_
      rw [show nI uu >>> (nI b &&& 31) = nI (uu / 2 ^ b) from n1, show nI uu &&& ((Int32.ofInt 1 <<< (nI b &&& 31)) - Int32.ofInt 1) = nI (uu % 2 ^ b) from n2]
      have hv2 : za_ov h2 [(142, mo_c (0, k, b) (r2, pl2, la2, dn2, vi2, de2, ct2, en2, ou2, ed2) (q, Ted, Tdn, Tct, K, sk, (rs_or sf sk)))] = h2 := by rw [za_ov1, za_set_same he2.1]
      refine za_callV (b := 142) (d := 0) (mc := 0) (ms := 0) (as := [vI (16 * nI (uu / 2 ^ b) + nI (uu % 2 ^ b))]) (rest := []) X rfl cl_M_M_enter cy_M_enter cv_M_enter (c_M_enter l D (za_ov h2 [(142, mo_c (0, k, b) (r2, pl2, la2, dn2, vi2, de2, ct2, en2, ou2, ed2) (q, Ted, Tdn, Tct, K, sk, (rs_or sf sk)))]) n (0, k, b) (r2, pl2, la2, dn2, vi2, de2, ct2, en2, ou2, ed2) q Ted Tdn Tct K sk (rs_or sf sk) hK rfl f he2.2.2.1 (16 * nI (uu / 2 ^ b) + nI (uu % 2 ^ b))) rfl rfl rfl rfl (Nat.le_of_ble_eq_true rfl) (Nat.le_of_ble_eq_true rfl) (Nat.le_of_ble_eq_true rfl) (Nat.le_of_ble_eq_true rfl) (Nat.le_of_ble_eq_true rfl) (fun v h' n' hq => ?_)
      obtain ⟨rfl, hc3, hw3, hoff3, rfl⟩ := hq
      rw [hv2] at hoff3
      rw [hmw] at hc3 hw3
      have htk := me_take (ex_way (oo, aa, bb, cc0, k) (uu / 2 ^ b) (uu % 2 ^ b)) hK hes.1 hes.2.1
      have hR' : (match rs_take (K, gg) (ex_way (oo, aa, bb, cc0, k) (uu / 2 ^ b) (uu % 2 ^ b)) with | none => none | some S' => ex_fl (oo, aa, bb, cc0, k) (2 ^ b) g (uu + 1) S') = ex_res (oo, aa, bb, cc0, k) b := hR
      iterate 2 refine za_step X rfl rfl rfl ?_
      rw [show nI uu + Int32.ofInt 1 = nI (uu + 1) from nI_1 uu]
      have he3 : es_at h h' (0, k, b) (r2, pl2, la2, dn2, vi2, de2, ct2, en2, ou2, ed2) (q, Ted, Tdn, Tct, (me_ent K f (mw_of (ex_way (oo, aa, bb, cc0, k) (uu / 2 ^ b) (uu % 2 ^ b)))).1, sk, (rs_or sf sk)) (me_ent K f (mw_of (ex_way (oo, aa, bb, cc0, k) (uu / 2 ^ b) (uu % 2 ^ b)))).2 := by
        refine ⟨hc3, ?_, hw3, fun j a1 a2 a3 => ?_⟩
        · rw [hoff3 147 (by omega) (by omega)]; exact he2.2.1
        · rw [hoff3 j a1 a3]; exact he2.2.2.2 j a1 a2 a3
      generalize me_ent K f (mw_of (ex_way (oo, aa, bb, cc0, k) (uu / 2 ^ b) (uu % 2 ^ b))) = E at he3 htk
      cases hst : rs_take (K, gg) (ex_way (oo, aa, bb, cc0, k) (uu / 2 ^ b) (uu % 2 ^ b)) with
      | none =>
        rw [hst] at htk hR'
        have h65 : E.1 = 65 := htk
        rw [h65] at he3
        refine za_loc [(0, vR 142), (1, vI (nI (uu + 1)))] rfl (at12bad h' (r2, pl2, la2, dn2, vi2, de2, ct2, en2, ou2, ed2) E.2 (nI (uu + 1)) ?_ he3)
        show (match ex_res (oo, aa, bb, cc0, k) b with | none => _ | some S' => _) = _
        rw [← hR']
      | some S' =>
        rw [hst] at htk hR'
        obtain ⟨t1, t2, t3, t4, t5⟩ := htk
        rw [t1] at he3
        refine za_loc [(0, vR 142), (1, vI (nI (uu + 1)))] rfl (ih (uu + 1) S' E.2 h' (r2, pl2, la2, dn2, vi2, de2, ct2, en2, ou2, ed2) (by omega) ⟨t3, t2, fun i hi => ?_, t4⟩ hR' he3)
        rcases t5 i hi with z | ⟨j, hj, z⟩
        · rw [z]; exact hwok
        · rw [z]; exact hes.2.2.1 j hj
  refine za_view [(142, mo_c (th, k, b) (r, pl, la, dn, vi, de, ct, en, ou, ed) (q, Ted, Tdn, Tct, fd, sk, (rs_or sf sk)))] (by simp [show h 142 = some (mo_c (th, k, b) (r, pl, la, dn, vi, de, ct, en, ou, ed) (q, Ted, Tdn, Tct, fd, sk, (rs_or sf sk))) from hM]) ?_
  iterate 8 refine za_step X rfl rfl rfl ?_
  obtain ⟨f0, hf0⟩ := hin.2.2.1
  refine za_look (h1 := za_set h 142 (mo_c (0, k, b) (r, pl, la, dn, vi, de, ct, en, ou, ed) (q, Ted, Tdn, Tct, 0, sk, (rs_or sf sk)))) (v1 := []) (za_ov1 h 142 (mo_c (0, k, b) (r, pl, la, dn, vi, de, ct, en, ou, ed) (q, Ted, Tdn, Tct, 0, sk, (rs_or sf sk)))).symm ?_
  refine za_loc [(0, vR 142), (1, vI (nI 0))] rfl (loop (2 ^ b * 2 ^ b) 0 (0, fun _ => wr_0) f0 (za_set h 142 (mo_c (0, k, b) (r, pl, la, dn, vi, de, ct, en, ou, ed) (q, Ted, Tdn, Tct, 0, sk, (rs_or sf sk)))) (r, pl, la, dn, vi, de, ct, en, ou, ed) (by omega) ⟨fun i j _ hj => absurd hj (Nat.not_lt_zero j), fun i hi => absurd hi (Nat.not_lt_zero i), fun i hi => absurd hi (Nat.not_lt_zero i), Nat.zero_le _⟩ (fl_res (oo, aa, bb, cc0, k) b) ⟨za_set_eq _ _ _, ?_, ?_, fun j a1 a2 a3 => za_set_ne a1⟩)
  · rw [za_set_ne (by omega)]; exact hin.1
  · obtain ⟨w1, w2, w3, w4, w5, w6⟩ := hf0
    refine ⟨?_, ?_, ?_, ?_, ?_, ?_⟩
    all_goals rw [za_set_ne (by omega)]
    all_goals assumption
