/-! ENTERING A WAY IN THE MODEL'S LIST -/
def mu (f : Nat → mw_T) (i : Nat) (q : mw_T) : Nat → mw_T := fun p => if p = i then q else f p
def m1 (f : Nat → mw_T) : za_C := .inl (1, 65, .inr (.inl (fun i => (f i).1)))
def m2 (f : Nat → mw_T) : za_C := .inl (0, 65, .inl (fun i => (f i).2.1))
def m3 (f : Nat → mw_T) : za_C := .inl (0, 65, .inl (fun i => (f i).2.2.1))
def m4 (f : Nat → mw_T) : za_C := .inl (0, 65, .inl (fun i => (f i).2.2.2.1))
def m5 (f : Nat → mw_T) : za_C := .inl (0, 65, .inl (fun i => (f i).2.2.2.2.1))
def m6 (f : Nat → mw_T) : za_C := .inl (0, 65, .inl (fun i => (f i).2.2.2.2.2))
theorem mu1 {f : Nat → mw_T} {i c : Nat} {q : mw_T} (hc : c = i) : m1 (mu f i q) = .inl (1, 65, .inr (.inl (vp_updL (fun p => (f p).1) c q.1))) := by
  subst hc
  unfold m1 mu
  congr 5
  funext p
  unfold vp_updL
  by_cases e : p = c
  · rw [if_pos e, if_pos e]
  · rw [if_neg e, if_neg e]
theorem mu2 {f : Nat → mw_T} {i c : Nat} {q : mw_T} (hc : c = i) : m2 (mu f i q) = .inl (0, 65, .inl (upd (fun p => (f p).2.1) c q.2.1)) := by
  subst hc
  unfold m2 mu
  congr 4
  funext p
  unfold upd
  by_cases e : p = c
  · rw [if_pos e, if_pos e]
  · rw [if_neg e, if_neg e]
theorem mu3 {f : Nat → mw_T} {i c : Nat} {q : mw_T} (hc : c = i) : m3 (mu f i q) = .inl (0, 65, .inl (upd (fun p => (f p).2.2.1) c q.2.2.1)) := by
  subst hc
  unfold m3 mu
  congr 4
  funext p
  unfold upd
  by_cases e : p = c
  · rw [if_pos e, if_pos e]
  · rw [if_neg e, if_neg e]
theorem mu4 {f : Nat → mw_T} {i c : Nat} {q : mw_T} (hc : c = i) : m4 (mu f i q) = .inl (0, 65, .inl (upd (fun p => (f p).2.2.2.1) c q.2.2.2.1)) := by
  subst hc
  unfold m4 mu
  congr 4
  funext p
  unfold upd
  by_cases e : p = c
  · rw [if_pos e, if_pos e]
  · rw [if_neg e, if_neg e]
theorem mu5 {f : Nat → mw_T} {i c : Nat} {q : mw_T} (hc : c = i) : m5 (mu f i q) = .inl (0, 65, .inl (upd (fun p => (f p).2.2.2.2.1) c q.2.2.2.2.1)) := by
  subst hc
  unfold m5 mu
  congr 4
  funext p
  unfold upd
  by_cases e : p = c
  · rw [if_pos e, if_pos e]
  · rw [if_neg e, if_neg e]
theorem mu6 {f : Nat → mw_T} {i c : Nat} {q : mw_T} (hc : c = i) : m6 (mu f i q) = .inl (0, 65, .inl (upd (fun p => (f p).2.2.2.2.2) c q.2.2.2.2.2)) := by
  subst hc
  unfold m6 mu
  congr 4
  funext p
  unfold upd
  by_cases e : p = c
  · rw [if_pos e, if_pos e]
  · rw [if_neg e, if_neg e]
theorem nI_dn (i : Nat) : nI (i + 1) + Int32.ofInt (-1) = nI i := by
  rw [← nI_pred i, Int32.sub_eq_add_neg]
  rfl
def me_pos (f : Nat → mw_T) (d : Int64) : Nat → Nat
  | 0 => 0
  | k + 1 => if d < (f k).1 then me_pos f d k else k + 1
def me_mv (f : Nat → mw_T) (i k : Nat) : Nat → mw_T := fun p => if i < p ∧ p ≤ k then f (p - 1) else f p
theorem me_mv_0 (f : Nat → mw_T) (k : Nat) : me_mv f k k = f := by
  funext p
  unfold me_mv
  rw [if_neg (by omega)]
theorem me_mv_s (f : Nat → mw_T) {i k : Nat} (h : i + 1 ≤ k) : mu (me_mv f (i + 1) k) (i + 1) (me_mv f (i + 1) k i) = me_mv f i k := by
  funext p
  unfold mu me_mv
  by_cases e : p = i + 1
  · subst e
    rw [if_pos rfl, if_neg (by omega), if_pos (by omega)]
    rfl
  · rw [if_neg e]
    by_cases e2 : i + 1 < p ∧ p ≤ k
    · rw [if_pos e2, if_pos (by omega)]
    · rw [if_neg e2, if_neg (by omega)]
def me_ent (k : Nat) (f : Nat → mw_T) (q : mw_T) : Nat × (Nat → mw_T) := if 0 < me_pos f q.1 k ∧ (f (me_pos f q.1 k - 1)).1 = q.1 then (k, f) else (k + 1, mu (me_mv f (me_pos f q.1 k) k) (me_pos f q.1 k) q)
theorem me_pos_le (f : Nat → mw_T) (d : Int64) : ∀ k, me_pos f d k ≤ k := by
  intro k
  induction k with
  | zero => exact Nat.le_refl _
  | succ k ih =>
    unfold me_pos
    split
    · omega
    · omega
theorem lg_le {x y : Int64} : (lg_cmp x y ≤ 0) ↔ ¬ y < x := by
  unfold lg_cmp
  by_cases h1 : y < x
  · rw [if_pos h1]
    exact ⟨fun q => absurd q (by decide), fun q => absurd h1 q⟩
  · rw [if_neg h1]
    by_cases h2 : x = y
    · rw [if_pos h2]; exact ⟨fun _ => h1, fun _ => by decide⟩
    · rw [if_neg h2]; exact ⟨fun _ => h1, fun _ => by decide⟩
set_option maxHeartbeats 4000000 in
set_option maxRecDepth 100000 in
theorem c_M_enter (l : Launch) (D : za_D) (h : za_H) (n : Nat) (A : ma_T) (G : tr_T) (q0 ln ld lc : Int32) (k rs : Nat) (cv : Int32) (hk : k ≤ 64) (hM : h 142 = some (mo_c A G (q0, ln, ld, lc, k, rs, cv))) (f : Nat → mw_T) (hw : mw_at h f) (x : Int32) : za_M l D Y_M_enter 0 0 0 [vR 142, vI x] h n (fun v h' n' => v = none ∧ h' 142 = some (mo_c A G (q0, ln, ld, lc, (me_ent k f (tr_de G, tr_ct G, x, tr_ou G, tr_ed G, tr_vi G)).1, rs, cv)) ∧ mw_at h' (me_ent k f (tr_de G, tr_ct G, x, tr_ou G, tr_ed G, tr_vi G)).2 ∧ (∀ j, j ≠ 142 → (j < 148 ∨ 153 < j) → h' j = h j) ∧ n = n') := by
  obtain ⟨th, n0, b⟩ := A
  obtain ⟨r, pl, la, dn, vi, de, ct, en, ou, ed⟩ := G
  show za_M l D Y_M_enter 0 0 0 [vR 142, vI x] h n (fun v h' n' => v = none ∧ h' 142 = some (mo_c (th, n0, b) (r, pl, la, dn, vi, de, ct, en, ou, ed) (q0, ln, ld, lc, (me_ent k f (de, ct, x, ou, ed, vi)).1, rs, cv)) ∧ mw_at h' (me_ent k f (de, ct, x, ou, ed, vi)).2 ∧ (∀ j, j ≠ 142 → (j < 148 ∨ 153 < j) → h' j = h j) ∧ n = n')
  obtain ⟨w1, w2, w3, w4, w5, w6⟩ := hw
  have hsame : za_ov h [(142, mo_c (th, n0, b) (r, pl, la, dn, vi, de, ct, en, ou, ed) (q0, ln, ld, lc, k, rs, cv)), (148, m1 f), (149, m2 f), (150, m3 f), (151, m4 f), (152, m5 f), (153, m6 f)] = h := za_ov_same (by simp [hM, m1, m2, m3, m4, m5, m6, w1, w2, w3, w4, w5, w6])
  have hpk := me_pos_le f de k
  refine za_enter cd_M_enter fl_M (by decide) cdok_M_enter flok_M (Nat.le_of_ble_eq_true rfl) ?_
  intro p e s m args below meth c X hnm
  have at152 : ∀ j, j = me_pos f de k → ¬ (0 < j ∧ (f (j - 1)).1 = de) → ∀ i0 : Int32, za_W p l e (za_rm 0 0 0) s m args below meth c D 4 (MQ below (za_Q D (fun v h' n' => v = none ∧ h' 142 = some (mo_c (th, n0, b) (r, pl, la, dn, vi, de, ct, en, ou, ed) (q0, ln, ld, lc, (me_ent k f (de, ct, x, ou, ed, vi)).1, rs, cv)) ∧ mw_at h' (me_ent k f (de, ct, x, ou, ed, vi)).2 ∧ (∀ j, j ≠ 142 → (j < 148 ∨ 153 < j) → h' j = h j) ∧ n = n')) args s 0 0 (fun q : Nat => D.2.2 ≤ q)) h n 0 0 152 [(0, vR 142), (1, vI x), (2, vI (nI j)), (3, vI i0)] [] [(142, mo_c (th, n0, b) (r, pl, la, dn, vi, de, ct, en, ou, ed) (q0, ln, ld, lc, k, rs, cv)), (148, m1 (me_mv f j k)), (149, m2 (me_mv f j k)), (150, m3 (me_mv f j k)), (151, m4 (me_mv f j k)), (152, m5 (me_mv f j k)), (153, m6 (me_mv f j k))] := by
    intro j hj hno i0
    have hjk : j ≤ k := by omega
    have hcj : (nI j).toNatClampNeg = j := nI_clamp (by omega)
    iterate 5 refine za_step X rfl rfl rfl ?_
    refine za_last X rfl rfl rfl (vp_in_nI (by omega) (by decide)) ?_
    refine za_look (h1 := h) (v1 := [(142, mo_c (th, n0, b) (r, pl, la, dn, vi, de, ct, en, ou, ed) (q0, ln, ld, lc, k, rs, cv)), (148, (m1 (mu (me_mv f j k) j (de, ct, x, ou, ed, vi)))), (149, m2 (me_mv f j k)), (150, m3 (me_mv f j k)), (151, m4 (me_mv f j k)), (152, m5 (me_mv f j k)), (153, m6 (me_mv f j k))]) (congrArg (fun z => za_ov h [(142, mo_c (th, n0, b) (r, pl, la, dn, vi, de, ct, en, ou, ed) (q0, ln, ld, lc, k, rs, cv)), (148, z), (149, m2 (me_mv f j k)), (150, m3 (me_mv f j k)), (151, m4 (me_mv f j k)), (152, m5 (me_mv f j k)), (153, m6 (me_mv f j k))]) (mu1 hcj)) ?_
    iterate 5 refine za_step X rfl rfl rfl ?_
    refine za_iast X rfl rfl rfl (vp_in_nI (by omega) (by decide)) ?_
    refine za_look (h1 := h) (v1 := [(142, mo_c (th, n0, b) (r, pl, la, dn, vi, de, ct, en, ou, ed) (q0, ln, ld, lc, k, rs, cv)), (148, m1 (mu (me_mv f j k) j (de, ct, x, ou, ed, vi))), (149, (m2 (mu (me_mv f j k) j (de, ct, x, ou, ed, vi)))), (150, m3 (me_mv f j k)), (151, m4 (me_mv f j k)), (152, m5 (me_mv f j k)), (153, m6 (me_mv f j k))]) (congrArg (fun z => za_ov h [(142, mo_c (th, n0, b) (r, pl, la, dn, vi, de, ct, en, ou, ed) (q0, ln, ld, lc, k, rs, cv)), (148, m1 (mu (me_mv f j k) j (de, ct, x, ou, ed, vi))), (149, z), (150, m3 (me_mv f j k)), (151, m4 (me_mv f j k)), (152, m5 (me_mv f j k)), (153, m6 (me_mv f j k))]) (mu2 hcj)) ?_
    iterate 4 refine za_step X rfl rfl rfl ?_
    refine za_iast X rfl rfl rfl (vp_in_nI (by omega) (by decide)) ?_
    refine za_look (h1 := h) (v1 := [(142, mo_c (th, n0, b) (r, pl, la, dn, vi, de, ct, en, ou, ed) (q0, ln, ld, lc, k, rs, cv)), (148, m1 (mu (me_mv f j k) j (de, ct, x, ou, ed, vi))), (149, m2 (mu (me_mv f j k) j (de, ct, x, ou, ed, vi))), (150, (m3 (mu (me_mv f j k) j (de, ct, x, ou, ed, vi)))), (151, m4 (me_mv f j k)), (152, m5 (me_mv f j k)), (153, m6 (me_mv f j k))]) (congrArg (fun z => za_ov h [(142, mo_c (th, n0, b) (r, pl, la, dn, vi, de, ct, en, ou, ed) (q0, ln, ld, lc, k, rs, cv)), (148, m1 (mu (me_mv f j k) j (de, ct, x, ou, ed, vi))), (149, m2 (mu (me_mv f j k) j (de, ct, x, ou, ed, vi))), (150, z), (151, m4 (me_mv f j k)), (152, m5 (me_mv f j k)), (153, m6 (me_mv f j k))]) (mu3 hcj)) ?_
    iterate 5 refine za_step X rfl rfl rfl ?_
    refine za_iast X rfl rfl rfl (vp_in_nI (by omega) (by decide)) ?_
    refine za_look (h1 := h) (v1 := [(142, mo_c (th, n0, b) (r, pl, la, dn, vi, de, ct, en, ou, ed) (q0, ln, ld, lc, k, rs, cv)), (148, m1 (mu (me_mv f j k) j (de, ct, x, ou, ed, vi))), (149, m2 (mu (me_mv f j k) j (de, ct, x, ou, ed, vi))), (150, m3 (mu (me_mv f j k) j (de, ct, x, ou, ed, vi))), (151, (m4 (mu (me_mv f j k) j (de, ct, x, ou, ed, vi)))), (152, m5 (me_mv f j k)), (153, m6 (me_mv f j k))]) (congrArg (fun z => za_ov h [(142, mo_c (th, n0, b) (r, pl, la, dn, vi, de, ct, en, ou, ed) (q0, ln, ld, lc, k, rs, cv)), (148, m1 (mu (me_mv f j k) j (de, ct, x, ou, ed, vi))), (149, m2 (mu (me_mv f j k) j (de, ct, x, ou, ed, vi))), (150, m3 (mu (me_mv f j k) j (de, ct, x, ou, ed, vi))), (151, z), (152, m5 (me_mv f j k)), (153, m6 (me_mv f j k))]) (mu4 hcj)) ?_
    iterate 5 refine za_step X rfl rfl rfl ?_
    refine za_iast X rfl rfl rfl (vp_in_nI (by omega) (by decide)) ?_
    refine za_look (h1 := h) (v1 := [(142, mo_c (th, n0, b) (r, pl, la, dn, vi, de, ct, en, ou, ed) (q0, ln, ld, lc, k, rs, cv)), (148, m1 (mu (me_mv f j k) j (de, ct, x, ou, ed, vi))), (149, m2 (mu (me_mv f j k) j (de, ct, x, ou, ed, vi))), (150, m3 (mu (me_mv f j k) j (de, ct, x, ou, ed, vi))), (151, m4 (mu (me_mv f j k) j (de, ct, x, ou, ed, vi))), (152, (m5 (mu (me_mv f j k) j (de, ct, x, ou, ed, vi)))), (153, m6 (me_mv f j k))]) (congrArg (fun z => za_ov h [(142, mo_c (th, n0, b) (r, pl, la, dn, vi, de, ct, en, ou, ed) (q0, ln, ld, lc, k, rs, cv)), (148, m1 (mu (me_mv f j k) j (de, ct, x, ou, ed, vi))), (149, m2 (mu (me_mv f j k) j (de, ct, x, ou, ed, vi))), (150, m3 (mu (me_mv f j k) j (de, ct, x, ou, ed, vi))), (151, m4 (mu (me_mv f j k) j (de, ct, x, ou, ed, vi))), (152, z), (153, m6 (me_mv f j k))]) (mu5 hcj)) ?_
    iterate 5 refine za_step X rfl rfl rfl ?_
    refine za_iast X rfl rfl rfl (vp_in_nI (by omega) (by decide)) ?_
    refine za_look (h1 := h) (v1 := [(142, mo_c (th, n0, b) (r, pl, la, dn, vi, de, ct, en, ou, ed) (q0, ln, ld, lc, k, rs, cv)), (148, m1 (mu (me_mv f j k) j (de, ct, x, ou, ed, vi))), (149, m2 (mu (me_mv f j k) j (de, ct, x, ou, ed, vi))), (150, m3 (mu (me_mv f j k) j (de, ct, x, ou, ed, vi))), (151, m4 (mu (me_mv f j k) j (de, ct, x, ou, ed, vi))), (152, m5 (mu (me_mv f j k) j (de, ct, x, ou, ed, vi))), (153, (m6 (mu (me_mv f j k) j (de, ct, x, ou, ed, vi))))]) (congrArg (fun z => za_ov h [(142, mo_c (th, n0, b) (r, pl, la, dn, vi, de, ct, en, ou, ed) (q0, ln, ld, lc, k, rs, cv)), (148, m1 (mu (me_mv f j k) j (de, ct, x, ou, ed, vi))), (149, m2 (mu (me_mv f j k) j (de, ct, x, ou, ed, vi))), (150, m3 (mu (me_mv f j k) j (de, ct, x, ou, ed, vi))), (151, m4 (mu (me_mv f j k) j (de, ct, x, ou, ed, vi))), (152, m5 (mu (me_mv f j k) j (de, ct, x, ou, ed, vi))), (153, z)]) (mu6 hcj)) ?_
    iterate 5 refine za_step X rfl rfl rfl ?_
    rw [show nI k + Int32.ofInt 1 = nI (k + 1) from nI_1 k]
    iterate 1 refine za_step X rfl rfl rfl ?_
    have he : me_ent k f (de, ct, x, ou, ed, vi) = (k + 1, mu (me_mv f j k) j (de, ct, x, ou, ed, vi)) := by
      unfold me_ent
      show (if 0 < me_pos f de k ∧ (f (me_pos f de k - 1)).1 = de then _ else (k + 1, mu (me_mv f (me_pos f de k) k) (me_pos f de k) (de, ct, x, ou, ed, vi))) = _
      rw [← hj, if_neg hno]
    refine za_vret X rfl ⟨rfl, ?_, ?_, ?_, rfl⟩ (Nat.le_refl _) (Nat.le_refl _)
    · rw [he]; rfl
    · rw [he]; exact ⟨rfl, rfl, rfl, rfl, rfl, rfl⟩
    · intro p hp1 hp2
      refine za_ov_off (v := [(142, _), (148, _), (149, _), (150, _), (151, _), (152, _), (153, _)]) ?_
      intro q hq
      simp only [List.mem_cons, List.not_mem_nil, or_false] at hq
      rcases hq with rfl | rfl | rfl | rfl | rfl | rfl | rfl <;> (show _ ≠ p; omega)
  have at57 : ∀ j, j = me_pos f de k → ¬ (0 < j ∧ (f (j - 1)).1 = de) → ∀ g i : Nat, i = j + g → i ≤ k → za_W p l e (za_rm 0 0 0) s m args below meth c D 4 (MQ below (za_Q D (fun v h' n' => v = none ∧ h' 142 = some (mo_c (th, n0, b) (r, pl, la, dn, vi, de, ct, en, ou, ed) (q0, ln, ld, lc, (me_ent k f (de, ct, x, ou, ed, vi)).1, rs, cv)) ∧ mw_at h' (me_ent k f (de, ct, x, ou, ed, vi)).2 ∧ (∀ j, j ≠ 142 → (j < 148 ∨ 153 < j) → h' j = h j) ∧ n = n')) args s 0 0 (fun q : Nat => D.2.2 ≤ q)) h n 0 0 57 [(0, vR 142), (1, vI x), (2, vI (nI j)), (3, vI (nI i))] [] [(142, mo_c (th, n0, b) (r, pl, la, dn, vi, de, ct, en, ou, ed) (q0, ln, ld, lc, k, rs, cv)), (148, m1 (me_mv f i k)), (149, m2 (me_mv f i k)), (150, m3 (me_mv f i k)), (151, m4 (me_mv f i k)), (152, m5 (me_mv f i k)), (153, m6 (me_mv f i k))] := by
    intro j hj hno g
    induction g with
    | zero =>
      intro i hi hik
      have hij : i = j := by omega
      rw [hij]
      iterate 2 refine za_step X rfl rfl rfl ?_
      refine za_icle X 152 rfl (by decide) (fun q1 => ?_) (fun q1 => absurd (Int32.le_refl _) q1)
      exact za_loc [(0, vR 142), (1, vI x), (2, vI (nI j)), (3, vI (nI j))] rfl (at152 j hj hno (nI j))
    | succ g ih =>
      intro i' hi hik
      obtain ⟨i, rfl⟩ : ∃ i, i' = i + 1 := ⟨j + g, by omega⟩
      have hci : (nI i).toNatClampNeg = i := nI_clamp (by omega)
      have hci1 : (nI (i + 1)).toNatClampNeg = i + 1 := nI_clamp (by omega)
      iterate 2 refine za_step X rfl rfl rfl ?_
      refine za_icle X 152 rfl (by decide) (fun q1 => absurd ((nI_leI (by omega) (by omega)).mp q1) (by omega)) (fun q1 => ?_)
      iterate 8 refine za_step X rfl rfl rfl ?_
      rw [show nI (i + 1) - Int32.ofInt 1 = nI i from nI_pred i]
      refine za_lald X rfl rfl rfl (vp_in_nI (by omega) (by decide)) ?_
      rw [hci]
      refine za_last X rfl rfl rfl (vp_in_nI (by omega) (by decide)) ?_
      refine za_look (h1 := h) (v1 := [(142, mo_c (th, n0, b) (r, pl, la, dn, vi, de, ct, en, ou, ed) (q0, ln, ld, lc, k, rs, cv)), (148, (m1 (mu (me_mv f (i + 1) k) (i + 1) (me_mv f (i + 1) k i)))), (149, m2 (me_mv f (i + 1) k)), (150, m3 (me_mv f (i + 1) k)), (151, m4 (me_mv f (i + 1) k)), (152, m5 (me_mv f (i + 1) k)), (153, m6 (me_mv f (i + 1) k))]) (congrArg (fun z => za_ov h [(142, mo_c (th, n0, b) (r, pl, la, dn, vi, de, ct, en, ou, ed) (q0, ln, ld, lc, k, rs, cv)), (148, z), (149, m2 (me_mv f (i + 1) k)), (150, m3 (me_mv f (i + 1) k)), (151, m4 (me_mv f (i + 1) k)), (152, m5 (me_mv f (i + 1) k)), (153, m6 (me_mv f (i + 1) k))]) (mu1 hci1)) ?_
      iterate 8 refine za_step X rfl rfl rfl ?_
      rw [show nI (i + 1) - Int32.ofInt 1 = nI i from nI_pred i]
      refine za_iald X rfl rfl rfl (vp_in_nI (by omega) (by decide)) ?_
      rw [hci]
      refine za_iast X rfl rfl rfl (vp_in_nI (by omega) (by decide)) ?_
      refine za_look (h1 := h) (v1 := [(142, mo_c (th, n0, b) (r, pl, la, dn, vi, de, ct, en, ou, ed) (q0, ln, ld, lc, k, rs, cv)), (148, m1 (mu (me_mv f (i + 1) k) (i + 1) (me_mv f (i + 1) k i))), (149, (m2 (mu (me_mv f (i + 1) k) (i + 1) (me_mv f (i + 1) k i)))), (150, m3 (me_mv f (i + 1) k)), (151, m4 (me_mv f (i + 1) k)), (152, m5 (me_mv f (i + 1) k)), (153, m6 (me_mv f (i + 1) k))]) (congrArg (fun z => za_ov h [(142, mo_c (th, n0, b) (r, pl, la, dn, vi, de, ct, en, ou, ed) (q0, ln, ld, lc, k, rs, cv)), (148, m1 (mu (me_mv f (i + 1) k) (i + 1) (me_mv f (i + 1) k i))), (149, z), (150, m3 (me_mv f (i + 1) k)), (151, m4 (me_mv f (i + 1) k)), (152, m5 (me_mv f (i + 1) k)), (153, m6 (me_mv f (i + 1) k))]) (mu2 hci1)) ?_
      iterate 8 refine za_step X rfl rfl rfl ?_
      rw [show nI (i + 1) - Int32.ofInt 1 = nI i from nI_pred i]
      refine za_iald X rfl rfl rfl (vp_in_nI (by omega) (by decide)) ?_
      rw [hci]
      refine za_iast X rfl rfl rfl (vp_in_nI (by omega) (by decide)) ?_
      refine za_look (h1 := h) (v1 := [(142, mo_c (th, n0, b) (r, pl, la, dn, vi, de, ct, en, ou, ed) (q0, ln, ld, lc, k, rs, cv)), (148, m1 (mu (me_mv f (i + 1) k) (i + 1) (me_mv f (i + 1) k i))), (149, m2 (mu (me_mv f (i + 1) k) (i + 1) (me_mv f (i + 1) k i))), (150, (m3 (mu (me_mv f (i + 1) k) (i + 1) (me_mv f (i + 1) k i)))), (151, m4 (me_mv f (i + 1) k)), (152, m5 (me_mv f (i + 1) k)), (153, m6 (me_mv f (i + 1) k))]) (congrArg (fun z => za_ov h [(142, mo_c (th, n0, b) (r, pl, la, dn, vi, de, ct, en, ou, ed) (q0, ln, ld, lc, k, rs, cv)), (148, m1 (mu (me_mv f (i + 1) k) (i + 1) (me_mv f (i + 1) k i))), (149, m2 (mu (me_mv f (i + 1) k) (i + 1) (me_mv f (i + 1) k i))), (150, z), (151, m4 (me_mv f (i + 1) k)), (152, m5 (me_mv f (i + 1) k)), (153, m6 (me_mv f (i + 1) k))]) (mu3 hci1)) ?_
      iterate 8 refine za_step X rfl rfl rfl ?_
      rw [show nI (i + 1) - Int32.ofInt 1 = nI i from nI_pred i]
      refine za_iald X rfl rfl rfl (vp_in_nI (by omega) (by decide)) ?_
      rw [hci]
      refine za_iast X rfl rfl rfl (vp_in_nI (by omega) (by decide)) ?_
      refine za_look (h1 := h) (v1 := [(142, mo_c (th, n0, b) (r, pl, la, dn, vi, de, ct, en, ou, ed) (q0, ln, ld, lc, k, rs, cv)), (148, m1 (mu (me_mv f (i + 1) k) (i + 1) (me_mv f (i + 1) k i))), (149, m2 (mu (me_mv f (i + 1) k) (i + 1) (me_mv f (i + 1) k i))), (150, m3 (mu (me_mv f (i + 1) k) (i + 1) (me_mv f (i + 1) k i))), (151, (m4 (mu (me_mv f (i + 1) k) (i + 1) (me_mv f (i + 1) k i)))), (152, m5 (me_mv f (i + 1) k)), (153, m6 (me_mv f (i + 1) k))]) (congrArg (fun z => za_ov h [(142, mo_c (th, n0, b) (r, pl, la, dn, vi, de, ct, en, ou, ed) (q0, ln, ld, lc, k, rs, cv)), (148, m1 (mu (me_mv f (i + 1) k) (i + 1) (me_mv f (i + 1) k i))), (149, m2 (mu (me_mv f (i + 1) k) (i + 1) (me_mv f (i + 1) k i))), (150, m3 (mu (me_mv f (i + 1) k) (i + 1) (me_mv f (i + 1) k i))), (151, z), (152, m5 (me_mv f (i + 1) k)), (153, m6 (me_mv f (i + 1) k))]) (mu4 hci1)) ?_
      iterate 8 refine za_step X rfl rfl rfl ?_
      rw [show nI (i + 1) - Int32.ofInt 1 = nI i from nI_pred i]
      refine za_iald X rfl rfl rfl (vp_in_nI (by omega) (by decide)) ?_
      rw [hci]
      refine za_iast X rfl rfl rfl (vp_in_nI (by omega) (by decide)) ?_
      refine za_look (h1 := h) (v1 := [(142, mo_c (th, n0, b) (r, pl, la, dn, vi, de, ct, en, ou, ed) (q0, ln, ld, lc, k, rs, cv)), (148, m1 (mu (me_mv f (i + 1) k) (i + 1) (me_mv f (i + 1) k i))), (149, m2 (mu (me_mv f (i + 1) k) (i + 1) (me_mv f (i + 1) k i))), (150, m3 (mu (me_mv f (i + 1) k) (i + 1) (me_mv f (i + 1) k i))), (151, m4 (mu (me_mv f (i + 1) k) (i + 1) (me_mv f (i + 1) k i))), (152, (m5 (mu (me_mv f (i + 1) k) (i + 1) (me_mv f (i + 1) k i)))), (153, m6 (me_mv f (i + 1) k))]) (congrArg (fun z => za_ov h [(142, mo_c (th, n0, b) (r, pl, la, dn, vi, de, ct, en, ou, ed) (q0, ln, ld, lc, k, rs, cv)), (148, m1 (mu (me_mv f (i + 1) k) (i + 1) (me_mv f (i + 1) k i))), (149, m2 (mu (me_mv f (i + 1) k) (i + 1) (me_mv f (i + 1) k i))), (150, m3 (mu (me_mv f (i + 1) k) (i + 1) (me_mv f (i + 1) k i))), (151, m4 (mu (me_mv f (i + 1) k) (i + 1) (me_mv f (i + 1) k i))), (152, z), (153, m6 (me_mv f (i + 1) k))]) (mu5 hci1)) ?_
      iterate 8 refine za_step X rfl rfl rfl ?_
      rw [show nI (i + 1) - Int32.ofInt 1 = nI i from nI_pred i]
      refine za_iald X rfl rfl rfl (vp_in_nI (by omega) (by decide)) ?_
      rw [hci]
      refine za_iast X rfl rfl rfl (vp_in_nI (by omega) (by decide)) ?_
      refine za_look (h1 := h) (v1 := [(142, mo_c (th, n0, b) (r, pl, la, dn, vi, de, ct, en, ou, ed) (q0, ln, ld, lc, k, rs, cv)), (148, m1 (mu (me_mv f (i + 1) k) (i + 1) (me_mv f (i + 1) k i))), (149, m2 (mu (me_mv f (i + 1) k) (i + 1) (me_mv f (i + 1) k i))), (150, m3 (mu (me_mv f (i + 1) k) (i + 1) (me_mv f (i + 1) k i))), (151, m4 (mu (me_mv f (i + 1) k) (i + 1) (me_mv f (i + 1) k i))), (152, m5 (mu (me_mv f (i + 1) k) (i + 1) (me_mv f (i + 1) k i))), (153, (m6 (mu (me_mv f (i + 1) k) (i + 1) (me_mv f (i + 1) k i))))]) (congrArg (fun z => za_ov h [(142, mo_c (th, n0, b) (r, pl, la, dn, vi, de, ct, en, ou, ed) (q0, ln, ld, lc, k, rs, cv)), (148, m1 (mu (me_mv f (i + 1) k) (i + 1) (me_mv f (i + 1) k i))), (149, m2 (mu (me_mv f (i + 1) k) (i + 1) (me_mv f (i + 1) k i))), (150, m3 (mu (me_mv f (i + 1) k) (i + 1) (me_mv f (i + 1) k i))), (151, m4 (mu (me_mv f (i + 1) k) (i + 1) (me_mv f (i + 1) k i))), (152, m5 (mu (me_mv f (i + 1) k) (i + 1) (me_mv f (i + 1) k i))), (153, z)]) (mu6 hci1)) ?_
      rw [me_mv_s f hik]
      iterate 2 refine za_step X rfl rfl rfl ?_
      rw [nI_dn i]
      exact za_loc [(0, vR 142), (1, vI x), (2, vI (nI j)), (3, vI (nI i))] rfl (ih i (by omega) (by omega))
  have at52 : ∀ j, j = me_pos f de k → ¬ (0 < j ∧ (f (j - 1)).1 = de) → za_W p l e (za_rm 0 0 0) s m args below meth c D 4 (MQ below (za_Q D (fun v h' n' => v = none ∧ h' 142 = some (mo_c (th, n0, b) (r, pl, la, dn, vi, de, ct, en, ou, ed) (q0, ln, ld, lc, (me_ent k f (de, ct, x, ou, ed, vi)).1, rs, cv)) ∧ mw_at h' (me_ent k f (de, ct, x, ou, ed, vi)).2 ∧ (∀ j, j ≠ 142 → (j < 148 ∨ 153 < j) → h' j = h j) ∧ n = n')) args s 0 0 (fun q : Nat => D.2.2 ≤ q)) h n 0 0 52 [(0, vR 142), (1, vI x), (2, vI (nI j))] [] [(142, mo_c (th, n0, b) (r, pl, la, dn, vi, de, ct, en, ou, ed) (q0, ln, ld, lc, k, rs, cv)), (148, m1 f), (149, m2 f), (150, m3 f), (151, m4 f), (152, m5 f), (153, m6 f)] := by
    intro j hj hno
    iterate 3 refine za_step X rfl rfl rfl ?_
    have z := at57 j hj hno (k - j) k (by omega) (Nat.le_refl _)
    rw [me_mv_0] at z
    exact za_loc [(0, vR 142), (1, vI x), (2, vI (nI j)), (3, vI (nI k))] rfl z
  have at31 : ∀ j, j = me_pos f de k → za_W p l e (za_rm 0 0 0) s m args below meth c D 4 (MQ below (za_Q D (fun v h' n' => v = none ∧ h' 142 = some (mo_c (th, n0, b) (r, pl, la, dn, vi, de, ct, en, ou, ed) (q0, ln, ld, lc, (me_ent k f (de, ct, x, ou, ed, vi)).1, rs, cv)) ∧ mw_at h' (me_ent k f (de, ct, x, ou, ed, vi)).2 ∧ (∀ j, j ≠ 142 → (j < 148 ∨ 153 < j) → h' j = h j) ∧ n = n')) args s 0 0 (fun q : Nat => D.2.2 ≤ q)) h n 0 0 31 [(0, vR 142), (1, vI x), (2, vI (nI j))] [] [(142, mo_c (th, n0, b) (r, pl, la, dn, vi, de, ct, en, ou, ed) (q0, ln, ld, lc, k, rs, cv)), (148, m1 f), (149, m2 f), (150, m3 f), (151, m4 f), (152, m5 f), (153, m6 f)] := by
    intro j hj
    iterate 1 refine za_step X rfl rfl rfl ?_
    cases j with
    | zero =>
      refine za_ifle X 52 rfl (by decide) (fun q1 => ?_) (fun q1 => absurd (by decide) q1)
      exact za_loc [(0, vR 142), (1, vI x), (2, vI (nI 0))] rfl (at52 0 hj (by omega))
    | succ i =>
      have hci : (nI i).toNatClampNeg = i := nI_clamp (by omega)
      refine za_ifle X 52 rfl (by decide) (fun q1 => absurd ((nI_leI (b := 0) (by omega) (by omega)).mp q1) (by omega)) (fun q1 => ?_)
      iterate 5 refine za_step X rfl rfl rfl ?_
      rw [show nI (i + 1) - Int32.ofInt 1 = nI i from nI_pred i]
      refine za_lald X rfl rfl rfl (vp_in_nI (by omega) (by decide)) ?_
      rw [hci]
      iterate 3 refine za_step X rfl rfl rfl ?_
      refine za_ifne X 52 rfl (by decide) (fun q2 => ?_) (fun q2 => ?_)
      · exact za_loc [(0, vR 142), (1, vI x), (2, vI (nI (i + 1)))] rfl (at52 (i + 1) hj (fun z => q2 (lg_0.mpr z.2)))
      · have he : me_ent k f (de, ct, x, ou, ed, vi) = (k, f) := by
          unfold me_ent
          show (if 0 < me_pos f de k ∧ (f (me_pos f de k - 1)).1 = de then _ else _) = _
          rw [← hj, if_pos ⟨by omega, lg_0.mp q2⟩]
        refine za_vret X rfl ⟨rfl, ?_, ?_, ?_, rfl⟩ (Nat.le_refl _) (Nat.le_refl _)
        · rw [he]; rfl
        · rw [he]; exact ⟨rfl, rfl, rfl, rfl, rfl, rfl⟩
        · intro p hp1 hp2
          rw [hsame]
  have loop : ∀ i, i ≤ k → me_pos f de i = me_pos f de k → za_W p l e (za_rm 0 0 0) s m args below meth c D 4 (MQ below (za_Q D (fun v h' n' => v = none ∧ h' 142 = some (mo_c (th, n0, b) (r, pl, la, dn, vi, de, ct, en, ou, ed) (q0, ln, ld, lc, (me_ent k f (de, ct, x, ou, ed, vi)).1, rs, cv)) ∧ mw_at h' (me_ent k f (de, ct, x, ou, ed, vi)).2 ∧ (∀ j, j ≠ 142 → (j < 148 ∨ 153 < j) → h' j = h j) ∧ n = n')) args s 0 0 (fun q : Nat => D.2.2 ≤ q)) h n 0 0 5 [(0, vR 142), (1, vI x), (2, vI (nI i))] [] [(142, mo_c (th, n0, b) (r, pl, la, dn, vi, de, ct, en, ou, ed) (q0, ln, ld, lc, k, rs, cv)), (148, m1 f), (149, m2 f), (150, m3 f), (151, m4 f), (152, m5 f), (153, m6 f)] := by
    intro i
    induction i with
    | zero =>
      intro hi hp
      iterate 1 refine za_step X rfl rfl rfl ?_
      refine za_ifle X 31 rfl (by decide) (fun q1 => ?_) (fun q1 => absurd (by decide) q1)
      exact za_loc [(0, vR 142), (1, vI x), (2, vI (nI 0))] rfl (at31 0 hp)
    | succ i ih =>
      intro hi hp
      have hci : (nI i).toNatClampNeg = i := nI_clamp (by omega)
      have hp' : (if de < (f i).1 then me_pos f de i else i + 1) = me_pos f de k := hp
      iterate 1 refine za_step X rfl rfl rfl ?_
      refine za_ifle X 31 rfl (by decide) (fun q1 => absurd ((nI_leI (b := 0) (by omega) (by omega)).mp q1) (by omega)) (fun q1 => ?_)
      iterate 5 refine za_step X rfl rfl rfl ?_
      rw [show nI (i + 1) - Int32.ofInt 1 = nI i from nI_pred i]
      refine za_lald X rfl rfl rfl (vp_in_nI (by omega) (by decide)) ?_
      rw [hci]
      iterate 3 refine za_step X rfl rfl rfl ?_
      refine za_ifle X 31 rfl (by decide) (fun q2 => ?_) (fun q2 => ?_)
      · exact za_loc [(0, vR 142), (1, vI x), (2, vI (nI (i + 1)))] rfl (at31 (i + 1) (by rw [← hp', if_neg (lg_le.mp q2)]))
      · have hlt : de < (f i).1 := Decidable.byContradiction (fun z => q2 (lg_le.mpr z))
        iterate 2 refine za_step X rfl rfl rfl ?_
        rw [nI_dn i]
        exact za_loc [(0, vR 142), (1, vI x), (2, vI (nI i))] rfl (ih (by omega) (by rw [← hp', if_pos hlt]))
  refine za_view [(142, mo_c (th, n0, b) (r, pl, la, dn, vi, de, ct, en, ou, ed) (q0, ln, ld, lc, k, rs, cv)), (148, m1 f), (149, m2 f), (150, m3 f), (151, m4 f), (152, m5 f), (153, m6 f)] (by simp [hM, m1, m2, m3, m4, m5, m6, w1, w2, w3, w4, w5, w6]) ?_
  iterate 3 refine za_step X rfl rfl rfl ?_
  exact za_loc [(0, vR 142), (1, vI x), (2, vI (nI k))] rfl (loop k (Nat.le_refl _) rfl)
