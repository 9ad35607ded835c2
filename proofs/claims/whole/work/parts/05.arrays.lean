section ZAARR
variable {p : Program} {l : Launch} {e : Env} {R : Room} {s : State} {m : MethodId} {args : Array Value} {below : List Frame} {meth : Method} {c : Code} {D : za_D} {nL : Nat} {Q : State → Prop} {h0 : za_H} {n cells slots pc : Nat} {lv : List (Nat × za_V)} {st : List za_V} {vw : List (Nat × za_C)} {own : String} {cc : ByteArray} {cd : List (Nat × Instr × Nat)} {fl : List (Nat × Nat × Nat)} {ret : Option FieldType} {i t0 N : Nat} {j : Int32}
theorem za_iald (X : za_X p s m args meth c D own cc cd fl nL ret) {f : Nat → Int32} (hf : za_fe cd pc = some (.iaload, 1)) (hi : za_ov h0 vw i = some (.inl (t0, N, .inl f))) (ht : za_ty[t0]? = some .int) (hj : vp_in j N) (kk : za_W p l e R s m args below meth c D nL Q h0 n cells slots (pc + 1) lv (vI (f j.toNatClampNeg) :: st) vw) : za_W p l e R s m args below meth c D nL Q h0 n cells slots pc lv (.inl j :: .inr (.inr (some i)) :: st) vw := by
  intro H locs ls hR hS hl
  exact va_iald X.1 X.2.1 X.2.2.2.2.2.1 (za_P1 (q := (D.2.2 + i, .inl (D.2.1 t0, N, .inl f))) (hR.2.1 i _ hi)) 0 t0 rfl (za_tys_at D ht) hj (za_fe_ok X.2.2.2.2.2.2.1 hf) (kk H locs ls hR hS hl)
theorem za_lald (X : za_X p s m args meth c D own cc cd fl nL ret) {f : Nat → Int64} (hf : za_fe cd pc = some (.laload, 1)) (hi : za_ov h0 vw i = some (.inl (t0, N, .inr (.inl f)))) (ht : za_ty[t0]? = some .long) (hj : vp_in j N) (kk : za_W p l e R s m args below meth c D nL Q h0 n cells slots (pc + 1) lv (vL (f j.toNatClampNeg) :: st) vw) : za_W p l e R s m args below meth c D nL Q h0 n cells slots pc lv (.inl j :: .inr (.inr (some i)) :: st) vw := by
  intro H locs ls hR hS hl
  exact va_lald X.1 X.2.1 X.2.2.2.2.2.1 (za_P1 (q := (D.2.2 + i, .inl (D.2.1 t0, N, .inr (.inl f)))) (hR.2.1 i _ hi)) 0 t0 rfl (za_tys_at D ht) hj (za_fe_ok X.2.2.2.2.2.2.1 hf) (kk H locs ls hR hS hl)
theorem za_aald (X : za_X p s m args meth c D own cc cd fl nL ret) {f : Nat → Option Nat} {C : String} (hf : za_fe cd pc = some (.aaload, 1)) (hi : za_ov h0 vw i = some (.inl (t0, N, .inr (.inr f)))) (ht : za_ty[t0]? = some (.object C)) (hj : vp_in j N) (kk : za_W p l e R s m args below meth c D nL Q h0 n cells slots (pc + 1) lv (.inr (.inr (f j.toNatClampNeg)) :: st) vw) : za_W p l e R s m args below meth c D nL Q h0 n cells slots pc lv (.inl j :: .inr (.inr (some i)) :: st) vw := by
  intro H locs ls hR hS hl
  refine va_aldq X.1 X.2.1 X.2.2.2.2.2.1 (za_P1 (q := (D.2.2 + i, .inl (D.2.1 t0, N, .inr (.inr (.inr (.inr (fun q => (f q).map (fun i => D.2.2 + i)))))))) (hR.2.1 i _ hi)) 0 t0 rfl (za_tys_at D ht) hj (za_fe_ok X.2.2.2.2.2.2.1 hf) ?_
  have h := kk H locs ls hR hS hl
  have e9 : va_rf ((f j.toNatClampNeg).map (fun i => D.2.2 + i)) = za_cv D.2.2 (.inr (.inr (f j.toNatClampNeg))) := by cases f j.toNatClampNeg <;> rfl
  show W p l e R s m args below meth c H locs cells slots Q (F0 m (pc + 1) ls (va_rf ((f j.toNatClampNeg).map (fun i => D.2.2 + i)) :: st.map (za_cv D.2.2)))
  rw [e9]
  exact h
theorem za_iast (X : za_X p s m args meth c D own cc cd fl nL ret) {f : Nat → Int32} {x : Int32} (hf : za_fe cd pc = some (.iastore, 1)) (hi : za_ov h0 vw i = some (.inl (t0, N, .inl f))) (ht : za_ty[t0]? = some .int) (hj : vp_in j N) (kk : za_W p l e R s m args below meth c D nL Q h0 n cells slots (pc + 1) lv st (za_vs vw i (.inl (t0, N, .inl (upd f j.toNatClampNeg x))))) : za_W p l e R s m args below meth c D nL Q h0 n cells slots pc lv (.inl x :: .inl j :: .inr (.inr (some i)) :: st) vw := by
  intro H locs ls hR hS hl
  have hat : H[D.2.2 + i]? = some (vp_cell (D.2.1 t0) (N, .inl f)) := hR.2.1 i _ hi
  refine W.iast X.1 X.2.1 hat ((X.2.2.2.2.2.1.2 t0 _ (za_tys_at D ht)).1 N (fun j => .int (f j))) (fun q => by cases q) (by show ¬ (j < 0 ∨ (arrV _ _ _).slots.size ≤ _); rw [arrV_size]; exact hj) rfl rfl (za_fe_ok X.2.2.2.2.2.2.1 hf) fun H1 e1 z1 o1 => ?_
  refine kk H1 _ ls (by
    rw [za_ov_vs]
    refine hR.set z1 ?_ o1
    show H1[D.2.2 + i]? = some (vp_cell _ _)
    rw [e1, vp_cell_i, vp_cell_i, arrV_store]
    congr 2
    funext q
    by_cases hq : q = j.toNatClampNeg
    · subst hq
      simp [updV, upd]
    · simp [updV, upd, hq]) (hS.put z1 o1 (Nat.le_add_right _ _)) hl
theorem za_last (X : za_X p s m args meth c D own cc cd fl nL ret) {f : Nat → Int64} {x : Int64} (hf : za_fe cd pc = some (.lastore, 1)) (hi : za_ov h0 vw i = some (.inl (t0, N, .inr (.inl f)))) (ht : za_ty[t0]? = some .long) (hj : vp_in j N) (kk : za_W p l e R s m args below meth c D nL Q h0 n cells slots (pc + 1) lv st (za_vs vw i (.inl (t0, N, .inr (.inl (vp_updL f j.toNatClampNeg x)))))) : za_W p l e R s m args below meth c D nL Q h0 n cells slots pc lv (.inr (.inl x) :: .inl j :: .inr (.inr (some i)) :: st) vw := by
  intro H locs ls hR hS hl
  have hat : H[D.2.2 + i]? = some (vp_cell (D.2.1 t0) (N, .inr (.inl f))) := hR.2.1 i _ hi
  refine W.last X.1 X.2.1 hat ((X.2.2.2.2.2.1.2 t0 _ (za_tys_at D ht)).1 N (fun j => .long (f j))) (fun q => by cases q) (by show ¬ (j < 0 ∨ (arrV _ _ _).slots.size ≤ _); rw [arrV_size]; exact hj) rfl rfl (za_fe_ok X.2.2.2.2.2.2.1 hf) fun H1 e1 z1 o1 => ?_
  refine kk H1 _ ls (by
    rw [za_ov_vs]
    refine hR.set z1 ?_ o1
    show H1[D.2.2 + i]? = some (vp_cell _ _)
    rw [e1, vp_cell_l, vp_cell_l, arrV_store]
    congr 2
    funext q
    by_cases hq : q = j.toNatClampNeg
    · subst hq
      simp [updV, vp_updL]
    · simp [updV, vp_updL, hq]) (hS.put z1 o1 (Nat.le_add_right _ _)) hl
/-- a place of an array of objects takes an object of the array's class -/
theorem za_aast (X : za_X p s m args meth c D own cc cd fl nL ret) {f : Nat → Option Nat} {C : String} {T : u_T} {w ci NC : Nat} {fs : List za_V} (hf : za_fe cd pc = some (.aastore, 1)) (hi : za_ov h0 vw i = some (.inl (t0, N, .inr (.inr f)))) (ht : za_ty[t0]? = some (.object C)) (hw : za_ov h0 vw w = some (.inr (ci, fs))) (hc : za_cl[ci]? = some (C, T, NC)) (hj : vp_in j N) (kk : za_W p l e R s m args below meth c D nL Q h0 n cells slots (pc + 1) lv st (za_vs vw i (.inl (t0, N, .inr (.inr (va_up f j.toNatClampNeg (some w))))))) : za_W p l e R s m args below meth c D nL Q h0 n cells slots pc lv (.inr (.inr (some w)) :: .inl j :: .inr (.inr (some i)) :: st) vw := by
  intro H locs ls hR hS hl
  have hat : H[D.2.2 + i]? = some (vp_cell (D.2.1 t0) (N, .inr (.inr (.inr (.inr (fun q => (f q).map (fun i => D.2.2 + i))))))) := hR.2.1 i _ hi
  have hatw : ∃ r : vw_C, za_cl[ci]? = some r ∧ t_OB (D.2.2 + w) (D.1.1 ci) r.2.2 (D.1.2 ci) H (vp_V (fs.map (za_cv D.2.2))) := hR.2.1 w _ hw
  obtain ⟨r', hr', cellV, g1, g2, g3, -⟩ := hatw
  have hK := X.2.2.2.2.2.1
  have hcls := (hK.1 ci _ hc).2
  obtain ⟨kA, comp, k1, k2, k3, -⟩ := (hK.2 t0 _ (za_tys_at D ht)).2
  have hcomp : comp = D.1.1 ci := Option.some.inj (k3.symm.trans hcls.1)
  subst hcomp
  obtain ⟨kC, hkC, -⟩ := hcls.2
  have hlt : j.toNatClampNeg < N := Nat.not_le.mp fun q => hj (Or.inr q)
  have hn0 : ¬ j < 0 := fun q => hj (Or.inl q)
  refine W.aast X.1 X.2.1 hat (fun q h => by cases h) (fun h => by cases h) k1 k2 rfl hkC ⟨hn0, by show _ < (arrV _ _ _).slots.size; rw [arrV_size]; exact hlt⟩ g1 (fun q h => by rw [g3] at h; cases h) (by rw [g2]; exact hkC) (by rw [g2]; exact va_assign hcls) rfl rfl (za_fe_ok X.2.2.2.2.2.2.1 hf) fun H1 e1 z1 o1 => ?_
  refine kk H1 _ ls (by
    rw [za_ov_vs]
    refine hR.set z1 ?_ o1
    show H1[D.2.2 + i]? = some (vp_cell _ (_, .inr (.inr (.inr (.inr (fun q => (va_up f j.toNatClampNeg (some w) q).map (fun i => D.2.2 + i)))))))
    rw [e1, vp_cell_q, vp_cell_q, arrV_store]
    congr 2
    funext q
    by_cases hq : q = j.toNatClampNeg
    · subst hq
      simp [updV, va_up, va_rf]
    · simp [updV, va_up, hq]) (hS.put z1 o1 (Nat.le_add_right _ _)) hl
theorem za_alen (X : za_X p s m args meth c D own cc cd fl nL ret) {x : (Nat → Int32) ⊕ ((Nat → Int64) ⊕ (Nat → Option Nat))} {ty : FieldType} (hf : za_fe cd pc = some (.arraylength, 1)) (hi : za_ov h0 vw i = some (.inl (t0, N, x))) (ht : za_ty[t0]? = some ty) (kk : za_W p l e R s m args below meth c D nL Q h0 n cells slots (pc + 1) lv (vI (Int32.ofNat N) :: st) vw) : za_W p l e R s m args below meth c D nL Q h0 n cells slots pc lv (.inr (.inr (some i)) :: st) vw := by
  intro H locs ls hR hS hl
  rcases x with f | f | f
  · exact va_alen X.1 X.2.1 X.2.2.2.2.2.1 (za_P1 (q := (D.2.2 + i, .inl (D.2.1 t0, N, .inl f))) (hR.2.1 i _ hi)) 0 t0 rfl (za_tys_at D ht) rfl (za_fe_ok X.2.2.2.2.2.2.1 hf) (kk H locs ls hR hS hl)
  · exact va_alen X.1 X.2.1 X.2.2.2.2.2.1 (za_P1 (q := (D.2.2 + i, .inl (D.2.1 t0, N, .inr (.inl f)))) (hR.2.1 i _ hi)) 0 t0 rfl (za_tys_at D ht) rfl (za_fe_ok X.2.2.2.2.2.2.1 hf) (kk H locs ls hR hS hl)
  · exact va_alen X.1 X.2.1 X.2.2.2.2.2.1 (za_P1 (q := (D.2.2 + i, .inl (D.2.1 t0, N, .inr (.inr (.inr (.inr (fun q => (f q).map (fun i => D.2.2 + i)))))))) (hR.2.1 i _ hi)) 0 t0 rfl (za_tys_at D ht) rfl (za_fe_ok X.2.2.2.2.2.2.1 hf) (kk H locs ls hR hS hl)
/-- fields of an object whose number is no numeral -/
theorem za_getH (X : za_X p s m args meth c D own cc cd fl nL ret) {idx ci k : Nat} {fs : List za_V} {v : za_V} (hf : za_fe cd pc = some (.getfield idx, 3)) (hi : za_ov h0 vw i = some (.inr (ci, fs))) (hk : za_fk fl idx = some (ci, k)) (hv : fs[k]? = some v) (kk : za_W p l e R s m args below meth c D nL Q h0 n cells slots (pc + 3) lv (v :: st) vw) : za_W p l e R s m args below meth c D nL Q h0 n cells slots pc lv (.inr (.inr (some i)) :: st) vw := by
  intro H locs ls hR hS hl
  exact za_getW X hR hi (za_fk_mem hk) hv (za_fe_ok X.2.2.2.2.2.2.1 hf) (kk H locs ls hR hS hl)
theorem za_putH (X : za_X p s m args meth c D own cc cd fl nL ret) {idx ci k : Nat} {fs : List za_V} {v : za_V} (hf : za_fe cd pc = some (.putfield idx, 3)) (hi : za_ov h0 vw i = some (.inr (ci, fs))) (hk : za_fk fl idx = some (ci, k)) (hv : za_okf (za_fty ci k) v = true) (hfin : za_fin ci k = false) (hl0 : k < fs.length) (kk : za_W p l e R s m args below meth c D nL Q h0 n cells slots (pc + 3) lv st (za_vs vw i (.inr (ci, fs.set k v)))) : za_W p l e R s m args below meth c D nL Q h0 n cells slots pc lv (v :: .inr (.inr (some i)) :: st) vw := by
  intro H locs ls hR hS hl
  exact za_putW X hR hS hi (za_fk_mem hk) hv hfin hl0 (za_fe_ok X.2.2.2.2.2.2.1 hf) (fun H1 locs1 hR1 hS1 => kk H1 locs1 ls (by rw [za_ov_vs]; exact hR1) hS1 hl)
end ZAARR
section ZANEW
variable {p : Program} {l : Launch} {e : Env} {R : Room} {s : State} {m : MethodId} {args : Array Value} {below : List Frame} {meth : Method} {c : Code} {D : za_D} {nL : Nat} {Q : State → Prop} {h0 : za_H} {n cells slots pc : Nat} {lv : List (Nat × za_V)} {st : List za_V} {vw : List (Nat × za_C)} {own : String} {cc : ByteArray} {cd : List (Nat × Instr × Nat)} {fl : List (Nat × Nat × Nat)} {ret : Option FieldType} {N : Nat}
/-- a new object of a class of the system, at the next number -/
theorem za_new (X : za_X p s m args meth c D own cc cd fl nL ret) {idx ci : Nat} {C : String} {T : u_T} {fs : List za_V} (hf : za_fe cd pc = some (.new idx, 3)) (hc : za_cl[ci]? = some (C, T, N)) (hcl : Cond.classLink own idx C ∈ za_tt) (hin : Cond.instantiable C N ∈ za_tt) (hini : Cond.initialized C ∈ za_tt) (hfs : ∀ z j, j < N → defaultValue (za_fty ci j) = vp_V (fs.map (za_cv z)) j) (hce : cells + 1 ≤ R.cells) (hsl : slots + N ≤ R.slots)
    (kk : za_W p l e R s m args below meth c D nL Q h0 (n + 1) (cells + 1) (slots + N) (pc + 3) lv (vR n :: st) (za_vs vw n (.inr (ci, fs)))) : za_W p l e R s m args below meth c D nL Q h0 n cells slots pc lv st vw := by
  intro H locs ls hR hS hl
  obtain ⟨hx, hb, hml, hown, hts, hK, hcd, hF, hr, hlocks, hz⟩ := X
  obtain ⟨hin2, hty, hnm, hfn⟩ := za_cok _ _ _ _ hc
  have hKn := hK.1 ci _ hc
  refine W.newcK hx hb hown (hts _ hcl) (hts _ hin) (hts _ hini) rfl (za_fe_ok hcd hf) hce hsl hKn.2.1 hR.1 fun H1 kC hkC e1 z1 o1 => ?_
  refine kk H1 locs ls ?_ ⟨Nat.le_trans hS.1 (by rw [z1, hR.1]; omega), fun q h1 h2 => (o1 q (by have := hS.1; rw [hR.1] at this; omega)).trans (hS.2.1 q h1 h2), hS.2.2⟩ hl
  rw [za_ov_vs]
  refine hR.pushc z1 o1 ?_
  have g : t_OB (D.2.2 + n) (D.1.1 ci) N (D.1.2 ci) H1 (vp_V (fs.map (za_cv D.2.2))) := (u_born (za_fty ci) hts hin2 hKn hkC e1 hty).to (fun j hj => hfs D.2.2 j hj)
  exact ⟨_, hc, g⟩
theorem za_newi (X : za_X p s m args meth c D own cc cd fl nL ret) {t0 : Nat} {x : Int32} (hf : za_fe cd pc = some (.newarray .int, 2)) (ht : za_ty[t0]? = some .int) (ha : Cond.arrayClass .int ∈ za_tt) (hn0 : ¬ x < 0) (hN : x.toNatClampNeg = N) (hbig : N ≤ 100000) (hce : cells + 1 ≤ R.cells) (hsl : slots + N ≤ R.slots)
    (kk : za_W p l e R s m args below meth c D nL Q h0 (n + 1) (cells + 1) (slots + N) (pc + 2) lv (vR n :: st) (za_vs vw n (.inl (t0, N, .inl (fun _ => 0))))) : za_W p l e R s m args below meth c D nL Q h0 n cells slots pc lv (.inl x :: st) vw := by
  intro H locs ls hR hS hl
  obtain ⟨hx, hb, hml, hown, hts, hK, hcd, hF, hr, hlocks, hz⟩ := X
  refine va_newaK hx hb (atype := .int) (hts _ ha) rfl (za_fe_ok hcd hf) rfl hn0 hN (by show N * 4 ≤ 536870912; omega) hce hsl hR.1 fun H1 cA e1 z1 o1 hAr hNm => ?_
  have hcA : cA = D.2.1 t0 := Option.some.inj (hNm.symm.trans (hK.2 t0 _ (za_tys_at D ht)).2)
  subst hcA
  refine kk H1 locs ls ?_ ⟨Nat.le_trans hS.1 (by rw [z1, hR.1]; omega), fun q h1 h2 => (o1 q (by have := hS.1; rw [hR.1] at this; omega)).trans (hS.2.1 q h1 h2), hS.2.2⟩ hl
  rw [za_ov_vs]
  exact hR.pushc z1 o1 e1
theorem za_newl (X : za_X p s m args meth c D own cc cd fl nL ret) {t0 : Nat} {x : Int32} (hf : za_fe cd pc = some (.newarray .long, 2)) (ht : za_ty[t0]? = some .long) (ha : Cond.arrayClass .long ∈ za_tt) (hn0 : ¬ x < 0) (hN : x.toNatClampNeg = N) (hbig : N ≤ 100000) (hce : cells + 1 ≤ R.cells) (hsl : slots + N ≤ R.slots)
    (kk : za_W p l e R s m args below meth c D nL Q h0 (n + 1) (cells + 1) (slots + N) (pc + 2) lv (vR n :: st) (za_vs vw n (.inl (t0, N, .inr (.inl (fun _ => 0)))))) : za_W p l e R s m args below meth c D nL Q h0 n cells slots pc lv (.inl x :: st) vw := by
  intro H locs ls hR hS hl
  obtain ⟨hx, hb, hml, hown, hts, hK, hcd, hF, hr, hlocks, hz⟩ := X
  refine va_newaK hx hb (atype := .long) (hts _ ha) rfl (za_fe_ok hcd hf) rfl hn0 hN (by show N * 8 ≤ 536870912; omega) hce hsl hR.1 fun H1 cA e1 z1 o1 hAr hNm => ?_
  have hcA : cA = D.2.1 t0 := Option.some.inj (hNm.symm.trans (hK.2 t0 _ (za_tys_at D ht)).2)
  subst hcA
  refine kk H1 locs ls ?_ ⟨Nat.le_trans hS.1 (by rw [z1, hR.1]; omega), fun q h1 h2 => (o1 q (by have := hS.1; rw [hR.1] at this; omega)).trans (hS.2.1 q h1 h2), hS.2.2⟩ hl
  rw [za_ov_vs]
  exact hR.pushc z1 o1 e1
theorem za_newq (X : za_X p s m args meth c D own cc cd fl nL ret) {t0 idx : Nat} {x : Int32} {C : String} (hf : za_fe cd pc = some (.anewarray idx, 3)) (ht : za_ty[t0]? = some (.object C)) (hcl : Cond.classLink own idx C ∈ za_tt) (ha : Cond.arrayOver (.object C) ∈ za_tt) (hn0 : ¬ x < 0) (hN : x.toNatClampNeg = N) (hbig : N ≤ 100000) (hce : cells + 1 ≤ R.cells) (hsl : slots + N ≤ R.slots)
    (kk : za_W p l e R s m args below meth c D nL Q h0 (n + 1) (cells + 1) (slots + N) (pc + 3) lv (vR n :: st) (za_vs vw n (.inl (t0, N, .inr (.inr (fun _ => none)))))) : za_W p l e R s m args below meth c D nL Q h0 n cells slots pc lv (.inl x :: st) vw := by
  intro H locs ls hR hS hl
  obtain ⟨hx, hb, hml, hown, hts, hK, hcd, hF, hr, hlocks, hz⟩ := X
  subst hN
  refine W.anew hx hb hown (hts _ hcl) (hts _ ha) rfl (za_fe_ok hcd hf) rfl hn0 (by omega) hce hsl fun cA kA comp f1 f2 f3 f4 => ?_
  obtain ⟨kA', comp', -, -, -, g4⟩ := (hK.2 t0 _ (za_tys_at D ht)).2
  have hcA : cA = D.2.1 t0 := Option.some.inj (f1.symm.trans g4)
  subst hcA
  generalize hH1 : H.push ({ cls := D.2.1 t0, slots := Array.replicate x.toNatClampNeg .null, vm := .none } : Cell) = H1
  have z1 : H1.size = D.2.2 + n + 1 := by rw [← hH1, Array.size_push, hR.1]
  have e1 : H1[D.2.2 + n]? = some (arrV (D.2.1 t0) x.toNatClampNeg (fun _ => .null)) := by rw [← hR.1, ← hH1, Array.getElem?_push_size, ← arrV_new]
  have o1 : ∀ q : Nat, q < D.2.2 + n → H1[q]? = H[q]? := fun q hq => by rw [← hH1, Array.getElem?_push, if_neg (by rw [hR.1]; omega)]
  have k2 := kk H1 locs ls (by rw [za_ov_vs]; exact hR.pushc z1 o1 e1) ⟨Nat.le_trans hS.1 (by rw [z1, hR.1]; omega), fun q h1 h2 => (o1 q (by have := hS.1; rw [hR.1] at this; omega)).trans (hS.2.1 q h1 h2), hS.2.2⟩ hl
  show W p l e R s m args below meth c H1 locs (cells + 1) (slots + x.toNatClampNeg) Q (F0 m (pc + 3) ls (.ref H.size :: st.map (za_cv D.2.2)))
  rw [hR.1]
  exact k2
/-- a final field in the constructor of its own class -/
theorem za_putF (X : za_X p s m args meth c D own cc cd fl nL ret) (hin0 : meth.name = "<init>") {i idx ci k : Nat} {C : String} {T : u_T} {fs : List za_V} {v : za_V} (hf : za_fe cd pc = some (.putfield idx, 3)) (hi : za_ov h0 vw i = some (.inr (ci, fs))) (hc : za_cl[ci]? = some (C, T, N)) (hk : k < N) (hdc : (T k).1 = own) (hCo : C = own) (hlk : Cond.fieldLink own idx C (T k).2.1 (T k).2.2.1 ∈ za_tt) (hv : za_okf (za_fty ci k) v = true) (hfin : za_fin ci k = true) (hl0 : k < fs.length) (kk : za_W p l e R s m args below meth c D nL Q h0 n cells slots (pc + 3) lv st (za_vs vw i (.inr (ci, fs.set k v)))) : za_W p l e R s m args below meth c D nL Q h0 n cells slots pc lv (v :: .inr (.inr (some i)) :: st) vw := by
  intro H locs ls hR hS hl
  obtain ⟨hx, hb, hml, hown, hts, hK, hcd, hF, hr, hlocks, hz⟩ := X
  obtain ⟨hin, hty, hnm, hfn⟩ := za_cok _ _ _ _ hc
  have hap := va_apart (own := own) hts hin (za_fty ci) hty hnm hK hc
  have hat : ∃ r : vw_C, za_cl[ci]? = some r ∧ t_OB (D.2.2 + i) (D.1.1 ci) r.2.2 (D.1.2 ci) H (vp_V (fs.map (za_cv D.2.2))) := hR.2.1 i _ hi
  obtain ⟨r, h1, cell, q1, q2, q3, q4⟩ := hat
  have hr' : r = (C, T, N) := Option.some.inj (h1.symm.trans hc)
  subst hr'
  obtain ⟨hSl, hfc, kC, hkC, hkind⟩ := hK.1 ci _ hc
  obtain ⟨cf, kf, fi, f, hif, hsl⟩ := hSl k hk
  have hlay := hts _ (hin _ (u_in_lay hk))
  unfold u_lay at hlay
  rw [if_pos (by rw [hfn k hk, hfin])] at hlay
  have hst := (u_facts hfc hkC (u_lays hts hin hk) hif).1
  have hcf : m.cls = cf := by
    obtain ⟨_, _, c', _, _, _, -, -, hf', -, -, -, hown2, -⟩ := Cond.laysFinal_spec hlay
    have e1 : c' = cf := by have := hif.symm.trans hf'; simp at this; exact this.1.symm
    rw [hdc] at hown2
    rw [← e1]; exact Option.some.inj (hown.symm.trans hown2)
  obtain ⟨hn1, hn2⟩ := za_okf_ok hv D.2.2
  have h6 := u_fits hfc hkC hkind (Or.inr hlay) hif (hty k hk) hn1 hn2
  have hl' : k < (fs.map (za_cv D.2.2)).length := by rw [List.length_map]; exact hl0
  have hif' : s.fieldFound? C (T k).2.1 (T k).2.2.1 = some (cf, kf, fi, f) := by rw [hCo, ← hdc]; exact hif
  refine W.putFinK hx hb hown (hts _ hlk) hif' hst hcf hin0 (by rw [q2]; exact h6) q1 q3 (by rw [hsl]; exact k2_hasslot (q4 k hk)) rfl rfl (za_fe_ok hcd hf) fun H' e1 e2 e3 => ?_
  rw [hsl] at e1
  refine kk H' _ ls ?_ (hS.put e2 e3 (Nat.le_add_right _ _)) hl
  rw [za_ov_vs]
  refine hR.set e2 ?_ e3
  have g : t_OB (D.2.2 + i) (D.1.1 ci) N (D.1.2 ci) H' (vp_V ((fs.set k v).map (za_cv D.2.2))) := by
    rw [List.map_set]
    exact t_OB.to (V := updV (vp_V (fs.map (za_cv D.2.2))) k (za_cv D.2.2 v)) ⟨_, e1, q2, q3, t_set q4 hap hk (za_cv D.2.2 v)⟩ (fun j _ => vp_updV_set hl' (za_cv D.2.2 v) j)
  exact ⟨_, hc, g⟩
/-- Object's own constructor does nothing -/
theorem za_obj (X : za_X p s m args meth c D own cc cd fl nL ret) {idx i : Nat} (hf : za_fe cd pc = some (.invokespecial idx, 3)) (h1 : Cond.methodLink own idx Lib.objectInit ∈ za_tt) (h2 : Cond.instanceMethod Lib.objectInit ∈ za_tt) (h3 : Cond.code Lib.objectInit ⟨#[0xb1]⟩ 1 none ∈ za_tt) (hw : za_wt st ≤ 8) (hfr : 1 ≤ R.frames) (hlo : 20 ≤ R.locals) (kk : za_W p l e R s m args below meth c D nL Q h0 n cells slots (pc + 3) lv st vw) : za_W p l e R s m args below meth c D nL Q h0 n cells slots pc lv (.inr (.inr (some i)) :: st) vw := by
  intro H locs ls hR hS hl
  obtain ⟨hx, hb, hml, hown, hts, hK, hcd, hF, hr, hlocks, hz⟩ := X
  refine W.objInit hx hb hown (hts _ h1) (hts _ h2) (hts _ h3) rfl (by rw [hml]; exact hl.1) rfl (za_fe_ok hcd hf) hfr ?_ (kk H locs ls hR hS hl)
  have h8 := lv_room (m := m) (pc := pc) (ls := ls) (rest := (vR i :: st).map (za_cv D.2.2)) (st := st.map (za_cv D.2.2)) (by rw [za_wt_eq]; exact hw)
  show 2 * (F0 m pc ls ((vR i :: st).map (za_cv D.2.2))).monitorRoom + ((st.map (za_cv D.2.2)).map fun v => v.category).sum + 12 ≤ R.locals
  omega
theorem za_min (X : za_X p s m args meth c D own cc cd fl nL ret) {idx : Nat} {x y : Int32} (hf : za_fe cd pc = some (.invokestatic idx, 3)) (h1 : Cond.methodLink own idx Lib.Math.min.name ∈ za_tt) (h2 : Cond.static Lib.Math.min.name ∈ za_tt) (h3 : Cond.initialized "java/lang/Math" ∈ za_tt) (h4 : Cond.code Lib.Math.min.name Lib.Math.min.code 2 (some .int) ∈ za_tt) (hw : za_wt st ≤ 8) (hfr : 1 ≤ R.frames) (hlo : 21 ≤ R.locals) (hce : cells ≤ R.cells) (hsl : slots ≤ R.slots) (kk : za_W p l e R s m args below meth c D nL Q h0 n cells slots (pc + 3) lv (vI (if y < x then y else x) :: st) vw) : za_W p l e R s m args below meth c D nL Q h0 n cells slots pc lv (.inl y :: .inl x :: st) vw := by
  intro H locs ls hR hS hl
  obtain ⟨hx, hb, hml, hown, hts, hK, hcd, hF, hr, hlocks, hz⟩ := X
  exact va_mmin hx hb (by rw [hml]; exact hl.1.symm) hown (hts _ h1) (hts _ h2) (hts _ h3) (hts _ h4) hfr (by rw [za_wt_eq]; omega) hce hsl (za_fe_ok hcd hf) (kk H locs ls hR hS hl)
end ZANEW
section ZACTOR
variable {p : Program} {l : Launch} {e : Env} {R : Room} {s : State} {m : MethodId} {args : Array Value} {below : List Frame} {meth : Method} {c : Code} {D : za_D} {nL : Nat} {Q : State → Prop} {h0 : za_H} {n cells slots pc : Nat} {lv : List (Nat × za_V)} {st : List za_V} {vw : List (Nat × za_C)} {own : String} {cc : ByteArray} {cd : List (Nat × Instr × Nat)} {fl : List (Nat × Nat × Nat)} {ret : Option FieldType} {mc ms d np idx b maxL : Nat} {y : MethodName} {bytes : ByteArray} {as rest : List za_V} {Post : Option za_V → za_H → Nat → Prop}
set_option maxHeartbeats 1000000 in
/-- a constructor -/
theorem za_callI (X : za_X p s m args meth c D own cc cd fl nL ret) (hf : za_fe cd pc = some (.invokespecial idx, 3)) (hL : za_CL own idx y) (hY : za_CY (y, bytes, maxL, none) np) (hV : za_CI (y, bytes, maxL, none)) (hM : za_M l D (y, bytes, maxL, none) d mc ms (vR b :: as) (za_ov h0 vw) n Post) (hst : st = as.reverse ++ vR b :: rest) (hnp : as.length = np)
    (hw : za_wt rest ≤ 8) (hfr : d + 1 ≤ R.frames) (hlo : 8 + (maxL + 11) + 40 * d ≤ R.locals) (hce : cells + mc ≤ R.cells) (hsl : slots + ms ≤ R.slots)
    (kk : ∀ (v : Option za_V) (h' : za_H) (n' : Nat), Post v h' n' → za_W p l e R s m args below meth c D nL Q h' n' (cells + mc) (slots + ms) (pc + 3) lv (v.toList ++ rest) []) : za_W p l e R s m args below meth c D nL Q h0 n cells slots pc lv st vw := by
  intro H locs ls hR hS hl
  subst hst
  obtain ⟨hx, hb, hml, hown, hts, hK, hcd, hF, hr, hlocks, hz⟩ := X
  have hd := za_fe_ok hcd hf
  have hws := za_wsp (y, bytes, maxL, none) hY hts
  have hpre : PreS s H (za_P D (vR b :: as) (za_ov h0 vw) n) (.ref (D.2.2 + b) :: as.map (za_cv D.2.2)) :=
    ⟨za_blind _ _ _ _, fun U hU hW => ⟨rfl, by rw [hU]; exact hR, va_K.moved hW.alike hK⟩⟩
  have hstk : (F0 m pc ls ((as.reverse ++ vR b :: rest).map (za_cv D.2.2))).stack = (as.map (za_cv D.2.2)).reverse ++ .ref (D.2.2 + b) :: rest.map (za_cv D.2.2) := by
    show (as.reverse ++ vR b :: rest).map (za_cv D.2.2) = _
    rw [List.map_append, List.map_reverse]
    rfl
  have hrm := lv_room (m := m) (pc := pc) (ls := ls) (rest := (as.reverse ++ vR b :: rest).map (za_cv D.2.2)) (st := rest.map (za_cv D.2.2)) (by rw [za_wt_eq]; exact hw)
  have hlen : (as.map (za_cv D.2.2)).length = np := by rw [List.length_map]; exact hnp
  have kk2 : ∀ (v : Option za_V) (h' : za_H) (n' : Nat) (H1 : Heap) (locs1 : List Loc), Post v h' n' → za_Rp D h' n' H1 → va_S (fun q : Nat => D.2.2 ≤ q) s.heap H1 locs1 → W p l e R s m args below meth c H1 locs1 (cells + mc) (slots + ms) Q (F0 m (pc + 3) ls ((v.map (za_cv D.2.2)).toList ++ rest.map (za_cv D.2.2))) := by
    intro v h' n' H1 locs1 hp h1 h2
    rw [za_toL]
    exact kk v h' n' hp H1 locs1 ls h1 h2 hl
  rcases hL with hL | ⟨host, hL⟩
  · exact za_after (va_runI ⟨hx, hb, hml, hown, hts⟩ hM ⟨⟨rfl, rfl, hfr, hlo, hws, List.mem_cons_self, hts _ hY.1, hts _ hY.2.1, hY.2.2.1, za_npar hY, hts _ hL⟩, hV.2.1, hts _ hV.1⟩ hpre rfl hlen hl.1 hstk hrm hd ⟨hce, hsl⟩) hS kk2
  · exact za_after (va_runIN ⟨hx, hb, hml, hown, hts⟩ hM ⟨⟨⟨rfl, rfl, hfr, hlo, hws, List.mem_cons_self⟩, hts _ hY.1, hts _ hY.2.1, hY.2.2.1, za_npar hY, hts _ hL⟩, hV.2.1, hts _ hV.1⟩ hpre rfl hlen hl.1 hstk hrm hd ⟨hce, hsl⟩) hS kk2
end ZACTOR
