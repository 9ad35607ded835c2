/-! CONTRACTS over the whole picture. A method: its name, bytes, locals, what it returns -/
abbrev za_Y : Type := MethodName × ByteArray × Nat × Option FieldType
def za_Q (D : za_D) (Post : Option za_V → za_H → Nat → Prop) : Array Value → State → Outcome → State → Prop := fun _ st o t => ∃ (v : Option za_V) (h' : za_H) (n' : Nat), o = .returned (v.map (za_cv D.2.2)) ∧ Post v h' n' ∧ za_Rp D h' n' t.heap ∧ va_F (fun q : Nat => D.2.2 ≤ q) st t
def za_P (D : za_D) (av : List za_V) (h : za_H) (n : Nat) : Array Value → State → Prop := va_Pc (av.map (za_cv D.2.2)) (fun U => za_Rp D h n U.heap ∧ va_K D.1 za_cl (za_tys D) U)
def za_rm (d mc ms : Nat) : Room := { frames := d, cells := mc, slots := ms, locals := 40 * d }
def za_ws (Y : za_Y) : List Cond := Cond.code Y.1 Y.2.1 Y.2.2.1 Y.2.2.2 :: za_tt
/-- CONTRACT: called with av at the picture h of n cells, Y returns, and what it returns and leaves is as Post says; d: calls open at once below it; at most mc new cells of ms slots -/
def za_M (l : Launch) (D : za_D) (Y : za_Y) (d mc ms : Nat) (av : List za_V) (h : za_H) (n : Nat) (Post : Option za_V → za_H → Nat → Prop) : Prop :=
  Met l Y.1 (za_ws Y) (za_rm d mc ms) (za_P D av h n) (za_Q D Post) mc ms (fun q : Nat => D.2.2 ≤ q)
theorem za_blind (D : za_D) (av : List za_V) (h : za_H) (n : Nat) : FrameBlind (za_P D av h n) := fun a U g mk q => ⟨q.1, q.2.1, va_K.moved (u := U) (U := U.calling g mk a) (Vm.Alike.refl U.vm) q.2.2⟩
def za_ar : Nat → List za_V → List (Nat × za_V)
  | _, [] => []
  | i, v :: t => (i, v) :: za_ar (bif za_c2 v then i + 2 else i + 1) t
theorem za_ar_eq (z : Nat) (av : List za_V) : ∀ i : Nat, za_lm z (za_ar i av) = lv_args i (av.map (za_cv z)) := by
  induction av with
  | nil => intro i; rfl
  | cons v t ih =>
    intro i
    show (i, za_cv z v) :: za_lm z (za_ar (bif za_c2 v then i + 2 else i + 1) t) = (i, za_cv z v) :: lv_args (if (za_cv z v).category = 2 then i + 2 else i + 1) (t.map (za_cv z))
    rw [ih, za_cat]
    cases za_c2 v <;> rfl
set_option maxHeartbeats 1000000 in
/-- a contract out of a walk from the entry -/
theorem za_enter {l : Launch} {D : za_D} {Y : za_Y} {d mc ms n : Nat} {av : List za_V} {h : za_H} {Post : Option za_V → za_H → Nat → Prop} (cd : List (Nat × Instr × Nat)) (fl : List (Nat × Nat × Nat)) (hy : plainName Y.1.cls = true) (hcd : ∀ q ∈ cd, decode Y.2.1 q.1 = .ok q.2) (hfl : ∀ q ∈ fl, za_FL Y.1.cls q) (hlen : (lg_sl (av.map (za_cv D.2.2))).length ≤ Y.2.2.1)
    (body : ∀ (p : Program) (e : Env) (s : State) (m : MethodId) (args : Array Value) (below : List Frame) (meth : Method) (c : Code), za_X p s m args meth c D Y.1.cls Y.2.1 cd fl Y.2.2.1 Y.2.2.2 → meth.name = Y.1.name →
      za_W p l e (za_rm d mc ms) s m args below meth c D Y.2.2.1 (MQ below (za_Q D Post) args s mc ms (fun q : Nat => D.2.2 ≤ q)) h n 0 0 0 (za_ar 0 av) [] []) : za_M l D Y d mc ms av h n Post := by
  unfold za_M
  refine Met.ofW (cc := Y.2.1) (maxL := Y.2.2.1) (ret := Y.2.2.2) hy rfl ?_
  intro p e s m args below meth c s₁ B hml hv
  obtain ⟨rfl, hR, hK⟩ := hv
  have hts := atoms_spec (ws := za_ws Y) B.pre
  have hl := lv_entry (av.map (za_cv D.2.2)) (n := Y.2.2.1) hlen
  rw [lg_entry_eq]
  refine body p e s m _ below meth c ⟨B.exec, B.bytes, hml, findClass_of_methodNamed B.named, fun w hw => hts w (List.mem_cons_of_mem _ hw), hK, hcd, hfl, B.returns, B.notSynchronized, by rw [hR.1]; exact Nat.le_add_right _ _⟩ (name_of_methodNamed B.named B.method).1 s.heap [] _ hR va_S.rf ?_
  show lv_has _ _ (za_lx _ _ ++ _)
  rw [za_lx_0, List.nil_append, za_ar_eq]
  exact hl

section ZAEND
variable {p : Program} {l : Launch} {e : Env} {R : Room} {s : State} {m : MethodId} {args : Array Value} {below : List Frame} {meth : Method} {c : Code} {D : za_D} {nL : Nat} {Q : State → Prop} {h0 : za_H} {n cells slots pc : Nat} {lv : List (Nat × za_V)} {st : List za_V} {vw : List (Nat × za_C)} {own : String} {cc : ByteArray} {cd : List (Nat × Instr × Nat)} {fl : List (Nat × Nat × Nat)} {ret : Option FieldType} {mc ms : Nat} {Post : Option za_V → za_H → Nat → Prop}
theorem za_iret (X : za_X p s m args meth c D own cc cd fl nL (some .int)) {x : Int32} (hf : za_fe cd pc = some (.ireturn, 1)) (hp : Post (some (vI x)) (za_ov h0 vw) n) (hc : cells ≤ mc) (hs : slots ≤ ms) : za_W p l e R s m args below meth c D nL (MQ below (za_Q D Post) args s mc ms (fun q : Nat => D.2.2 ≤ q)) h0 n cells slots pc lv [.inl x] vw := by
  intro H locs ls hR hS hl
  refine W.widen hc hs ?_
  exact W.iret (v := x) X.1 X.2.1 X.2.2.2.2.2.2.2.2.1 (fun t ht hW => ⟨some (vI x), za_ov h0 vw, n, rfl, hp, by rw [ht]; exact hR, hS.F ht⟩) hS.2.2 (za_fe_ok X.2.2.2.2.2.2.1 hf) (hlocks := X.2.2.2.2.2.2.2.2.2.1)
theorem za_zret (X : za_X p s m args meth c D own cc cd fl nL (some .boolean)) {x : Int32} (hf : za_fe cd pc = some (.ireturn, 1)) (h01 : x = 0 ∨ x = 1) (hp : Post (some (vI x)) (za_ov h0 vw) n) (hc : cells ≤ mc) (hs : slots ≤ ms) : za_W p l e R s m args below meth c D nL (MQ below (za_Q D Post) args s mc ms (fun q : Nat => D.2.2 ≤ q)) h0 n cells slots pc lv [.inl x] vw := by
  intro H locs ls hR hS hl
  refine W.widen hc hs ?_
  exact W.zret (v := x) X.1 X.2.1 X.2.2.2.2.2.2.2.2.1 (by rcases h01 with rfl | rfl <;> decide) (fun t ht hW => ⟨some (vI x), za_ov h0 vw, n, rfl, hp, by rw [ht]; exact hR, hS.F ht⟩) hS.2.2 (za_fe_ok X.2.2.2.2.2.2.1 hf) (hlocks := X.2.2.2.2.2.2.2.2.2.1)
theorem za_lret (X : za_X p s m args meth c D own cc cd fl nL (some .long)) {x : Int64} (hf : za_fe cd pc = some (.lreturn, 1)) (hp : Post (some (vL x)) (za_ov h0 vw) n) (hc : cells ≤ mc) (hs : slots ≤ ms) : za_W p l e R s m args below meth c D nL (MQ below (za_Q D Post) args s mc ms (fun q : Nat => D.2.2 ≤ q)) h0 n cells slots pc lv [.inr (.inl x)] vw := by
  intro H locs ls hR hS hl
  refine W.widen hc hs ?_
  exact W.lret (v := x) X.1 X.2.1 X.2.2.2.2.2.2.2.2.1 (fun t ht hW => ⟨some (vL x), za_ov h0 vw, n, rfl, hp, by rw [ht]; exact hR, hS.F ht⟩) hS.2.2 (za_fe_ok X.2.2.2.2.2.2.1 hf) (hlocks := X.2.2.2.2.2.2.2.2.2.1)
theorem za_vret (X : za_X p s m args meth c D own cc cd fl nL none) (hf : za_fe cd pc = some (.return_, 1)) (hp : Post none (za_ov h0 vw) n) (hc : cells ≤ mc) (hs : slots ≤ ms) : za_W p l e R s m args below meth c D nL (MQ below (za_Q D Post) args s mc ms (fun q : Nat => D.2.2 ≤ q)) h0 n cells slots pc lv [] vw := by
  intro H locs ls hR hS hl
  refine W.widen hc hs ?_
  exact W.vret X.1 X.2.1 X.2.2.2.2.2.2.2.2.1 (fun t ht hW => ⟨none, za_ov h0 vw, n, rfl, hp, by rw [ht]; exact hR, hS.F ht⟩) hS.2.2 (za_fe_ok X.2.2.2.2.2.2.1 hf) (hlocks := X.2.2.2.2.2.2.2.2.2.1)
end ZAEND
/-! CALLS -/
def za_CL (own : String) (idx : Nat) (y : MethodName) : Prop := Cond.methodLink own idx y ∈ za_tt ∨ ∃ host : String, Cond.methodLinkNest own idx y host ∈ za_tt
/-- a method's own words: its code, its class, how many parameters -/
def za_CY (Y : za_Y) (np : Nat) : Prop := Cond.code Y.1 Y.2.1 Y.2.2.1 Y.2.2.2 ∈ za_tt ∧ Cond.initialized Y.1.cls ∈ za_tt ∧ (Y.1.cls ≠ "java/lang/invoke/MethodHandle" ∧ Y.1.cls ≠ "java/lang/invoke/VarHandle") ∧ (parseMethodDescriptor Y.1.desc).map (fun d => d.parameters.length) = some np
def za_CV (Y : za_Y) : Prop := Cond.instanceMethod Y.1 ∈ za_tt ∧ Cond.selects Y.1.cls Y.1 Y.1 ∈ za_tt
def za_CI (Y : za_Y) : Prop := Cond.instanceMethod Y.1 ∈ za_tt ∧ Y.1.name = "<init>" ∧ Y.2.2.2 = none
def za_CS (Y : za_Y) : Prop := Cond.static Y.1 ∈ za_tt
theorem za_wsp (Y : za_Y) {np : Nat} (hY : za_CY Y np) {args : Array Value} {s : State} (hts : ∀ w ∈ za_tt, w.before args s = true) : ∀ w ∈ za_ws Y, ∀ (a' : Array Value) (U : State), s.WarmedH U.vm → w.before a' U = true := by
  intro w hw a' U hW
  rcases List.mem_cons.mp hw with rfl | hw
  · exact za_pay _ hY.1 (hts _ hY.1) hW
  · exact za_pay _ hw (hts _ hw) hW
theorem za_npar {Y : za_Y} {np : Nat} (hY : za_CY Y np) : ∀ sig, parseMethodDescriptor Y.1.desc = some sig → np = sig.parameters.length := by
  intro sig h
  have h2 := hY.2.2.2
  rw [h] at h2
  exact (Option.some.inj h2).symm
def za_wt (st : List za_V) : Nat := (st.map (fun v => bif za_c2 v then 2 else 1)).sum
theorem za_wt_eq (z : Nat) (st : List za_V) : ((st.map (za_cv z)).map fun v => v.category).sum = za_wt st := by
  unfold za_wt
  rw [List.map_map]
  congr 1
  refine List.map_congr_left fun v _ => ?_
  show (za_cv z v).category = _
  rw [za_cat]
  cases za_c2 v <;> rfl
section ZACALL
variable {p : Program} {l : Launch} {e : Env} {R : Room} {s : State} {m : MethodId} {args : Array Value} {below : List Frame} {meth : Method} {c : Code} {D : za_D} {nL : Nat} {Q : State → Prop} {h0 : za_H} {n cells slots pc : Nat} {lv : List (Nat × za_V)} {st : List za_V} {vw : List (Nat × za_C)} {own : String} {cc : ByteArray} {cd : List (Nat × Instr × Nat)} {fl : List (Nat × Nat × Nat)} {ret : Option FieldType} {mc ms d np idx b : Nat} {Y : za_Y} {as rest : List za_V} {Post : Option za_V → za_H → Nat → Prop}
theorem za_after {H : Heap} {locs : List Loc} {ls : Array Slot} {st0 rst : List Value} {a : Array Value} (hr : va_Run p l e R s m args below meth c H locs cells slots mc ms (F0 m pc ls st0) rst (za_Q D Post a) (fun q : Nat => D.2.2 ≤ q)) (hS : va_S (fun q : Nat => D.2.2 ≤ q) s.heap H locs)
    (kk : ∀ (v : Option za_V) (h' : za_H) (n' : Nat) (H1 : Heap) (locs1 : List Loc), Post v h' n' → za_Rp D h' n' H1 → va_S (fun q : Nat => D.2.2 ≤ q) s.heap H1 locs1 → W p l e R s m args below meth c H1 locs1 (cells + mc) (slots + ms) Q (F0 m (pc + 3) ls ((v.map (za_cv D.2.2)).toList ++ rst))) : W p l e R s m args below meth c H locs cells slots Q (F0 m pc ls st0) := by
  intro T hT X
  obtain ⟨v0, st₀, t, T', L, e0, X', hL, e1, e2, ⟨v, h', n', hv, hp, hRp, hF1, hF2⟩, stp⟩ := hr T hT X
  cases hv
  rw [e0] at hF1 hF2
  obtain ⟨t2, a1, b1⟩ := kk v h' n' T'.heap (locs ++ L) hp (by rw [e1]; exact hRp)
    ⟨Nat.le_trans hS.1 (by rw [e1]; exact hF1), fun q h1 h2 => by rw [e1, hF2 q (Nat.lt_of_lt_of_le h1 hS.1) h2]; exact hS.2.1 q h1 h2, fun q hq => by
      rcases List.mem_append.mp hq with h | h
      · exact hS.2.2 q h
      · exact hL q h⟩ T' rfl X'
  exact ⟨t2, stp t2 a1, b1⟩
theorem za_toL (z : Nat) (v : Option za_V) (rest : List za_V) : (v.map (za_cv z)).toList ++ rest.map (za_cv z) = (v.toList ++ rest).map (za_cv z) := by
  cases v <;> simp
set_option maxHeartbeats 1000000 in
/-- a method of an object -/
theorem za_callV (X : za_X p s m args meth c D own cc cd fl nL ret) (hf : za_fe cd pc = some (.invokevirtual idx, 3)) (hL : za_CL own idx Y.1) (hY : za_CY Y np) (hV : za_CV Y) (hM : za_M l D Y d mc ms (vR b :: as) (za_ov h0 vw) n Post) (hst : st = as.reverse ++ vR b :: rest) (hnp : as.length = np)
    {ci N : Nat} {fs : List za_V} {T : u_T} (hrc : za_ov h0 vw b = some (.inr (ci, fs))) (hcl : za_cl[ci]? = some (Y.1.cls, T, N)) (hw : za_wt rest ≤ 8) (hfr : d + 1 ≤ R.frames) (hlo : 8 + (Y.2.2.1 + 11) + 40 * d ≤ R.locals) (hce : cells + mc ≤ R.cells) (hsl : slots + ms ≤ R.slots)
    (kk : ∀ (v : Option za_V) (h' : za_H) (n' : Nat), Post v h' n' → za_W p l e R s m args below meth c D nL Q h' n' (cells + mc) (slots + ms) (pc + 3) lv (v.toList ++ rest) []) : za_W p l e R s m args below meth c D nL Q h0 n cells slots pc lv st vw := by
  intro H locs ls hR hS hl
  subst hst
  obtain ⟨hx, hb, hml, hown, hts, hK, hcd, hF, hr, hlocks, hz⟩ := X
  have hd := za_fe_ok hcd hf
  have hws := za_wsp Y hY hts
  have hpre : PreV s H Y.1.cls (D.2.2 + b) (za_P D (vR b :: as) (za_ov h0 vw) n) (as.map (za_cv D.2.2)) :=
    ⟨za_blind _ _ _ _, va_recv hK (za_P1 (q := (D.2.2 + b, .inr (ci, fs.map (za_cv D.2.2)))) (hR.2.1 b _ hrc)) hcl (q0 := 0) rfl, fun U hU hW => ⟨rfl, by rw [hU]; exact hR, va_K.moved hW.alike hK⟩⟩
  have hstk : (F0 m pc ls ((as.reverse ++ vR b :: rest).map (za_cv D.2.2))).stack = (as.map (za_cv D.2.2)).reverse ++ .ref (D.2.2 + b) :: rest.map (za_cv D.2.2) := by
    show (as.reverse ++ vR b :: rest).map (za_cv D.2.2) = _
    rw [List.map_append, List.map_reverse]
    rfl
  have hrm := lv_room (m := m) (pc := pc) (ls := ls) (rest := (as.reverse ++ vR b :: rest).map (za_cv D.2.2)) (st := rest.map (za_cv D.2.2)) (by rw [za_wt_eq]; exact hw)
  have hlen : (as.map (za_cv D.2.2)).length = np := by rw [List.length_map]; exact hnp
  have kk2 : ∀ (v : Option za_V) (h' : za_H) (n' : Nat) (H1 : Heap) (locs1 : List Loc), Post v h' n' → za_Rp D h' n' H1 → va_S (fun q : Nat => D.2.2 ≤ q) s.heap H1 locs1 → W p l e R s m args below meth c H1 locs1 (cells + mc) (slots + ms) Q (F0 m (pc + 3) ls ((v.map (za_cv D.2.2)).toList ++ rest.map (za_cv D.2.2))) := by
    intro v h' n' H1 locs1 hp h1 h2
    rw [za_toL]
    exact kk v h' n' hp H1 locs1 ls h1 h2 hl
  rcases hL with hL | ⟨host, hL⟩
  · exact za_after (va_runV ⟨hx, hb, hml, hown, hts⟩ hM ⟨⟨rfl, rfl, hfr, hlo, hws, List.mem_cons_self, hts _ hY.1, hts _ hY.2.1, hY.2.2.1, za_npar hY, hts _ hL⟩, hts _ hV.1, hts _ hV.2⟩ hpre rfl hlen hl.1 hstk hrm hd ⟨hce, hsl⟩) hS kk2
  · exact za_after (va_runVN ⟨hx, hb, hml, hown, hts⟩ hM ⟨⟨⟨rfl, rfl, hfr, hlo, hws, List.mem_cons_self⟩, hts _ hY.1, hts _ hY.2.1, hY.2.2.1, za_npar hY, hts _ hL⟩, hts _ hV.1, hts _ hV.2⟩ hpre rfl hlen hl.1 hstk hrm hd ⟨hce, hsl⟩) hS kk2
set_option maxHeartbeats 1000000 in
/-- a static method -/
theorem za_callS (X : za_X p s m args meth c D own cc cd fl nL ret) (hf : za_fe cd pc = some (.invokestatic idx, 3)) (hL : za_CL own idx Y.1) (hY : za_CY Y np) (hV : za_CS Y) (hM : za_M l D Y d mc ms as (za_ov h0 vw) n Post) (hst : st = as.reverse ++ rest) (hnp : as.length = np)
    (hw : za_wt rest ≤ 8) (hfr : d + 1 ≤ R.frames) (hlo : 8 + (Y.2.2.1 + 11) + 40 * d ≤ R.locals) (hce : cells + mc ≤ R.cells) (hsl : slots + ms ≤ R.slots)
    (kk : ∀ (v : Option za_V) (h' : za_H) (n' : Nat), Post v h' n' → za_W p l e R s m args below meth c D nL Q h' n' (cells + mc) (slots + ms) (pc + 3) lv (v.toList ++ rest) []) : za_W p l e R s m args below meth c D nL Q h0 n cells slots pc lv st vw := by
  intro H locs ls hR hS hl
  subst hst
  obtain ⟨hx, hb, hml, hown, hts, hK, hcd, hF, hr, hlocks, hz⟩ := X
  have hd := za_fe_ok hcd hf
  have hws := za_wsp Y hY hts
  have hpre : PreS s H (za_P D as (za_ov h0 vw) n) (as.map (za_cv D.2.2)) :=
    ⟨za_blind _ _ _ _, fun U hU hW => ⟨rfl, by rw [hU]; exact hR, va_K.moved hW.alike hK⟩⟩
  have hstk : (F0 m pc ls ((as.reverse ++ rest).map (za_cv D.2.2))).stack = (as.map (za_cv D.2.2)).reverse ++ rest.map (za_cv D.2.2) := by
    show (as.reverse ++ rest).map (za_cv D.2.2) = _
    rw [List.map_append, List.map_reverse]
  have hrm := lv_room (m := m) (pc := pc) (ls := ls) (rest := (as.reverse ++ rest).map (za_cv D.2.2)) (st := rest.map (za_cv D.2.2)) (by rw [za_wt_eq]; exact hw)
  have hlen : (as.map (za_cv D.2.2)).length = np := by rw [List.length_map]; exact hnp
  have kk2 : ∀ (v : Option za_V) (h' : za_H) (n' : Nat) (H1 : Heap) (locs1 : List Loc), Post v h' n' → za_Rp D h' n' H1 → va_S (fun q : Nat => D.2.2 ≤ q) s.heap H1 locs1 → W p l e R s m args below meth c H1 locs1 (cells + mc) (slots + ms) Q (F0 m (pc + 3) ls ((v.map (za_cv D.2.2)).toList ++ rest.map (za_cv D.2.2))) := by
    intro v h' n' H1 locs1 hp h1 h2
    rw [za_toL]
    exact kk v h' n' hp H1 locs1 ls h1 h2 hl
  rcases hL with hL | ⟨host, hL⟩
  · exact za_after (va_runS ⟨hx, hb, hml, hown, hts⟩ hM ⟨⟨rfl, rfl, hfr, hlo, hws, List.mem_cons_self, hts _ hY.1, hts _ hY.2.1, hY.2.2.1, za_npar hY, hts _ hL⟩, hts _ hV⟩ hpre rfl hlen hl.1 hstk hrm hd ⟨hce, hsl⟩) hS kk2
  · exact za_after (va_runSN ⟨hx, hb, hml, hown, hts⟩ hM ⟨⟨⟨rfl, rfl, hfr, hlo, hws, List.mem_cons_self⟩, hts _ hY.1, hts _ hY.2.1, hY.2.2.1, za_npar hY, hts _ hL⟩, hts _ hV, trivial⟩ hpre rfl hlen hl.1 hstk hrm hd ⟨hce, hsl⟩) hS kk2
end ZACALL

