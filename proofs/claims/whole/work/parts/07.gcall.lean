/-! CALLS BY A GENERAL CONTRACT -/
/-- where a call has thrown: the object lies at z + i and is of the class E; the frame stands at the call, its arguments taken off -/
def zg_Z (p : Program) (l : Launch) (e : Env) (R : Room) (s : State) (m : MethodId) (args : Array Value) (below : List Frame) (meth : Method) (c : Code) (D : za_D) (nL : Nat) (Q : State → Prop) (h0 : za_H) (n cells slots pc : Nat) (lv : List (Nat × za_V)) (st : List za_V) (E : String) (i : Nat) : Prop :=
  ∀ (H : Heap) (locs : List Loc) (ls : Array Slot), za_Rp D h0 n H → va_S (fun q : Nat => D.2.2 ≤ q) s.heap H locs → za_lh args ls nL D.2.2 lv → (∃ ce : Cell, H[D.2.2 + i]? = some ce ∧ s.vm.findClass E = some ce.cls) →
    ∀ T : State, T.heap = H → Stand p l e R s m args below meth c T locs cells slots → ∃ t, Steps p.tables e below ((T.setTop (F0 m pc ls (st.map (za_cv D.2.2)))).pushFrame (.throwing (D.2.2 + i))) t ∧ Q t
section ZGCALL
variable {p : Program} {l : Launch} {e : Env} {R : Room} {s : State} {m : MethodId} {args : Array Value} {below : List Frame} {meth : Method} {c : Code} {D : za_D} {nL : Nat} {Q : State → Prop} {h0 : za_H} {n cells slots pc : Nat} {lv : List (Nat × za_V)} {st : List za_V} {vw : List (Nat × za_C)} {own : String} {cc : ByteArray} {cd : List (Nat × Instr × Nat)} {fl : List (Nat × Nat × Nat)} {ret : Option FieldType} {mc ms d np idx b : Nat} {K : Cond} {Y : za_Y} {as rest av : List za_V} {Post : Option za_V ⊕ String → za_H → Nat → Prop} {hs : List (Nat × Nat × Nat × Nat)}
def zg_E (p : Program) (e : Env) (below : List Frame) (D : za_D) (U : State) (g : JFrame) (len : Nat) (mk : MethodId) (av : List za_V) (B : State) (r : Option za_V ⊕ String) : Prop := match r with
  | .inl v => Steps p.tables e below (doInvoke e (U.setTop g) [] mk (av.map (za_cv D.2.2)).toArray).1 (B.setTop { g with pc := g.pc + len, stack := (v.map (za_cv D.2.2)).toList ++ g.stack })
  | .inr E => ∃ (i : Nat) (ce : Cell), B.heap[D.2.2 + i]? = some ce ∧ U.vm.findClass E = some ce.cls ∧ Steps p.tables e below (doInvoke e (U.setTop g) [] mk (av.map (za_cv D.2.2)).toArray).1 ((B.setTop g).pushFrame (.throwing (D.2.2 + i)))
set_option maxHeartbeats 2000000 in
theorem zg_back {h : za_H} {U : State} {locs : List Loc} (hM : zg_M l D K Y d mc ms av h n Post) (hK : zg_K K Y hs) (hKt : K ∈ za_tt) (hini : Cond.initialized Y.1.cls ∈ za_tt) (X : Stand p l e R s m args below meth c U locs cells slots) (hts : ∀ w ∈ za_tt, w.before args s = true)
    {g : JFrame} {ig : Instr} {len : Nat} {mk : MethodId} (hg : g.method = m) (hsize : g.locals.size = c.maxLocals) (hdg : decode c.code g.pc = .ok (ig, len)) (hW : 2 * g.monitorRoom + (g.stack.map fun v => v.category).sum ≤ 8) (hn : U.methodNamed? Y.1 = some mk)
    (hfr : d + 1 ≤ R.frames) (hlo : 8 + (Y.2.2.1 + 11) + 40 * d ≤ R.locals) (hce : cells + mc ≤ R.cells) (hsl : slots + ms ≤ R.slots) (hR : za_Rp D h n U.heap) (hKn : va_K D.1 za_cl (za_tys D) U) (hH : zt_H D.2.2 U) :
    ∃ (r : Option za_V ⊕ String) (h' : za_H) (n' : Nat) (B : State) (L : List Loc), Post r h' n' ∧ za_Rp D h' n' B.heap ∧ Stand p l e R s m args below meth c B (locs ++ L) (cells + mc) (slots + ms) ∧ (∀ x ∈ L, D.2.2 ≤ x.base) ∧ va_F (fun q : Nat => D.2.2 ≤ q) U B ∧ zg_E p e below D U g len mk av B r := by
  have hpay : ∀ w ∈ za_tt, ∀ a' : Array Value, w.before a' U = true := fun w hw a' => za_pay w hw (hts w hw) X.warmed
  have h1 : (headSpec (K :: za_tt) (za_rm d mc ms)).pre.before (av.map (za_cv D.2.2)).toArray U = true := atoms_intro fun w hw => by
    rcases List.mem_cons.mp hw with rfl | hw
    · exact hpay _ hKt _
    · exact hpay _ hw _
  obtain ⟨methY, cY, hmY, hcY, -, hlY, -, -, -, -⟩ := hK (av.map (za_cv D.2.2)).toArray U mk (hpay _ hKt _) hn
  obtain ⟨kY, hkY, -⟩ := className_of_methodNamed hn
  have hinitY : kY.init = .initialized := Cond.initialized_spec (findClass_of_methodNamed hn) hkY (hpay _ hini (av.map (za_cv D.2.2)).toArray)
  have hat : At U g.method c below := by rw [hg]; exact X.here
  have happ : (headSpec (K :: za_tt) (za_rm d mc ms)).appliesLoose Y.1 e.platform (U.calling g mk (av.map (za_cv D.2.2)).toArray) = true :=
    Spec.appliesLoose_calling (g := g) hat hdg hn hkY hinitY
      (X.room_calling (g := g) (R' := (headSpec (K :: za_tt) (za_rm d mc ms)).room) hsize hmY hcY hfr (by rw [hlY]; show _ + 40 * d ≤ _; omega) hce hsl) h1
  obtain ⟨mid, hmid⟩ := hat.above
  have hfrm : (U.setTop g).frames = (.java g :: mid) ++ below := by rw [State.frames_setTop' g hat.top, hmid]; rfl
  have hPc : zg_P D av h n (av.map (za_cv D.2.2)).toArray (U.calling g mk (av.map (za_cv D.2.2)).toArray) := ⟨⟨rfl, hR, va_K.moved (u := U) (U := U.calling g mk (av.map (za_cv D.2.2)).toArray) (Vm.Alike.refl U.vm) hKn⟩, hH.to (U := U.calling g mk (av.map (za_cv D.2.2)).toArray) (Vm.Alike.refl U.vm) (fun _ _ => rfl)⟩
  obtain ⟨o, s₂, hsteps, -, hend, hq⟩ := Steps.callFree hM p X.admits X.cas X.clock (acts := []) hfrm happ hPc trivial
  obtain ⟨r, h', n', L, hro, hp, hRp, hF, hW₂, hsm, hL⟩ := (show zg_Q D Post mc ms (av.map (za_cv D.2.2)).toArray (U.calling g mk (av.map (za_cv D.2.2)).toArray) o s₂ from hq)
  rw [State.frames_setTop' g hat.top] at hend
  obtain ⟨g1, hg1⟩ := Option.isSome_iff_exists.mp hat.top
  obtain ⟨fr, hfr1⟩ := State.topJava?_eq_some.mp hg1
  have hfr2 : (({ U with heap := s₂.heap, slotsUsed := s₂.slotsUsed } : State).setVm s₂.vm).frames = .java g1 :: fr := hfr1
  obtain ⟨e2, q2, q3, q4, q5, q6⟩ := id hsm
  have e3 : s₂ = ({ (U.calling g mk (av.map (za_cv D.2.2)).toArray).setFrames s₂.frames with heap := s₂.heap, slotsUsed := s₂.slotsUsed } : State).setVm s₂.vm := by
    have h9 : s₂ = ({ s₂ with vm := (U.calling g mk (av.map (za_cv D.2.2)).toArray).vm } : State).setVm s₂.vm := rfl
    rw [e2] at h9
    exact h9
  have hW' : U.WarmedH s₂.vm := hW₂
  have hsame : U.sameButNew ({ U with heap := s₂.heap, slotsUsed := s₂.slotsUsed } : State) L mc ms := by
    refine ⟨?_, q2, q3, q4, q5, q6⟩
    obtain ⟨th, hth, -⟩ := State.frames_cons hfr1
    show ({ U with heap := s₂.heap, slotsUsed := s₂.slotsUsed } : State) = { U.setFrames U.frames with heap := s₂.heap, slotsUsed := s₂.slotsUsed }
    rw [State.setFrames_self hth]
  have hB : Stand p l e R s m args below meth c (({ U with heap := s₂.heap, slotsUsed := s₂.slotsUsed } : State).setVm s₂.vm) (locs ++ L) (cells + mc) (slots + ms) :=
    ⟨X.admits, X.cas, X.clock, X.frames, X.room, X.hears, X.method, X.code, (X.here.setHeapUsed s₂.heap s₂.slotsUsed).setVm hW'.alike, X.tail, State.WarmedH.trans X.warmed hW', X.limits, X.bytes, X.same.trans (hsame.setVm s.vm)⟩
  refine ⟨r, h', n', ({ U with heap := s₂.heap, slotsUsed := s₂.slotsUsed } : State).setVm s₂.vm, L, hp, hRp, hB, hL, hF, ?_⟩
  rcases r with v | E
  · have ho : o = .returned (v.map (za_cv D.2.2)) := hro
    subst ho
    obtain ⟨c₂, i₂, len₂, hc₂, hd₂, hf₂⟩ := hend
    have hcc : c₂ = c := by
      have h9 : s₂.code? g.method = U.code? g.method := by
        rw [State.code?_eq, State.code?_eq, hW'.alike.method?]
      exact Option.some.inj (hc₂.symm.trans (h9.trans hat.code))
    subst hcc
    have hlen : len₂ = len := by rw [hdg] at hd₂; cases hd₂; rfl
    subst hlen
    have hs₂ : s₂ = (({ U with heap := s₂.heap, slotsUsed := s₂.slotsUsed } : State).setVm s₂.vm).setTop { g with pc := g.pc + len₂, stack := (v.map (za_cv D.2.2)).toList ++ g.stack } := by
      refine e3.trans ?_
      rw [hf₂, State.calling_eq hat.top, State.setFrames_setFrames, State.setTop_of_frames _ hfr2, hfr1]
      rfl
    show Steps p.tables e below _ ((({ U with heap := s₂.heap, slotsUsed := s₂.slotsUsed } : State).setVm s₂.vm).setTop { g with pc := g.pc + len₂, stack := (v.map (za_cv D.2.2)).toList ++ g.stack })
    rw [← hs₂]
    exact hsteps
  · obtain ⟨i, ce, ho, hc1, hc2⟩ := (show ∃ (i : Nat) (ce : Cell), o = .threw (D.2.2 + i) ∧ s₂.heap[D.2.2 + i]? = some ce ∧ (U.calling g mk (av.map (za_cv D.2.2)).toArray).vm.findClass E = some ce.cls from hro)
    subst ho
    have hf₂ : s₂.frames = .throwing (D.2.2 + i) :: .java g :: U.frames.tail := hend
    have hs₂ : s₂ = ((({ U with heap := s₂.heap, slotsUsed := s₂.slotsUsed } : State).setVm s₂.vm).setTop g).pushFrame (.throwing (D.2.2 + i)) := by
      refine e3.trans ?_
      rw [hf₂, State.calling_eq hat.top, State.setFrames_setFrames, State.pushFrame, State.frames_setTop _ hfr2, State.setTop_of_frames _ hfr2, State.setFrames_setFrames, hfr1]
      rfl
    refine ⟨i, ce, hc1, hc2, ?_⟩
    show Steps p.tables e below _ (((({ U with heap := s₂.heap, slotsUsed := s₂.slotsUsed } : State).setVm s₂.vm).setTop g).pushFrame (.throwing (D.2.2 + i)))
    rw [← hs₂]
    exact hsteps
/-- what goes on behind a call -/
def zg_N (p : Program) (l : Launch) (e : Env) (R : Room) (s : State) (m : MethodId) (args : Array Value) (below : List Frame) (meth : Method) (c : Code) (D : za_D) (nL : Nat) (Q : State → Prop) (h0 : za_H) (n cells slots pc : Nat) (lv : List (Nat × za_V)) (st : List za_V) (r : Option za_V ⊕ String) : Prop := match r with
  | .inl v => za_W p l e R s m args below meth c D nL Q h0 n cells slots (pc + 3) lv (v.toList ++ st) []
  | .inr E => ∀ i : Nat, zg_Z p l e R s m args below meth c D nL Q h0 n cells slots pc lv st E i
theorem zg_next {H : Heap} {locs : List Loc} {ls : Array Slot} {T U : State} {mk : MethodId} (hS : va_S (fun q : Nat => D.2.2 ≤ q) s.heap H locs) (hl : za_lh args ls nL D.2.2 lv) (hU : U.heap = H) (hWU : s.WarmedH U.vm)
    (hb : ∃ (r : Option za_V ⊕ String) (h' : za_H) (n' : Nat) (B : State) (L : List Loc), Post r h' n' ∧ za_Rp D h' n' B.heap ∧ Stand p l e R s m args below meth c B (locs ++ L) (cells + mc) (slots + ms) ∧ (∀ x ∈ L, D.2.2 ≤ x.base) ∧ va_F (fun q : Nat => D.2.2 ≤ q) U B ∧ zg_E p e below D U (F0 m pc ls (rest.map (za_cv D.2.2))) 3 mk av B r)
    (hgo : ∀ target, Steps p.tables e below (doInvoke e (U.setTop (F0 m pc ls (rest.map (za_cv D.2.2)))) [] mk (av.map (za_cv D.2.2)).toArray).1 target → Steps p.tables e below T target)
    (kk : ∀ (r : Option za_V ⊕ String) (h' : za_H) (n' : Nat), Post r h' n' → zg_N p l e R s m args below meth c D nL Q h' n' (cells + mc) (slots + ms) pc lv rest r) : ∃ t, Steps p.tables e below T t ∧ Q t := by
  obtain ⟨r, h', n', B, L, hp, hRp, hB, hL, ⟨hF1, hF2⟩, hE⟩ := hb
  rw [hU] at hF1 hF2
  have hS1 : va_S (fun q : Nat => D.2.2 ≤ q) s.heap B.heap (locs ++ L) := ⟨Nat.le_trans hS.1 hF1, fun q h1 h2 => (hF2 q (Nat.lt_of_lt_of_le h1 hS.1) h2).trans (hS.2.1 q h1 h2), fun q hq => by
    rcases List.mem_append.mp hq with h | h
    · exact hS.2.2 q h
    · exact hL q h⟩
  have k := kk r h' n' hp
  rcases r with v | E
  · have hE2 : Steps p.tables e below _ (B.setTop { F0 m pc ls (rest.map (za_cv D.2.2)) with pc := pc + 3, stack := (v.map (za_cv D.2.2)).toList ++ rest.map (za_cv D.2.2) }) := hE
    obtain ⟨t, a1, b1⟩ := k B.heap (locs ++ L) ls hRp hS1 hl B rfl hB
    rw [← za_toL] at a1
    exact ⟨t, hgo t (hE2.trans a1), b1⟩
  · obtain ⟨i, ce, h1, h2, h3⟩ := hE
    obtain ⟨t, a1, b1⟩ := k i B.heap (locs ++ L) ls hRp hS1 hl ⟨ce, h1, by rw [← hWU.alike.findClass]; exact h2⟩ B rfl hB
    exact ⟨t, hgo t (h3.trans a1), b1⟩
set_option maxHeartbeats 2000000 in
theorem zg_callV (X : za_X p s m args meth c D own cc cd fl nL ret) (hH : zt_H D.2.2 s) (hf : za_fe cd pc = some (.invokevirtual idx, 3)) (hL : Cond.methodLink own idx Y.1 ∈ za_tt) (hK : zg_K K Y hs) (hKt : K ∈ za_tt) (hini : Cond.initialized Y.1.cls ∈ za_tt) (hin : Cond.instanceMethod Y.1 ∈ za_tt) (hse : Cond.selects Y.1.cls Y.1 Y.1 ∈ za_tt) (hy : Y.1.cls ≠ "java/lang/invoke/MethodHandle" ∧ Y.1.cls ≠ "java/lang/invoke/VarHandle") (hnp : (parseMethodDescriptor Y.1.desc).map (fun d => d.parameters.length) = some as.length)
    (hM : zg_M l D K Y d mc ms (vR b :: as) (za_ov h0 vw) n Post) (hst : st = as.reverse ++ vR b :: rest) {ci N : Nat} {fs : List za_V} {T0 : u_T} (hrc : za_ov h0 vw b = some (.inr (ci, fs))) (hcl : za_cl[ci]? = some (Y.1.cls, T0, N)) (hw : za_wt rest ≤ 8) (hfr : d + 1 ≤ R.frames) (hlo : 8 + (Y.2.2.1 + 11) + 40 * d ≤ R.locals) (hce : cells + mc ≤ R.cells) (hsl : slots + ms ≤ R.slots)
    (kk : ∀ (r : Option za_V ⊕ String) (h' : za_H) (n' : Nat), Post r h' n' → zg_N p l e R s m args below meth c D nL Q h' n' (cells + mc) (slots + ms) pc lv rest r) : za_W p l e R s m args below meth c D nL Q h0 n cells slots pc lv st vw := by
  intro H locs ls hR hS hl T hT X9
  subst hst
  obtain ⟨hx, hb, hml, hown, hts, hKn, hcd, hF, hr, hlocks, hz⟩ := X
  have hd : decode c.code pc = .ok (.invokevirtual idx, 3) := by rw [hb]; exact za_fe_ok hcd hf
  obtain ⟨mk, methM, hnamed, hmethM, hstM, habM⟩ := Cond.instanceMethod_spec (hts _ hin)
  obtain ⟨methM', cM, hmethM', -, -, -, -, -, hsigM, -⟩ := hK args s mk (hts _ hKt) hnamed
  cases hmethM.symm.trans hmethM'
  obtain ⟨cellB, hcB, hoB, hclB⟩ := va_recv hKn (za_P1 (q := (D.2.2 + b, .inr (ci, fs.map (za_cv D.2.2)))) (hR.2.1 b _ hrc)) hcl (q0 := 0) rfl
  obtain ⟨c2, r2, m2, q1, q2, q3, q4, kP, hkP, hkPi⟩ := Cond.selects_spec (hts _ hse)
  cases hclB.symm.trans q1
  cases (State.methodFound?_of_named hnamed hy).symm.trans q2
  cases hnamed.symm.trans q3
  have hselP : selectMethod e.platform s.vm cellB.cls mk = .method mk := by rw [Launch.admits_selectMethod X9.admits]; exact q4
  have hstk : (F0 m pc ls ((as.reverse ++ vR b :: rest).map (za_cv D.2.2))).stack = (as.map (za_cv D.2.2)).reverse ++ .ref (D.2.2 + b) :: rest.map (za_cv D.2.2) := by
    show (as.reverse ++ vR b :: rest).map (za_cv D.2.2) = _
    rw [List.map_append, List.map_reverse]
    rfl
  have hlen : (as.map (za_cv D.2.2)).length = methM.sig.parameters.length := by
    rw [hsigM] at hnp
    rw [List.length_map]
    exact (Option.some.inj hnp).symm
  obtain ⟨vm₁, X₁, hstep₁⟩ := X9.invokevirtual hx hown (hts _ hL) hnamed hmethM hstM hkP hkPi hy (a := D.2.2 + b) (cell := cellB) (by rw [hT]; exact hcB)
    (fun z h => by rw [h] at hoB; cases hoB) hselP hmethM habM hkP hkPi (g := F0 m pc ls ((as.reverse ++ vR b :: rest).map (za_cv D.2.2))) rfl (argsL := as.map (za_cv D.2.2)) (rest := rest.map (za_cv D.2.2)) hlen hstk hd
  have hrm := lv_room (m := m) (pc := pc) (ls := ls) (rest := rest.map (za_cv D.2.2)) (st := rest.map (za_cv D.2.2)) (by rw [za_wt_eq]; exact hw)
  have hbk := zg_back (U := T.setVm vm₁) hM hK hKt hini X₁ hts (g := F0 m pc ls (rest.map (za_cv D.2.2))) rfl (by rw [hml]; exact hl.1) hd hrm (X₁.named hnamed) hfr hlo hce hsl (by show za_Rp D _ n T.heap; rw [hT]; exact hR) (va_K.moved X₁.warmed.alike hKn) (hH.to X₁.warmed.alike (fun a ha => by show T.heap[a]? = _; rw [hT]; exact hS.2.1 a (Nat.lt_of_lt_of_le ha hz) (Nat.not_le.mpr ha)))
  exact zg_next (U := T.setVm vm₁) hS hl hT X₁.warmed hbk (fun target h => hstep₁ _ fun acts => by rw [doInvoke_state]; exact h) kk
set_option maxHeartbeats 2000000 in
theorem zg_callS (X : za_X p s m args meth c D own cc cd fl nL ret) (hH : zt_H D.2.2 s) (hf : za_fe cd pc = some (.invokestatic idx, 3)) (hL : Cond.methodLink own idx Y.1 ∈ za_tt) (hK : zg_K K Y hs) (hKt : K ∈ za_tt) (hini : Cond.initialized Y.1.cls ∈ za_tt) (hsta : Cond.static Y.1 ∈ za_tt) (hy : Y.1.cls ≠ "java/lang/invoke/MethodHandle" ∧ Y.1.cls ≠ "java/lang/invoke/VarHandle") (hnp : (parseMethodDescriptor Y.1.desc).map (fun d => d.parameters.length) = some as.length) (hnd : ∀ (a : Array Value) (u : State), K.before a u = true → ∃ mk, u.methodNamed? Y.1 = some mk)
    (hM : zg_M l D K Y d mc ms as (za_ov h0 vw) n Post) (hst : st = as.reverse ++ rest) (hw : za_wt rest ≤ 8) (hfr : d + 1 ≤ R.frames) (hlo : 8 + (Y.2.2.1 + 11) + 40 * d ≤ R.locals) (hce : cells + mc ≤ R.cells) (hsl : slots + ms ≤ R.slots)
    (kk : ∀ (r : Option za_V ⊕ String) (h' : za_H) (n' : Nat), Post r h' n' → zg_N p l e R s m args below meth c D nL Q h' n' (cells + mc) (slots + ms) pc lv rest r) : za_W p l e R s m args below meth c D nL Q h0 n cells slots pc lv st vw := by
  intro H locs ls hR hS hl T hT X9
  subst hst
  obtain ⟨hx, hb, hml, hown, hts, hKn, hcd, hF, hr, hlocks, hz⟩ := X
  have hd : decode c.code pc = .ok (.invokestatic idx, 3) := by rw [hb]; exact za_fe_ok hcd hf
  obtain ⟨mk, hnamed⟩ := hnd args s (hts _ hKt)
  obtain ⟨methM, cM, hmethM, -, -, -, -, -, hsigM, -⟩ := hK args s mk (hts _ hKt) hnamed
  have hstatic : methM.isStatic = true := Cond.static_spec hnamed hmethM (hts _ hsta)
  obtain ⟨kP, hkP, -⟩ := className_of_methodNamed hnamed
  have hinitP : kP.init = .initialized := Cond.initialized_spec (findClass_of_methodNamed hnamed) hkP (hts _ hini)
  have hstk : (F0 m pc ls ((as.reverse ++ rest).map (za_cv D.2.2))).stack = (as.map (za_cv D.2.2)).reverse ++ rest.map (za_cv D.2.2) := by
    show (as.reverse ++ rest).map (za_cv D.2.2) = _
    rw [List.map_append, List.map_reverse]
  have hlen : (as.map (za_cv D.2.2)).length = methM.sig.parameters.length := by
    rw [hsigM] at hnp
    rw [List.length_map]
    exact (Option.some.inj hnp).symm
  obtain ⟨vm₁, X₁, hstep₁⟩ := X9.invokestatic hx hown (hts _ hL) hnamed hmethM hstatic hkP hinitP hy (g := F0 m pc ls ((as.reverse ++ rest).map (za_cv D.2.2))) rfl (argsL := as.map (za_cv D.2.2)) (rest := rest.map (za_cv D.2.2)) hlen hstk hd
  have hrm := lv_room (m := m) (pc := pc) (ls := ls) (rest := rest.map (za_cv D.2.2)) (st := rest.map (za_cv D.2.2)) (by rw [za_wt_eq]; exact hw)
  have hbk := zg_back (U := T.setVm vm₁) hM hK hKt hini X₁ hts (g := F0 m pc ls (rest.map (za_cv D.2.2))) rfl (by rw [hml]; exact hl.1) hd hrm (X₁.named hnamed) hfr hlo hce hsl (by show za_Rp D _ n T.heap; rw [hT]; exact hR) (va_K.moved X₁.warmed.alike hKn) (hH.to X₁.warmed.alike (fun a ha => by show T.heap[a]? = _; rw [hT]; exact hS.2.1 a (Nat.lt_of_lt_of_le ha hz) (Nat.not_le.mpr ha)))
  exact zg_next (U := T.setVm vm₁) hS hl hT X₁.warmed hbk (fun target h => hstep₁ _ fun acts => by rw [doInvoke_state]; exact h) kk
end ZGCALL
theorem zh_fvf (u : State) (vm' : Vm) (F G : List Frame) : ((u.setFrames F).setVm vm').setFrames G = (u.setVm vm').setFrames G := (show ((u.setVm vm').setFrames F).setFrames G = (u.setVm vm').setFrames G from State.setFrames_setFrames _ _ _)
/-! CATCHES: the search through a method's table, its classes resolved or not -/
section ZGCATCH
/-- a row that the search passes -/
def zh_no (pl : Platform) (s : State) (d : ClassId) (pc : Nat) (tc : ClassId) (y : ExceptionTableEntry) : Prop := covers y pc = false ∨ (covers y pc = true ∧ y.catchType ≠ 0 ∧ ∃ c, s.vm.ClassLinks pl d y.catchType c ∧ s.vm.assignable tc c = false)
theorem zh_one {Q : Handler → Pre} {E : CtlPost} {e : Env} {d : Bool} {acts : List Action} {s : State} {f : JFrame} {a : Addr} {x : ExceptionTableEntry} {t : List ExceptionTableEntry} {c : ClassId} {cell : Cell} (hx : covers x f.pc = true) (h0 : x.catchType ≠ 0)
    (hl : s.vm.ClassLinks e.platform f.method.cls x.catchType c) (hcell : s.heap[a]? = some cell) (hobj : ∀ k, cell.vm ≠ .statics k) (hk : ∃ k, s.vm.classes[cell.cls]? = some k) (hc : ∃ k, s.vm.classes[c]? = some k) :
    wp (findHandler.go f a (x :: t)) Q E e d acts s ↔ if s.vm.assignable cell.cls c = true then Q (.found x.handlerPc) d acts (s.setVm (s.vm.noted f.method.cls x.catchType (.cls c))) else wp (findHandler.go f a t) Q E e d acts (s.setVm (s.vm.noted f.method.cls x.catchType (.cls c))) := by
  simp only [covers] at hx
  obtain ⟨g1, g2⟩ := (resolveClass_links e.toSetting hl).op (op := VmOp.resolveClass f.method.cls x.catchType) rfl
  have hal : s.vm.Alike (s.vm.noted f.method.cls x.catchType (.cls c)) := (Vm.Alike.refl s.vm).noted _ _ _
  obtain ⟨k1, hk1⟩ := hk
  obtain ⟨k2, hk2⟩ := hc
  obtain ⟨k3, hk3, -⟩ := hal.2.2 _ _ hk1
  obtain ⟨k4, hk4, -⟩ := hal.2.2 _ _ hk2
  have has : (s.vm.noted f.method.cls x.catchType (.cls c)).assignable cell.cls c = s.vm.assignable cell.cls c := by rw [hal.assignable]
  cases hv : s.vm.assignable cell.cls c with
  | true =>
    rw [hv] at has
    simp [findHandler.go, hx, h0, g1, g2, hcell, hobj, hk3, hk4, has, VmOp.dirties, VmOp.acts]
  | false =>
    rw [hv] at has
    simp [findHandler.go, hx, h0, g1, g2, hcell, hobj, hk3, hk4, has, VmOp.dirties, VmOp.acts]
theorem zh_all {e : Env} {s : State} {f : JFrame} {a : Addr} {cell : Cell} (hobj : ∀ k, cell.vm ≠ .statics k) (hk : ∃ k, s.vm.classes[cell.cls]? = some k) (x : ExceptionTableEntry) (suf : List ExceptionTableEntry) (hx : covers x f.pc = true) (h0 : x.catchType ≠ 0) {c : ClassId} (hl : s.vm.ClassLinks e.platform f.method.cls x.catchType c) (hfit : s.vm.assignable cell.cls c = true) :
    ∀ (pre : List ExceptionTableEntry) (S : State), s.WarmedH S.vm → S.heap[a]? = some cell → (∀ y ∈ pre, zh_no e.platform s f.method.cls f.pc cell.cls y) →
      ∃ vm', s.WarmedH vm' ∧ ∀ (Q : Handler → Pre) (E : CtlPost) (d : Bool) (acts : List Action), wp (findHandler.go f a (pre ++ x :: suf)) Q E e d acts S ↔ Q (.found x.handlerPc) d acts (S.setVm vm') := by
  obtain ⟨k, hk⟩ := hk
  intro pre
  induction pre with
  | nil =>
    intro S hW hcell _
    obtain ⟨k', hk', -⟩ := hW.alike.2.2 _ _ hk
    obtain ⟨dk, _, _, kt, hd, _, _, _, _, hkt, _, hopen⟩ := hl.here
    obtain ⟨kt', hkt', -⟩ := hW.alike.2.2 _ _ hkt
    refine ⟨_, hW.noted hd hopen (State.rightAt_cls hl), fun Q E d acts => ?_⟩
    rw [List.nil_append, zh_one hx h0 (hW.classLinks hl) hcell hobj ⟨k', hk'⟩ ⟨kt', hkt'⟩, hW.alike.assignable, if_pos hfit]
  | cons y ys ih =>
    intro S hW hcell hp
    have hrest : ∀ w ∈ ys, zh_no e.platform s f.method.cls f.pc cell.cls w := fun w hw => hp w (List.mem_cons_of_mem _ hw)
    rcases hp y List.mem_cons_self with hn | ⟨hcv, hy0, c1, hl1, hno⟩
    · obtain ⟨vm', hW', hq⟩ := ih S hW hcell hrest
      refine ⟨vm', hW', fun Q E d acts => ?_⟩
      rw [List.cons_append, W.findHandler_go_skip hn]
      exact hq Q E d acts
    · obtain ⟨k', hk', -⟩ := hW.alike.2.2 _ _ hk
      obtain ⟨dk, _, _, kt, hd, _, _, _, _, hkt, _, hopen⟩ := hl1.here
      obtain ⟨kt', hkt', -⟩ := hW.alike.2.2 _ _ hkt
      obtain ⟨vm', hW', hq⟩ := ih (S.setVm (S.vm.noted f.method.cls y.catchType (.cls c1))) (hW.noted hd hopen (State.rightAt_cls hl1)) hcell hrest
      refine ⟨vm', hW', fun Q E d acts => ?_⟩
      rw [List.cons_append, zh_one hcv hy0 (hW.classLinks hl1) hcell hobj ⟨k', hk'⟩ ⟨kt', hkt'⟩, hW.alike.assignable, if_neg (by rw [hno]; decide)]
      exact hq Q E d acts
theorem zh_step {e : Env} {s : State} {a : Addr} {f : JFrame} {r : List Frame} {pc : Nat} {vm' : Vm} (hfind : ∀ (Q : Handler → Pre) (E : CtlPost) (d : Bool) (acts : List Action), wp (findHandler f a) Q E e d acts s ↔ Q (.found pc) d acts (s.setVm vm')) :
    (stepThrowing e s a (.java f :: r)).Is ((s.setVm vm').setFrames (.java { f with pc := pc, stack := [.ref a] } :: r)) [] := by
  simp only [stepThrowing, searchFrame, vmDo]
  generalize hr : Sem.go _ e false [] s = res
  obtain ⟨as, rfl, ha⟩ := Sem.eq_ok_of hr (a := Handler.found pc) (s' := s.setVm vm') (acts' := []) (by simp [hfind _ _ _ _])
  exact ⟨rfl, ha⟩
variable {p : Program} {l : Launch} {e : Env} {R : Room} {s : State} {m : MethodId} {args : Array Value} {below : List Frame} {meth : Method} {c : Code} {D : za_D} {nL : Nat} {Q : State → Prop} {h0 : za_H} {n cells slots pc : Nat} {lv : List (Nat × za_V)} {st : List za_V} {vw : List (Nat × za_C)} {own : String} {cc : ByteArray} {cd : List (Nat × Instr × Nat)} {fl : List (Nat × Nat × Nat)} {ret : Option FieldType}
set_option maxHeartbeats 2000000 in
/-- the exception is caught in the walked method -/
theorem zg_catch (X : za_X p s m args meth c D own cc cd fl nL ret) (hH : zt_H D.2.2 s) {E nm : String} {i : Nat} {hs pr su : List (Nat × Nat × Nat × Nat)} {q : Nat × Nat × Nat × Nat} (hex : c.exceptionTable.toList.map (fun h => (h.startPc, h.endPc, h.handlerPc, h.catchType)) = hs) (hsp : hs = pr ++ q :: su)
    (hpr : ∀ y ∈ pr, covers ⟨y.1, y.2.1, y.2.2.1, y.2.2.2⟩ pc = false ∨ (covers ⟨y.1, y.2.1, y.2.2.1, y.2.2.2⟩ pc = true ∧ y.2.2.2 ≠ 0 ∧ ∃ nn : String, Cond.classLink own y.2.2.2 nn ∈ za_tt ∧ (E, nn) ∈ zt_nc)) (hq1 : covers ⟨q.1, q.2.1, q.2.2.1, q.2.2.2⟩ pc = true) (hq0 : q.2.2.2 ≠ 0) (hlk : Cond.classLink own q.2.2.2 nm ∈ za_tt) (hca : Cond.castable E nm ∈ za_tt)
    (kk : za_W p l e R s m args below meth c D nL Q h0 n cells slots q.2.2.1 lv [vR i] []) : zg_Z p l e R s m args below meth c D nL Q h0 n cells slots pc lv st E i := by
  intro H locs ls hR hS hl ⟨ce, hce, hcl⟩ T hT X9
  obtain ⟨hx, hb, hml, hown, hts, hKn, hcd, hF, hr, hlocks, hz⟩ := X
  subst hsp
  have hpl : e.platform.magicAccessors = ({} : Platform).magicAccessors := by rw [X9.admits.platform]
  have hplain : ce.vm = .none := hR.2.2 _ ce (Nat.le_add_right _ _) hce
  have htab : c.exceptionTable.toList = pr.map (fun y => (⟨y.1, y.2.1, y.2.2.1, y.2.2.2⟩ : ExceptionTableEntry)) ++ (⟨q.1, q.2.1, q.2.2.1, q.2.2.2⟩ : ExceptionTableEntry) :: su.map (fun y => (⟨y.1, y.2.1, y.2.2.1, y.2.2.2⟩ : ExceptionTableEntry)) := by
    have h9 := congrArg (List.map (fun y : Nat × Nat × Nat × Nat => (⟨y.1, y.2.1, y.2.2.1, y.2.2.2⟩ : ExceptionTableEntry))) hex
    rw [List.map_map, List.map_append, List.map_cons] at h9
    rw [← h9]
    exact (List.map_id' _).symm
  obtain ⟨c3, c4, hc3, hc4, hasg⟩ := Cond.castable_spec (hts _ hca)
  cases Option.some.inj (hc3.symm.trans hcl)
  obtain ⟨c5, hc5, hl5⟩ := Cond.classLink_spec hown (hts _ hlk) e.platform hpl
  cases Option.some.inj (hc4.symm.trans hc5)
  have hkE : ∃ k, s.vm.classes[ce.cls]? = some k := by
    obtain ⟨k9, h9, -⟩ := Vm.findClass_spec hcl
    exact ⟨k9, h9⟩
  have hTt : ((T.setTop (F0 m pc ls (st.map (za_cv D.2.2)))).pushFrame (.throwing (D.2.2 + i))).heap[D.2.2 + i]? = some ce := by rw [Stand.throwing_heap, hT]; exact hce
  have hTv : ((T.setTop (F0 m pc ls (st.map (za_cv D.2.2)))).pushFrame (.throwing (D.2.2 + i))).vm = T.vm := Stand.throwing_vm _ _ _
  obtain ⟨vm', hW', hfd⟩ := zh_all (e := e) (s := s) (f := F0 m pc ls (st.map (za_cv D.2.2))) (a := D.2.2 + i) (cell := ce) (fun k h => by rw [hplain] at h; cases h) hkE ⟨q.1, q.2.1, q.2.2.1, q.2.2.2⟩ (su.map (fun y => (⟨y.1, y.2.1, y.2.2.1, y.2.2.2⟩ : ExceptionTableEntry))) hq1 hq0 hl5 hasg
    (pr.map (fun y => (⟨y.1, y.2.1, y.2.2.1, y.2.2.2⟩ : ExceptionTableEntry))) ((T.setTop (F0 m pc ls (st.map (za_cv D.2.2)))).pushFrame (.throwing (D.2.2 + i))) (by rw [hTv]; exact X9.warmed) hTt (fun y hy => by
      obtain ⟨w, hw, rfl⟩ := List.mem_map.mp hy
      rcases hpr w hw with h | ⟨h, h2, nn, h3, h4⟩
      · exact Or.inl h
      · obtain ⟨c6, hc6, hl6⟩ := Cond.classLink_spec hown (hts _ h3) e.platform hpl
        obtain ⟨a8, b8, g1, g2, g3⟩ := hH.2.2 _ h4
        cases Option.some.inj (g1.symm.trans hcl)
        cases Option.some.inj (g2.symm.trans hc6)
        exact Or.inr ⟨h, h2, _, hl6, g3⟩)
  have hm' : ((T.setTop (F0 m pc ls (st.map (za_cv D.2.2)))).pushFrame (.throwing (D.2.2 + i))).vm.method? m = some meth := by rw [hTv]; exact X9.method'
  have hfind : ∀ (Q : Handler → Pre) (E : CtlPost) (d : Bool) (acts : List Action), wp (findHandler (F0 m pc ls (st.map (za_cv D.2.2))) (D.2.2 + i)) Q E e d acts ((T.setTop (F0 m pc ls (st.map (za_cv D.2.2)))).pushFrame (.throwing (D.2.2 + i))) ↔ Q (.found q.2.2.1) d acts (((T.setTop (F0 m pc ls (st.map (za_cv D.2.2)))).pushFrame (.throwing (D.2.2 + i))).setVm vm') := fun Q E d acts => by
    rw [W.findHandler_eq hm' X9.code, htab]
    exact hfd Q E d acts
  have X2 := X9.noted hW'
  obtain ⟨t, a1, b1⟩ := kk H locs ls hR hS hl (T.setVm vm') hT X2
  refine ⟨t, ?_, b1⟩
  have hat : At T (F0 m pc ls (st.map (za_cv D.2.2))).method c below := X9.here
  obtain ⟨hgo, hw⟩ := hat.throwing (D.2.2 + i)
  refine Steps.head hgo hw ?_
  rw [stepThread_throwing (frames_entered hat.top _), (zh_step (s := (T.setTop (F0 m pc ls (st.map (za_cv D.2.2)))).pushFrame (.throwing (D.2.2 + i))) hfind).1]
  obtain ⟨g1, hg1⟩ := Option.isSome_iff_exists.mp hat.top
  obtain ⟨r1, hr1⟩ := State.topJava?_eq_some.mp hg1
  have hr2 : (T.setVm vm').frames = .java g1 :: r1 := hr1
  have a2 : Steps p.tables e below ((T.setVm vm').setTop { F0 m pc ls (st.map (za_cv D.2.2)) with pc := q.2.2.1, stack := [.ref (D.2.2 + i)] }) t := a1
  rw [State.setTop_of_frames _ hr2] at a2
  rw [hr1, List.tail_cons, State.pushFrame, zh_fvf, State.setTop_of_frames _ hr1, zh_fvf]
  exact a2
end ZGCATCH
