/-! THROWS AND CATCHES -/
/-- a static field of Throwable that lies below z and holds null or a reference -/
def zt_S (nm d : String) (z : Nat) (U : State) : Prop := ∃ (c : ClassId) (k : Class) (i : Nat) (f : Field) (a : Nat) (cell : Cell) (v : Value), U.vm.findClass Bundle.tN = some c ∧ U.fieldFound? Bundle.tN nm d = some (c, k, i, f) ∧ f.isStatic = true ∧ k.statics = some a ∧ U.heap[a]? = some cell ∧ cell.vm.isStatics = true ∧ cell.cls = c ∧ f.slot < cell.slots.size ∧ k.staticTypes[f.slot]? = some f.type ∧ a < z ∧ cell.slots[f.slot]? = some v ∧ v.isRef = true
theorem zt_S.to {nm d : String} {z : Nat} {u U : State} (h : zt_S nm d z u) (hvm : u.vm.Alike U.vm) (hh : ∀ a : Nat, a < z → U.heap[a]? = u.heap[a]?) : zt_S nm d z U := by
  obtain ⟨c, k, i, f, a, cell, v, h1, h2, h3, h4, h5, h6, h7, h8, h9, h10, h11, h12⟩ := h
  obtain ⟨k', hi', he⟩ := State.fieldFound?_setVm hvm h2
  exact ⟨c, k', i, f, a, cell, v, by rw [hvm.findClass]; exact h1, hi', h3, by rw [he]; exact h4, by rw [hh a h10]; exact h5, h6, h7, h8, by rw [he]; exact h9, h10, h11, h12⟩
theorem zt_S.lays {nm d : String} {z : Nat} {U : State} {args : Array Value} (h : zt_S nm d z U) : (Cond.laysStatic Bundle.tN nm d).before args U = true := by
  obtain ⟨c, k, i, f, a, cell, v, h1, h2, h3, h4, h5, h6, h7, h8, h9, -⟩ := h
  show (Cond.laysStatic Bundle.tN nm d).holds args U none U [] = true
  exact Cond.laysStatic_of h1 h2 h3 h4 h5 h6 h7 h8 h9
theorem zt_S.ref {nm d : String} {z : Nat} {U : State} {args : Array Value} (h : zt_S nm d z U) : (Cond.isRef (.static Bundle.tN nm d)).before args U = true := by
  obtain ⟨c, k, i, f, a, cell, v, h1, h2, h3, h4, h5, h6, h7, h8, h9, h10, h11, h12⟩ := h
  have he : (Term.static Bundle.tN nm d).eval args U none [] U = some v := by
    simp [Term.eval, State.fieldNamed?, h2, h3, h4, h5, h6, h11]
  simp only [Cond.before, Cond.holds, Cond.value, he]
  cases v <;> simp_all [Value.isRef]
theorem zt_S.of {nm d : String} {U : State} {args : Array Value} (hl : (Cond.laysStatic Bundle.tN nm d).before args U = true) (hr : (Cond.isRef (.static Bundle.tN nm d)).before args U = true) : zt_S nm d U.heap.size U := by
  obtain ⟨c, k, i, f, a, cell, h1, h2, h3, h4, h5, h6, h7, h8, h9⟩ := Cond.laysStatic_spec hl
  have hv : cell.slots[f.slot]? = some cell.slots[f.slot] := Array.getElem?_eq_getElem h8
  have he : (Term.static Bundle.tN nm d).eval args U none [] U = some cell.slots[f.slot] := by
    simp [Term.eval, State.fieldNamed?, h2, h3, h4, h5, h6, h8]
  refine ⟨c, k, i, f, a, cell, cell.slots[f.slot], h1, h2, h3, h4, h5, h6, h7, h8, h9, (Array.getElem?_eq_some_iff.mp h5).1, hv, ?_⟩
  simp only [Cond.before, Cond.holds, Cond.value, he] at hr
  generalize cell.slots[f.slot] = v at hr
  cases v <;> simp_all [Value.isRef]
/-- pairs of exceptions of which the first is no case of the second -/
def zt_nc : List (String × String) := [("java/lang/IllegalStateException", "java/lang/IllegalArgumentException"), ("java/lang/IllegalArgumentException", "java/util/NoSuchElementException"), ("java/util/NoSuchElementException", "java/lang/IllegalArgumentException")]
def zt_H (z : Nat) (U : State) : Prop := zt_S "UNASSIGNED_STACK" Bundle.steD z U ∧ zt_S "SUPPRESSED_SENTINEL" Bundle.listD z U ∧ ∀ q ∈ zt_nc, va_Nc q.1 q.2 U
theorem zt_H.to {z : Nat} {u U : State} (h : zt_H z u) (hvm : u.vm.Alike U.vm) (hh : ∀ a : Nat, a < z → U.heap[a]? = u.heap[a]?) : zt_H z U := ⟨h.1.to hvm hh, h.2.1.to hvm hh, fun q hq => (h.2.2 q hq).moved hvm⟩
/-- what a general contract says of a method's end: it returned, or threw an object of the class E that lies behind z -/
def zg_o (D : za_D) (su : State) (r : Option za_V ⊕ String) (o : Outcome) (t : State) : Prop := match r with
  | .inl v => o = .returned (v.map (za_cv D.2.2))
  | .inr E => ∃ (i : Nat) (ce : Cell), o = .threw (D.2.2 + i) ∧ t.heap[D.2.2 + i]? = some ce ∧ su.vm.findClass E = some ce.cls
def zg_Q (D : za_D) (Post : Option za_V ⊕ String → za_H → Nat → Prop) (mc ms : Nat) : Array Value → State → Outcome → State → Prop := fun _ su o t =>
  ∃ (r : Option za_V ⊕ String) (h' : za_H) (n' : Nat) (L : List Loc), zg_o D su r o t ∧ Post r h' n' ∧ za_Rp D h' n' t.heap ∧ va_F (fun q : Nat => D.2.2 ≤ q) su t ∧ su.WarmedH t.vm ∧ su.sameButNew ({ t with vm := su.vm } : State) L mc ms ∧ ∀ x ∈ L, D.2.2 ≤ x.base
def zg_P (D : za_D) (av : List za_V) (h : za_H) (n : Nat) : Array Value → State → Prop := fun a U => za_P D av h n a U ∧ zt_H D.2.2 U
/-- GENERAL CONTRACT: K says what code Y has ('code', or 'codeWith' a table of handlers) -/
def zg_M (l : Launch) (D : za_D) (K : Cond) (Y : za_Y) (d mc ms : Nat) (av : List za_V) (h : za_H) (n : Nat) (Post : Option za_V ⊕ String → za_H → Nat → Prop) : Prop :=
  MetFree l Y.1 (headSpec (K :: za_tt) (za_rm d mc ms)) (zg_P D av h n) (fun _ _ _ _ _ => True) (zg_Q D Post mc ms)
def zg_MQ (below : List Frame) (D : za_D) (Post : Option za_V ⊕ String → za_H → Nat → Prop) (args : Array Value) (s : State) (mc ms : Nat) : State → Prop := fun t => ∃ o, t.status = .running ∧ Ended t below o ∧ zg_Q D Post mc ms args s o t
/-- what K says of Y's code -/
def zg_K (K : Cond) (Y : za_Y) (hs : List (Nat × Nat × Nat × Nat)) : Prop := ∀ (args : Array Value) (s : State) (m : MethodId), K.before args s = true → s.methodNamed? Y.1 = some m → ∃ (meth : Method) (c : Code), s.vm.method? m = some meth ∧ meth.code = some c ∧ c.code = Y.2.1 ∧ c.maxLocals = Y.2.2.1 ∧ meth.sig.returnType = Y.2.2.2 ∧ meth.locks = false ∧ parseMethodDescriptor Y.1.desc = some meth.sig ∧ c.exceptionTable.toList.map (fun h => (h.startPc, h.endPc, h.handlerPc, h.catchType)) = hs
theorem zg_Kcode (Y : za_Y) : zg_K (.code Y.1 Y.2.1 Y.2.2.1 Y.2.2.2) Y [] := by
  intro args s m h hn
  obtain ⟨meth, c, h1, h2, h3, h4, h5, h6, h7, h8⟩ := Cond.code_spec hn h
  refine ⟨meth, c, h1, h2, h3, h4, h5, h6, h8, ?_⟩
  have h9 : c.exceptionTable = #[] := by simpa using h7
  rw [h9]; rfl
theorem zg_Kwith (Y : za_Y) (hs : List (Nat × Nat × Nat × Nat)) : zg_K (.codeWith Y.1 Y.2.1 Y.2.2.1 Y.2.2.2 hs) Y hs := by
  intro args s m h hn
  obtain ⟨m', meth, c, h0, h1, h2, h3, h4, h5, h6, h7, h8⟩ := Cond.codeWith_spec h
  cases Option.some.inj (h0.symm.trans hn)
  exact ⟨meth, c, h1, h2, h3, h4, h6, h7, h8, h5⟩
set_option maxHeartbeats 1000000 in
theorem zg_enter {l : Launch} {D : za_D} {K : Cond} {Y : za_Y} {d mc ms n : Nat} {av : List za_V} {h : za_H} {Post : Option za_V ⊕ String → za_H → Nat → Prop} {hs : List (Nat × Nat × Nat × Nat)} (cd : List (Nat × Instr × Nat)) (fl : List (Nat × Nat × Nat)) (hK : zg_K K Y hs) (hy : plainName Y.1.cls = true) (hcd : ∀ q ∈ cd, decode Y.2.1 q.1 = .ok q.2) (hfl : ∀ q ∈ fl, za_FL Y.1.cls q) (hlen : (lg_sl (av.map (za_cv D.2.2))).length ≤ Y.2.2.1)
    (body : ∀ (p : Program) (e : Env) (s : State) (m : MethodId) (args : Array Value) (below : List Frame) (meth : Method) (c : Code), za_X p s m args meth c D Y.1.cls Y.2.1 cd fl Y.2.2.1 Y.2.2.2 → zt_H D.2.2 s → c.exceptionTable.toList.map (fun h => (h.startPc, h.endPc, h.handlerPc, h.catchType)) = hs →
      za_W p l e (za_rm d mc ms) s m args below meth c D Y.2.2.1 (zg_MQ below D Post args s mc ms) h n 0 0 0 (za_ar 0 av) [] []) : zg_M l D K Y d mc ms av h n Post := by
  unfold zg_M
  refine MetFree.of_bodyS (code := Y.2.1) (maxLocals := Y.2.2.1) (ret := Y.2.2.2) hy ?_ ?_
  · intro args s m hp hn
    obtain ⟨meth, c, h1, h2, h3, h4, h5, h6, -, -⟩ := hK args s m (atoms_spec (ws := K :: za_tt) hp _ List.mem_cons_self) hn
    exact ⟨meth, c, h1, h2, h3, h4, h5, h6⟩
  · intro p e s m args below meth c s₁ B hml hv _
    obtain ⟨⟨rfl, hR, hKn⟩, hH⟩ := hv
    have hts := atoms_spec (ws := K :: za_tt) B.pre
    have X₀ : Stand p l e (za_rm d mc ms) s m ((av.map (za_cv D.2.2)).toArray) below meth c s₁ [] 0 0 := Stand.of_body B
    obtain ⟨meth', c', h1, h2, -, -, -, -, -, hex⟩ := hK _ s m (hts _ List.mem_cons_self) B.named
    cases B.method.symm.trans h1
    cases X₀.code.symm.trans h2
    have hl := lv_entry (av.map (za_cv D.2.2)) (n := Y.2.2.1) hlen
    have hh0 : s₁.heap = s.heap := by rw [B.state]; rfl
    have k := body p e s m _ below meth c ⟨B.exec, B.bytes, hml, findClass_of_methodNamed B.named, fun w hw => hts w (List.mem_cons_of_mem _ hw), hKn, hcd, hfl, B.returns, B.notSynchronized, by rw [hR.1]; exact Nat.le_add_right _ _⟩ hH hex s.heap [] _ hR va_S.rf (by show lv_has _ _ (za_lx _ _ ++ _); rw [za_lx_0, List.nil_append, za_ar_eq]; exact hl)
    obtain ⟨t, a1, o, b1, b2, b3⟩ := k s₁ hh0 X₀
    rw [lg_entry_eq]
    exact ⟨t, o, a1, b1, b2, b3⟩
section ZGEND
variable {p : Program} {l : Launch} {e : Env} {R : Room} {s : State} {m : MethodId} {args : Array Value} {below : List Frame} {meth : Method} {c : Code} {D : za_D} {nL : Nat} {Q : State → Prop} {h0 : za_H} {n cells slots pc : Nat} {lv : List (Nat × za_V)} {st : List za_V} {vw : List (Nat × za_C)} {own : String} {cc : ByteArray} {cd : List (Nat × Instr × Nat)} {fl : List (Nat × Nat × Nat)} {ret : Option FieldType} {mc ms : Nat} {Post : Option za_V ⊕ String → za_H → Nat → Prop}
/-- a road that returns -/
theorem zg_of (kk : za_W p l e R s m args below meth c D nL (MQ below (za_Q D (fun v h' n' => Post (.inl v) h' n')) args s mc ms (fun q : Nat => D.2.2 ≤ q)) h0 n cells slots pc lv st vw) : za_W p l e R s m args below meth c D nL (zg_MQ below D Post args s mc ms) h0 n cells slots pc lv st vw := by
  intro H locs ls hR hS hl T hT X
  obtain ⟨t, a1, o, b1, b2, ⟨v, h', n', hv, hp, hRp, hF⟩, L, ⟨-, hW, hsm⟩, hL⟩ := kk H locs ls hR hS hl T hT X
  exact ⟨t, a1, o, b1, b2, .inl v, h', n', L, hv, hp, hRp, hF, hW, hsm, hL⟩
/-- the same frame, as if its method were called anew in the heap as it is now -/
theorem zt_base {T : State} {locs : List Loc} (X : Stand p l e R s m args below meth c T locs cells slots) {R' : Room} (hf : R'.frames ≤ R.frames) (hl : R'.locals ≤ R.locals) (hc : cells + R'.cells ≤ R.cells) (hs : slots + R'.slots ≤ R.slots) :
    Stand p l e R' ((T.setVm s.vm).setFrames (.invoking m args :: below)) m args below meth c T [] 0 0 := by
  have htop : (T.setVm s.vm).topJava?.isSome := X.here.top
  have hF : ((T.setVm s.vm).setFrames (.invoking m args :: below)).frames = .invoking m args :: below := State.frames_setFrames _ (State.cur_lt_of_top htop)
  obtain ⟨g1, hg1⟩ := Option.isSome_iff_exists.mp htop
  obtain ⟨fr, hfr⟩ := State.topJava?_eq_some.mp hg1
  obtain ⟨th, hth, -⟩ := State.frames_cons hfr
  have hnil : T.heap.toList.drop T.heap.size = [] := List.drop_eq_nil_of_le (Nat.le_of_eq Array.length_toList)
  have hlim : e.platform.stackLimits (T.setVm s.vm).me = e.platform.stackLimits s.me := X.limits
  have hbyt : (T.setVm s.vm).me.stackBytes = s.me.stackBytes := X.bytes
  have hroom : ((T.setVm s.vm).setFrames (.invoking m args :: below)).hasRoom e.platform R' = true := by
    have h := X.room
    have hu : ((T.setVm s.vm).setFrames (.invoking m args :: below)).localsInUse = s.localsInUse := by
      rw [State.localsInUse_invoking hF (meth := meth) (c := c) X.method X.code, State.localsInUse_invoking X.frames X.method X.code]
    have k1 := X.heapSize
    have k2 := X.used
    simp only [State.hasRoom, Bool.and_eq_true, decide_eq_true_eq] at h ⊢
    obtain ⟨⟨⟨⟨a1, a2, a3, a4, a5, a6⟩, a7⟩, a8⟩, -⟩ := h
    rw [X.frames, List.length_cons] at a2 a3
    simp only [hF, hu, List.length_cons, State.stackLimits_setFrames, State.stackBytes_setFrames, hlim, hbyt]
    have b7 : T.heap.size + R'.cells ≤ e.platform.maxCells := by omega
    have b8 : T.slotsUsed + R'.slots ≤ e.platform.maxSlots := by omega
    exact ⟨⟨⟨⟨by omega, by omega, by omega, by omega, by omega, a6⟩, b7⟩, b8⟩, X.book⟩
  refine ⟨X.admits, X.cas, X.clock, hF, hroom, X.hears, X.method, X.code, X.here, X.tail, X.warmed, by rw [State.stackLimits_setFrames]; rfl, by rw [State.stackBytes_setFrames]; rfl, ?_, Nat.le_refl _, Nat.le_refl _, ?_, ?_, fun a c9 h9 => ⟨c9, h9, rfl, rfl, fun _ _ => rfl⟩⟩
  · show T.setVm s.vm = { ((T.setVm s.vm).setFrames (.invoking m args :: below)).setFrames (T.setVm s.vm).frames with heap := T.heap, slotsUsed := T.slotsUsed }
    rw [State.setFrames_setFrames, State.setFrames_self hth]
    rfl
  · show T.slotsUsed = T.slotsUsed + ((T.heap.toList.drop T.heap.size).map (·.slots.size)).sum
    rw [hnil]; rfl
  · show ((T.heap.toList.drop T.heap.size).map (·.slots.size)).sum ≤ 0
    rw [hnil]; exact Nat.le_refl _
theorem zt_old {U : State} {k1 k2 : Nat} (h : s.sameButNew ({ U with vm := s.vm } : State) [] k1 k2) : s.heap.size ≤ U.heap.size ∧ ∀ q : Nat, q < s.heap.size → U.heap[q]? = s.heap[q]? := by
  obtain ⟨-, h2, -, -, -, h6⟩ := h
  refine ⟨h2, fun q hq => ?_⟩
  obtain ⟨c9, e1, e2, e3, e4⟩ := h6 q _ (Array.getElem?_eq_getElem hq)
  have hsl : c9.slots = (s.heap[q]).slots := Array.ext_getElem? fun i => e4 i fun hm => nomatch hm
  rw [hsl] at e2
  have e5 : U.heap[q]? = some c9 := e1
  rw [e5, Array.getElem?_eq_getElem hq]
  exact congrArg some e2
/-- the words of a throw of E: the class, its constructors up to Throwable's -/
def zt_E (own : String) (ik ic : Nat) (E : String) (names : List String) : Prop := Bundle.fit E = true ∧ (∀ x ∈ names, Bundle.fit x = true) ∧ Cond.classLink own ik E ∈ za_tt ∧ Cond.initialized E ∈ za_tt ∧ ∀ w ∈ Bundle.ownAtoms0 own ic E names, w ∈ za_tt ∨ w = .isRef (.static Bundle.tN "UNASSIGNED_STACK" Bundle.steD) ∨ w = .isRef (.static Bundle.tN "SUPPRESSED_SENTINEL" Bundle.listD) ∨ w = .laysStatic Bundle.tN "UNASSIGNED_STACK" Bundle.steD ∨ w = .laysStatic Bundle.tN "SUPPRESSED_SENTINEL" Bundle.listD
set_option maxHeartbeats 2000000 in
/-- throw new E() -/
theorem zg_throw (X : za_X p s m args meth c D own cc cd fl nL ret) (hH : zt_H D.2.2 s) (hst : l.stackTraces = false) (hnx : c.exceptionTable.toList.map (fun h => (h.startPc, h.endPc, h.handlerPc, h.catchType)) = []) {ik ic : Nat} {E : String} {names : List String} (f0 : za_fe cd pc = some (.new ik, 3)) (f3 : za_fe cd (pc + 3) = some (.dup, 1)) (f4 : za_fe cd (pc + 4) = some (.invokespecial ic, 3)) (f7 : za_fe cd (pc + 7) = some (.athrow, 1)) (hE : zt_E own ik ic E names)
    (hfr : names.length + 3 < R.frames) (hlo : za_wt st + (13 * (names.length + 1) + 42) ≤ R.locals) (hce : cells + 1 ≤ R.cells) (hsl : slots + 6 ≤ R.slots) (hp : Post (.inr E) (za_ov h0 vw) (n + 1)) (hc : cells + 1 ≤ mc) (hs : slots + 6 ≤ ms) : za_W p l e R s m args below meth c D nL (zg_MQ below D Post args s mc ms) h0 n cells slots pc lv st vw := by
  intro H locs ls hR hS hl T hT X9
  obtain ⟨hx, hb, hml, hown, hts, hK, hcd, hF, hr, hlocks, hz⟩ := X
  obtain ⟨hE1, hE2, hE3, hE4, hE5⟩ := hE
  have htr : e.platform.stackTraces = false := (show e.platform.stackTraces = l.stackTraces by rw [X9.admits.platform]).trans hst
  have Y := zt_base X9 (R' := { frames := R.frames, locals := R.locals, cells := 1, slots := 6 }) (Nat.le_refl _) (Nat.le_refl _) hce hsl
  obtain ⟨s', hA⟩ : ∃ q, q = (T.setVm s.vm).setFrames (.invoking m args :: below) := ⟨_, rfl⟩
  rw [← hA] at Y
  have hvm : s'.vm = s.vm := by rw [hA]; rfl
  have hhp : s'.heap = H := by rw [hA]; exact hT
  have hW0 : s.WarmedH s'.vm := by rw [hvm]; exact State.WarmedH.refl s
  have hH' : zt_H D.2.2 s' := hH.to hW0.alike (fun a ha => by rw [hhp]; exact hS.2.1 a (Nat.lt_of_lt_of_le ha hz) (Nat.not_le.mpr ha))
  have hts' : ∀ w ∈ za_tt, w.before args s' = true := fun w hw => za_pay w hw (hts w hw) hW0
  have hown' : s'.vm.findClass own = some m.cls := by rw [hvm]; exact hown
  have hat : ∀ w ∈ Bundle.ownAtoms0 own ic E names, w.before args s' = true := by
    intro w hw
    rcases hE5 w hw with h | rfl | rfl | rfl | rfl
    · exact hts' w h
    · exact hH'.1.ref
    · exact hH'.2.1.ref
    · exact hH'.1.lays
    · exact hH'.2.1.lays
  have hins : (Cond.instantiable E 6).before args s' = true := hat _ (by simp [Bundle.ownAtoms0])
  have hnx2 : c.exceptionTable.toList = [] := List.map_eq_nil_iff.mp hnx
  obtain ⟨vm₁, cX, kX, hfX, hkX, -, -, X₁, st1⟩ := Y.newCold hx (own := own) (C := E) (index := ik) (n := 6) hown' (hts' _ hE3) hins (hts' _ hE4)
    (g := F0 m pc ls (st.map (za_cv D.2.2))) rfl (by rw [hb]; exact za_fe_ok hcd f0) (Nat.le_refl _) (Nat.le_refl _)
  generalize hT1 : (T.setVm vm₁).pushCell { cls := cX, slots := kX.instanceTypes.map defaultValue, vm := .none } = T1 at X₁ st1
  have hcat : (Value.ref T.heap.size).category = 1 := rfl
  have hcellA : T1.heap[T.heap.size]? = some (freshCell cX kX) := by rw [← hT1]; exact State.heap_pushCell_size _ _
  have d3 : decode c.code (pc + 3) = .ok (.dup, 1) := by rw [hb]; exact za_fe_ok hcd f3
  obtain ⟨U, hsteps, hrun, hend, hW, hsame, ce, hce2, hO⟩ := X₁.ctorThrow0 hx htr (own := own) (cls := E) (names := names) (ic := ic) hown' hE1 hE2 hat (fun x hx => nomatch hx) hfX hkX hcellA (by rw [hhp, hT]; exact Nat.le_refl _)
    (g := { method := m, pc := pc + 4, locals := ls, stack := .ref T.heap.size :: .ref T.heap.size :: st.map (za_cv D.2.2), locked := none }) rfl (by rw [hml]; exact hl.1) rfl rfl (rest := st.map (za_cv D.2.2)) rfl
    (by rw [hb]; exact za_fe_ok hcd f4) (by rw [hb]; exact za_fe_ok hcd f7) (fun x hx => by rw [hnx2] at hx; cases hx) hfr (by
      simp only [List.map_cons, List.sum_cons, hcat, za_wt_eq]
      show 2 * 0 + _ + _ ≤ R.locals
      omega) hlocks
  obtain ⟨f1, f2⟩ := zt_old hsame
  rw [hhp] at f1 f2
  have hWs : s.WarmedH U.vm := State.WarmedH.trans hW0 hW
  have hsz : T.heap.size = D.2.2 + n := by rw [hT]; exact hR.1
  have hall : s.sameButNew ({ U with vm := s.vm } : State) locs (cells + 1) (slots + 6) := by
    subst hA
    obtain ⟨e1, e2⟩ := hsame
    rw [State.setFrames_setFrames] at e1
    have h2 : (T.setVm s.vm).sameButNew ({ U with vm := s.vm } : State) [] (0 + 1) (0 + 6) := ⟨e1, e2⟩
    have h3 := X9.same.trans h2
    rw [List.append_nil] at h3
    exact h3
  have hUsz : U.heap.size = D.2.2 + n + 1 := by
    have h4 : U.heap.size ≤ s'.heap.size + (0 + 1) := hsame.2.2.1
    rw [hhp, hR.1] at h4
    have h5 : T.heap.size < U.heap.size := (Array.getElem?_eq_some_iff.mp hce2).1
    omega
  have hRU : za_Rp D (za_ov h0 vw) (n + 1) U.heap := hR.push hUsz (fun q hq => f2 q (by rw [hR.1]; exact hq)) (fun c9 h9 => by
    rw [hsz] at hce2
    rw [hce2] at h9
    cases h9
    exact hO.vm)
  refine ⟨U, ?_, .threw T.heap.size, hrun, hend, .inr E, za_ov h0 vw, n + 1, locs, ⟨n, ce, by rw [hsz], by rw [← hsz]; exact hce2, by have h9 := hO.cls; rw [hvm] at h9; exact h9⟩, hp, hRU, ⟨by rw [hUsz]; have := hS.1; rw [hR.1] at this; omega, fun q h1 h2 => (f2 q (Nat.lt_of_lt_of_le h1 hS.1)).trans (hS.2.1 q h1 h2)⟩, hWs, hall.mono hc hs, hS.2.2⟩
  refine st1 _ ?_
  show Steps p.tables e below (T1.setTop { method := m, pc := pc + 3, locals := ls, stack := .ref T.heap.size :: st.map (za_cv D.2.2), locked := none }) _
  jvm_step X₁.here [X₁.here.top, hx, d3, Value.category]
  exact hsteps
end ZGEND

