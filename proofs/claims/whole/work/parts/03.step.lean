/-! THE JUDGEMENT: from every heap that holds the picture, with these locals and this stack at pc, the walk comes to Q -/
def za_W (p : Program) (l : Launch) (e : Env) (R : Room) (s : State) (m : MethodId) (args : Array Value) (below : List Frame) (meth : Method) (c : Code) (D : za_D) (nL : Nat) (Q : State → Prop) (h0 : za_H) (n cells slots pc : Nat) (lv : List (Nat × za_V)) (st : List za_V) (vw : List (Nat × za_C)) : Prop :=
  ∀ (H : Heap) (locs : List Loc) (ls : Array Slot), za_Rp D (za_ov h0 vw) n H → va_S (fun q : Nat => D.2.2 ≤ q) s.heap H locs → za_lh args ls nL D.2.2 lv → W p l e R s m args below meth c H locs cells slots Q (F0 m pc ls (st.map (za_cv D.2.2)))
/-- a field of a class's table under a number of its pool: (the number, the class, the field's place) -/
def za_FL (own : String) (q : Nat × Nat × Nat) : Prop := ∃ (C : String) (T : u_T) (N : Nat), za_cl[q.2.1]? = some (C, T, N) ∧ q.2.2 < N ∧ (T q.2.2).1 = C ∧ (Cond.fieldLink own q.1 C (T q.2.2).2.1 (T q.2.2).2.2.1 ∈ za_tt ∨ ∃ host : String, Cond.fieldLinkNest own q.1 C (T q.2.2).2.1 (T q.2.2).2.2.1 host ∈ za_tt)
/-- what holds all along a walk -/
def za_X (p : Program) (s : State) (m : MethodId) (args : Array Value) (meth : Method) (c : Code) (D : za_D) (own : String) (cc : ByteArray) (cd : List (Nat × Instr × Nat)) (fl : List (Nat × Nat × Nat)) (nL : Nat) (ret : Option FieldType) : Prop :=
  p.tables.exec = Jvm.exec ∧ c.code = cc ∧ c.maxLocals = nL ∧ s.vm.findClass own = some m.cls ∧ (∀ w ∈ za_tt, w.before args s = true) ∧ va_K D.1 za_cl (za_tys D) s ∧ (∀ q ∈ cd, decode cc q.1 = .ok q.2) ∧ (∀ q ∈ fl, za_FL own q) ∧ meth.sig.returnType = ret ∧ meth.locks = false ∧ D.2.2 ≤ s.heap.size
def za_fe : List (Nat × Instr × Nat) → Nat → Option (Instr × Nat)
  | [], _ => none
  | (j, r) :: t, i => bif Nat.beq j i then some r else za_fe t i
theorem za_fe_ok {cc : ByteArray} {cd : List (Nat × Instr × Nat)} (h : ∀ q ∈ cd, decode cc q.1 = .ok q.2) {pc : Nat} {r : Instr × Nat} (hf : za_fe cd pc = some r) : decode cc pc = .ok r := by
  induction cd with
  | nil => cases hf
  | cons q t ih =>
    obtain ⟨j, w⟩ := q
    have h2 : (bif Nat.beq j pc then some w else za_fe t pc) = some r := hf
    by_cases e : j = pc
    · subst e
      rw [za_beq_rfl] at h2
      cases h2
      exact h (j, r) List.mem_cons_self
    · rw [za_beq e] at h2
      exact ih (fun q hq => h q (List.mem_cons_of_mem _ hq)) h2
def za_fk : List (Nat × Nat × Nat) → Nat → Option (Nat × Nat)
  | [], _ => none
  | (j, r) :: t, i => bif Nat.beq j i then some r else za_fk t i
theorem za_fk_mem {fl : List (Nat × Nat × Nat)} {i : Nat} {r : Nat × Nat} (h : za_fk fl i = some r) : (i, r) ∈ fl := by
  induction fl with
  | nil => cases h
  | cons q t ih =>
    obtain ⟨j, w⟩ := q
    have h2 : (bif Nat.beq j i then some w else za_fk t i) = some r := h
    by_cases e : j = i
    · subst e
      rw [za_beq_rfl] at h2
      cases h2
      exact List.mem_cons_self
    · rw [za_beq e] at h2
      exact List.mem_cons_of_mem _ (ih h2)
/-- what a field of this type takes -/
def za_okf (ty : FieldType) (v : za_V) : Bool := match ty, v with
  | .int, .inl _ => true
  | .long, .inr (.inl _) => true
  | .boolean, .inl x => x == 0 || x == 1
  | .object _, .inr (.inr _) => true
  | .array _, .inr (.inr _) => true
  | _, _ => false
theorem za_okf_ok {ty : FieldType} {v : za_V} (h : za_okf ty v = true) (z : Nat) : narrow ty (za_cv z v) = za_cv z v ∧ fits ty (za_cv z v) = true := by
  unfold za_okf at h
  split at h
  · exact ⟨rfl, rfl⟩
  · exact ⟨rfl, rfl⟩
  · rename_i x
    rw [Bool.or_eq_true, beq_iff_eq, beq_iff_eq] at h
    rcases h with rfl | rfl
    · exact ⟨(by decide : narrow .boolean (.int 0) = .int 0), (by decide : fits .boolean (.int 0) = true)⟩
    · exact ⟨(by decide : narrow .boolean (.int 1) = .int 1), (by decide : fits .boolean (.int 1) = true)⟩
  · rename_i r
    cases r <;> exact ⟨rfl, rfl⟩
  · rename_i r
    cases r <;> exact ⟨rfl, rfl⟩
  · cases h
def za_gc (fl : List (Nat × Nat × Nat)) (idx : Nat) (c : za_C) : Option za_V := match c with
  | .inr (ci, fs) => match za_fk fl idx with
    | some (cj, k) => bif Nat.beq cj ci then fs[k]? else none
    | none => none
  | .inl _ => none
theorem za_gc_ok {fl : List (Nat × Nat × Nat)} {idx : Nat} {c : za_C} {v : za_V} (h : za_gc fl idx c = some v) : ∃ (ci k : Nat) (fs : List za_V), c = .inr (ci, fs) ∧ (idx, ci, k) ∈ fl ∧ fs[k]? = some v := by
  unfold za_gc at h
  split at h
  · rename_i ci fs
    split at h
    · rename_i cj k hk
      by_cases e : cj = ci
      · subst e
        rw [za_beq_rfl] at h
        exact ⟨cj, k, fs, rfl, za_fk_mem hk, h⟩
      · rw [za_beq e] at h
        cases h
    · cases h
  · cases h
def za_pf (fl : List (Nat × Nat × Nat)) (idx : Nat) (c : za_C) (v : za_V) : Option za_C := match c with
  | .inr (ci, fs) => match za_fk fl idx with
    | some (cj, k) => bif (Nat.beq cj ci && (za_okf (za_fty ci k) v && (!(za_fin ci k) && Nat.blt k fs.length))) then some (.inr (ci, fs.set k v)) else none
    | none => none
  | .inl _ => none
theorem za_pf_ok {fl : List (Nat × Nat × Nat)} {idx : Nat} {c c' : za_C} {v : za_V} (h : za_pf fl idx c v = some c') : ∃ (ci k : Nat) (fs : List za_V), c = .inr (ci, fs) ∧ (idx, ci, k) ∈ fl ∧ za_okf (za_fty ci k) v = true ∧ za_fin ci k = false ∧ k < fs.length ∧ c' = .inr (ci, fs.set k v) := by
  unfold za_pf at h
  split at h
  · rename_i ci fs
    split at h
    · rename_i cj k hk
      cases hb : (Nat.beq cj ci && (za_okf (za_fty ci k) v && (!(za_fin ci k) && Nat.blt k fs.length))) with
      | false => rw [hb] at h; cases h
      | true =>
        rw [hb] at h
        cases h
        rw [Bool.and_eq_true, Bool.and_eq_true, Bool.and_eq_true] at hb
        obtain ⟨h1, h2, h3, h4⟩ := hb
        have e := Nat.eq_of_beq_eq_true h1
        subst e
        exact ⟨cj, k, fs, rfl, za_fk_mem hk, h2, by simpa using h3, by simpa using h4, rfl⟩
    · cases h
  · cases h

def za_ln (i : Instr) : Nat := match i with
  | .iconst _ => 1
  | .bipush _ => 2
  | .sipush _ => 3
  | .lconst _ => 1
  | .aconst_null => 1
  | .iload_n _ => 1
  | .iload _ => 2
  | .lload_n _ => 1
  | .lload _ => 2
  | .aload_n _ => 1
  | .aload _ => 2
  | .istore_n _ => 1
  | .istore _ => 2
  | .astore_n _ => 1
  | .astore _ => 2
  | .iinc _ _ => 3
  | .iadd => 1
  | .isub => 1
  | .imul => 1
  | .iand => 1
  | .ior => 1
  | .ixor => 1
  | .ishl => 1
  | .ishr => 1
  | .ineg => 1
  | .ladd => 1
  | .lsub => 1
  | .land => 1
  | .lor => 1
  | .lxor => 1
  | .lshl => 1
  | .lshr => 1
  | .lcmp => 1
  | .l2i => 1
  | .i2l => 1
  | .dup => 1
  | .pop => 1
  | .dup2 => 1
  | .dup_x1 => 1
  | .goto _ => 3
  | .getfield _ => 3
  | .putfield _ => 3
  | _ => 0
def za_s1 (fl : List (Nat × Nat × Nat)) (nL pc : Nat) (i : Instr) (lv : List (Nat × za_V)) (st : List za_V) (vw : List (Nat × za_C)) : Option (Nat × List (Nat × za_V) × List za_V × List (Nat × za_C)) := match i with
  | .iconst k0 => some (pc + 1, lv, vI (Int32.ofInt k0) :: st, vw)
  | .bipush k0 => some (pc + 2, lv, vI (Int8.ofInt k0).toInt32 :: st, vw)
  | .sipush k0 => some (pc + 3, lv, vI (Int16.ofInt k0).toInt32 :: st, vw)
  | .lconst k0 => some (pc + 1, lv, vL (Int64.ofNat k0.val) :: st, vw)
  | .aconst_null => some (pc + 1, lv, vN :: st, vw)
  | .iload_n k0 => (match za_lg lv k0.val with | some (.inl x) => some (pc + 1, lv, vI x :: st, vw) | _ => none)
  | .iload k0 => (match za_lg lv k0 with | some (.inl x) => some (pc + 2, lv, vI x :: st, vw) | _ => none)
  | .lload_n k0 => (match za_lg lv k0.val with | some (.inr (.inl x)) => some (pc + 1, lv, vL x :: st, vw) | _ => none)
  | .lload k0 => (match za_lg lv k0 with | some (.inr (.inl x)) => some (pc + 2, lv, vL x :: st, vw) | _ => none)
  | .aload_n k0 => (match za_lg lv k0.val with | some (.inr (.inr x)) => some (pc + 1, lv, .inr (.inr x) :: st, vw) | _ => none)
  | .aload k0 => (match za_lg lv k0 with | some (.inr (.inr x)) => some (pc + 2, lv, .inr (.inr x) :: st, vw) | _ => none)
  | .istore_n k0 => (match st with | .inl x :: r => bif (Nat.blt 0 k0.val && Nat.blt k0.val nL) then some (pc + 1, (k0.val, vI x) :: za_lf lv k0.val, r, vw) else none | _ => none)
  | .istore k0 => (match st with | .inl x :: r => bif (Nat.blt 0 k0 && Nat.blt k0 nL) then some (pc + 2, (k0, vI x) :: za_lf lv k0, r, vw) else none | _ => none)
  | .astore_n k0 => (match st with | .inr (.inr x) :: r => bif (Nat.blt 0 k0.val && Nat.blt k0.val nL) then some (pc + 1, (k0.val, .inr (.inr x)) :: za_lf lv k0.val, r, vw) else none | _ => none)
  | .astore k0 => (match st with | .inr (.inr x) :: r => bif (Nat.blt 0 k0 && Nat.blt k0 nL) then some (pc + 2, (k0, .inr (.inr x)) :: za_lf lv k0, r, vw) else none | _ => none)
  | .iinc k0 d0 => (match za_lg lv k0 with | some (.inl x) => bif (Nat.blt 0 k0 && Nat.blt k0 nL) then some (pc + 3, (k0, vI (x + Int32.ofInt d0)) :: za_lf lv k0, st, vw) else none | _ => none)
  | .iadd => (match st with | .inl y :: .inl x :: r => some (pc + 1, lv, vI (x + y) :: r, vw) | _ => none)
  | .isub => (match st with | .inl y :: .inl x :: r => some (pc + 1, lv, vI (x - y) :: r, vw) | _ => none)
  | .imul => (match st with | .inl y :: .inl x :: r => some (pc + 1, lv, vI (x * y) :: r, vw) | _ => none)
  | .iand => (match st with | .inl y :: .inl x :: r => some (pc + 1, lv, vI (x &&& y) :: r, vw) | _ => none)
  | .ior => (match st with | .inl y :: .inl x :: r => some (pc + 1, lv, vI (x ||| y) :: r, vw) | _ => none)
  | .ixor => (match st with | .inl y :: .inl x :: r => some (pc + 1, lv, vI (x ^^^ y) :: r, vw) | _ => none)
  | .ishl => (match st with | .inl y :: .inl x :: r => some (pc + 1, lv, vI (x <<< (y &&& 31)) :: r, vw) | _ => none)
  | .ishr => (match st with | .inl y :: .inl x :: r => some (pc + 1, lv, vI (x >>> (y &&& 31)) :: r, vw) | _ => none)
  | .ineg => (match st with | .inl x :: r => some (pc + 1, lv, vI (-x) :: r, vw) | _ => none)
  | .ladd => (match st with | .inr (.inl y) :: .inr (.inl x) :: r => some (pc + 1, lv, vL (x + y) :: r, vw) | _ => none)
  | .lsub => (match st with | .inr (.inl y) :: .inr (.inl x) :: r => some (pc + 1, lv, vL (x - y) :: r, vw) | _ => none)
  | .land => (match st with | .inr (.inl y) :: .inr (.inl x) :: r => some (pc + 1, lv, vL (x &&& y) :: r, vw) | _ => none)
  | .lor => (match st with | .inr (.inl y) :: .inr (.inl x) :: r => some (pc + 1, lv, vL (x ||| y) :: r, vw) | _ => none)
  | .lxor => (match st with | .inr (.inl y) :: .inr (.inl x) :: r => some (pc + 1, lv, vL (x ^^^ y) :: r, vw) | _ => none)
  | .lshl => (match st with | .inl y :: .inr (.inl x) :: r => some (pc + 1, lv, vL (x <<< (y.toInt64 &&& 63)) :: r, vw) | _ => none)
  | .lshr => (match st with | .inl y :: .inr (.inl x) :: r => some (pc + 1, lv, vL (x >>> (y.toInt64 &&& 63)) :: r, vw) | _ => none)
  | .lcmp => (match st with | .inr (.inl y) :: .inr (.inl x) :: r => some (pc + 1, lv, vI (lg_cmp x y) :: r, vw) | _ => none)
  | .l2i => (match st with | .inr (.inl x) :: r => some (pc + 1, lv, vI x.toInt32 :: r, vw) | _ => none)
  | .i2l => (match st with | .inl x :: r => some (pc + 1, lv, vL x.toInt64 :: r, vw) | _ => none)
  | .dup => (match st with | x :: r => bif za_c2 x then none else some (pc + 1, lv, x :: x :: r, vw) | _ => none)
  | .pop => (match st with | x :: r => bif za_c2 x then none else some (pc + 1, lv, r, vw) | _ => none)
  | .dup2 => (match st with | x :: y :: r => bif (za_c2 x || za_c2 y) then none else some (pc + 1, lv, x :: y :: x :: y :: r, vw) | _ => none)
  | .dup_x1 => (match st with | x :: y :: r => bif (za_c2 x || za_c2 y) then none else some (pc + 1, lv, x :: y :: x :: r, vw) | _ => none)
  | .goto d0 => (match (pc : Int) + d0 with | .ofNat t => some (t, lv, st, vw) | _ => none)
  | .getfield k0 => (match st with | .inr (.inr (some i)) :: r => (match za_vg vw i with | some cl => (match za_gc fl k0 cl with | some v => some (pc + 3, lv, v :: r, vw) | none => none) | none => none) | _ => none)
  | .putfield k0 => (match st with | v :: .inr (.inr (some i)) :: r => (match za_vg vw i with | some cl => (match za_pf fl k0 cl v with | some cl' => some (pc + 3, lv, r, za_vs vw i cl') | none => none) | none => none) | _ => none)
  | _ => none
section ZAROWS
variable {p : Program} {l : Launch} {e : Env} {R : Room} {s : State} {m : MethodId} {args : Array Value} {below : List Frame} {meth : Method} {c : Code} {D : za_D} {nL : Nat} {Q : State → Prop} {h0 : za_H} {n cells slots pc : Nat} {lv : List (Nat × za_V)} {st : List za_V} {vw : List (Nat × za_C)} {own : String} {cc : ByteArray} {cd : List (Nat × Instr × Nat)} {fl : List (Nat × Nat × Nat)} {ret : Option FieldType}
theorem za_P1 {D : va_G} {cl : List vw_C} {q : Nat × va_E} {H : Heap} (h : va_at D cl q H) : va_P D cl [q] H := by
  intro k x hx
  have hz : k < 1 := (List.getElem?_eq_some_iff.mp hx).1
  rw [show k = 0 by omega] at hx
  cases hx
  exact h
theorem za_getW (X : za_X p s m args meth c D own cc cd fl nL ret) {h : za_H} {H : Heap} {locs : List Loc} {ls : Array Slot} {rest : List Value} (hR : za_Rp D h n H) {i ci k idx : Nat} {fs : List za_V} {v : za_V} (hi : h i = some (.inr (ci, fs))) (hfl : (idx, ci, k) ∈ fl) (hv : fs[k]? = some v) (hd : decode cc pc = .ok (.getfield idx, 3))
    (kk : W p l e R s m args below meth c H locs cells slots Q (F0 m (pc + 3) ls (za_cv D.2.2 v :: rest))) : W p l e R s m args below meth c H locs cells slots Q (F0 m pc ls (.ref (D.2.2 + i) :: rest)) := by
  obtain ⟨hx, hb, hml, hown, hts, hK, hcd, hF, hr, hlocks, hz⟩ := X
  obtain ⟨C, T, N, hc, hk, hC, hlk⟩ := hF _ hfl
  have hok := za_cok _ _ _ _ hc
  have hP : va_P D.1 za_cl [(D.2.2 + i, .inr (ci, fs.map (za_cv D.2.2)))] H := za_P1 (hR.2.1 i _ hi)
  have hv' : (fs.map (za_cv D.2.2))[k]? = some (za_cv D.2.2 v) := by rw [List.getElem?_map, hv]; rfl
  rcases hlk with hlk | ⟨host, hlk⟩
  · exact va_get (ref := C) hx hb hts hok.1 hown hK hP 0 rfl hc k hk (hts _ hlk) (fun x h => by rw [hC] at h; exact h) hv' hd kk
  · exact va_getN (ref := C) hx hb hts hok.1 hown hK hP 0 rfl hc k hk (hts _ hlk) (fun x h => by rw [hC] at h; exact h) hv' hd kk
theorem za_putW (X : za_X p s m args meth c D own cc cd fl nL ret) {h : za_H} {H : Heap} {locs : List Loc} {ls : Array Slot} {rest : List Value} (hR : za_Rp D h n H) (hS : va_S (fun q : Nat => D.2.2 ≤ q) s.heap H locs) {i ci k idx : Nat} {fs : List za_V} {v : za_V} (hi : h i = some (.inr (ci, fs))) (hfl : (idx, ci, k) ∈ fl) (hv : za_okf (za_fty ci k) v = true) (hfin : za_fin ci k = false) (hl : k < fs.length) (hd : decode cc pc = .ok (.putfield idx, 3))
    (kk : ∀ (H1 : Heap) (locs1 : List Loc), za_Rp D (za_set h i (.inr (ci, fs.set k v))) n H1 → va_S (fun q : Nat => D.2.2 ≤ q) s.heap H1 locs1 → W p l e R s m args below meth c H1 locs1 cells slots Q (F0 m (pc + 3) ls rest)) : W p l e R s m args below meth c H locs cells slots Q (F0 m pc ls (za_cv D.2.2 v :: .ref (D.2.2 + i) :: rest)) := by
  obtain ⟨hx, hb, hml, hown, hts, hK, hcd, hF, hr, hlocks, hz⟩ := X
  obtain ⟨C, T, N, hc, hk, hC, hlk⟩ := hF _ hfl
  dsimp only at hc hk hC hlk
  obtain ⟨hin, hty, hnm, hfn⟩ := za_cok _ _ _ _ hc
  have hap := va_apart (own := own) hts hin (za_fty ci) hty hnm hK hc
  have hat : ∃ r : vw_C, za_cl[ci]? = some r ∧ t_OB (D.2.2 + i) (D.1.1 ci) r.2.2 (D.1.2 ci) H (vp_V (fs.map (za_cv D.2.2))) := hR.2.1 i _ hi
  obtain ⟨r, h1, cell, q1, q2, q3, q4⟩ := hat
  have hr' : r = (C, T, N) := Option.some.inj (h1.symm.trans hc)
  subst hr'
  obtain ⟨hSl, hfc, kC, hkC, hkind⟩ := hK.1 ci _ hc
  obtain ⟨cf, kf, fi, f, hif, hsl⟩ := hSl k hk
  have hlay := hts _ (hin _ (u_in_lay hk))
  unfold u_lay at hlay
  rw [if_neg (by rw [hfn k hk, hfin]; decide)] at hlay
  have hst := (u_facts hfc hkC (u_lays hts hin hk) hif).1
  obtain ⟨hn1, hn2⟩ := za_okf_ok hv D.2.2
  have h6 := u_store hfc hkC hkind hlay hif (hty k hk) hn1 hn2
  have hif' : s.fieldFound? C (T k).2.1 (T k).2.2.1 = some (cf, kf, fi, f) := by rw [hC] at hif; exact hif
  have hl' : k < (fs.map (za_cv D.2.2)).length := by rw [List.length_map]; exact hl
  have fin : ∀ H' : Heap, H'[D.2.2 + i]? = some (cell.setSlot f.slot (za_cv D.2.2 v)) → H'.size = H.size → (∀ q, q ≠ D.2.2 + i → H'[q]? = H[q]?) → W p l e R s m args below meth c H' (locs ++ [⟨D.2.2 + i, f.slot⟩]) cells slots Q (F0 m (pc + 3) ls rest) := by
    intro H' e1 e2 e3
    rw [hsl] at e1
    refine kk H' _ (hR.set e2 ?_ e3) (hS.put e2 e3 (Nat.le_add_right _ _))
    have g : t_OB (D.2.2 + i) (D.1.1 ci) N (D.1.2 ci) H' (vp_V ((fs.set k v).map (za_cv D.2.2))) := by
      rw [List.map_set]
      exact t_OB.to (V := updV (vp_V (fs.map (za_cv D.2.2))) k (za_cv D.2.2 v)) ⟨_, e1, q2, q3, t_set q4 hap hk (za_cv D.2.2 v)⟩ (fun j _ => vp_updV_set hl' (za_cv D.2.2 v) j)
    exact ⟨_, hc, g⟩
  rcases hlk with hlk | ⟨host, hlk⟩
  · exact W.putK hx hb (f := f) ⟨hown, hts _ hlk, ⟨_, _, _, hif'⟩, hst⟩ (by rw [q2]; exact h6) q1 q3 (by rw [hsl]; exact k2_hasslot (q4 k hk)) rfl rfl hd fin
  · exact va_WputK hx hb (f := f) hown (hts _ hlk) hif' hst (by rw [q2]; exact h6) q1 q3 (by rw [hsl]; exact k2_hasslot (q4 k hk)) rfl rfl hd fin
end ZAROWS

set_option maxHeartbeats 4000000 in
set_option maxRecDepth 100000 in
/-- ONE STEP of the plain instructions -/
theorem za_step {p : Program} {l : Launch} {e : Env} {R : Room} {s : State} {m : MethodId} {args : Array Value} {below : List Frame} {meth : Method} {c : Code} {D : za_D} {nL : Nat} {Q : State → Prop} {h0 : za_H} {n cells slots pc : Nat} {lv : List (Nat × za_V)} {st : List za_V} {vw : List (Nat × za_C)} {own : String} {cc : ByteArray} {cd : List (Nat × Instr × Nat)} {fl : List (Nat × Nat × Nat)} {ret : Option FieldType} (X : za_X p s m args meth c D own cc cd fl nL ret) {i : Instr} {len : Nat} (hf : za_fe cd pc = some (i, len)) (hln : Nat.beq len (za_ln i) = true) {pc' : Nat} {lv' : List (Nat × za_V)} {st' : List za_V} {vw' : List (Nat × za_C)} (hs : za_s1 fl nL pc i lv st vw = some (pc', lv', st', vw'))
    (k : za_W p l e R s m args below meth c D nL Q h0 n cells slots pc' lv' st' vw') : za_W p l e R s m args below meth c D nL Q h0 n cells slots pc lv st vw := by
  intro H locs ls hR hS hl
  obtain ⟨hx, hb, hml, hown, hts, hK, hcd, hF, hr, hlocks, hz⟩ := id X
  have hd := za_fe_ok hcd hf
  have hle := Nat.eq_of_beq_eq_true hln
  subst hle
  cases i with
  | iconst k0 =>
    have hs2 : some (pc + 1, lv, vI (Int32.ofInt k0) :: st, vw) = some (pc', lv', st', vw') := hs
    cases hs2
    exact lv_iconst hx hb hd rfl (k H locs ls hR hS hl)
  | bipush k0 =>
    have hs2 : some (pc + 2, lv, vI (Int8.ofInt k0).toInt32 :: st, vw) = some (pc', lv', st', vw') := hs
    cases hs2
    exact lv_bipush hx hb hd rfl (k H locs ls hR hS hl)
  | sipush k0 =>
    have hs2 : some (pc + 3, lv, vI (Int16.ofInt k0).toInt32 :: st, vw) = some (pc', lv', st', vw') := hs
    cases hs2
    exact lv_sipush hx hb hd rfl (k H locs ls hR hS hl)
  | lconst k0 =>
    have hs2 : some (pc + 1, lv, vL (Int64.ofNat k0.val) :: st, vw) = some (pc', lv', st', vw') := hs
    cases hs2
    exact lv_lconst hx hb hd rfl (k H locs ls hR hS hl)
  | aconst_null =>
    have hs2 : some (pc + 1, lv, vN :: st, vw) = some (pc', lv', st', vw') := hs
    cases hs2
    exact lv_null hx hb hd (k H locs ls hR hS hl)
  | iload_n k0 =>
    have hs2 : (match (generalizing := false) za_lg lv k0.val with | some (.inl x) => some (pc + 1, lv, vI x :: st, vw) | _ => none) = some (pc', lv', st', vw') := hs
    split at hs2
    · rename_i x he
      cases hs2
      exact lv_iload_n hx hb hd rfl (za_lm_at hl he) (k H locs ls hR hS hl)
    · cases hs2
  | iload k0 =>
    have hs2 : (match (generalizing := false) za_lg lv k0 with | some (.inl x) => some (pc + 2, lv, vI x :: st, vw) | _ => none) = some (pc', lv', st', vw') := hs
    split at hs2
    · rename_i x he
      cases hs2
      exact lv_iload hx hb hd (za_lm_at hl he) (k H locs ls hR hS hl)
    · cases hs2
  | lload_n k0 =>
    have hs2 : (match (generalizing := false) za_lg lv k0.val with | some (.inr (.inl x)) => some (pc + 1, lv, vL x :: st, vw) | _ => none) = some (pc', lv', st', vw') := hs
    split at hs2
    · rename_i x he
      cases hs2
      exact lv_lload_n hx hb hd rfl (za_lm_at hl he) (k H locs ls hR hS hl)
    · cases hs2
  | lload k0 =>
    have hs2 : (match (generalizing := false) za_lg lv k0 with | some (.inr (.inl x)) => some (pc + 2, lv, vL x :: st, vw) | _ => none) = some (pc', lv', st', vw') := hs
    split at hs2
    · rename_i x he
      cases hs2
      exact lv_lload hx hb hd (za_lm_at hl he) (k H locs ls hR hS hl)
    · cases hs2
  | aload_n k0 =>
    have hs2 : (match (generalizing := false) za_lg lv k0.val with | some (.inr (.inr x)) => some (pc + 1, lv, .inr (.inr x) :: st, vw) | _ => none) = some (pc', lv', st', vw') := hs
    split at hs2
    · rename_i x he
      cases hs2
      rcases x with _ | x
      · exact lv_aload_nN hx hb hd rfl (za_lm_at hl he) (k H locs ls hR hS hl)
      · exact lv_aload_n hx hb hd rfl (za_lm_at hl he) (k H locs ls hR hS hl)
    · cases hs2
  | aload k0 =>
    have hs2 : (match (generalizing := false) za_lg lv k0 with | some (.inr (.inr x)) => some (pc + 2, lv, .inr (.inr x) :: st, vw) | _ => none) = some (pc', lv', st', vw') := hs
    split at hs2
    · rename_i x he
      cases hs2
      rcases x with _ | x
      · exact lv_aloadN hx hb hd (za_lm_at hl he) (k H locs ls hR hS hl)
      · exact lv_aload hx hb hd (za_lm_at hl he) (k H locs ls hR hS hl)
    · cases hs2
  | istore_n k0 =>
    have hs2 : (match (generalizing := false) st with | .inl x :: r => bif (Nat.blt 0 k0.val && Nat.blt k0.val nL) then some (pc + 1, (k0.val, vI x) :: za_lf lv k0.val, r, vw) else none | _ => none) = some (pc', lv', st', vw') := hs
    split at hs2
    · rename_i x r
      cases hbn : (Nat.blt 0 k0.val && Nat.blt k0.val nL) with
      | false => rw [hbn] at hs2; cases hs2
      | true =>
        rw [hbn] at hs2
        cases hs2
        have hn0 : 0 < k0.val ∧ k0.val < nL := by simpa using hbn
        have hn := hn0.2
        exact lv_istore_n hx hb hd rfl hl hn rfl (fun ls' hl' => k H locs ls' hR hS (za_lh_sub hl' (za_lm_st hn0.1)))
    · cases hs2
  | istore k0 =>
    have hs2 : (match (generalizing := false) st with | .inl x :: r => bif (Nat.blt 0 k0 && Nat.blt k0 nL) then some (pc + 2, (k0, vI x) :: za_lf lv k0, r, vw) else none | _ => none) = some (pc', lv', st', vw') := hs
    split at hs2
    · rename_i x r
      cases hbn : (Nat.blt 0 k0 && Nat.blt k0 nL) with
      | false => rw [hbn] at hs2; cases hs2
      | true =>
        rw [hbn] at hs2
        cases hs2
        have hn0 : 0 < k0 ∧ k0 < nL := by simpa using hbn
        have hn := hn0.2
        exact lv_istore hx hb hd hl hn rfl (fun ls' hl' => k H locs ls' hR hS (za_lh_sub hl' (za_lm_st hn0.1)))
    · cases hs2
  | astore_n k0 =>
    have hs2 : (match (generalizing := false) st with | .inr (.inr x) :: r => bif (Nat.blt 0 k0.val && Nat.blt k0.val nL) then some (pc + 1, (k0.val, .inr (.inr x)) :: za_lf lv k0.val, r, vw) else none | _ => none) = some (pc', lv', st', vw') := hs
    split at hs2
    · rename_i x r
      cases hbn : (Nat.blt 0 k0.val && Nat.blt k0.val nL) with
      | false => rw [hbn] at hs2; cases hs2
      | true =>
        rw [hbn] at hs2
        cases hs2
        have hn0 : 0 < k0.val ∧ k0.val < nL := by simpa using hbn
        have hn := hn0.2
        rcases x with _ | x
        · exact lv_astore_nN hx hb hd rfl hl hn rfl (fun ls' hl' => k H locs ls' hR hS (za_lh_sub hl' (za_lm_st hn0.1)))
        · exact lv_astore_n hx hb hd rfl hl hn rfl (fun ls' hl' => k H locs ls' hR hS (za_lh_sub hl' (za_lm_st hn0.1)))
    · cases hs2
  | astore k0 =>
    have hs2 : (match (generalizing := false) st with | .inr (.inr x) :: r => bif (Nat.blt 0 k0 && Nat.blt k0 nL) then some (pc + 2, (k0, .inr (.inr x)) :: za_lf lv k0, r, vw) else none | _ => none) = some (pc', lv', st', vw') := hs
    split at hs2
    · rename_i x r
      cases hbn : (Nat.blt 0 k0 && Nat.blt k0 nL) with
      | false => rw [hbn] at hs2; cases hs2
      | true =>
        rw [hbn] at hs2
        cases hs2
        have hn0 : 0 < k0 ∧ k0 < nL := by simpa using hbn
        have hn := hn0.2
        rcases x with _ | x
        · exact lv_astoreN hx hb hd hl hn rfl (fun ls' hl' => k H locs ls' hR hS (za_lh_sub hl' (za_lm_st hn0.1)))
        · exact lv_astore hx hb hd hl hn rfl (fun ls' hl' => k H locs ls' hR hS (za_lh_sub hl' (za_lm_st hn0.1)))
    · cases hs2
  | iinc k0 d0 =>
    have hs2 : (match (generalizing := false) za_lg lv k0 with | some (.inl x) => bif (Nat.blt 0 k0 && Nat.blt k0 nL) then some (pc + 3, (k0, vI (x + Int32.ofInt d0)) :: za_lf lv k0, st, vw) else none | _ => none) = some (pc', lv', st', vw') := hs
    split at hs2
    · rename_i x he
      cases hbn : (Nat.blt 0 k0 && Nat.blt k0 nL) with
      | false => rw [hbn] at hs2; cases hs2
      | true =>
        rw [hbn] at hs2
        cases hs2
        have hn0 : 0 < k0 ∧ k0 < nL := by simpa using hbn
        have hn := hn0.2
        obtain ⟨j, hj⟩ := List.getElem?_of_mem (show (k0, Value.int x) ∈ za_lx args D.2.2 ++ za_lm D.2.2 lv from List.mem_append_right _ (List.mem_map.mpr ⟨(k0, vI x), za_lg_mem he, rfl⟩))
        exact lv_iinc hx hb hd hl hj rfl hn rfl (fun ls' hl' => k H locs ls' hR hS (za_lh_sub hl' (za_lm_st hn0.1)))
    · cases hs2
  | iadd =>
    have hs2 : (match (generalizing := false) st with | .inl y :: .inl x :: r => some (pc + 1, lv, vI (x + y) :: r, vw) | _ => none) = some (pc', lv', st', vw') := hs
    split at hs2
    · rename_i y x r
      cases hs2
      exact lv_iadd hx hb hd (k H locs ls hR hS hl)
    · cases hs2
  | isub =>
    have hs2 : (match (generalizing := false) st with | .inl y :: .inl x :: r => some (pc + 1, lv, vI (x - y) :: r, vw) | _ => none) = some (pc', lv', st', vw') := hs
    split at hs2
    · rename_i y x r
      cases hs2
      exact lv_isub hx hb hd (k H locs ls hR hS hl)
    · cases hs2
  | imul =>
    have hs2 : (match (generalizing := false) st with | .inl y :: .inl x :: r => some (pc + 1, lv, vI (x * y) :: r, vw) | _ => none) = some (pc', lv', st', vw') := hs
    split at hs2
    · rename_i y x r
      cases hs2
      exact lv_imul hx hb hd (k H locs ls hR hS hl)
    · cases hs2
  | iand =>
    have hs2 : (match (generalizing := false) st with | .inl y :: .inl x :: r => some (pc + 1, lv, vI (x &&& y) :: r, vw) | _ => none) = some (pc', lv', st', vw') := hs
    split at hs2
    · rename_i y x r
      cases hs2
      exact lv_iand hx hb hd (k H locs ls hR hS hl)
    · cases hs2
  | ior =>
    have hs2 : (match (generalizing := false) st with | .inl y :: .inl x :: r => some (pc + 1, lv, vI (x ||| y) :: r, vw) | _ => none) = some (pc', lv', st', vw') := hs
    split at hs2
    · rename_i y x r
      cases hs2
      exact lv_ior hx hb hd (k H locs ls hR hS hl)
    · cases hs2
  | ixor =>
    have hs2 : (match (generalizing := false) st with | .inl y :: .inl x :: r => some (pc + 1, lv, vI (x ^^^ y) :: r, vw) | _ => none) = some (pc', lv', st', vw') := hs
    split at hs2
    · rename_i y x r
      cases hs2
      exact lv_ixor hx hb hd (k H locs ls hR hS hl)
    · cases hs2
  | ishl =>
    have hs2 : (match (generalizing := false) st with | .inl y :: .inl x :: r => some (pc + 1, lv, vI (x <<< (y &&& 31)) :: r, vw) | _ => none) = some (pc', lv', st', vw') := hs
    split at hs2
    · rename_i y x r
      cases hs2
      exact lv_ishl hx hb hd (k H locs ls hR hS hl)
    · cases hs2
  | ishr =>
    have hs2 : (match (generalizing := false) st with | .inl y :: .inl x :: r => some (pc + 1, lv, vI (x >>> (y &&& 31)) :: r, vw) | _ => none) = some (pc', lv', st', vw') := hs
    split at hs2
    · rename_i y x r
      cases hs2
      exact lv_ishr hx hb hd (k H locs ls hR hS hl)
    · cases hs2
  | ineg =>
    have hs2 : (match (generalizing := false) st with | .inl x :: r => some (pc + 1, lv, vI (-x) :: r, vw) | _ => none) = some (pc', lv', st', vw') := hs
    split at hs2
    · rename_i x r
      cases hs2
      exact lv_ineg hx hb hd (k H locs ls hR hS hl)
    · cases hs2
  | ladd =>
    have hs2 : (match (generalizing := false) st with | .inr (.inl y) :: .inr (.inl x) :: r => some (pc + 1, lv, vL (x + y) :: r, vw) | _ => none) = some (pc', lv', st', vw') := hs
    split at hs2
    · rename_i y x r
      cases hs2
      exact lv_ladd hx hb hd (k H locs ls hR hS hl)
    · cases hs2
  | lsub =>
    have hs2 : (match (generalizing := false) st with | .inr (.inl y) :: .inr (.inl x) :: r => some (pc + 1, lv, vL (x - y) :: r, vw) | _ => none) = some (pc', lv', st', vw') := hs
    split at hs2
    · rename_i y x r
      cases hs2
      exact lv_lsub hx hb hd (k H locs ls hR hS hl)
    · cases hs2
  | land =>
    have hs2 : (match (generalizing := false) st with | .inr (.inl y) :: .inr (.inl x) :: r => some (pc + 1, lv, vL (x &&& y) :: r, vw) | _ => none) = some (pc', lv', st', vw') := hs
    split at hs2
    · rename_i y x r
      cases hs2
      exact lv_land hx hb hd (k H locs ls hR hS hl)
    · cases hs2
  | lor =>
    have hs2 : (match (generalizing := false) st with | .inr (.inl y) :: .inr (.inl x) :: r => some (pc + 1, lv, vL (x ||| y) :: r, vw) | _ => none) = some (pc', lv', st', vw') := hs
    split at hs2
    · rename_i y x r
      cases hs2
      exact lv_lor hx hb hd (k H locs ls hR hS hl)
    · cases hs2
  | lxor =>
    have hs2 : (match (generalizing := false) st with | .inr (.inl y) :: .inr (.inl x) :: r => some (pc + 1, lv, vL (x ^^^ y) :: r, vw) | _ => none) = some (pc', lv', st', vw') := hs
    split at hs2
    · rename_i y x r
      cases hs2
      exact lv_lxor hx hb hd (k H locs ls hR hS hl)
    · cases hs2
  | lshl =>
    have hs2 : (match (generalizing := false) st with | .inl y :: .inr (.inl x) :: r => some (pc + 1, lv, vL (x <<< (y.toInt64 &&& 63)) :: r, vw) | _ => none) = some (pc', lv', st', vw') := hs
    split at hs2
    · rename_i y x r
      cases hs2
      exact lv_lshl hx hb hd rfl (k H locs ls hR hS hl)
    · cases hs2
  | lshr =>
    have hs2 : (match (generalizing := false) st with | .inl y :: .inr (.inl x) :: r => some (pc + 1, lv, vL (x >>> (y.toInt64 &&& 63)) :: r, vw) | _ => none) = some (pc', lv', st', vw') := hs
    split at hs2
    · rename_i y x r
      cases hs2
      exact lv_lshr hx hb hd rfl (k H locs ls hR hS hl)
    · cases hs2
  | lcmp =>
    have hs2 : (match (generalizing := false) st with | .inr (.inl y) :: .inr (.inl x) :: r => some (pc + 1, lv, vI (lg_cmp x y) :: r, vw) | _ => none) = some (pc', lv', st', vw') := hs
    split at hs2
    · rename_i y x r
      cases hs2
      exact W.lcmp hx hb hd (k H locs ls hR hS hl)
    · cases hs2
  | l2i =>
    have hs2 : (match (generalizing := false) st with | .inr (.inl x) :: r => some (pc + 1, lv, vI x.toInt32 :: r, vw) | _ => none) = some (pc', lv', st', vw') := hs
    split at hs2
    · rename_i x r
      cases hs2
      exact lv_l2i hx hb hd rfl (k H locs ls hR hS hl)
    · cases hs2
  | i2l =>
    have hs2 : (match (generalizing := false) st with | .inl x :: r => some (pc + 1, lv, vL x.toInt64 :: r, vw) | _ => none) = some (pc', lv', st', vw') := hs
    split at hs2
    · rename_i x r
      cases hs2
      exact lv_i2l hx hb hd rfl (k H locs ls hR hS hl)
    · cases hs2
  | dup =>
    have hs2 : (match (generalizing := false) st with | x :: r => bif za_c2 x then none else some (pc + 1, lv, x :: x :: r, vw) | _ => none) = some (pc', lv', st', vw') := hs
    split at hs2
    · rename_i x r
      cases hc : za_c2 x with
      | true => rw [hc] at hs2; cases hs2
      | false =>
        rw [hc] at hs2
        cases hs2
        exact lv_dup hx hb hd (za_cat1 hc) (k H locs ls hR hS hl)
    · cases hs2
  | pop =>
    have hs2 : (match (generalizing := false) st with | x :: r => bif za_c2 x then none else some (pc + 1, lv, r, vw) | _ => none) = some (pc', lv', st', vw') := hs
    split at hs2
    · rename_i x r
      cases hc : za_c2 x with
      | true => rw [hc] at hs2; cases hs2
      | false =>
        rw [hc] at hs2
        cases hs2
        exact lv_pop hx hb hd (za_cat1 hc) (k H locs ls hR hS hl)
    · cases hs2
  | dup2 =>
    have hs2 : (match (generalizing := false) st with | x :: y :: r => bif (za_c2 x || za_c2 y) then none else some (pc + 1, lv, x :: y :: x :: y :: r, vw) | _ => none) = some (pc', lv', st', vw') := hs
    split at hs2
    · rename_i x y r
      cases hc : (za_c2 x || za_c2 y) with
      | true => rw [hc] at hs2; cases hs2
      | false =>
        rw [hc] at hs2
        cases hs2
        rw [Bool.or_eq_false_iff] at hc
        exact lv_dup2_11 hx hb hd (za_cat1 hc.1) (za_cat1 hc.2) (k H locs ls hR hS hl)
    · cases hs2
  | dup_x1 =>
    have hs2 : (match (generalizing := false) st with | x :: y :: r => bif (za_c2 x || za_c2 y) then none else some (pc + 1, lv, x :: y :: x :: r, vw) | _ => none) = some (pc', lv', st', vw') := hs
    split at hs2
    · rename_i x y r
      cases hc : (za_c2 x || za_c2 y) with
      | true => rw [hc] at hs2; cases hs2
      | false =>
        rw [hc] at hs2
        cases hs2
        rw [Bool.or_eq_false_iff] at hc
        exact lv_dup_x1 hx hb hd (za_cat1 hc.1) (za_cat1 hc.2) (k H locs ls hR hS hl)
    · cases hs2
  | goto d0 =>
    have hs2 : (match (generalizing := false) (pc : Int) + d0 with | .ofNat t => some (t, lv, st, vw) | _ => none) = some (pc', lv', st', vw') := hs
    split at hs2
    · rename_i t he
      cases hs2
      exact lv_goto hx hb hd he (k H locs ls hR hS hl)
    · cases hs2
  | getfield k0 =>
    have hs2 : (match (generalizing := false) st with | .inr (.inr (some i)) :: r => (match (generalizing := false) za_vg vw i with | some cl => (match (generalizing := false) za_gc fl k0 cl with | some v => some (pc + 3, lv, v :: r, vw) | none => none) | none => none) | _ => none) = some (pc', lv', st', vw') := hs
    split at hs2
    · rename_i j r
      split at hs2
      · rename_i cl hcl
        split at hs2
        · rename_i v hv
          cases hs2
          obtain ⟨ci, k1, fs, rfl, h1, h2⟩ := za_gc_ok hv
          exact za_getW X hR (za_ov_at hcl) h1 h2 hd (k H locs ls hR hS hl)
        · cases hs2
      · cases hs2
    · cases hs2
  | putfield k0 =>
    have hs2 : (match (generalizing := false) st with | v :: .inr (.inr (some i)) :: r => (match (generalizing := false) za_vg vw i with | some cl => (match (generalizing := false) za_pf fl k0 cl v with | some cl' => some (pc + 3, lv, r, za_vs vw i cl') | none => none) | none => none) | _ => none) = some (pc', lv', st', vw') := hs
    split at hs2
    · rename_i v j r
      split at hs2
      · rename_i cl hcl
        split at hs2
        · rename_i cl' hv
          cases hs2
          obtain ⟨ci, k1, fs, rfl, h1, h2, h3, h4, rfl⟩ := za_pf_ok hv
          exact za_putW X hR hS (za_ov_at hcl) h1 h2 h3 h4 hd (fun H1 locs1 hR1 hS1 => k H1 locs1 ls (by rw [za_ov_vs]; exact hR1) hS1 hl)
        · cases hs2
      · cases hs2
    · cases hs2
  | _ => cases hs
section ZABR
variable {p : Program} {l : Launch} {e : Env} {R : Room} {s : State} {m : MethodId} {args : Array Value} {below : List Frame} {meth : Method} {c : Code} {D : za_D} {nL : Nat} {Q : State → Prop} {h0 : za_H} {n cells slots pc : Nat} {lv : List (Nat × za_V)} {st : List za_V} {vw : List (Nat × za_C)} {own : String} {cc : ByteArray} {cd : List (Nat × Instr × Nat)} {fl : List (Nat × Nat × Nat)} {ret : Option FieldType}
theorem za_ifeq (X : za_X p s m args meth c D own cc cd fl nL ret) {x : Int32} {off : Int} (tgt : Nat) (hf : za_fe cd pc = some (.ifCond .eq off, 3)) (ht : (pc : Int) + off = (tgt : Int)) (kt : x = 0 → za_W p l e R s m args below meth c D nL Q h0 n cells slots tgt lv st vw) (kf : ¬ (x = 0) → za_W p l e R s m args below meth c D nL Q h0 n cells slots (pc + 3) lv st vw) : za_W p l e R s m args below meth c D nL Q h0 n cells slots pc lv (.inl x :: st) vw := by
  intro H locs ls hR hS hl
  exact lv_if_eq X.1 X.2.1 (za_fe_ok X.2.2.2.2.2.2.1 hf) ht (fun q => kt (by first | exact q | simpa using q) H locs ls hR hS hl) (fun q => kf (by first | exact q | simpa using q) H locs ls hR hS hl)
theorem za_ifne (X : za_X p s m args meth c D own cc cd fl nL ret) {x : Int32} {off : Int} (tgt : Nat) (hf : za_fe cd pc = some (.ifCond .ne off, 3)) (ht : (pc : Int) + off = (tgt : Int)) (kt : ¬ x = 0 → za_W p l e R s m args below meth c D nL Q h0 n cells slots tgt lv st vw) (kf : x = 0 → za_W p l e R s m args below meth c D nL Q h0 n cells slots (pc + 3) lv st vw) : za_W p l e R s m args below meth c D nL Q h0 n cells slots pc lv (.inl x :: st) vw := by
  intro H locs ls hR hS hl
  exact lv_if_ne X.1 X.2.1 (za_fe_ok X.2.2.2.2.2.2.1 hf) ht (fun q => kt (by first | exact q | simpa using q) H locs ls hR hS hl) (fun q => kf (by first | exact q | simpa using q) H locs ls hR hS hl)
theorem za_iflt (X : za_X p s m args meth c D own cc cd fl nL ret) {x : Int32} {off : Int} (tgt : Nat) (hf : za_fe cd pc = some (.ifCond .lt off, 3)) (ht : (pc : Int) + off = (tgt : Int)) (kt : x < 0 → za_W p l e R s m args below meth c D nL Q h0 n cells slots tgt lv st vw) (kf : ¬ (x < 0) → za_W p l e R s m args below meth c D nL Q h0 n cells slots (pc + 3) lv st vw) : za_W p l e R s m args below meth c D nL Q h0 n cells slots pc lv (.inl x :: st) vw := by
  intro H locs ls hR hS hl
  exact lv_if_lt X.1 X.2.1 (za_fe_ok X.2.2.2.2.2.2.1 hf) ht (fun q => kt (by first | exact q | simpa using q) H locs ls hR hS hl) (fun q => kf (by first | exact q | simpa using q) H locs ls hR hS hl)
theorem za_ifge (X : za_X p s m args meth c D own cc cd fl nL ret) {x : Int32} {off : Int} (tgt : Nat) (hf : za_fe cd pc = some (.ifCond .ge off, 3)) (ht : (pc : Int) + off = (tgt : Int)) (kt : 0 ≤ x → za_W p l e R s m args below meth c D nL Q h0 n cells slots tgt lv st vw) (kf : ¬ (0 ≤ x) → za_W p l e R s m args below meth c D nL Q h0 n cells slots (pc + 3) lv st vw) : za_W p l e R s m args below meth c D nL Q h0 n cells slots pc lv (.inl x :: st) vw := by
  intro H locs ls hR hS hl
  exact lv_if_ge X.1 X.2.1 (za_fe_ok X.2.2.2.2.2.2.1 hf) ht (fun q => kt (by first | exact q | simpa using q) H locs ls hR hS hl) (fun q => kf (by first | exact q | simpa using q) H locs ls hR hS hl)
theorem za_ifgt (X : za_X p s m args meth c D own cc cd fl nL ret) {x : Int32} {off : Int} (tgt : Nat) (hf : za_fe cd pc = some (.ifCond .gt off, 3)) (ht : (pc : Int) + off = (tgt : Int)) (kt : 0 < x → za_W p l e R s m args below meth c D nL Q h0 n cells slots tgt lv st vw) (kf : ¬ (0 < x) → za_W p l e R s m args below meth c D nL Q h0 n cells slots (pc + 3) lv st vw) : za_W p l e R s m args below meth c D nL Q h0 n cells slots pc lv (.inl x :: st) vw := by
  intro H locs ls hR hS hl
  exact lv_if_gt X.1 X.2.1 (za_fe_ok X.2.2.2.2.2.2.1 hf) ht (fun q => kt (by first | exact q | simpa using q) H locs ls hR hS hl) (fun q => kf (by first | exact q | simpa using q) H locs ls hR hS hl)
theorem za_ifle (X : za_X p s m args meth c D own cc cd fl nL ret) {x : Int32} {off : Int} (tgt : Nat) (hf : za_fe cd pc = some (.ifCond .le off, 3)) (ht : (pc : Int) + off = (tgt : Int)) (kt : x ≤ 0 → za_W p l e R s m args below meth c D nL Q h0 n cells slots tgt lv st vw) (kf : ¬ (x ≤ 0) → za_W p l e R s m args below meth c D nL Q h0 n cells slots (pc + 3) lv st vw) : za_W p l e R s m args below meth c D nL Q h0 n cells slots pc lv (.inl x :: st) vw := by
  intro H locs ls hR hS hl
  exact lv_if_le X.1 X.2.1 (za_fe_ok X.2.2.2.2.2.2.1 hf) ht (fun q => kt (by first | exact q | simpa using q) H locs ls hR hS hl) (fun q => kf (by first | exact q | simpa using q) H locs ls hR hS hl)
theorem za_iceq (X : za_X p s m args meth c D own cc cd fl nL ret) {x y : Int32} {off : Int} (tgt : Nat) (hf : za_fe cd pc = some (.if_icmp .eq off, 3)) (ht : (pc : Int) + off = (tgt : Int)) (kt : x = y → za_W p l e R s m args below meth c D nL Q h0 n cells slots tgt lv st vw) (kf : ¬ (x = y) → za_W p l e R s m args below meth c D nL Q h0 n cells slots (pc + 3) lv st vw) : za_W p l e R s m args below meth c D nL Q h0 n cells slots pc lv (.inl y :: .inl x :: st) vw := by
  intro H locs ls hR hS hl
  exact lv_icmp_eq X.1 X.2.1 (za_fe_ok X.2.2.2.2.2.2.1 hf) ht (fun q => kt (by first | exact q | simpa using q) H locs ls hR hS hl) (fun q => kf (by first | exact q | simpa using q) H locs ls hR hS hl)
theorem za_icne (X : za_X p s m args meth c D own cc cd fl nL ret) {x y : Int32} {off : Int} (tgt : Nat) (hf : za_fe cd pc = some (.if_icmp .ne off, 3)) (ht : (pc : Int) + off = (tgt : Int)) (kt : ¬ x = y → za_W p l e R s m args below meth c D nL Q h0 n cells slots tgt lv st vw) (kf : x = y → za_W p l e R s m args below meth c D nL Q h0 n cells slots (pc + 3) lv st vw) : za_W p l e R s m args below meth c D nL Q h0 n cells slots pc lv (.inl y :: .inl x :: st) vw := by
  intro H locs ls hR hS hl
  exact lv_icmp_ne X.1 X.2.1 (za_fe_ok X.2.2.2.2.2.2.1 hf) ht (fun q => kt (by first | exact q | simpa using q) H locs ls hR hS hl) (fun q => kf (by first | exact q | simpa using q) H locs ls hR hS hl)
theorem za_iclt (X : za_X p s m args meth c D own cc cd fl nL ret) {x y : Int32} {off : Int} (tgt : Nat) (hf : za_fe cd pc = some (.if_icmp .lt off, 3)) (ht : (pc : Int) + off = (tgt : Int)) (kt : x < y → za_W p l e R s m args below meth c D nL Q h0 n cells slots tgt lv st vw) (kf : ¬ (x < y) → za_W p l e R s m args below meth c D nL Q h0 n cells slots (pc + 3) lv st vw) : za_W p l e R s m args below meth c D nL Q h0 n cells slots pc lv (.inl y :: .inl x :: st) vw := by
  intro H locs ls hR hS hl
  exact lv_icmp_lt X.1 X.2.1 (za_fe_ok X.2.2.2.2.2.2.1 hf) ht (fun q => kt (by first | exact q | simpa using q) H locs ls hR hS hl) (fun q => kf (by first | exact q | simpa using q) H locs ls hR hS hl)
theorem za_icge (X : za_X p s m args meth c D own cc cd fl nL ret) {x y : Int32} {off : Int} (tgt : Nat) (hf : za_fe cd pc = some (.if_icmp .ge off, 3)) (ht : (pc : Int) + off = (tgt : Int)) (kt : y ≤ x → za_W p l e R s m args below meth c D nL Q h0 n cells slots tgt lv st vw) (kf : ¬ (y ≤ x) → za_W p l e R s m args below meth c D nL Q h0 n cells slots (pc + 3) lv st vw) : za_W p l e R s m args below meth c D nL Q h0 n cells slots pc lv (.inl y :: .inl x :: st) vw := by
  intro H locs ls hR hS hl
  exact lv_icmp_ge X.1 X.2.1 (za_fe_ok X.2.2.2.2.2.2.1 hf) ht (fun q => kt (by first | exact q | simpa using q) H locs ls hR hS hl) (fun q => kf (by first | exact q | simpa using q) H locs ls hR hS hl)
theorem za_icgt (X : za_X p s m args meth c D own cc cd fl nL ret) {x y : Int32} {off : Int} (tgt : Nat) (hf : za_fe cd pc = some (.if_icmp .gt off, 3)) (ht : (pc : Int) + off = (tgt : Int)) (kt : y < x → za_W p l e R s m args below meth c D nL Q h0 n cells slots tgt lv st vw) (kf : ¬ (y < x) → za_W p l e R s m args below meth c D nL Q h0 n cells slots (pc + 3) lv st vw) : za_W p l e R s m args below meth c D nL Q h0 n cells slots pc lv (.inl y :: .inl x :: st) vw := by
  intro H locs ls hR hS hl
  exact lv_icmp_gt X.1 X.2.1 (za_fe_ok X.2.2.2.2.2.2.1 hf) ht (fun q => kt (by first | exact q | simpa using q) H locs ls hR hS hl) (fun q => kf (by first | exact q | simpa using q) H locs ls hR hS hl)
theorem za_icle (X : za_X p s m args meth c D own cc cd fl nL ret) {x y : Int32} {off : Int} (tgt : Nat) (hf : za_fe cd pc = some (.if_icmp .le off, 3)) (ht : (pc : Int) + off = (tgt : Int)) (kt : x ≤ y → za_W p l e R s m args below meth c D nL Q h0 n cells slots tgt lv st vw) (kf : ¬ (x ≤ y) → za_W p l e R s m args below meth c D nL Q h0 n cells slots (pc + 3) lv st vw) : za_W p l e R s m args below meth c D nL Q h0 n cells slots pc lv (.inl y :: .inl x :: st) vw := by
  intro H locs ls hR hS hl
  exact lv_icmp_le X.1 X.2.1 (za_fe_ok X.2.2.2.2.2.2.1 hf) ht (fun q => kt (by first | exact q | simpa using q) H locs ls hR hS hl) (fun q => kf (by first | exact q | simpa using q) H locs ls hR hS hl)
/-- a switch by a table, the number known -/
theorem za_tsw (X : za_X p s m args meth c D own cc cd fl nL ret) {x : Int32} {dflt lo hi : Int} {offs : Array Int} {len : Nat} {off : Int} (v : Int) (tgt : Nat) (hf : za_fe cd pc = some (.tableswitch dflt lo hi offs, len)) (hx : x.toInt = v) (h1 : ¬ v < lo) (h2 : ¬ hi < v) (ho : offs[(v - lo).toNat]? = some off) (ht : (pc : Int) + off = (tgt : Int)) (kk : za_W p l e R s m args below meth c D nL Q h0 n cells slots tgt lv st vw) : za_W p l e R s m args below meth c D nL Q h0 n cells slots pc lv (.inl x :: st) vw := by
  intro H locs ls hR hS hl
  subst hx
  exact lv_tableIn X.1 X.2.1 (za_fe_ok X.2.2.2.2.2.2.1 hf) h1 h2 ho ht (kk H locs ls hR hS hl)
theorem za_tsd (X : za_X p s m args meth c D own cc cd fl nL ret) {x : Int32} {dflt lo hi : Int} {offs : Array Int} {len : Nat} (tgt : Nat) (hf : za_fe cd pc = some (.tableswitch dflt lo hi offs, len)) (h : x.toInt < lo ∨ hi < x.toInt) (ht : (pc : Int) + dflt = (tgt : Int)) (kk : za_W p l e R s m args below meth c D nL Q h0 n cells slots tgt lv st vw) : za_W p l e R s m args below meth c D nL Q h0 n cells slots pc lv (.inl x :: st) vw := by
  intro H locs ls hR hS hl
  exact lv_tableOut X.1 X.2.1 (za_fe_ok X.2.2.2.2.2.2.1 hf) h ht (kk H locs ls hR hS hl)
theorem za_idiv (X : za_X p s m args meth c D own cc cd fl nL ret) {x y : Int32} (hf : za_fe cd pc = some (.idiv, 1)) (hne : ¬ y = 0) (kk : za_W p l e R s m args below meth c D nL Q h0 n cells slots (pc + 1) lv (vI (x / y) :: st) vw) : za_W p l e R s m args below meth c D nL Q h0 n cells slots pc lv (.inl y :: .inl x :: st) vw := by
  intro H locs ls hR hS hl
  exact lv_idiv X.1 X.2.1 (za_fe_ok X.2.2.2.2.2.2.1 hf) hne (kk H locs ls hR hS hl)
/-- the same heap seen through another list -/
theorem za_look {h1 : za_H} {v1 : List (Nat × za_C)} (he : za_ov h1 v1 = za_ov h0 vw) (kk : za_W p l e R s m args below meth c D nL Q h1 n cells slots pc lv st v1) : za_W p l e R s m args below meth c D nL Q h0 n cells slots pc lv st vw := by
  intro H locs ls hR hS hl
  exact kk H locs ls (by rw [he]; exact hR) hS hl
/-- take a list to look through -/
theorem za_view (v1 : List (Nat × za_C)) (he : ∀ q ∈ v1, h0 q.1 = some q.2) (kk : za_W p l e R s m args below meth c D nL Q h0 n cells slots pc lv st v1) : za_W p l e R s m args below meth c D nL Q h0 n cells slots pc lv st [] := za_look (by rw [za_ov_same he]; rfl) kk
/-- put the list away -/
theorem za_away (kk : za_W p l e R s m args below meth c D nL Q (za_ov h0 vw) n cells slots pc lv st []) : za_W p l e R s m args below meth c D nL Q h0 n cells slots pc lv st vw := za_look rfl kk
/-- fewer locals, in another order -/
theorem za_loc (lv1 : List (Nat × za_V)) (he : lv1.map (fun q => za_lg lv q.1) = lv1.map (fun q => some q.2)) (kk : za_W p l e R s m args below meth c D nL Q h0 n cells slots pc lv1 st vw) : za_W p l e R s m args below meth c D nL Q h0 n cells slots pc lv st vw := by
  intro H locs ls hR hS hl
  refine kk H locs ls hR hS (za_lh_sub hl fun q hq => ?_)
  rcases List.mem_append.mp hq with hq | hq
  · exact List.mem_append_left _ hq
  obtain ⟨r, hr, rfl⟩ := List.mem_map.mp hq
  have h2 : ∀ q ∈ lv1, za_lg lv q.1 = some q.2 := List.map_inj_left.mp he
  exact List.mem_append_right _ (List.mem_map.mpr ⟨r, za_lg_mem (h2 r hr), rfl⟩)
theorem za_wid {k1 k2 : Nat} (h1 : cells ≤ k1) (h2 : slots ≤ k2) (kk : za_W p l e R s m args below meth c D nL Q h0 n k1 k2 pc lv st vw) : za_W p l e R s m args below meth c D nL Q h0 n cells slots pc lv st vw := by
  intro H locs ls hR hS hl
  exact W.widen h1 h2 (kk H locs ls hR hS hl)
end ZABR
