/-- a private method of a class that the tables say can be made, by its rows of tables_1 -/
def lw_okq (q : MethodName × Nat) : Prop := (q.1.cls ≠ "java/lang/invoke/MethodHandle" ∧ q.1.cls ≠ "java/lang/invoke/VarHandle") ∧ Cond.instantiable q.1.cls q.2 ∈ tables_1 ∧ Cond.privateMethod q.1 ∈ tables_1 ∧ Cond.instanceMethod q.1 ∈ tables_1
theorem lw_p0 : lw_okq (⟨"java/lang/Throwable", "fillInStackTrace", "(I)Ljava/lang/Throwable;"⟩, 6) := ⟨⟨by decide +kernel, by decide +kernel⟩, List.mem_of_getElem? (i := 235) (by decide +kernel), List.mem_of_getElem? (i := 233) (by decide +kernel), List.mem_of_getElem? (i := 234) (by decide +kernel)⟩
theorem lw_p1 : lw_okq (⟨"WayFinder", "areInputs", "(II)Z"⟩, 7) := ⟨⟨by decide +kernel, by decide +kernel⟩, List.mem_of_getElem? (i := 15) (by decide +kernel), List.mem_of_getElem? (i := 316) (by decide +kernel), List.mem_of_getElem? (i := 317) (by decide +kernel)⟩
theorem lw_p2 : lw_okq (⟨"WayFinder$Trace", "begin", "(II)V"⟩, 10) := ⟨⟨by decide +kernel, by decide +kernel⟩, List.mem_of_getElem? (i := 51) (by decide +kernel), List.mem_of_getElem? (i := 325) (by decide +kernel), List.mem_of_getElem? (i := 326) (by decide +kernel)⟩
theorem lw_p3 : lw_okq (⟨"WayFinder$Trace", "step", "(LWayFinder$Program;)V"⟩, 10) := ⟨⟨by decide +kernel, by decide +kernel⟩, List.mem_of_getElem? (i := 51) (by decide +kernel), List.mem_of_getElem? (i := 333) (by decide +kernel), List.mem_of_getElem? (i := 334) (by decide +kernel)⟩
theorem lw_p4 : lw_okq (⟨"WayFinder$Trace", "goIf", "(ZI)V"⟩, 10) := ⟨⟨by decide +kernel, by decide +kernel⟩, List.mem_of_getElem? (i := 51) (by decide +kernel), List.mem_of_getElem? (i := 337) (by decide +kernel), List.mem_of_getElem? (i := 338) (by decide +kernel)⟩
theorem lw_p5 : lw_okq (⟨"WayFinder$Trace", "decide", "(Z)V"⟩, 10) := ⟨⟨by decide +kernel, by decide +kernel⟩, List.mem_of_getElem? (i := 51) (by decide +kernel), List.mem_of_getElem? (i := 341) (by decide +kernel), List.mem_of_getElem? (i := 342) (by decide +kernel)⟩
theorem lw_p6 : lw_okq (⟨"WayFinder$Trace", "divide", "(III)V"⟩, 10) := ⟨⟨by decide +kernel, by decide +kernel⟩, List.mem_of_getElem? (i := 51) (by decide +kernel), List.mem_of_getElem? (i := 348) (by decide +kernel), List.mem_of_getElem? (i := 349) (by decide +kernel)⟩
theorem lw_p7 : lw_okq (⟨"WayFinder$Trace", "finish", "(II)V"⟩, 10) := ⟨⟨by decide +kernel, by decide +kernel⟩, List.mem_of_getElem? (i := 51) (by decide +kernel), List.mem_of_getElem? (i := 352) (by decide +kernel), List.mem_of_getElem? (i := 353) (by decide +kernel)⟩
theorem lw_p8 : lw_okq (⟨"WayFinder$Trace", "claim", "(I)V"⟩, 10) := ⟨⟨by decide +kernel, by decide +kernel⟩, List.mem_of_getElem? (i := 51) (by decide +kernel), List.mem_of_getElem? (i := 356) (by decide +kernel), List.mem_of_getElem? (i := 357) (by decide +kernel)⟩
theorem lw_p9 : lw_okq (⟨"WayFinder$Trace", "finishUnasked", "(LWayFinder$Program;)V"⟩, 10) := ⟨⟨by decide +kernel, by decide +kernel⟩, List.mem_of_getElem? (i := 51) (by decide +kernel), List.mem_of_getElem? (i := 363) (by decide +kernel), List.mem_of_getElem? (i := 364) (by decide +kernel)⟩
theorem lw_p10 : lw_okq (⟨"WayFinder", "fillDraft", "()Z"⟩, 7) := ⟨⟨by decide +kernel, by decide +kernel⟩, List.mem_of_getElem? (i := 15) (by decide +kernel), List.mem_of_getElem? (i := 381) (by decide +kernel), List.mem_of_getElem? (i := 382) (by decide +kernel)⟩
theorem lw_p11 : lw_okq (⟨"WayFinder$Results", "firstNotBefore", "(J)I"⟩, 3) := ⟨⟨by decide +kernel, by decide +kernel⟩, List.mem_of_getElem? (i := 98) (by decide +kernel), List.mem_of_getElem? (i := 393) (by decide +kernel), List.mem_of_getElem? (i := 394) (by decide +kernel)⟩
theorem lw_p12 : lw_okq (⟨"WayFinder$Results", "makeRoom", "(I)V"⟩, 3) := ⟨⟨by decide +kernel, by decide +kernel⟩, List.mem_of_getElem? (i := 98) (by decide +kernel), List.mem_of_getElem? (i := 401) (by decide +kernel), List.mem_of_getElem? (i := 402) (by decide +kernel)⟩
theorem lw_p13 : lw_okq (⟨"WayFinderModel", "raise", "(I)I"⟩, 32) := ⟨⟨by decide +kernel, by decide +kernel⟩, List.mem_of_getElem? (i := 461) (by decide +kernel), List.mem_of_getElem? (i := 579) (by decide +kernel), List.mem_of_getElem? (i := 580) (by decide +kernel)⟩
theorem lw_p14 : lw_okq (⟨"WayFinderModel", "isInput", "(I)Z"⟩, 32) := ⟨⟨by decide +kernel, by decide +kernel⟩, List.mem_of_getElem? (i := 461) (by decide +kernel), List.mem_of_getElem? (i := 595) (by decide +kernel), List.mem_of_getElem? (i := 596) (by decide +kernel)⟩
theorem lw_p15 : lw_okq (⟨"WayFinderModel", "go", "(II)V"⟩, 32) := ⟨⟨by decide +kernel, by decide +kernel⟩, List.mem_of_getElem? (i := 461) (by decide +kernel), List.mem_of_getElem? (i := 599) (by decide +kernel), List.mem_of_getElem? (i := 600) (by decide +kernel)⟩
def lw_privs_1 : List (MethodName × Nat) := [(⟨"java/lang/Throwable", "fillInStackTrace", "(I)Ljava/lang/Throwable;"⟩, 6), (⟨"WayFinder", "areInputs", "(II)Z"⟩, 7), (⟨"WayFinder$Trace", "begin", "(II)V"⟩, 10), (⟨"WayFinder$Trace", "step", "(LWayFinder$Program;)V"⟩, 10), (⟨"WayFinder$Trace", "goIf", "(ZI)V"⟩, 10), (⟨"WayFinder$Trace", "decide", "(Z)V"⟩, 10), (⟨"WayFinder$Trace", "divide", "(III)V"⟩, 10), (⟨"WayFinder$Trace", "finish", "(II)V"⟩, 10), (⟨"WayFinder$Trace", "claim", "(I)V"⟩, 10), (⟨"WayFinder$Trace", "finishUnasked", "(LWayFinder$Program;)V"⟩, 10), (⟨"WayFinder", "fillDraft", "()Z"⟩, 7), (⟨"WayFinder$Results", "firstNotBefore", "(J)I"⟩, 3), (⟨"WayFinder$Results", "makeRoom", "(I)V"⟩, 3), (⟨"WayFinderModel", "raise", "(I)I"⟩, 32), (⟨"WayFinderModel", "isInput", "(I)Z"⟩, 32), (⟨"WayFinderModel", "go", "(II)V"⟩, 32)]
theorem lw_r1 : ∀ q ∈ lw_privs_1, lw_okq q := List.forall_mem_cons.mpr ⟨lw_p0, List.forall_mem_cons.mpr ⟨lw_p1, List.forall_mem_cons.mpr ⟨lw_p2, List.forall_mem_cons.mpr ⟨lw_p3, List.forall_mem_cons.mpr ⟨lw_p4, List.forall_mem_cons.mpr ⟨lw_p5, List.forall_mem_cons.mpr ⟨lw_p6, List.forall_mem_cons.mpr ⟨lw_p7, List.forall_mem_cons.mpr ⟨lw_p8, List.forall_mem_cons.mpr ⟨lw_p9, List.forall_mem_cons.mpr ⟨lw_p10, List.forall_mem_cons.mpr ⟨lw_p11, List.forall_mem_cons.mpr ⟨lw_p12, List.forall_mem_cons.mpr ⟨lw_p13, List.forall_mem_cons.mpr ⟨lw_p14, List.forall_mem_cons.mpr ⟨lw_p15, fun _ h => absurd h List.not_mem_nil⟩⟩⟩⟩⟩⟩⟩⟩⟩⟩⟩⟩⟩⟩⟩⟩
theorem lw_p16 : lw_okq (⟨"WayFinderModel", "perform", "(I)I"⟩, 32) := ⟨⟨by decide +kernel, by decide +kernel⟩, List.mem_of_getElem? (i := 461) (by decide +kernel), List.mem_of_getElem? (i := 603) (by decide +kernel), List.mem_of_getElem? (i := 604) (by decide +kernel)⟩
theorem lw_p17 : lw_okq (⟨"WayFinderModel", "decide", "(Z)Z"⟩, 32) := ⟨⟨by decide +kernel, by decide +kernel⟩, List.mem_of_getElem? (i := 461) (by decide +kernel), List.mem_of_getElem? (i := 607) (by decide +kernel), List.mem_of_getElem? (i := 608) (by decide +kernel)⟩
theorem lw_p18 : lw_okq (⟨"WayFinderModel", "finish", "(II)V"⟩, 32) := ⟨⟨by decide +kernel, by decide +kernel⟩, List.mem_of_getElem? (i := 461) (by decide +kernel), List.mem_of_getElem? (i := 611) (by decide +kernel), List.mem_of_getElem? (i := 612) (by decide +kernel)⟩
theorem lw_p19 : lw_okq (⟨"WayFinderModel", "worked", "(IIII)I"⟩, 32) := ⟨⟨by decide +kernel, by decide +kernel⟩, List.mem_of_getElem? (i := 461) (by decide +kernel), List.mem_of_getElem? (i := 615) (by decide +kernel), List.mem_of_getElem? (i := 616) (by decide +kernel)⟩
theorem lw_p20 : lw_okq (⟨"WayFinderModel", "enter", "(I)V"⟩, 32) := ⟨⟨by decide +kernel, by decide +kernel⟩, List.mem_of_getElem? (i := 461) (by decide +kernel), List.mem_of_getElem? (i := 627) (by decide +kernel), List.mem_of_getElem? (i := 628) (by decide +kernel)⟩
def lw_privs_2 : List (MethodName × Nat) := [(⟨"WayFinderModel", "perform", "(I)I"⟩, 32), (⟨"WayFinderModel", "decide", "(Z)Z"⟩, 32), (⟨"WayFinderModel", "finish", "(II)V"⟩, 32), (⟨"WayFinderModel", "worked", "(IIII)I"⟩, 32), (⟨"WayFinderModel", "enter", "(I)V"⟩, 32)]
theorem lw_r2 : ∀ q ∈ lw_privs_2, lw_okq q := List.forall_mem_cons.mpr ⟨lw_p16, List.forall_mem_cons.mpr ⟨lw_p17, List.forall_mem_cons.mpr ⟨lw_p18, List.forall_mem_cons.mpr ⟨lw_p19, List.forall_mem_cons.mpr ⟨lw_p20, fun _ h => absurd h List.not_mem_nil⟩⟩⟩⟩⟩
def lw_privs : List (MethodName × Nat) := lw_privs_1 ++ (lw_privs_2)
def lw_tbl : List Cond := k2_sels lw_privs ++ tables_1
theorem lw_privs_ok : ∀ q ∈ lw_privs, lw_okq q := by
  show ∀ q ∈ lw_privs_1 ++ (lw_privs_2), lw_okq q
  exact List.forall_mem_append.mpr ⟨lw_r1, lw_r2⟩
/-! the words that stay true as the tables warm -/
def za_okw (w : Cond) : Bool := match w with
  | .fieldLinkNest .. => true
  | .methodLinkNest .. => true
  | .arrayOver (.object _) => true
  | .arrayClass _ => true
  | w => w.onTables && w.keepsFace
def za_tt : List Cond := lw_tbl.filter za_okw
theorem za_in {w : Cond} (i : Nat) (h : lw_tbl[i]? = some w) (ok : za_okw w = true) : w ∈ za_tt := List.mem_filter.mpr ⟨List.mem_of_getElem? h, ok⟩
theorem za_pay (w : Cond) (hw : w ∈ za_tt) {args a' : Array Value} {s U : State} (h : w.before args s = true) (hW : s.WarmedH U.vm) : w.before a' U = true := by
  have ok := (List.mem_filter.mp hw).2
  unfold za_okw at ok
  split at ok
  · exact va_tabs rfl (rfl : (s.setVm U.vm).vm = U.vm) (Cond.fieldLinkNest_warmed (args := args) hW h)
  · exact va_tabs rfl (rfl : (s.setVm U.vm).vm = U.vm) (Cond.methodLinkNest_warmed (args := args) hW h)
  · exact va_AO.use (va_AO.moved hW.alike (va_AO.of h))
  · exact word_at hW (Or.inr ⟨_, rfl⟩) h
  · rw [Bool.and_eq_true] at ok
    exact va_tabs ok.1 (rfl : (s.setVm U.vm).vm = U.vm) (Cond.before_shiftedFace (args := args) (State.Shifted.of_warmed hW) _ ok.2 h)
/-! classes: their names, fields in the order of the slots (declarer, name, descriptor, final) -/
def zf_P : u_T := fun k => match k with
  | 0 => ("WayFinder$Program", "ops", "[I", true)
  | 1 => ("WayFinder$Program", "as", "[I", true)
  | 2 => ("WayFinder$Program", "bs", "[I", true)
  | 3 => ("WayFinder$Program", "cs", "[I", true)
  | _ => ("WayFinder$Program", "size", "I", false)
def zf_T : u_T := fun k => match k with
  | 0 => ("WayFinder$Trace", "registers", "[I", true)
  | 1 => ("WayFinder$Trace", "place", "I", false)
  | 2 => ("WayFinder$Trace", "latest", "I", false)
  | 3 => ("WayFinder$Trace", "done", "I", false)
  | 4 => ("WayFinder$Trace", "visited", "I", false)
  | 5 => ("WayFinder$Trace", "decisions", "J", false)
  | 6 => ("WayFinder$Trace", "decisionCount", "I", false)
  | 7 => ("WayFinder$Trace", "ended", "Z", false)
  | 8 => ("WayFinder$Trace", "outcome", "I", false)
  | _ => ("WayFinder$Trace", "end", "I", false)
def zf_W : u_T := fun k => match k with
  | 0 => ("WayFinder$Way", "x", "I", false)
  | 1 => ("WayFinder$Way", "y", "I", false)
  | 2 => ("WayFinder$Way", "outcome", "I", false)
  | 3 => ("WayFinder$Way", "end", "I", false)
  | 4 => ("WayFinder$Way", "decisions", "J", false)
  | _ => ("WayFinder$Way", "decisionCount", "I", false)
def zf_R : u_T := fun k => match k with
  | 0 => ("WayFinder$Results", "ways", "[LWayFinder$Way;", true)
  | 1 => ("WayFinder$Results", "size", "I", false)
  | _ => ("WayFinder$Results", "visited", "I", false)
def zf_F : u_T := fun k => match k with
  | 0 => ("WayFinder", "program", "LWayFinder$Program;", true)
  | 1 => ("WayFinder", "lastTrace", "LWayFinder$Trace;", true)
  | 2 => ("WayFinder", "probe", "LWayFinder$Trace;", true)
  | 3 => ("WayFinder", "results", "LWayFinder$Results;", false)
  | 4 => ("WayFinder", "draft", "LWayFinder$Results;", false)
  | 5 => ("WayFinder", "bits", "I", false)
  | _ => ("WayFinder", "runs", "I", false)
def zf_M : u_T := fun k => match k with
  | 0 => ("WayFinderModel", "thrown", "I", false)
  | 1 => ("WayFinderModel", "op", "[I", true)
  | 2 => ("WayFinderModel", "ia", "[I", true)
  | 3 => ("WayFinderModel", "ib", "[I", true)
  | 4 => ("WayFinderModel", "ic", "[I", true)
  | 5 => ("WayFinderModel", "size", "I", false)
  | 6 => ("WayFinderModel", "width", "I", false)
  | 7 => ("WayFinderModel", "reg", "[I", true)
  | 8 => ("WayFinderModel", "outcome", "I", false)
  | 9 => ("WayFinderModel", "number", "I", false)
  | 10 => ("WayFinderModel", "done", "I", false)
  | 11 => ("WayFinderModel", "which", "I", false)
  | 12 => ("WayFinderModel", "decisions", "J", false)
  | 13 => ("WayFinderModel", "decided", "I", false)
  | 14 => ("WayFinderModel", "runs", "I", false)
  | 15 => ("WayFinderModel", "lastNumber", "I", false)
  | 16 => ("WayFinderModel", "lastDone", "I", false)
  | 17 => ("WayFinderModel", "lastDecided", "I", false)
  | 18 => ("WayFinderModel", "way", "[J", true)
  | 19 => ("WayFinderModel", "wayLength", "[I", true)
  | 20 => ("WayFinderModel", "least", "[I", true)
  | 21 => ("WayFinderModel", "wayOutcome", "[I", true)
  | 22 => ("WayFinderModel", "wayNumber", "[I", true)
  | 23 => ("WayFinderModel", "wayWhich", "[I", true)
  | 24 => ("WayFinderModel", "found", "I", false)
  | 25 => ("WayFinderModel", "rWay", "[J", true)
  | 26 => ("WayFinderModel", "rLength", "[I", true)
  | 27 => ("WayFinderModel", "rLeast", "[I", true)
  | 28 => ("WayFinderModel", "rOutcome", "[I", true)
  | 29 => ("WayFinderModel", "rNumber", "[I", true)
  | 30 => ("WayFinderModel", "results", "I", false)
  | _ => ("WayFinderModel", "covered", "I", false)
abbrev za_cl : List vw_C := [("WayFinder$Program", zf_P, 5), ("WayFinder$Trace", zf_T, 10), ("WayFinder$Way", zf_W, 6), ("WayFinder$Results", zf_R, 3), ("WayFinder", zf_F, 7), ("WayFinderModel", zf_M, 32)]
abbrev zn_P : Nat := 0
abbrev zn_T : Nat := 1
abbrev zn_W : Nat := 2
abbrev zn_R : Nat := 3
abbrev zn_F : Nat := 4
abbrev zn_M : Nat := 5
def za_fts : List (List FieldType) := [[.array (.int), .array (.int), .array (.int), .array (.int), .int], [.array (.int), .int, .int, .int, .int, .long, .int, .boolean, .int, .int], [.int, .int, .int, .int, .long, .int], [.array (.object "WayFinder$Way"), .int, .int], [.object "WayFinder$Program", .object "WayFinder$Trace", .object "WayFinder$Trace", .object "WayFinder$Results", .object "WayFinder$Results", .int, .int], [.int, .array (.int), .array (.int), .array (.int), .array (.int), .int, .int, .array (.int), .int, .int, .int, .int, .long, .int, .int, .int, .int, .int, .array (.long), .array (.int), .array (.int), .array (.int), .array (.int), .array (.int), .int, .array (.long), .array (.int), .array (.int), .array (.int), .array (.int), .int, .int]]
def za_fns : List (List Bool) := [[true, true, true, true, false], [true, false, false, false, false, false, false, false, false, false], [false, false, false, false, false, false], [true, false, false], [true, true, true, false, false, false, false], [false, true, true, true, true, false, false, true, false, false, false, false, false, false, false, false, false, false, true, true, true, true, true, true, false, true, true, true, true, true, false, false]]
def za_fty (c k : Nat) : FieldType := (za_fts.getD c []).getD k .int
def za_fin (c k : Nat) : Bool := (za_fns.getD c []).getD k false
def za_ty : List FieldType := [.int, .long, .object "WayFinder$Way"]
/-! what the tables say of the classes -/
theorem zl_P : ∀ w ∈ u_ws "WayFinder$Program" zf_P 5, w ∈ za_tt := by
  intro w hw
  obtain ⟨k, hk, rfl⟩ := List.mem_map.mp hw
  have hk2 := List.mem_range.mp hk
  match k, hk2 with
  | 0, _ => exact za_in 59 (by decide +kernel) rfl
  | 1, _ => exact za_in 61 (by decide +kernel) rfl
  | 2, _ => exact za_in 63 (by decide +kernel) rfl
  | 3, _ => exact za_in 65 (by decide +kernel) rfl
  | 4, _ => exact za_in 67 (by decide +kernel) rfl
  | k + 5, h => exact absurd h (by omega)
theorem zl_T : ∀ w ∈ u_ws "WayFinder$Trace" zf_T 10, w ∈ za_tt := by
  intro w hw
  obtain ⟨k, hk, rfl⟩ := List.mem_map.mp hw
  have hk2 := List.mem_range.mp hk
  match k, hk2 with
  | 0, _ => exact za_in 97 (by decide +kernel) rfl
  | 1, _ => exact za_in 99 (by decide +kernel) rfl
  | 2, _ => exact za_in 101 (by decide +kernel) rfl
  | 3, _ => exact za_in 103 (by decide +kernel) rfl
  | 4, _ => exact za_in 105 (by decide +kernel) rfl
  | 5, _ => exact za_in 107 (by decide +kernel) rfl
  | 6, _ => exact za_in 109 (by decide +kernel) rfl
  | 7, _ => exact za_in 111 (by decide +kernel) rfl
  | 8, _ => exact za_in 113 (by decide +kernel) rfl
  | 9, _ => exact za_in 115 (by decide +kernel) rfl
  | k + 10, h => exact absurd h (by omega)
theorem zl_W : ∀ w ∈ u_ws "WayFinder$Way" zf_W 6, w ∈ za_tt := by
  intro w hw
  obtain ⟨k, hk, rfl⟩ := List.mem_map.mp hw
  have hk2 := List.mem_range.mp hk
  match k, hk2 with
  | 0, _ => exact za_in 147 (by decide +kernel) rfl
  | 1, _ => exact za_in 149 (by decide +kernel) rfl
  | 2, _ => exact za_in 151 (by decide +kernel) rfl
  | 3, _ => exact za_in 153 (by decide +kernel) rfl
  | 4, _ => exact za_in 155 (by decide +kernel) rfl
  | 5, _ => exact za_in 157 (by decide +kernel) rfl
  | k + 6, h => exact absurd h (by omega)
theorem zl_R : ∀ w ∈ u_ws "WayFinder$Results" zf_R 3, w ∈ za_tt := by
  intro w hw
  obtain ⟨k, hk, rfl⟩ := List.mem_map.mp hw
  have hk2 := List.mem_range.mp hk
  match k, hk2 with
  | 0, _ => exact za_in 166 (by decide +kernel) rfl
  | 1, _ => exact za_in 168 (by decide +kernel) rfl
  | 2, _ => exact za_in 170 (by decide +kernel) rfl
  | k + 3, h => exact absurd h (by omega)
theorem zl_F : ∀ w ∈ u_ws "WayFinder" zf_F 7, w ∈ za_tt := by
  intro w hw
  obtain ⟨k, hk, rfl⟩ := List.mem_map.mp hw
  have hk2 := List.mem_range.mp hk
  match k, hk2 with
  | 0, _ => exact za_in 180 (by decide +kernel) rfl
  | 1, _ => exact za_in 182 (by decide +kernel) rfl
  | 2, _ => exact za_in 184 (by decide +kernel) rfl
  | 3, _ => exact za_in 186 (by decide +kernel) rfl
  | 4, _ => exact za_in 188 (by decide +kernel) rfl
  | 5, _ => exact za_in 190 (by decide +kernel) rfl
  | 6, _ => exact za_in 192 (by decide +kernel) rfl
  | k + 7, h => exact absurd h (by omega)
theorem zl_M : ∀ w ∈ u_ws "WayFinderModel" zf_M 32, w ∈ za_tt := by
  intro w hw
  obtain ⟨k, hk, rfl⟩ := List.mem_map.mp hw
  have hk2 := List.mem_range.mp hk
  match k, hk2 with
  | 0, _ => exact za_in 519 (by decide +kernel) rfl
  | 1, _ => exact za_in 521 (by decide +kernel) rfl
  | 2, _ => exact za_in 523 (by decide +kernel) rfl
  | 3, _ => exact za_in 525 (by decide +kernel) rfl
  | 4, _ => exact za_in 527 (by decide +kernel) rfl
  | 5, _ => exact za_in 529 (by decide +kernel) rfl
  | 6, _ => exact za_in 531 (by decide +kernel) rfl
  | 7, _ => exact za_in 533 (by decide +kernel) rfl
  | 8, _ => exact za_in 535 (by decide +kernel) rfl
  | 9, _ => exact za_in 537 (by decide +kernel) rfl
  | 10, _ => exact za_in 539 (by decide +kernel) rfl
  | 11, _ => exact za_in 541 (by decide +kernel) rfl
  | 12, _ => exact za_in 543 (by decide +kernel) rfl
  | 13, _ => exact za_in 545 (by decide +kernel) rfl
  | 14, _ => exact za_in 547 (by decide +kernel) rfl
  | 15, _ => exact za_in 549 (by decide +kernel) rfl
  | 16, _ => exact za_in 551 (by decide +kernel) rfl
  | 17, _ => exact za_in 553 (by decide +kernel) rfl
  | 18, _ => exact za_in 555 (by decide +kernel) rfl
  | 19, _ => exact za_in 557 (by decide +kernel) rfl
  | 20, _ => exact za_in 559 (by decide +kernel) rfl
  | 21, _ => exact za_in 561 (by decide +kernel) rfl
  | 22, _ => exact za_in 563 (by decide +kernel) rfl
  | 23, _ => exact za_in 565 (by decide +kernel) rfl
  | 24, _ => exact za_in 567 (by decide +kernel) rfl
  | 25, _ => exact za_in 569 (by decide +kernel) rfl
  | 26, _ => exact za_in 571 (by decide +kernel) rfl
  | 27, _ => exact za_in 573 (by decide +kernel) rfl
  | 28, _ => exact za_in 575 (by decide +kernel) rfl
  | 29, _ => exact za_in 577 (by decide +kernel) rfl
  | 30, _ => exact za_in 579 (by decide +kernel) rfl
  | 31, _ => exact za_in 581 (by decide +kernel) rfl
  | k + 32, h => exact absurd h (by omega)
theorem za_cok : ∀ (ci : Nat) (C : String) (T : u_T) (N : Nat), za_cl[ci]? = some (C, T, N) → (∀ w ∈ u_ws C T N, w ∈ za_tt) ∧ (∀ k, k < N → parseFieldDescriptor (T k).2.2.1 = some (za_fty ci k)) ∧ (∀ a, a < N → ∀ b, b < N → a ≠ b → (T a).2.1 ≠ (T b).2.1) ∧ ∀ k, k < N → (T k).2.2.2 = za_fin ci k := by
  intro ci C T N h
  match ci, h with
  | 0, h => cases h; exact ⟨zl_P, by decide +kernel, by decide +kernel, by decide +kernel⟩
  | 1, h => cases h; exact ⟨zl_T, by decide +kernel, by decide +kernel, by decide +kernel⟩
  | 2, h => cases h; exact ⟨zl_W, by decide +kernel, by decide +kernel, by decide +kernel⟩
  | 3, h => cases h; exact ⟨zl_R, by decide +kernel, by decide +kernel, by decide +kernel⟩
  | 4, h => cases h; exact ⟨zl_F, by decide +kernel, by decide +kernel, by decide +kernel⟩
  | 5, h => cases h; exact ⟨zl_M, by decide +kernel, by decide +kernel, by decide +kernel⟩
  | k + 6, h => simp [za_cl] at h
